theorem SHp_off {F F2 : Nat → Nat → Int32} {f W bn k : Nat} (h7 : F2 7 = F 7) (h9 : F2 9 = F 9) (h13 : F2 13 = F 13) (h15 : F2 15 = F 15) (ho : ∀ r, r ∈ [76, 78, 79, 80, 82] → ∀ i, i ≠ bn + k → F2 r i = F r i) (hk : k < 40) (q : SHp F f W bn k) : SHp F2 f W bn k := by
  refine ⟨by rw [ho 76 (by decide) _ (by omega)]; exact q.1, fun j h1 h2 => ?_⟩
  obtain ⟨a, b⟩ := q.2 j (by omega) h2
  refine ⟨nOK_cg h7 h9 h13 h15 (ho 76 (by decide) _ (by omega)) (ho 78 (by decide) _ (by omega)) (ho 79 (by decide) _ (by omega)) (ho 80 (by decide) _ (by omega)) a, ?_⟩
  rw [ho 82 (by decide) _ (by omega)]; exact rN_cg h9 b
theorem nOK_set {F F2 : Nat → Nat → Int32} {f W bn k : Nat} {v y : Int32} (h7 : F2 7 = F 7) (h9 : F2 9 = F 9) (h13 : F2 13 = F 13) (h15 : F2 15 = F 15)
    (e80 : (F2 80 (bn + k)).toInt = 40 * f + k) (e76 : F2 76 (bn + k) = F 7 (40 * f + k)) (e78 : F2 78 (bn + k) = v) (e79 : F2 79 (bn + k) = y)
    (hv : uN F f W bn k v.toInt) (h2 : 2 ≤ (F 7 (40 * f + k)).toInt → szN F f W bn v.toInt + 1 ≤ eN F f W k - k ∧ vsN F f W bn v.toInt + owK F f k ≤ vsF F f k (eN F f W k - k))
    (h3 : 3 ≤ (F 7 (40 * f + k)).toInt ∧ (F 7 (40 * f + k)).toInt ≤ 5 → uN F f W bn k y.toInt ∧ szN F f W bn v.toInt + szN F f W bn y.toInt + 1 ≤ eN F f W k - k ∧ vsN F f W bn v.toInt + vsN F f W bn y.toInt + owK F f k ≤ vsF F f k (eN F f W k - k)) : nOK F2 f W bn k := by
  unfold nOK owK at *
  rw [e76, e78, e79, h7, h13, h15, eN_cg h9, vsF_cg h13 h15, szN_cg h9, szN_cg h9, vsN_cg h9 h13 h15, vsN_cg h9 h13 h15]
  exact ⟨e80, rfl, uN_cg h9 hv, h2, fun z => ⟨uN_cg h9 (h3 z).1, (h3 z).2⟩⟩
set_option maxHeartbeats 4000000 in
set_option maxRecDepth 100000 in
theorem l_X12_shortens2 {l : Launch} {D : va_G} {cy : Nat → ClassId} {b : Nat} {m : Nat} {a : Nat → Nat} {f0 : gMem} {n0 : Nat → Int32} {z0 : Nat → Int64} {F0 : Nat → Nat → Int32} {G0 : Nat → Nat → Int64}  {x1 x2 bs nb : Int32} {fo Wn bn : Nat} {kk xq : Int32} (hb : bs.toInt = (bn : Int) ∧ (bn = 0 ∨ bn = 41) ∧ nb.toInt = (bn : Int) + 40) (hf : x1.toInt = (fo : Int) ∧ fo < 20) (hq : ∀  (n : Nat → Int32) (z : Nat → Int64) (F : Nat → Nat → Int32) (G : Nat → Nat → Int64) (fm : gMem), mS cy m a f0 n z F G fm → fx [] [] [76, 77, 78, 79, 80, 81, 82] [] n0 z0 F0 G0 n z F G → (RI n F) → ((fo : Int) < (n 5).toInt) → (NR F) → ((F 6 fo).toInt = (Wn : Int)) → (SHp F fo Wn bn (kk.toInt - 1)) → gG l (gRm 3 0 0) (gQf D b (pV fun f2 => ∃ (n2 : Nat → Int32) (z2 : Nat → Int64) (F2 : Nat → Nat → Int32) (G2 : Nat → Nat → Int64), mS cy m a f0 n2 z2 F2 G2 f2 ∧ fx [] [] [76, 77, 78, 79, 80, 81, 82] [] n0 z0 F0 G0 n2 z2 F2 G2 ∧ NR F2 ∧ SHp F2 fo Wn bn (-1)) 0 0) gTt D cy b cX12_shortens 11 none RX12 "shortens" 0 0 fm 452 [(5, .int kk), (0, .ref m), (1, .int x1), (2, .int x2), (3, .int bs), (4, .int nb)] []) : ∀ (k : Nat) (y : Int32) (n : Nat → Int32) (z : Nat → Int64) (F : Nat → Nat → Int32) (G : Nat → Nat → Int64) (fm : gMem), mS cy m a f0 n z F G fm → fx [] [] [76, 77, 78, 79, 80, 81, 82] [] n0 z0 F0 G0 n z F G → (RI n F) → ((fo : Int) < (n 5).toInt) → (NR F) → ((F 6 fo).toInt = (Wn : Int)) → (SHp F fo Wn bn (kk.toInt - 1)) → (y.toInt + 2 ≤ (k : Int) ∧ y.toInt ≤ 81 ∧ (xq.toInt - 1 ≤ y.toInt) ∧ 0 ≤ xq.toInt ∧ xq.toInt ≤ 81) → gG l (gRm 3 0 0) (gQf D b (pV fun f2 => ∃ (n2 : Nat → Int32) (z2 : Nat → Int64) (F2 : Nat → Nat → Int32) (G2 : Nat → Nat → Int64), mS cy m a f0 n2 z2 F2 G2 f2 ∧ fx [] [] [76, 77, 78, 79, 80, 81, 82] [] n0 z0 F0 G0 n2 z2 F2 G2 ∧ NR F2 ∧ SHp F2 fo Wn bn (-1)) 0 0) gTt D cy b cX12_shortens 11 none RX12 "shortens" 0 0 fm 377 [(10, .int y), (7, .int xq), (5, .int kk), (0, .ref m), (1, .int x1), (2, .int x2), (3, .int bs), (4, .int nb)] [] := by
  intro k
  induction k with
  | zero =>
    intro y n z F G fm hS hx hR hfo hN hW6 hP hk
    exfalso; omega
  | succ k ih =>
    intro y n z F G fm hS hx hR hfo hN hW6 hP hk
    obtain ⟨a0, a4, a5, bA, bW, a30, bL, a38, bP, a53, a47, a88⟩ := id hR
    refine gz_iload dX12_shortens_377 rfl ?_
    refine gz_iload dX12_shortens_379 rfl ?_
    refine gz_icmp_le (tgt := 452) dX12_shortens_381 (by decide) (fun c_381 => ?_) (fun c_381 => ?_)
    ·
      try simp only [mIn_0, lgc_lt, lgc_gt, lgc_le, lgc_ge, lgc_eq] at c_381
      try simp only [fl_lt, fl_le, fl_eq, fL_w, fL_lt, fL_le, tm1, tm10k, tm9, tm99, Int32.reduceToInt, Int64.reduceToInt, Int.not_lt, Int.not_le] at c_381
      refine gz_sub (lv' := [(5, .int kk), (0, .ref m), (1, .int x1), (2, .int x2), (3, .int bs), (4, .int nb)]) (by simp [List.lookup]) ?_
      exact hq  _ _ _ _ _ hS hx (hR) (hfo) (hN) (hW6) (hP)
    ·
      try simp only [mIn_0, lgc_lt, lgc_gt, lgc_le, lgc_ge, lgc_eq] at c_381
      try simp only [fl_lt, fl_le, fl_eq, fL_w, fL_lt, fL_le, tm1, tm10k, tm9, tm99, Int32.reduceToInt, Int64.reduceToInt, Int.not_lt, Int.not_le] at c_381
      refine gz_aload_n dX12_shortens_384 rfl rfl ?_
      refine mg_228 hS dX12_shortens_385 ?_
      refine gz_iload dX12_shortens_388 rfl ?_
      refine m_iald 82 hS rfl (N := 82) rfl ((by exact vin_T (rfl : (xq).toInt = (xq).toInt) (by omega) (by omega))) dX12_shortens_390 ?_
      refine gz_iload dX12_shortens_391 rfl ?_
      refine gz_icmp_ne (tgt := 452) dX12_shortens_393 (by decide) (fun c_393 => ?_) (fun c_393 => ?_)
      ·
        try simp only [mIn_0, lgc_lt, lgc_gt, lgc_le, lgc_ge, lgc_eq] at c_393
        try simp only [fl_lt, fl_le, fl_eq, fL_w, fL_lt, fL_le, tm1, tm10k, tm9, tm99, Int32.reduceToInt, Int64.reduceToInt, Int.not_lt, Int.not_le] at c_393
        refine gz_sub (lv' := [(5, .int kk), (0, .ref m), (1, .int x1), (2, .int x2), (3, .int bs), (4, .int nb)]) (by simp [List.lookup]) ?_
        exact hq  _ _ _ _ _ hS hx (hR) (hfo) (hN) (hW6) (hP)
      ·
        try simp only [mIn_0, lgc_lt, lgc_gt, lgc_le, lgc_ge, lgc_eq] at c_393
        try simp only [fl_lt, fl_le, fl_eq, fL_w, fL_lt, fL_le, tm1, tm10k, tm9, tm99, Int32.reduceToInt, Int64.reduceToInt, Int.not_lt, Int.not_le] at c_393
        refine gz_aload_n dX12_shortens_396 rfl rfl ?_
        refine mg_225 hS dX12_shortens_397 ?_
        refine gz_iload dX12_shortens_400 rfl ?_
        refine m_iald 81 hS rfl (N := 82) rfl ((by exact vin_T (rfl : (xq).toInt = (xq).toInt) (by omega) (by omega))) dX12_shortens_402 ?_
        refine gz_iload dX12_shortens_403 rfl ?_
        refine gz_icmp_ne (tgt := 452) dX12_shortens_405 (by decide) (fun c_405 => ?_) (fun c_405 => ?_)
        ·
          try simp only [mIn_0, lgc_lt, lgc_gt, lgc_le, lgc_ge, lgc_eq] at c_405
          try simp only [fl_lt, fl_le, fl_eq, fL_w, fL_lt, fL_le, tm1, tm10k, tm9, tm99, Int32.reduceToInt, Int64.reduceToInt, Int.not_lt, Int.not_le] at c_405
          refine gz_sub (lv' := [(5, .int kk), (0, .ref m), (1, .int x1), (2, .int x2), (3, .int bs), (4, .int nb)]) (by simp [List.lookup]) ?_
          exact hq  _ _ _ _ _ hS hx (hR) (hfo) (hN) (hW6) (hP)
        ·
          try simp only [mIn_0, lgc_lt, lgc_gt, lgc_le, lgc_ge, lgc_eq] at c_405
          try simp only [fl_lt, fl_le, fl_eq, fL_w, fL_lt, fL_le, tm1, tm10k, tm9, tm99, Int32.reduceToInt, Int64.reduceToInt, Int.not_lt, Int.not_le] at c_405
          refine gz_aload_n dX12_shortens_408 rfl rfl ?_
          refine mg_228 hS dX12_shortens_409 ?_
          refine gz_iload dX12_shortens_412 rfl ?_
          refine m_iald 82 hS rfl (N := 82) rfl ((by exact vin_T (rfl : (y).toInt = (y).toInt) (by omega) (by omega))) dX12_shortens_414 ?_
          refine gz_iload dX12_shortens_415 rfl ?_
          refine gz_icmp_ne (tgt := 446) dX12_shortens_417 (by decide) (fun c_417 => ?_) (fun c_417 => ?_)
          ·
            try simp only [mIn_0, lgc_lt, lgc_gt, lgc_le, lgc_ge, lgc_eq] at c_417
            try simp only [fl_lt, fl_le, fl_eq, fL_w, fL_lt, fL_le, tm1, tm10k, tm9, tm99, Int32.reduceToInt, Int64.reduceToInt, Int.not_lt, Int.not_le] at c_417
            refine gz_iinc (v := (y + (-1))) (lv' := [(10, .int (y + (-1))), (7, .int xq), (5, .int kk), (0, .ref m), (1, .int x1), (2, .int x2), (3, .int bs), (4, .int nb)]) dX12_shortens_446 rfl (congrArg (fun z => y + z) oi_m1) (by decide) rfl ?_
            refine gz_goto (tgt := 377) dX12_shortens_449 (by decide) ?_
            refine gz_sub (lv' := [(10, .int (y + (-1))), (7, .int xq), (5, .int kk), (0, .ref m), (1, .int x1), (2, .int x2), (3, .int bs), (4, .int nb)]) (by simp [List.lookup]) ?_
            have hdc : (y + (-1)).toInt = y.toInt - 1 := T_dec (by omega) (by omega)
            generalize y + (-1) = y2 at hdc ⊢
            exact ih y2 _ _ _ _ _ hS hx (hR) (hfo) (hN) (hW6) (hP) (by omega)
          ·
            try simp only [mIn_0, lgc_lt, lgc_gt, lgc_le, lgc_ge, lgc_eq] at c_417
            try simp only [fl_lt, fl_le, fl_eq, fL_w, fL_lt, fL_le, tm1, tm10k, tm9, tm99, Int32.reduceToInt, Int64.reduceToInt, Int.not_lt, Int.not_le] at c_417
            refine gz_aload_n dX12_shortens_420 rfl rfl ?_
            refine gz_iload dX12_shortens_421 rfl ?_
            refine gz_iload dX12_shortens_423 rfl ?_
            refine gz_iconst (v := 0) dX12_shortens_425 (by decide) ?_
            refine scX12_520 (k_X12_areLike (x1 := xq) (x2 := y) (x3 := 0) hS bA hN (by omega) (by omega)) hS.1 ⟨(Nat.le_of_ble_eq_true rfl), (Nat.le_of_ble_eq_true rfl)⟩ ⟨(Nat.le_of_ble_eq_true rfl), (Nat.le_of_ble_eq_true rfl)⟩ rfl rfl (Nat.le_of_ble_eq_true rfl) dX12_shortens_426 ?_
            rintro r_1 f9 ⟨hb_1, y9⟩; rw [y9]
            refine gz_if_eq (tgt := 446) dX12_shortens_429 (by decide) (fun c_429 => ?_) (fun c_429 => ?_)
            ·
              try simp only [mIn_0, lgc_lt, lgc_gt, lgc_le, lgc_ge, lgc_eq] at c_429
              try simp only [fl_lt, fl_le, fl_eq, fL_w, fL_lt, fL_le, tm1, tm10k, tm9, tm99, Int32.reduceToInt, Int64.reduceToInt, Int.not_lt, Int.not_le] at c_429
              refine gz_iinc (v := (y + (-1))) (lv' := [(10, .int (y + (-1))), (7, .int xq), (5, .int kk), (0, .ref m), (1, .int x1), (2, .int x2), (3, .int bs), (4, .int nb)]) dX12_shortens_446 rfl (congrArg (fun z => y + z) oi_m1) (by decide) rfl ?_
              refine gz_goto (tgt := 377) dX12_shortens_449 (by decide) ?_
              refine gz_sub (lv' := [(10, .int (y + (-1))), (7, .int xq), (5, .int kk), (0, .ref m), (1, .int x1), (2, .int x2), (3, .int bs), (4, .int nb)]) (by simp [List.lookup]) ?_
              have hdc : (y + (-1)).toInt = y.toInt - 1 := T_dec (by omega) (by omega)
              generalize y + (-1) = y2 at hdc ⊢
              exact ih y2 _ _ _ _ _ hS hx (hR) (hfo) (hN) (hW6) (hP) (by omega)
            ·
              try simp only [mIn_0, lgc_lt, lgc_gt, lgc_le, lgc_ge, lgc_eq] at c_429
              try simp only [fl_lt, fl_le, fl_eq, fL_w, fL_lt, fL_le, tm1, tm10k, tm9, tm99, Int32.reduceToInt, Int64.reduceToInt, Int.not_lt, Int.not_le] at c_429
              refine gz_aload_n dX12_shortens_432 rfl rfl ?_
              refine mg_225 hS dX12_shortens_433 ?_
              refine gz_iload dX12_shortens_436 rfl ?_
              refine gz_aload_n dX12_shortens_438 rfl rfl ?_
              refine mg_225 hS dX12_shortens_439 ?_
              refine gz_iload dX12_shortens_442 rfl ?_
              refine m_iald 81 hS rfl (N := 82) rfl ((by exact vin_T (rfl : (y).toInt = (y).toInt) (by omega) (by omega))) dX12_shortens_444 ?_
              refine m_iast 81 hS rfl (N := 82) rfl ((by exact vin_T (rfl : (xq).toInt = (xq).toInt) (by omega) (by omega))) dX12_shortens_445 (fun f_2 hS_2q => ?_)
              have hS_2 : mS cy m a f0 n z (va_up F 81 (upd (F 81) (Int32.toNatClampNeg xq) ((F 81) (Int32.toNatClampNeg y)))) G f_2 := hS_2q
              refine gz_iinc (v := (y + (-1))) (lv' := [(10, .int (y + (-1))), (7, .int xq), (5, .int kk), (0, .ref m), (1, .int x1), (2, .int x2), (3, .int bs), (4, .int nb)]) dX12_shortens_446 rfl (congrArg (fun z => y + z) oi_m1) (by decide) rfl ?_
              refine gz_goto (tgt := 377) dX12_shortens_449 (by decide) ?_
              refine gz_sub (lv' := [(10, .int (y + (-1))), (7, .int xq), (5, .int kk), (0, .ref m), (1, .int x1), (2, .int x2), (3, .int bs), (4, .int nb)]) (by simp [List.lookup]) ?_
              have hdc : (y + (-1)).toInt = y.toInt - 1 := T_dec (by omega) (by omega)
              generalize y + (-1) = y2 at hdc ⊢
              have hxx : fx [] [] [81] [] n z F G n z (va_up F 81 (upd (F 81) (Int32.toNatClampNeg xq) ((F 81) (Int32.toNatClampNeg y)))) G := (fx_F fx_rf (by decide))
              have qy := NR_at hN (x := y) (by omega)
              have hN9 : NR (va_up F 81 (upd (F 81) (Int32.toNatClampNeg xq) ((F 81) (Int32.toNatClampNeg y)))) := NR_up hN 81 (fun k hk hne => up_out (K := [81]) (fun _ _ => rfl) (by decide) k (by simp only [List.mem_cons, List.not_mem_nil, or_false]; exact hne)) rfl (Or.inl qy.2.2.2.1) (by decide)
              have hP9 : SHp (va_up F 81 (upd (F 81) (Int32.toNatClampNeg xq) ((F 81) (Int32.toNatClampNeg y)))) fo Wn bn (kk.toInt - 1) := SHp_cg (fun k hk => hxx.2.2.1 k ((by decide : ∀ k : Nat, k ∈ shK → k ∉ ([81] : List Nat)) k hk)) hP
              have hR9 := RI_fx hR hxx (by decide) (by decide)
              exact ih y2 _ _ _ _ _ hS_2 (fx_F hx (by decide)) (hR9) (hfo) (hN9) (hW6) (hP9) (by omega)

set_option maxHeartbeats 4000000 in
set_option maxRecDepth 100000 in
theorem l_X12_shortensB {l : Launch} {D : va_G} {cy : Nat → ClassId} {b : Nat} {m : Nat} {a : Nat → Nat} {f0 : gMem} {n0 : Nat → Int32} {z0 : Nat → Int64} {F0 : Nat → Nat → Int32} {G0 : Nat → Nat → Int64}  {x1 x2 bs nb : Int32} {fo Wn bn : Nat} {kk xq : Int32} {kN : Nat} (hb : bs.toInt = (bn : Int) ∧ (bn = 0 ∨ bn = 41) ∧ nb.toInt = (bn : Int) + 40) (hf : x1.toInt = (fo : Int) ∧ fo < 20) (hkN : kk.toInt = (kN : Int) ∧ kN < Wn ∧ Wn ≤ 40) (hxq : xq.toInt = (bn : Int) + kN) (hq : ∀  (n : Nat → Int32) (z : Nat → Int64) (F : Nat → Nat → Int32) (G : Nat → Nat → Int64) (fm : gMem), mS cy m a f0 n z F G fm → fx [] [] [76, 77, 78, 79, 80, 81, 82] [] n0 z0 F0 G0 n z F G → (RI n F) → ((fo : Int) < (n 5).toInt) → (NR F) → ((F 6 fo).toInt = (Wn : Int)) → (SHp F fo Wn bn (kk.toInt - 1)) → gG l (gRm 3 0 0) (gQf D b (pV fun f2 => ∃ (n2 : Nat → Int32) (z2 : Nat → Int64) (F2 : Nat → Nat → Int32) (G2 : Nat → Nat → Int64), mS cy m a f0 n2 z2 F2 G2 f2 ∧ fx [] [] [76, 77, 78, 79, 80, 81, 82] [] n0 z0 F0 G0 n2 z2 F2 G2 ∧ NR F2 ∧ SHp F2 fo Wn bn (-1)) 0 0) gTt D cy b cX12_shortens 11 none RX12 "shortens" 0 0 fm 452 [(5, .int kk), (0, .ref m), (1, .int x1), (2, .int x2), (3, .int bs), (4, .int nb)] []) : ∀ (k : Nat)  (n : Nat → Int32) (z : Nat → Int64) (F : Nat → Nat → Int32) (G : Nat → Nat → Int64) (fm : gMem), mS cy m a f0 n z F G fm → fx [] [] [76, 77, 78, 79, 80, 81, 82] [] n0 z0 F0 G0 n z F G → (RI n F) → ((fo : Int) < (n 5).toInt) → (NR F) → ((F 6 fo).toInt = (Wn : Int)) → (SHp F fo Wn bn (kk.toInt)) → (nOK F fo Wn bn kN) → (0 < (k : Int)) → gG l (gRm 3 0 0) (gQf D b (pV fun f2 => ∃ (n2 : Nat → Int32) (z2 : Nat → Int64) (F2 : Nat → Nat → Int32) (G2 : Nat → Nat → Int64), mS cy m a f0 n2 z2 F2 G2 f2 ∧ fx [] [] [76, 77, 78, 79, 80, 81, 82] [] n0 z0 F0 G0 n2 z2 F2 G2 ∧ NR F2 ∧ SHp F2 fo Wn bn (-1)) 0 0) gTt D cy b cX12_shortens 11 none RX12 "shortens" 0 0 fm 341 [(7, .int xq), (5, .int kk), (0, .ref m), (1, .int x1), (2, .int x2), (3, .int bs), (4, .int nb)] [] := by
  intro k
  induction k with
  | zero =>
    intro n z F G fm hS hx hR hfo hN hW6 hP hn hk
    exfalso; omega
  | succ k ih =>
    intro n z F G fm hS hx hR hfo hN hW6 hP hn hk
    obtain ⟨a0, a4, a5, bA, bW, a30, bL, a38, bP, a53, a47, a88⟩ := id hR
    have ecx : (Int32.toNatClampNeg xq) = bn + kN := by rw [clN]; omega
    have hkW : kN < (F 6 fo).toInt.toNat := by omega
    have qO := (bW fo hfo).2.1 kN hkW
    have qWn : (F 6 fo).toInt.toNat = Wn := by omega
    rw [qWn] at qO
    refine gz_aload_n dX12_shortens_341 rfl rfl ?_
    refine mg_225 hS dX12_shortens_342 ?_
    refine gz_iload dX12_shortens_345 rfl ?_
    refine gz_iload dX12_shortens_347 rfl ?_
    refine m_iast 81 hS rfl (N := 82) rfl ((by exact vin_T (rfl : xq.toInt = xq.toInt) (by omega) (by omega))) dX12_shortens_349 (fun f_1 hS_1q => ?_)
    have hS_1 : mS cy m a f0 n z (va_up F 81 (upd (F 81) (Int32.toNatClampNeg xq) xq)) G f_1 := hS_1q
    refine gz_aload_n dX12_shortens_350 rfl rfl ?_
    refine mg_228 hS_1 dX12_shortens_351 ?_
    refine gz_iload dX12_shortens_354 rfl ?_
    refine gz_aload_n dX12_shortens_356 rfl rfl ?_
    refine gz_iload dX12_shortens_357 rfl ?_
    refine gz_iload dX12_shortens_359 rfl ?_
    have r76_ : (va_up F 81 (upd (F 81) (Int32.toNatClampNeg xq) xq)) 76 = (F 76) := rfl
    have r78_ : (va_up F 81 (upd (F 81) (Int32.toNatClampNeg xq) xq)) 78 = (F 78) := rfl
    have r79_ : (va_up F 81 (upd (F 81) (Int32.toNatClampNeg xq) xq)) 79 = (F 79) := rfl
    have hN2 : NR (va_up F 81 (upd (F 81) (Int32.toNatClampNeg xq) xq)) := NR_up hN 81 (fun k hk hne => up_out (K := [81]) (fun _ _ => rfl) (by decide) k (by simp only [List.mem_cons, List.not_mem_nil, or_false]; exact hne)) rfl (Or.inl (by omega)) (by decide)
    have k76 : (va_up F 81 (upd (F 81) (Int32.toNatClampNeg xq) xq)) 76 (Int32.toNatClampNeg xq) = F 7 (40 * fo + kN) := by rw [r76_, ecx]; exact hn.2.1
    have k78 : (va_up F 81 (upd (F 81) (Int32.toNatClampNeg xq) xq)) 78 (Int32.toNatClampNeg xq) = (F 78 (bn + kN)) := by rw [r78_, ecx]
    have k79 : (va_up F 81 (upd (F 81) (Int32.toNatClampNeg xq) xq)) 79 (Int32.toNatClampNeg xq) = (F 79 (bn + kN)) := by rw [r79_, ecx]
    refine scX12_517 (k_X12_lawOf (x1 := xq) (x2 := nb) hS_1 bA hN2 (by omega) (by omega) (by rw [k76]; exact qO.1)) hS_1.1 ⟨(Nat.le_of_ble_eq_true rfl), (Nat.le_of_ble_eq_true rfl)⟩ ⟨(Nat.le_of_ble_eq_true rfl), (Nat.le_of_ble_eq_true rfl)⟩ rfl rfl (Nat.le_of_ble_eq_true rfl) dX12_shortens_361 ?_
    rintro r_2 f9 ⟨hb_2, y9⟩; rw [y9]
    rw [k76, k78, k79, r76_, r78_] at hb_2
    have hr_ : r_2.toInt = (bn : Int) + 40 ∨ r_2.toInt = (bn : Int) + kN ∨ r_2 = (F 78 (bn + kN)) ∨ (r_2 = (F 79 (bn + kN)) ∧ (F 7 (40 * fo + kN)).toInt = 3) ∨ (r_2 = F 78 (F 78 (bn + kN)).toInt.toNat ∧ (F 76 (F 78 (bn + kN)).toInt.toNat).toInt = 2) := by
      rcases hb_2 with z | z | z | z | z
      · exact Or.inl (by rw [z]; omega)
      · exact Or.inr (Or.inl (by rw [z]; omega))
      · exact Or.inr (Or.inr (Or.inl z.1))
      · exact Or.inr (Or.inr (Or.inr (Or.inl z)))
      · exact Or.inr (Or.inr (Or.inr (Or.inr ⟨z.1, z.2.2⟩)))
    have qa := NR_at hN (x := xq) (by omega)
    rw [ecx] at qa
    have qrj : 0 ≤ r_2.toInt ∧ r_2.toInt < 82 := by rcases hr_ with z | z | z | z | z; (omega); (omega); (rw [z]; exact qa.1); (rw [z.1]; exact qa.2.1); (rw [z.1]; exact (NR_at hN (x := (F 78 (bn + kN))) qa.1).1)
    refine m_iast 82 hS_1 rfl (N := 82) rfl ((by exact vin_T (rfl : xq.toInt = xq.toInt) (by omega) (by omega))) dX12_shortens_364 (fun f_3 hS_3q => ?_)
    have hS_3 : mS cy m a f0 n z (va_up (va_up F 81 (upd (F 81) (Int32.toNatClampNeg xq) xq)) 82 (upd (F 82) (Int32.toNatClampNeg xq) r_2)) G f_3 := hS_3q
    refine gz_iload_n dX12_shortens_365 rfl rfl ?_
    refine gz_aload_n dX12_shortens_366 rfl rfl ?_
    refine mg_17 hS_3 dX12_shortens_367 ?_
    refine gz_iload_n dX12_shortens_370 rfl rfl ?_
    refine m_iald 6 hS_3 rfl (N := 22) rfl ((by exact vin_T (rfl : (x1).toInt = (x1).toInt) (by omega) (by omega))) dX12_shortens_371 ?_
    refine gz_ev (w := .int ((F 6) (Int32.toNatClampNeg x1))) rfl ?_
    refine gz_iadd dX12_shortens_372 ?_
    refine gz_iconst (v := 1) dX12_shortens_373 (by decide) ?_
    refine gz_isub dX12_shortens_374 ?_
    refine gz_istore (lv' := [(10, .int ((bs + ((F 6) (Int32.toNatClampNeg x1))) - 1)), (7, .int xq), (5, .int kk), (0, .ref m), (1, .int x1), (2, .int x2), (3, .int bs), (4, .int nb)]) dX12_shortens_375 (by decide) rfl ?_
    have hxx : fx [] [] [76, 77, 78, 79, 80, 81, 82] [] n z F G n z (va_up (va_up F 81 (upd (F 81) (Int32.toNatClampNeg xq) xq)) 82 (upd (F 82) (Int32.toNatClampNeg xq) r_2)) G := (fx_F (fx_F fx_rf (by decide)) (by decide))
    have s76_ : (va_up (va_up F 81 (upd (F 81) (Int32.toNatClampNeg xq) xq)) 82 (upd (F 82) (Int32.toNatClampNeg xq) r_2)) 76 = (F 76) := rfl
    have s78_ : (va_up (va_up F 81 (upd (F 81) (Int32.toNatClampNeg xq) xq)) 82 (upd (F 82) (Int32.toNatClampNeg xq) r_2)) 78 = (F 78) := rfl
    have s79_ : (va_up (va_up F 81 (upd (F 81) (Int32.toNatClampNeg xq) xq)) 82 (upd (F 82) (Int32.toNatClampNeg xq) r_2)) 79 = (F 79) := rfl
    have s80_ : (va_up (va_up F 81 (upd (F 81) (Int32.toNatClampNeg xq) xq)) 82 (upd (F 82) (Int32.toNatClampNeg xq) r_2)) 80 = (F 80) := rfl
    have s82_ : (va_up (va_up F 81 (upd (F 81) (Int32.toNatClampNeg xq) xq)) 82 (upd (F 82) (Int32.toNatClampNeg xq) r_2)) 82 = (upd (F 82) (Int32.toNatClampNeg xq) r_2) := rfl
    have hNf : NR (va_up (va_up F 81 (upd (F 81) (Int32.toNatClampNeg xq) xq)) 82 (upd (F 82) (Int32.toNatClampNeg xq) r_2)) := NR_up hN2 82 (fun k hk hne => up_out (K := [82]) (fun _ _ => rfl) (by decide) k (by simp only [List.mem_cons, List.not_mem_nil, or_false]; exact hne)) rfl (Or.inl qrj) (by decide)
    have hoff : ∀ r, r ∈ [76, 78, 79, 80, 82] → ∀ i, i ≠ bn + kN → (va_up (va_up F 81 (upd (F 81) (Int32.toNatClampNeg xq) xq)) 82 (upd (F 82) (Int32.toNatClampNeg xq) r_2)) r i = F r i := by
      intro r hr i hi
      rw [← ecx] at hi
      simp only [List.mem_cons, List.not_mem_nil, or_false] at hr
      rcases hr with rfl | rfl | rfl | rfl | rfl
      · rw [s76_]
      · rw [s78_]
      · rw [s79_]
      · rw [s80_]
      · rw [s82_, updE, if_neg hi]
    have hnew : SHp (va_up (va_up F 81 (upd (F 81) (Int32.toNatClampNeg xq) xq)) 82 (upd (F 82) (Int32.toNatClampNeg xq) r_2)) fo Wn bn ((kN : Int) - 1) := SHp_new (F := F) rfl rfl rfl rfl hoff (by omega) (by rw [← hkN.1]; exact hP) (fun hq => node_mk (F := F) (v := (F 78 (bn + kN))) (y := (F 79 (bn + kN))) (r := r_2) (by omega) hq (by rw [← hkN.1]; exact hP) rfl rfl rfl rfl (by rw [s80_]; exact hn.1) (by rw [s76_]; exact hn.2.1) (by rw [s78_]) (by rw [s79_]) (by rw [← ecx, s82_, updE, if_pos rfl]) hn.2.2.1 hn.2.2.2.1 hn.2.2.2.2 hr_)
    have h6c : (F 6 (Int32.toNatClampNeg x1)).toInt = (Wn : Int) := by rw [show Int32.toNatClampNeg x1 = fo by rw [clN]; omega]; exact hW6
    have qy0 : ((bs + ((F 6) (Int32.toNatClampNeg x1))) - 1).toInt = (bn : Int) + Wn - 1 := by have q := (T_sub (T_add (rfl : (bs).toInt = (bs).toInt) (rfl : (((F 6) (Int32.toNatClampNeg x1))).toInt = (((F 6) (Int32.toNatClampNeg x1))).toInt) (by omega)) (show (1 : Int32).toInt = 1 from rfl) (by omega)); omega
    refine gz_sub (lv' := [(10, .int ((bs + ((F 6) (Int32.toNatClampNeg x1))) - 1)), (7, .int xq), (5, .int kk), (0, .ref m), (1, .int x1), (2, .int x2), (3, .int bs), (4, .int nb)]) (by simp [List.lookup]) ?_
    exact l_X12_shortens2 (kk := kk) (xq := xq) hb hf hq 83 ((bs + ((F 6) (Int32.toNatClampNeg x1))) - 1) _ _ _ _ _ hS_3 (fx_F (fx_F hx (by decide)) (by decide)) (RI_fx hR hxx (by decide) (by decide)) hfo hNf hW6 (by rw [hkN.1]; exact hnew) (by omega)

set_option maxHeartbeats 4000000 in
set_option maxRecDepth 100000 in
theorem l_X12_shortensA {l : Launch} {D : va_G} {cy : Nat → ClassId} {b : Nat} {m : Nat} {a : Nat → Nat} {f0 : gMem} {n0 : Nat → Int32} {z0 : Nat → Int64} {F0 : Nat → Nat → Int32} {G0 : Nat → Nat → Int64}  {x1 x2 bs nb : Int32} {fo Wn bn : Nat} {kk xq wq lf pr : Int32} {kN : Nat} (hb : bs.toInt = (bn : Int) ∧ (bn = 0 ∨ bn = 41) ∧ nb.toInt = (bn : Int) + 40) (hf : x1.toInt = (fo : Int) ∧ fo < 20) (hkN : kk.toInt = (kN : Int) ∧ kN < Wn ∧ Wn ≤ 40) (hxq : xq.toInt = (bn : Int) + kN) (hwq : wq.toInt = 40 * (fo : Int) + kN) (hq : ∀  (n : Nat → Int32) (z : Nat → Int64) (F : Nat → Nat → Int32) (G : Nat → Nat → Int64) (fm : gMem), mS cy m a f0 n z F G fm → fx [] [] [76, 77, 78, 79, 80, 81, 82] [] n0 z0 F0 G0 n z F G → (RI n F) → ((fo : Int) < (n 5).toInt) → (NR F) → ((F 6 fo).toInt = (Wn : Int)) → (SHp F fo Wn bn (kk.toInt - 1)) → gG l (gRm 3 0 0) (gQf D b (pV fun f2 => ∃ (n2 : Nat → Int32) (z2 : Nat → Int64) (F2 : Nat → Nat → Int32) (G2 : Nat → Nat → Int64), mS cy m a f0 n2 z2 F2 G2 f2 ∧ fx [] [] [76, 77, 78, 79, 80, 81, 82] [] n0 z0 F0 G0 n2 z2 F2 G2 ∧ NR F2 ∧ SHp F2 fo Wn bn (-1)) 0 0) gTt D cy b cX12_shortens 11 none RX12 "shortens" 0 0 fm 452 [(5, .int kk), (0, .ref m), (1, .int x1), (2, .int x2), (3, .int bs), (4, .int nb)] []) : ∀ (k : Nat)  (n : Nat → Int32) (z : Nat → Int64) (F : Nat → Nat → Int32) (G : Nat → Nat → Int64) (fm : gMem), mS cy m a f0 n z F G fm → fx [] [] [76, 77, 78, 79, 80, 81, 82] [] n0 z0 F0 G0 n z F G → (RI n F) → ((fo : Int) < (n 5).toInt) → (NR F) → ((F 6 fo).toInt = (Wn : Int)) → (SHp F fo Wn bn (kk.toInt)) → (F 76 (Int32.toNatClampNeg xq) = F 7 (Int32.toNatClampNeg wq)) → (F 80 (Int32.toNatClampNeg xq) = wq) → ((lf.toInt = 1 ∧ (F 7 (Int32.toNatClampNeg wq)).toInt ≤ 1) ∨ (lf.toInt = 0 ∧ 2 ≤ (F 7 (Int32.toNatClampNeg wq)).toInt)) → ((pr.toInt = 1 ∧ 3 ≤ (F 7 (Int32.toNatClampNeg wq)).toInt ∧ (F 7 (Int32.toNatClampNeg wq)).toInt ≤ 5) ∨ (pr.toInt = 0 ∧ ¬ (3 ≤ (F 7 (Int32.toNatClampNeg wq)).toInt ∧ (F 7 (Int32.toNatClampNeg wq)).toInt ≤ 5))) → (0 < (k : Int)) → gG l (gRm 3 0 0) (gQf D b (pV fun f2 => ∃ (n2 : Nat → Int32) (z2 : Nat → Int64) (F2 : Nat → Nat → Int32) (G2 : Nat → Nat → Int64), mS cy m a f0 n2 z2 F2 G2 f2 ∧ fx [] [] [76, 77, 78, 79, 80, 81, 82] [] n0 z0 F0 G0 n2 z2 F2 G2 ∧ NR F2 ∧ SHp F2 fo Wn bn (-1)) 0 0) gTt D cy b cX12_shortens 11 none RX12 "shortens" 0 0 fm 180 [(9, .int pr), (8, .int lf), (7, .int xq), (6, .int wq), (5, .int kk), (0, .ref m), (1, .int x1), (2, .int x2), (3, .int bs), (4, .int nb)] [] := by
  intro k
  induction k with
  | zero =>
    intro n z F G fm hS hx hR hfo hN hW6 hP h76 h80 hl hp_ hk
    exfalso; omega
  | succ k ih =>
    intro n z F G fm hS hx hR hfo hN hW6 hP h76 h80 hl hp_ hk
    obtain ⟨a0, a4, a5, bA, bW, a30, bL, a38, bP, a53, a47, a88⟩ := id hR
    have ecx : (Int32.toNatClampNeg xq) = bn + kN := by rw [clN]; omega
    have ecw : (Int32.toNatClampNeg wq) = 40 * fo + kN := by rw [clN]; omega
    have hkW : kN < (F 6 fo).toInt.toNat := by omega
    have qO := (bW fo hfo).2.1 kN hkW
    have qWn : (F 6 fo).toInt.toNat = Wn := by omega
    rw [qWn] at qO
    refine gz_aload_n dX12_shortens_180 rfl rfl ?_
    refine mg_216 hS dX12_shortens_181 ?_
    refine gz_iload dX12_shortens_184 rfl ?_
    refine gz_iload dX12_shortens_186 rfl ?_
    refine gz_if_eq (tgt := 196) dX12_shortens_188 (by decide) (fun c_188 => ?_) (fun c_188 => ?_)
    ·
      try simp only [mIn_0, lgc_lt, lgc_gt, lgc_le, lgc_ge, lgc_eq] at c_188
      try simp only [fl_lt, fl_le, fl_eq, fL_w, fL_lt, fL_le, tm1, tm10k, tm9, tm99, Int32.reduceToInt, Int64.reduceToInt, Int.not_lt, Int.not_le] at c_188
      obtain ⟨t, ht1, ht2, ht3, ht4⟩ := qO.2.2.2.1 (by rw [← ecw]; omega)
      rw [← ecw] at ht1
      have ht4w := fun (_ : Nat) => ht4
      clear ht4
      have z6 := eN_gt (F := F) (f := fo) (k := kN) (W := Wn) (by omega)
      have qr1 : ((F 11 (Int32.toNatClampNeg wq)) - (F 11 (Int32.toNatClampNeg wq)) / 40 * 40).toInt = t := by have q := T_sub (rfl : (F 11 (Int32.toNatClampNeg wq)).toInt = (F 11 (Int32.toNatClampNeg wq)).toInt) (T_mul (T_div (rfl : (F 11 (Int32.toNatClampNeg wq)).toInt = (F 11 (Int32.toNatClampNeg wq)).toInt) (show (40 : Int32).toInt = 40 from rfl) (by omega) (by decide)) (show (40 : Int32).toInt = 40 from rfl) (by omega)) (by omega); omega
      have qix1 : (bs + ((F 11 (Int32.toNatClampNeg wq)) - (F 11 (Int32.toNatClampNeg wq)) / 40 * 40)).toInt = (bn : Int) + t := by have q := T_add (rfl : bs.toInt = bs.toInt) qr1 (by omega); omega
      have qcl1 : Int32.toNatClampNeg (bs + ((F 11 (Int32.toNatClampNeg wq)) - (F 11 (Int32.toNatClampNeg wq)) / 40 * 40)) = bn + t := by rw [clN]; omega
      refine gz_aload_n dX12_shortens_196 rfl rfl ?_
      refine mg_228 hS dX12_shortens_197 ?_
      refine gz_iload_n dX12_shortens_200 rfl rfl ?_
      refine gz_aload_n dX12_shortens_201 rfl rfl ?_
      refine mg_32 hS dX12_shortens_202 ?_
      refine gz_iload dX12_shortens_205 rfl ?_
      refine m_iald 11 hS rfl (N := 880) rfl ((by exact vin_T (rfl : wq.toInt = wq.toInt) (by omega) (by omega))) dX12_shortens_207 ?_
      refine gz_bipush (v := 40) dX12_shortens_208 (by decide) ?_
      refine gz_irem dX12_shortens_210 (by decide) ?_
      refine gz_iadd dX12_shortens_211 ?_
      refine m_iald 82 hS rfl (N := 82) rfl ((by exact vin_T qix1 (by omega) (by omega))) dX12_shortens_212 ?_
      obtain ⟨v1, hv1⟩ : ∃ v_, v_ = ((F 82) (Int32.toNatClampNeg (bs + (((F 11) (Int32.toNatClampNeg wq)) - ((F 11) (Int32.toNatClampNeg wq)) / 40 * 40)))) := ⟨_, rfl⟩
      refine gz_ev (w := .int v1) (congrArg Value.int hv1.symm) ?_
      have qc1 := rN_child (by omega) (by omega) ht2 ht3 (hP.2 t (by omega) (by omega)).2
      rw [← qcl1, ← hv1] at qc1
      have qu1 := qc1.1
      have qs1 := one_sz (F := F) (f := fo) (W := Wn) (k := kN) (t := t) (by omega) ht2 ht3
      have qv1 : 0 ≤ v1.toInt ∧ v1.toInt < 82 ∧ v1.toInt ≠ xq.toInt := by rcases qu1 with z | ⟨j, z1, z2, z3⟩ <;> omega
      refine m_iast 78 hS rfl (N := 82) rfl ((by exact vin_T (rfl : xq.toInt = xq.toInt) (by omega) (by omega))) dX12_shortens_213 (fun f_1 hS_1q => ?_)
      have hS_1 : mS cy m a f0 n z (va_up F 78 (upd (F 78) (Int32.toNatClampNeg xq) v1)) G f_1 := hS_1q
      refine gz_aload_n dX12_shortens_214 rfl rfl ?_
      refine mg_219 hS_1 dX12_shortens_215 ?_
      refine gz_iload dX12_shortens_218 rfl ?_
      refine gz_iload dX12_shortens_220 rfl ?_
      refine gz_if_eq (tgt := 245) dX12_shortens_222 (by decide) (fun c_222 => ?_) (fun c_222 => ?_)
      ·
        try simp only [mIn_0, lgc_lt, lgc_gt, lgc_le, lgc_ge, lgc_eq] at c_222
        try simp only [fl_lt, fl_le, fl_eq, fL_w, fL_lt, fL_le, tm1, tm10k, tm9, tm99, Int32.reduceToInt, Int64.reduceToInt, Int.not_lt, Int.not_le] at c_222
        refine gz_iload dX12_shortens_245 rfl ?_
        obtain ⟨y1, hy1⟩ : ∃ v_, v_ = nb := ⟨_, rfl⟩
        refine gz_ev (w := .int y1) (congrArg Value.int hy1.symm) ?_
        have qy1 : 0 ≤ y1.toInt ∧ y1.toInt < 82 := by rw [hy1]; omega
        refine m_iast 79 hS_1 rfl (N := 82) rfl ((by exact vin_T (rfl : xq.toInt = xq.toInt) (by omega) (by omega))) dX12_shortens_247 (fun f_2 hS_2q => ?_)
        have hS_2 : mS cy m a f0 n z (va_up (va_up F 78 (upd (F 78) (Int32.toNatClampNeg xq) v1)) 79 (upd (F 79) (Int32.toNatClampNeg xq) y1)) G f_2 := hS_2q
        refine gz_aload_n dX12_shortens_248 rfl rfl ?_
        refine mg_20 hS_2 dX12_shortens_249 ?_
        refine gz_iload dX12_shortens_252 rfl ?_
        refine m_iald 7 hS_2 rfl (N := 880) rfl ((by exact vin_T (rfl : wq.toInt = wq.toInt) (by omega) (by omega))) dX12_shortens_254 ?_
        refine gz_ev (w := .int ((F 7) (Int32.toNatClampNeg wq))) rfl ?_
        refine gz_bipush (v := 10) dX12_shortens_255 (by decide) ?_
        refine gz_icmp_ne (tgt := 341) dX12_shortens_257 (by decide) (fun c_257 => ?_) (fun c_257 => ?_)
        ·
          try simp only [mIn_0, lgc_lt, lgc_gt, lgc_le, lgc_ge, lgc_eq] at c_257
          try simp only [fl_lt, fl_le, fl_eq, fL_w, fL_lt, fL_le, tm1, tm10k, tm9, tm99, Int32.reduceToInt, Int64.reduceToInt, Int.not_lt, Int.not_le] at c_257
          have hxx : fx [] [] [76, 77, 78, 79, 80, 81, 82] [] n z F G n z (va_up (va_up F 78 (upd (F 78) (Int32.toNatClampNeg xq) v1)) 79 (upd (F 79) (Int32.toNatClampNeg xq) y1)) G := (fx_F (fx_F fx_rf (by decide)) (by decide))
          have s76_ : (va_up (va_up F 78 (upd (F 78) (Int32.toNatClampNeg xq) v1)) 79 (upd (F 79) (Int32.toNatClampNeg xq) y1)) 76 = (F 76) := rfl
          have s78_ : (va_up (va_up F 78 (upd (F 78) (Int32.toNatClampNeg xq) v1)) 79 (upd (F 79) (Int32.toNatClampNeg xq) y1)) 78 = (upd (F 78) (Int32.toNatClampNeg xq) v1) := rfl
          have s79_ : (va_up (va_up F 78 (upd (F 78) (Int32.toNatClampNeg xq) v1)) 79 (upd (F 79) (Int32.toNatClampNeg xq) y1)) 79 = (upd (F 79) (Int32.toNatClampNeg xq) y1) := rfl
          have s80_ : (va_up (va_up F 78 (upd (F 78) (Int32.toNatClampNeg xq) v1)) 79 (upd (F 79) (Int32.toNatClampNeg xq) y1)) 80 = (F 80) := rfl
          have s81_ : (va_up (va_up F 78 (upd (F 78) (Int32.toNatClampNeg xq) v1)) 79 (upd (F 79) (Int32.toNatClampNeg xq) y1)) 81 = (F 81) := rfl
          have s82_ : (va_up (va_up F 78 (upd (F 78) (Int32.toNatClampNeg xq) v1)) 79 (upd (F 79) (Int32.toNatClampNeg xq) y1)) 82 = (F 82) := rfl
          have hN2 : NR (va_up (va_up F 78 (upd (F 78) (Int32.toNatClampNeg xq) v1)) 79 (upd (F 79) (Int32.toNatClampNeg xq) y1)) := by
            intro q hq
            obtain ⟨q1, q2, q3, q4, q5⟩ := hN q hq
            rw [s78_, s79_, s80_, s81_, s82_]
            simp only [updE]
            refine ⟨?_, ?_, ?_, ?_, ?_⟩ <;> (repeat' split) <;> omega
          have hoff : ∀ r, r ∈ [76, 78, 79, 80, 82] → ∀ i, i ≠ bn + kN → (va_up (va_up F 78 (upd (F 78) (Int32.toNatClampNeg xq) v1)) 79 (upd (F 79) (Int32.toNatClampNeg xq) y1)) r i = F r i := by
            intro r hr i hi
            rw [← ecx] at hi
            simp only [List.mem_cons, List.not_mem_nil, or_false] at hr
            rcases hr with rfl | rfl | rfl | rfl | rfl
            · rw [s76_]
            · rw [s78_, updE, if_neg hi]
            · rw [s79_, updE, if_neg hi]
            · rw [s80_]
            · rw [s82_]
          have hP2 : SHp (va_up (va_up F 78 (upd (F 78) (Int32.toNatClampNeg xq) v1)) 79 (upd (F 79) (Int32.toNatClampNeg xq) y1)) fo Wn bn (kk.toInt) := by rw [hkN.1]; exact SHp_off (F := F) rfl rfl rfl rfl hoff (by omega) (by rw [← hkN.1]; exact hP)
          have hn2 : nOK (va_up (va_up F 78 (upd (F 78) (Int32.toNatClampNeg xq) v1)) 79 (upd (F 79) (Int32.toNatClampNeg xq) y1)) fo Wn bn kN := nOK_set (F := F) (v := v1) (y := y1) rfl rfl rfl rfl (by rw [← ecx, s80_, h80]; exact hwq) (by rw [← ecx, ← ecw, s76_]; exact h76) (by rw [← ecx, s78_, updE, if_pos rfl]) (by rw [← ecx, s79_, updE, if_pos rfl]) qu1 (fun _ => by omega) (fun q => by exfalso; rw [← ecw] at q; omega)
          refine gz_sub (lv' := [(7, .int xq), (5, .int kk), (0, .ref m), (1, .int x1), (2, .int x2), (3, .int bs), (4, .int nb)]) (by simp [List.lookup]) ?_
          exact l_X12_shortensB hb hf hkN hxq hq 1 _ _ _ _ _ hS_2 (fx_F (fx_F hx (by decide)) (by decide)) (RI_fx hR hxx (by decide) (by decide)) hfo hN2 hW6 hP2 hn2 (by decide)
        ·
          try simp only [mIn_0, lgc_lt, lgc_gt, lgc_le, lgc_ge, lgc_eq] at c_257
          try simp only [fl_lt, fl_le, fl_eq, fL_w, fL_lt, fL_le, tm1, tm10k, tm9, tm99, Int32.reduceToInt, Int64.reduceToInt, Int.not_lt, Int.not_le] at c_257
          refine gz_aload_n dX12_shortens_260 rfl rfl ?_
          refine mg_210 hS_2 dX12_shortens_261 ?_
          refine gz_aload_n dX12_shortens_264 rfl rfl ?_
          refine mg_216 hS_2 dX12_shortens_265 ?_
          refine gz_iload dX12_shortens_268 rfl ?_
          refine m_iald 78 hS_2 rfl (N := 82) rfl ((by exact vin_T (rfl : xq.toInt = xq.toInt) (by omega) (by omega))) dX12_shortens_270 ?_
          refine gz_ev (w := .int ((upd (F 78) (Int32.toNatClampNeg xq) v1) (Int32.toNatClampNeg xq))) rfl ?_
          refine gz_ev (w := .int v1) (congrArg Value.int (by rw [updE, if_pos rfl])) ?_
          refine m_iald 76 hS_2 rfl (N := 82) rfl ((by exact vin_T (rfl : v1.toInt = v1.toInt) (by omega) (by omega))) dX12_shortens_271 ?_
          refine gz_ev (w := .int ((F 76) (Int32.toNatClampNeg v1))) rfl ?_
          refine gz_bipush (v := 10) dX12_shortens_272 (by decide) ?_
          refine gz_icmp_ne (tgt := 341) dX12_shortens_274 (by decide) (fun c_274 => ?_) (fun c_274 => ?_)
          ·
            try simp only [mIn_0, lgc_lt, lgc_gt, lgc_le, lgc_ge, lgc_eq] at c_274
            try simp only [fl_lt, fl_le, fl_eq, fL_w, fL_lt, fL_le, tm1, tm10k, tm9, tm99, Int32.reduceToInt, Int64.reduceToInt, Int.not_lt, Int.not_le] at c_274
            have hxx : fx [] [] [76, 77, 78, 79, 80, 81, 82] [] n z F G n z (va_up (va_up F 78 (upd (F 78) (Int32.toNatClampNeg xq) v1)) 79 (upd (F 79) (Int32.toNatClampNeg xq) y1)) G := (fx_F (fx_F fx_rf (by decide)) (by decide))
            have s76_ : (va_up (va_up F 78 (upd (F 78) (Int32.toNatClampNeg xq) v1)) 79 (upd (F 79) (Int32.toNatClampNeg xq) y1)) 76 = (F 76) := rfl
            have s78_ : (va_up (va_up F 78 (upd (F 78) (Int32.toNatClampNeg xq) v1)) 79 (upd (F 79) (Int32.toNatClampNeg xq) y1)) 78 = (upd (F 78) (Int32.toNatClampNeg xq) v1) := rfl
            have s79_ : (va_up (va_up F 78 (upd (F 78) (Int32.toNatClampNeg xq) v1)) 79 (upd (F 79) (Int32.toNatClampNeg xq) y1)) 79 = (upd (F 79) (Int32.toNatClampNeg xq) y1) := rfl
            have s80_ : (va_up (va_up F 78 (upd (F 78) (Int32.toNatClampNeg xq) v1)) 79 (upd (F 79) (Int32.toNatClampNeg xq) y1)) 80 = (F 80) := rfl
            have s81_ : (va_up (va_up F 78 (upd (F 78) (Int32.toNatClampNeg xq) v1)) 79 (upd (F 79) (Int32.toNatClampNeg xq) y1)) 81 = (F 81) := rfl
            have s82_ : (va_up (va_up F 78 (upd (F 78) (Int32.toNatClampNeg xq) v1)) 79 (upd (F 79) (Int32.toNatClampNeg xq) y1)) 82 = (F 82) := rfl
            have hN2 : NR (va_up (va_up F 78 (upd (F 78) (Int32.toNatClampNeg xq) v1)) 79 (upd (F 79) (Int32.toNatClampNeg xq) y1)) := by
              intro q hq
              obtain ⟨q1, q2, q3, q4, q5⟩ := hN q hq
              rw [s78_, s79_, s80_, s81_, s82_]
              simp only [updE]
              refine ⟨?_, ?_, ?_, ?_, ?_⟩ <;> (repeat' split) <;> omega
            have hoff : ∀ r, r ∈ [76, 78, 79, 80, 82] → ∀ i, i ≠ bn + kN → (va_up (va_up F 78 (upd (F 78) (Int32.toNatClampNeg xq) v1)) 79 (upd (F 79) (Int32.toNatClampNeg xq) y1)) r i = F r i := by
              intro r hr i hi
              rw [← ecx] at hi
              simp only [List.mem_cons, List.not_mem_nil, or_false] at hr
              rcases hr with rfl | rfl | rfl | rfl | rfl
              · rw [s76_]
              · rw [s78_, updE, if_neg hi]
              · rw [s79_, updE, if_neg hi]
              · rw [s80_]
              · rw [s82_]
            have hP2 : SHp (va_up (va_up F 78 (upd (F 78) (Int32.toNatClampNeg xq) v1)) 79 (upd (F 79) (Int32.toNatClampNeg xq) y1)) fo Wn bn (kk.toInt) := by rw [hkN.1]; exact SHp_off (F := F) rfl rfl rfl rfl hoff (by omega) (by rw [← hkN.1]; exact hP)
            have hn2 : nOK (va_up (va_up F 78 (upd (F 78) (Int32.toNatClampNeg xq) v1)) 79 (upd (F 79) (Int32.toNatClampNeg xq) y1)) fo Wn bn kN := nOK_set (F := F) (v := v1) (y := y1) rfl rfl rfl rfl (by rw [← ecx, s80_, h80]; exact hwq) (by rw [← ecx, ← ecw, s76_]; exact h76) (by rw [← ecx, s78_, updE, if_pos rfl]) (by rw [← ecx, s79_, updE, if_pos rfl]) qu1 (fun _ => by omega) (fun q => by exfalso; rw [← ecw] at q; omega)
            refine gz_sub (lv' := [(7, .int xq), (5, .int kk), (0, .ref m), (1, .int x1), (2, .int x2), (3, .int bs), (4, .int nb)]) (by simp [List.lookup]) ?_
            exact l_X12_shortensB hb hf hkN hxq hq 1 _ _ _ _ _ hS_2 (fx_F (fx_F hx (by decide)) (by decide)) (RI_fx hR hxx (by decide) (by decide)) hfo hN2 hW6 hP2 hn2 (by decide)
          ·
            try simp only [mIn_0, lgc_lt, lgc_gt, lgc_le, lgc_ge, lgc_eq] at c_274
            try simp only [fl_lt, fl_le, fl_eq, fL_w, fL_lt, fL_le, tm1, tm10k, tm9, tm99, Int32.reduceToInt, Int64.reduceToInt, Int.not_lt, Int.not_le] at c_274
            refine gz_aload_n dX12_shortens_277 rfl rfl ?_
            refine mg_216 hS_2 dX12_shortens_278 ?_
            refine gz_iload dX12_shortens_281 rfl ?_
            refine m_iald 78 hS_2 rfl (N := 82) rfl ((by exact vin_T (rfl : xq.toInt = xq.toInt) (by omega) (by omega))) dX12_shortens_283 ?_
            refine gz_ev (w := .int ((upd (F 78) (Int32.toNatClampNeg xq) v1) (Int32.toNatClampNeg xq))) rfl ?_
            refine gz_ev (w := .int v1) (congrArg Value.int (by rw [updE, if_pos rfl])) ?_
            refine gz_istore (lv' := [(10, .int v1), (9, .int pr), (8, .int lf), (7, .int xq), (6, .int wq), (5, .int kk), (0, .ref m), (1, .int x1), (2, .int x2), (3, .int bs), (4, .int nb)]) dX12_shortens_284 (by decide) rfl ?_
            refine gz_aload_n dX12_shortens_286 rfl rfl ?_
            refine mg_213 hS_2 dX12_shortens_287 ?_
            refine gz_iload dX12_shortens_290 rfl ?_
            refine gz_aload_n dX12_shortens_292 rfl rfl ?_
            refine mg_213 hS_2 dX12_shortens_293 ?_
            refine gz_iload dX12_shortens_296 rfl ?_
            refine m_iald 77 hS_2 rfl (N := 82) rfl ((by exact vin_T (rfl : v1.toInt = v1.toInt) (by omega) (by omega))) dX12_shortens_298 ?_
            refine gz_ev (w := .int ((F 77) (Int32.toNatClampNeg v1))) rfl ?_
            refine gz_aload_n dX12_shortens_299 rfl rfl ?_
            refine mg_213 hS_2 dX12_shortens_300 ?_
            refine gz_iload dX12_shortens_303 rfl ?_
            refine m_iald 77 hS_2 rfl (N := 82) rfl ((by exact vin_T (rfl : xq.toInt = xq.toInt) (by omega) (by omega))) dX12_shortens_305 ?_
            refine gz_ev (w := .int ((F 77) (Int32.toNatClampNeg xq))) rfl ?_
            refine gz_icmp_ge (tgt := 319) dX12_shortens_306 (by decide) (fun c_306 => ?_) (fun c_306 => ?_)
            ·
              try simp only [mIn_0, lgc_lt, lgc_gt, lgc_le, lgc_ge, lgc_eq] at c_306
              try simp only [fl_lt, fl_le, fl_eq, fL_w, fL_lt, fL_le, tm1, tm10k, tm9, tm99, Int32.reduceToInt, Int64.reduceToInt, Int.not_lt, Int.not_le] at c_306
              refine gz_aload_n dX12_shortens_319 rfl rfl ?_
              refine mg_213 hS_2 dX12_shortens_320 ?_
              refine gz_iload dX12_shortens_323 rfl ?_
              refine m_iald 77 hS_2 rfl (N := 82) rfl ((by exact vin_T (rfl : xq.toInt = xq.toInt) (by omega) (by omega))) dX12_shortens_325 ?_
              refine gz_ev (w := .int ((F 77) (Int32.toNatClampNeg xq))) rfl ?_
              refine m_iast 77 hS_2 rfl (N := 82) rfl ((by exact vin_T (rfl : xq.toInt = xq.toInt) (by omega) (by omega))) dX12_shortens_326 (fun f_3 hS_3q => ?_)
              have hS_3 : mS cy m a f0 n z (va_up (va_up (va_up F 78 (upd (F 78) (Int32.toNatClampNeg xq) v1)) 79 (upd (F 79) (Int32.toNatClampNeg xq) y1)) 77 (upd (F 77) (Int32.toNatClampNeg xq) ((F 77) (Int32.toNatClampNeg xq)))) G f_3 := hS_3q
              refine gz_aload_n dX12_shortens_327 rfl rfl ?_
              refine mg_216 hS_3 dX12_shortens_328 ?_
              refine gz_iload dX12_shortens_331 rfl ?_
              refine gz_aload_n dX12_shortens_333 rfl rfl ?_
              refine mg_216 hS_3 dX12_shortens_334 ?_
              refine gz_iload dX12_shortens_337 rfl ?_
              refine m_iald 78 hS_3 rfl (N := 82) rfl ((by exact vin_T (rfl : v1.toInt = v1.toInt) (by omega) (by omega))) dX12_shortens_339 ?_
              refine gz_ev (w := .int ((upd (F 78) (Int32.toNatClampNeg xq) v1) (Int32.toNatClampNeg v1))) rfl ?_
              have hne1 : Int32.toNatClampNeg v1 ≠ (Int32.toNatClampNeg xq) := by rw [clN, clN]; omega
              obtain ⟨v2, hv2⟩ : ∃ v_, v_ = (F 78 (Int32.toNatClampNeg v1)) := ⟨_, rfl⟩
              refine gz_ev (w := .int v2) (congrArg Value.int (by rw [updE, if_neg hne1]; exact hv2.symm)) ?_
              have hc10 : (F 76 v1.toInt.toNat).toInt = 10 := by have q9 : (F 76 (Int32.toNatClampNeg v1)).toInt = 10 := (by omega); exact q9
              have qcap := cap_in (v := v1) (by omega) (by omega) (by rw [← hkN.1]; exact hP) qu1 (by omega) hc10
              rw [show F 78 v1.toInt.toNat = v2 from hv2.symm] at qcap
              have qv2 : 0 ≤ v2.toInt ∧ v2.toInt < 82 ∧ v2.toInt ≠ xq.toInt := by rcases qcap.1 with z | ⟨j, z1, z2, z3⟩ <;> omega
              refine m_iast 78 hS_3 rfl (N := 82) rfl ((by exact vin_T (rfl : xq.toInt = xq.toInt) (by omega) (by omega))) dX12_shortens_340 (fun f_4 hS_4q => ?_)
              have hS_4 : mS cy m a f0 n z (va_up (va_up (va_up (va_up F 78 (upd (F 78) (Int32.toNatClampNeg xq) v1)) 79 (upd (F 79) (Int32.toNatClampNeg xq) y1)) 77 (upd (F 77) (Int32.toNatClampNeg xq) ((F 77) (Int32.toNatClampNeg xq)))) 78 (upd (upd (F 78) (Int32.toNatClampNeg xq) v1) (Int32.toNatClampNeg xq) v2)) G f_4 := hS_4q
              have hxx : fx [] [] [76, 77, 78, 79, 80, 81, 82] [] n z F G n z (va_up (va_up (va_up (va_up F 78 (upd (F 78) (Int32.toNatClampNeg xq) v1)) 79 (upd (F 79) (Int32.toNatClampNeg xq) y1)) 77 (upd (F 77) (Int32.toNatClampNeg xq) ((F 77) (Int32.toNatClampNeg xq)))) 78 (upd (upd (F 78) (Int32.toNatClampNeg xq) v1) (Int32.toNatClampNeg xq) v2)) G := (fx_F (fx_F (fx_F (fx_F fx_rf (by decide)) (by decide)) (by decide)) (by decide))
              have s76_ : (va_up (va_up (va_up (va_up F 78 (upd (F 78) (Int32.toNatClampNeg xq) v1)) 79 (upd (F 79) (Int32.toNatClampNeg xq) y1)) 77 (upd (F 77) (Int32.toNatClampNeg xq) ((F 77) (Int32.toNatClampNeg xq)))) 78 (upd (upd (F 78) (Int32.toNatClampNeg xq) v1) (Int32.toNatClampNeg xq) v2)) 76 = (F 76) := rfl
              have s78_ : (va_up (va_up (va_up (va_up F 78 (upd (F 78) (Int32.toNatClampNeg xq) v1)) 79 (upd (F 79) (Int32.toNatClampNeg xq) y1)) 77 (upd (F 77) (Int32.toNatClampNeg xq) ((F 77) (Int32.toNatClampNeg xq)))) 78 (upd (upd (F 78) (Int32.toNatClampNeg xq) v1) (Int32.toNatClampNeg xq) v2)) 78 = (upd (upd (F 78) (Int32.toNatClampNeg xq) v1) (Int32.toNatClampNeg xq) v2) := rfl
              have s79_ : (va_up (va_up (va_up (va_up F 78 (upd (F 78) (Int32.toNatClampNeg xq) v1)) 79 (upd (F 79) (Int32.toNatClampNeg xq) y1)) 77 (upd (F 77) (Int32.toNatClampNeg xq) ((F 77) (Int32.toNatClampNeg xq)))) 78 (upd (upd (F 78) (Int32.toNatClampNeg xq) v1) (Int32.toNatClampNeg xq) v2)) 79 = (upd (F 79) (Int32.toNatClampNeg xq) y1) := rfl
              have s80_ : (va_up (va_up (va_up (va_up F 78 (upd (F 78) (Int32.toNatClampNeg xq) v1)) 79 (upd (F 79) (Int32.toNatClampNeg xq) y1)) 77 (upd (F 77) (Int32.toNatClampNeg xq) ((F 77) (Int32.toNatClampNeg xq)))) 78 (upd (upd (F 78) (Int32.toNatClampNeg xq) v1) (Int32.toNatClampNeg xq) v2)) 80 = (F 80) := rfl
              have s81_ : (va_up (va_up (va_up (va_up F 78 (upd (F 78) (Int32.toNatClampNeg xq) v1)) 79 (upd (F 79) (Int32.toNatClampNeg xq) y1)) 77 (upd (F 77) (Int32.toNatClampNeg xq) ((F 77) (Int32.toNatClampNeg xq)))) 78 (upd (upd (F 78) (Int32.toNatClampNeg xq) v1) (Int32.toNatClampNeg xq) v2)) 81 = (F 81) := rfl
              have s82_ : (va_up (va_up (va_up (va_up F 78 (upd (F 78) (Int32.toNatClampNeg xq) v1)) 79 (upd (F 79) (Int32.toNatClampNeg xq) y1)) 77 (upd (F 77) (Int32.toNatClampNeg xq) ((F 77) (Int32.toNatClampNeg xq)))) 78 (upd (upd (F 78) (Int32.toNatClampNeg xq) v1) (Int32.toNatClampNeg xq) v2)) 82 = (F 82) := rfl
              have hN2 : NR (va_up (va_up (va_up (va_up F 78 (upd (F 78) (Int32.toNatClampNeg xq) v1)) 79 (upd (F 79) (Int32.toNatClampNeg xq) y1)) 77 (upd (F 77) (Int32.toNatClampNeg xq) ((F 77) (Int32.toNatClampNeg xq)))) 78 (upd (upd (F 78) (Int32.toNatClampNeg xq) v1) (Int32.toNatClampNeg xq) v2)) := by
                intro q hq
                obtain ⟨q1, q2, q3, q4, q5⟩ := hN q hq
                rw [s78_, s79_, s80_, s81_, s82_]
                simp only [updE]
                refine ⟨?_, ?_, ?_, ?_, ?_⟩ <;> (repeat' split) <;> omega
              have hoff : ∀ r, r ∈ [76, 78, 79, 80, 82] → ∀ i, i ≠ bn + kN → (va_up (va_up (va_up (va_up F 78 (upd (F 78) (Int32.toNatClampNeg xq) v1)) 79 (upd (F 79) (Int32.toNatClampNeg xq) y1)) 77 (upd (F 77) (Int32.toNatClampNeg xq) ((F 77) (Int32.toNatClampNeg xq)))) 78 (upd (upd (F 78) (Int32.toNatClampNeg xq) v1) (Int32.toNatClampNeg xq) v2)) r i = F r i := by
                intro r hr i hi
                rw [← ecx] at hi
                simp only [List.mem_cons, List.not_mem_nil, or_false] at hr
                rcases hr with rfl | rfl | rfl | rfl | rfl
                · rw [s76_]
                · rw [s78_, updE, if_neg hi, updE, if_neg hi]
                · rw [s79_, updE, if_neg hi]
                · rw [s80_]
                · rw [s82_]
              have hP2 : SHp (va_up (va_up (va_up (va_up F 78 (upd (F 78) (Int32.toNatClampNeg xq) v1)) 79 (upd (F 79) (Int32.toNatClampNeg xq) y1)) 77 (upd (F 77) (Int32.toNatClampNeg xq) ((F 77) (Int32.toNatClampNeg xq)))) 78 (upd (upd (F 78) (Int32.toNatClampNeg xq) v1) (Int32.toNatClampNeg xq) v2)) fo Wn bn (kk.toInt) := by rw [hkN.1]; exact SHp_off (F := F) rfl rfl rfl rfl hoff (by omega) (by rw [← hkN.1]; exact hP)
              have hn2 : nOK (va_up (va_up (va_up (va_up F 78 (upd (F 78) (Int32.toNatClampNeg xq) v1)) 79 (upd (F 79) (Int32.toNatClampNeg xq) y1)) 77 (upd (F 77) (Int32.toNatClampNeg xq) ((F 77) (Int32.toNatClampNeg xq)))) 78 (upd (upd (F 78) (Int32.toNatClampNeg xq) v1) (Int32.toNatClampNeg xq) v2)) fo Wn bn kN := nOK_set (F := F) (v := v2) (y := y1) rfl rfl rfl rfl (by rw [← ecx, s80_, h80]; exact hwq) (by rw [← ecx, ← ecw, s76_]; exact h76) (by rw [← ecx, s78_, updE, if_pos rfl]) (by rw [← ecx, s79_, updE, if_pos rfl]) qcap.1 (fun _ => qcap.2) (fun q => by exfalso; rw [← ecw] at q; omega)
              refine gz_sub (lv' := [(7, .int xq), (5, .int kk), (0, .ref m), (1, .int x1), (2, .int x2), (3, .int bs), (4, .int nb)]) (by simp [List.lookup]) ?_
              exact l_X12_shortensB hb hf hkN hxq hq 1 _ _ _ _ _ hS_4 (fx_F (fx_F (fx_F (fx_F hx (by decide)) (by decide)) (by decide)) (by decide)) (RI_fx hR hxx (by decide) (by decide)) hfo hN2 hW6 hP2 hn2 (by decide)
            ·
              try simp only [mIn_0, lgc_lt, lgc_gt, lgc_le, lgc_ge, lgc_eq] at c_306
              try simp only [fl_lt, fl_le, fl_eq, fL_w, fL_lt, fL_le, tm1, tm10k, tm9, tm99, Int32.reduceToInt, Int64.reduceToInt, Int.not_lt, Int.not_le] at c_306
              refine gz_aload_n dX12_shortens_309 rfl rfl ?_
              refine mg_213 hS_2 dX12_shortens_310 ?_
              refine gz_iload dX12_shortens_313 rfl ?_
              refine m_iald 77 hS_2 rfl (N := 82) rfl ((by exact vin_T (rfl : v1.toInt = v1.toInt) (by omega) (by omega))) dX12_shortens_315 ?_
              refine gz_ev (w := .int ((F 77) (Int32.toNatClampNeg v1))) rfl ?_
              refine gz_goto (tgt := 326) dX12_shortens_316 (by decide) ?_
              refine m_iast 77 hS_2 rfl (N := 82) rfl ((by exact vin_T (rfl : xq.toInt = xq.toInt) (by omega) (by omega))) dX12_shortens_326 (fun f_5 hS_5q => ?_)
              have hS_5 : mS cy m a f0 n z (va_up (va_up (va_up F 78 (upd (F 78) (Int32.toNatClampNeg xq) v1)) 79 (upd (F 79) (Int32.toNatClampNeg xq) y1)) 77 (upd (F 77) (Int32.toNatClampNeg xq) ((F 77) (Int32.toNatClampNeg v1)))) G f_5 := hS_5q
              refine gz_aload_n dX12_shortens_327 rfl rfl ?_
              refine mg_216 hS_5 dX12_shortens_328 ?_
              refine gz_iload dX12_shortens_331 rfl ?_
              refine gz_aload_n dX12_shortens_333 rfl rfl ?_
              refine mg_216 hS_5 dX12_shortens_334 ?_
              refine gz_iload dX12_shortens_337 rfl ?_
              refine m_iald 78 hS_5 rfl (N := 82) rfl ((by exact vin_T (rfl : v1.toInt = v1.toInt) (by omega) (by omega))) dX12_shortens_339 ?_
              refine gz_ev (w := .int ((upd (F 78) (Int32.toNatClampNeg xq) v1) (Int32.toNatClampNeg v1))) rfl ?_
              have hne1 : Int32.toNatClampNeg v1 ≠ (Int32.toNatClampNeg xq) := by rw [clN, clN]; omega
              obtain ⟨v2, hv2⟩ : ∃ v_, v_ = (F 78 (Int32.toNatClampNeg v1)) := ⟨_, rfl⟩
              refine gz_ev (w := .int v2) (congrArg Value.int (by rw [updE, if_neg hne1]; exact hv2.symm)) ?_
              have hc10 : (F 76 v1.toInt.toNat).toInt = 10 := by have q9 : (F 76 (Int32.toNatClampNeg v1)).toInt = 10 := (by omega); exact q9
              have qcap := cap_in (v := v1) (by omega) (by omega) (by rw [← hkN.1]; exact hP) qu1 (by omega) hc10
              rw [show F 78 v1.toInt.toNat = v2 from hv2.symm] at qcap
              have qv2 : 0 ≤ v2.toInt ∧ v2.toInt < 82 ∧ v2.toInt ≠ xq.toInt := by rcases qcap.1 with z | ⟨j, z1, z2, z3⟩ <;> omega
              refine m_iast 78 hS_5 rfl (N := 82) rfl ((by exact vin_T (rfl : xq.toInt = xq.toInt) (by omega) (by omega))) dX12_shortens_340 (fun f_6 hS_6q => ?_)
              have hS_6 : mS cy m a f0 n z (va_up (va_up (va_up (va_up F 78 (upd (F 78) (Int32.toNatClampNeg xq) v1)) 79 (upd (F 79) (Int32.toNatClampNeg xq) y1)) 77 (upd (F 77) (Int32.toNatClampNeg xq) ((F 77) (Int32.toNatClampNeg v1)))) 78 (upd (upd (F 78) (Int32.toNatClampNeg xq) v1) (Int32.toNatClampNeg xq) v2)) G f_6 := hS_6q
              have hxx : fx [] [] [76, 77, 78, 79, 80, 81, 82] [] n z F G n z (va_up (va_up (va_up (va_up F 78 (upd (F 78) (Int32.toNatClampNeg xq) v1)) 79 (upd (F 79) (Int32.toNatClampNeg xq) y1)) 77 (upd (F 77) (Int32.toNatClampNeg xq) ((F 77) (Int32.toNatClampNeg v1)))) 78 (upd (upd (F 78) (Int32.toNatClampNeg xq) v1) (Int32.toNatClampNeg xq) v2)) G := (fx_F (fx_F (fx_F (fx_F fx_rf (by decide)) (by decide)) (by decide)) (by decide))
              have s76_ : (va_up (va_up (va_up (va_up F 78 (upd (F 78) (Int32.toNatClampNeg xq) v1)) 79 (upd (F 79) (Int32.toNatClampNeg xq) y1)) 77 (upd (F 77) (Int32.toNatClampNeg xq) ((F 77) (Int32.toNatClampNeg v1)))) 78 (upd (upd (F 78) (Int32.toNatClampNeg xq) v1) (Int32.toNatClampNeg xq) v2)) 76 = (F 76) := rfl
              have s78_ : (va_up (va_up (va_up (va_up F 78 (upd (F 78) (Int32.toNatClampNeg xq) v1)) 79 (upd (F 79) (Int32.toNatClampNeg xq) y1)) 77 (upd (F 77) (Int32.toNatClampNeg xq) ((F 77) (Int32.toNatClampNeg v1)))) 78 (upd (upd (F 78) (Int32.toNatClampNeg xq) v1) (Int32.toNatClampNeg xq) v2)) 78 = (upd (upd (F 78) (Int32.toNatClampNeg xq) v1) (Int32.toNatClampNeg xq) v2) := rfl
              have s79_ : (va_up (va_up (va_up (va_up F 78 (upd (F 78) (Int32.toNatClampNeg xq) v1)) 79 (upd (F 79) (Int32.toNatClampNeg xq) y1)) 77 (upd (F 77) (Int32.toNatClampNeg xq) ((F 77) (Int32.toNatClampNeg v1)))) 78 (upd (upd (F 78) (Int32.toNatClampNeg xq) v1) (Int32.toNatClampNeg xq) v2)) 79 = (upd (F 79) (Int32.toNatClampNeg xq) y1) := rfl
              have s80_ : (va_up (va_up (va_up (va_up F 78 (upd (F 78) (Int32.toNatClampNeg xq) v1)) 79 (upd (F 79) (Int32.toNatClampNeg xq) y1)) 77 (upd (F 77) (Int32.toNatClampNeg xq) ((F 77) (Int32.toNatClampNeg v1)))) 78 (upd (upd (F 78) (Int32.toNatClampNeg xq) v1) (Int32.toNatClampNeg xq) v2)) 80 = (F 80) := rfl
              have s81_ : (va_up (va_up (va_up (va_up F 78 (upd (F 78) (Int32.toNatClampNeg xq) v1)) 79 (upd (F 79) (Int32.toNatClampNeg xq) y1)) 77 (upd (F 77) (Int32.toNatClampNeg xq) ((F 77) (Int32.toNatClampNeg v1)))) 78 (upd (upd (F 78) (Int32.toNatClampNeg xq) v1) (Int32.toNatClampNeg xq) v2)) 81 = (F 81) := rfl
              have s82_ : (va_up (va_up (va_up (va_up F 78 (upd (F 78) (Int32.toNatClampNeg xq) v1)) 79 (upd (F 79) (Int32.toNatClampNeg xq) y1)) 77 (upd (F 77) (Int32.toNatClampNeg xq) ((F 77) (Int32.toNatClampNeg v1)))) 78 (upd (upd (F 78) (Int32.toNatClampNeg xq) v1) (Int32.toNatClampNeg xq) v2)) 82 = (F 82) := rfl
              have hN2 : NR (va_up (va_up (va_up (va_up F 78 (upd (F 78) (Int32.toNatClampNeg xq) v1)) 79 (upd (F 79) (Int32.toNatClampNeg xq) y1)) 77 (upd (F 77) (Int32.toNatClampNeg xq) ((F 77) (Int32.toNatClampNeg v1)))) 78 (upd (upd (F 78) (Int32.toNatClampNeg xq) v1) (Int32.toNatClampNeg xq) v2)) := by
                intro q hq
                obtain ⟨q1, q2, q3, q4, q5⟩ := hN q hq
                rw [s78_, s79_, s80_, s81_, s82_]
                simp only [updE]
                refine ⟨?_, ?_, ?_, ?_, ?_⟩ <;> (repeat' split) <;> omega
              have hoff : ∀ r, r ∈ [76, 78, 79, 80, 82] → ∀ i, i ≠ bn + kN → (va_up (va_up (va_up (va_up F 78 (upd (F 78) (Int32.toNatClampNeg xq) v1)) 79 (upd (F 79) (Int32.toNatClampNeg xq) y1)) 77 (upd (F 77) (Int32.toNatClampNeg xq) ((F 77) (Int32.toNatClampNeg v1)))) 78 (upd (upd (F 78) (Int32.toNatClampNeg xq) v1) (Int32.toNatClampNeg xq) v2)) r i = F r i := by
                intro r hr i hi
                rw [← ecx] at hi
                simp only [List.mem_cons, List.not_mem_nil, or_false] at hr
                rcases hr with rfl | rfl | rfl | rfl | rfl
                · rw [s76_]
                · rw [s78_, updE, if_neg hi, updE, if_neg hi]
                · rw [s79_, updE, if_neg hi]
                · rw [s80_]
                · rw [s82_]
              have hP2 : SHp (va_up (va_up (va_up (va_up F 78 (upd (F 78) (Int32.toNatClampNeg xq) v1)) 79 (upd (F 79) (Int32.toNatClampNeg xq) y1)) 77 (upd (F 77) (Int32.toNatClampNeg xq) ((F 77) (Int32.toNatClampNeg v1)))) 78 (upd (upd (F 78) (Int32.toNatClampNeg xq) v1) (Int32.toNatClampNeg xq) v2)) fo Wn bn (kk.toInt) := by rw [hkN.1]; exact SHp_off (F := F) rfl rfl rfl rfl hoff (by omega) (by rw [← hkN.1]; exact hP)
              have hn2 : nOK (va_up (va_up (va_up (va_up F 78 (upd (F 78) (Int32.toNatClampNeg xq) v1)) 79 (upd (F 79) (Int32.toNatClampNeg xq) y1)) 77 (upd (F 77) (Int32.toNatClampNeg xq) ((F 77) (Int32.toNatClampNeg v1)))) 78 (upd (upd (F 78) (Int32.toNatClampNeg xq) v1) (Int32.toNatClampNeg xq) v2)) fo Wn bn kN := nOK_set (F := F) (v := v2) (y := y1) rfl rfl rfl rfl (by rw [← ecx, s80_, h80]; exact hwq) (by rw [← ecx, ← ecw, s76_]; exact h76) (by rw [← ecx, s78_, updE, if_pos rfl]) (by rw [← ecx, s79_, updE, if_pos rfl]) qcap.1 (fun _ => qcap.2) (fun q => by exfalso; rw [← ecw] at q; omega)
              refine gz_sub (lv' := [(7, .int xq), (5, .int kk), (0, .ref m), (1, .int x1), (2, .int x2), (3, .int bs), (4, .int nb)]) (by simp [List.lookup]) ?_
              exact l_X12_shortensB hb hf hkN hxq hq 1 _ _ _ _ _ hS_6 (fx_F (fx_F (fx_F (fx_F hx (by decide)) (by decide)) (by decide)) (by decide)) (RI_fx hR hxx (by decide) (by decide)) hfo hN2 hW6 hP2 hn2 (by decide)
      ·
        try simp only [mIn_0, lgc_lt, lgc_gt, lgc_le, lgc_ge, lgc_eq] at c_222
        try simp only [fl_lt, fl_le, fl_eq, fL_w, fL_lt, fL_le, tm1, tm10k, tm9, tm99, Int32.reduceToInt, Int64.reduceToInt, Int.not_lt, Int.not_le] at c_222
        obtain ⟨u, hu1, hu2, hu3⟩ := ht4w 0 (by rw [← ecw]; omega)
        rw [← ecw] at hu1
        have qr2 : ((F 12 (Int32.toNatClampNeg wq)) - (F 12 (Int32.toNatClampNeg wq)) / 40 * 40).toInt = u := by have q := T_sub (rfl : (F 12 (Int32.toNatClampNeg wq)).toInt = (F 12 (Int32.toNatClampNeg wq)).toInt) (T_mul (T_div (rfl : (F 12 (Int32.toNatClampNeg wq)).toInt = (F 12 (Int32.toNatClampNeg wq)).toInt) (show (40 : Int32).toInt = 40 from rfl) (by omega) (by decide)) (show (40 : Int32).toInt = 40 from rfl) (by omega)) (by omega); omega
        have qix2 : (bs + ((F 12 (Int32.toNatClampNeg wq)) - (F 12 (Int32.toNatClampNeg wq)) / 40 * 40)).toInt = (bn : Int) + u := by have q := T_add (rfl : bs.toInt = bs.toInt) qr2 (by omega); omega
        have qcl2 : Int32.toNatClampNeg (bs + ((F 12 (Int32.toNatClampNeg wq)) - (F 12 (Int32.toNatClampNeg wq)) / 40 * 40)) = bn + u := by rw [clN]; omega
        refine gz_aload_n dX12_shortens_225 rfl rfl ?_
        refine mg_228 hS_1 dX12_shortens_226 ?_
        refine gz_iload_n dX12_shortens_229 rfl rfl ?_
        refine gz_aload_n dX12_shortens_230 rfl rfl ?_
        refine mg_35 hS_1 dX12_shortens_231 ?_
        refine gz_iload dX12_shortens_234 rfl ?_
        refine m_iald 12 hS_1 rfl (N := 880) rfl ((by exact vin_T (rfl : wq.toInt = wq.toInt) (by omega) (by omega))) dX12_shortens_236 ?_
        refine gz_ev (w := .int ((F 12) (Int32.toNatClampNeg wq))) rfl ?_
        refine gz_bipush (v := 40) dX12_shortens_237 (by decide) ?_
        refine gz_irem dX12_shortens_239 (by decide) ?_
        refine gz_iadd dX12_shortens_240 ?_
        refine m_iald 82 hS_1 rfl (N := 82) rfl ((by exact vin_T qix2 (by omega) (by omega))) dX12_shortens_241 ?_
        refine gz_ev (w := .int ((F 82) (Int32.toNatClampNeg (bs + (((F 12) (Int32.toNatClampNeg wq)) - ((F 12) (Int32.toNatClampNeg wq)) / 40 * 40))))) rfl ?_
        refine gz_goto (tgt := 247) dX12_shortens_242 (by decide) ?_
        obtain ⟨y1, hy1⟩ : ∃ v_, v_ = ((F 82) (Int32.toNatClampNeg (bs + (((F 12) (Int32.toNatClampNeg wq)) - ((F 12) (Int32.toNatClampNeg wq)) / 40 * 40)))) := ⟨_, rfl⟩
        refine gz_ev (w := .int y1) (congrArg Value.int hy1.symm) ?_
        have hu0 : kN < u := by have z7 := eN_gt (F := F) (f := fo) (k := t) (W := Wn) (by omega); omega
        have qc2 := rN_child (by omega) (by omega) hu0 hu3 (hP.2 u (by omega) (by omega)).2
        rw [← qcl2, ← hy1] at qc2
        have qs2 := two_sz (F := F) (f := fo) (W := Wn) (k := kN) (t := t) (u := u) (by omega) ht2 ht3 hu2 hu3
        have qy1 : 0 ≤ y1.toInt ∧ y1.toInt < 82 := by rcases qc2.1 with z | ⟨j, z1, z2, z3⟩ <;> omega
        refine m_iast 79 hS_1 rfl (N := 82) rfl ((by exact vin_T (rfl : xq.toInt = xq.toInt) (by omega) (by omega))) dX12_shortens_247 (fun f_7 hS_7q => ?_)
        have hS_7 : mS cy m a f0 n z (va_up (va_up F 78 (upd (F 78) (Int32.toNatClampNeg xq) v1)) 79 (upd (F 79) (Int32.toNatClampNeg xq) y1)) G f_7 := hS_7q
        refine gz_aload_n dX12_shortens_248 rfl rfl ?_
        refine mg_20 hS_7 dX12_shortens_249 ?_
        refine gz_iload dX12_shortens_252 rfl ?_
        refine m_iald 7 hS_7 rfl (N := 880) rfl ((by exact vin_T (rfl : wq.toInt = wq.toInt) (by omega) (by omega))) dX12_shortens_254 ?_
        refine gz_ev (w := .int ((F 7) (Int32.toNatClampNeg wq))) rfl ?_
        refine gz_bipush (v := 10) dX12_shortens_255 (by decide) ?_
        refine gz_icmp_ne (tgt := 341) dX12_shortens_257 (by decide) (fun c_257 => ?_) (fun c_257 => ?_)
        ·
          try simp only [mIn_0, lgc_lt, lgc_gt, lgc_le, lgc_ge, lgc_eq] at c_257
          try simp only [fl_lt, fl_le, fl_eq, fL_w, fL_lt, fL_le, tm1, tm10k, tm9, tm99, Int32.reduceToInt, Int64.reduceToInt, Int.not_lt, Int.not_le] at c_257
          have hxx : fx [] [] [76, 77, 78, 79, 80, 81, 82] [] n z F G n z (va_up (va_up F 78 (upd (F 78) (Int32.toNatClampNeg xq) v1)) 79 (upd (F 79) (Int32.toNatClampNeg xq) y1)) G := (fx_F (fx_F fx_rf (by decide)) (by decide))
          have s76_ : (va_up (va_up F 78 (upd (F 78) (Int32.toNatClampNeg xq) v1)) 79 (upd (F 79) (Int32.toNatClampNeg xq) y1)) 76 = (F 76) := rfl
          have s78_ : (va_up (va_up F 78 (upd (F 78) (Int32.toNatClampNeg xq) v1)) 79 (upd (F 79) (Int32.toNatClampNeg xq) y1)) 78 = (upd (F 78) (Int32.toNatClampNeg xq) v1) := rfl
          have s79_ : (va_up (va_up F 78 (upd (F 78) (Int32.toNatClampNeg xq) v1)) 79 (upd (F 79) (Int32.toNatClampNeg xq) y1)) 79 = (upd (F 79) (Int32.toNatClampNeg xq) y1) := rfl
          have s80_ : (va_up (va_up F 78 (upd (F 78) (Int32.toNatClampNeg xq) v1)) 79 (upd (F 79) (Int32.toNatClampNeg xq) y1)) 80 = (F 80) := rfl
          have s81_ : (va_up (va_up F 78 (upd (F 78) (Int32.toNatClampNeg xq) v1)) 79 (upd (F 79) (Int32.toNatClampNeg xq) y1)) 81 = (F 81) := rfl
          have s82_ : (va_up (va_up F 78 (upd (F 78) (Int32.toNatClampNeg xq) v1)) 79 (upd (F 79) (Int32.toNatClampNeg xq) y1)) 82 = (F 82) := rfl
          have hN2 : NR (va_up (va_up F 78 (upd (F 78) (Int32.toNatClampNeg xq) v1)) 79 (upd (F 79) (Int32.toNatClampNeg xq) y1)) := by
            intro q hq
            obtain ⟨q1, q2, q3, q4, q5⟩ := hN q hq
            rw [s78_, s79_, s80_, s81_, s82_]
            simp only [updE]
            refine ⟨?_, ?_, ?_, ?_, ?_⟩ <;> (repeat' split) <;> omega
          have hoff : ∀ r, r ∈ [76, 78, 79, 80, 82] → ∀ i, i ≠ bn + kN → (va_up (va_up F 78 (upd (F 78) (Int32.toNatClampNeg xq) v1)) 79 (upd (F 79) (Int32.toNatClampNeg xq) y1)) r i = F r i := by
            intro r hr i hi
            rw [← ecx] at hi
            simp only [List.mem_cons, List.not_mem_nil, or_false] at hr
            rcases hr with rfl | rfl | rfl | rfl | rfl
            · rw [s76_]
            · rw [s78_, updE, if_neg hi]
            · rw [s79_, updE, if_neg hi]
            · rw [s80_]
            · rw [s82_]
          have hP2 : SHp (va_up (va_up F 78 (upd (F 78) (Int32.toNatClampNeg xq) v1)) 79 (upd (F 79) (Int32.toNatClampNeg xq) y1)) fo Wn bn (kk.toInt) := by rw [hkN.1]; exact SHp_off (F := F) rfl rfl rfl rfl hoff (by omega) (by rw [← hkN.1]; exact hP)
          have hn2 : nOK (va_up (va_up F 78 (upd (F 78) (Int32.toNatClampNeg xq) v1)) 79 (upd (F 79) (Int32.toNatClampNeg xq) y1)) fo Wn bn kN := nOK_set (F := F) (v := v1) (y := y1) rfl rfl rfl rfl (by rw [← ecx, s80_, h80]; exact hwq) (by rw [← ecx, ← ecw, s76_]; exact h76) (by rw [← ecx, s78_, updE, if_pos rfl]) (by rw [← ecx, s79_, updE, if_pos rfl]) qu1 (fun _ => by omega) (fun _ => ⟨qc2.1, by omega, by omega⟩)
          refine gz_sub (lv' := [(7, .int xq), (5, .int kk), (0, .ref m), (1, .int x1), (2, .int x2), (3, .int bs), (4, .int nb)]) (by simp [List.lookup]) ?_
          exact l_X12_shortensB hb hf hkN hxq hq 1 _ _ _ _ _ hS_7 (fx_F (fx_F hx (by decide)) (by decide)) (RI_fx hR hxx (by decide) (by decide)) hfo hN2 hW6 hP2 hn2 (by decide)
        ·
          try simp only [mIn_0, lgc_lt, lgc_gt, lgc_le, lgc_ge, lgc_eq] at c_257
          try simp only [fl_lt, fl_le, fl_eq, fL_w, fL_lt, fL_le, tm1, tm10k, tm9, tm99, Int32.reduceToInt, Int64.reduceToInt, Int.not_lt, Int.not_le] at c_257
          exfalso; omega
    ·
      try simp only [mIn_0, lgc_lt, lgc_gt, lgc_le, lgc_ge, lgc_eq] at c_188
      try simp only [fl_lt, fl_le, fl_eq, fL_w, fL_lt, fL_le, tm1, tm10k, tm9, tm99, Int32.reduceToInt, Int64.reduceToInt, Int.not_lt, Int.not_le] at c_188
      refine gz_iload dX12_shortens_191 rfl ?_
      refine gz_goto (tgt := 213) dX12_shortens_193 (by decide) ?_
      obtain ⟨v1, hv1⟩ : ∃ v_, v_ = nb := ⟨_, rfl⟩
      refine gz_ev (w := .int v1) (congrArg Value.int hv1.symm) ?_
      have qu1 : uN F fo Wn bn kN v1.toInt := Or.inl (by rw [hv1]; omega)
      have qv1 : 0 ≤ v1.toInt ∧ v1.toInt < 82 ∧ v1.toInt ≠ xq.toInt := by rw [hv1]; omega
      refine m_iast 78 hS rfl (N := 82) rfl ((by exact vin_T (rfl : xq.toInt = xq.toInt) (by omega) (by omega))) dX12_shortens_213 (fun f_8 hS_8q => ?_)
      have hS_8 : mS cy m a f0 n z (va_up F 78 (upd (F 78) (Int32.toNatClampNeg xq) v1)) G f_8 := hS_8q
      refine gz_aload_n dX12_shortens_214 rfl rfl ?_
      refine mg_219 hS_8 dX12_shortens_215 ?_
      refine gz_iload dX12_shortens_218 rfl ?_
      refine gz_iload dX12_shortens_220 rfl ?_
      refine gz_if_eq (tgt := 245) dX12_shortens_222 (by decide) (fun c_222 => ?_) (fun c_222 => ?_)
      ·
        try simp only [mIn_0, lgc_lt, lgc_gt, lgc_le, lgc_ge, lgc_eq] at c_222
        try simp only [fl_lt, fl_le, fl_eq, fL_w, fL_lt, fL_le, tm1, tm10k, tm9, tm99, Int32.reduceToInt, Int64.reduceToInt, Int.not_lt, Int.not_le] at c_222
        refine gz_iload dX12_shortens_245 rfl ?_
        obtain ⟨y1, hy1⟩ : ∃ v_, v_ = nb := ⟨_, rfl⟩
        refine gz_ev (w := .int y1) (congrArg Value.int hy1.symm) ?_
        have qy1 : 0 ≤ y1.toInt ∧ y1.toInt < 82 := by rw [hy1]; omega
        refine m_iast 79 hS_8 rfl (N := 82) rfl ((by exact vin_T (rfl : xq.toInt = xq.toInt) (by omega) (by omega))) dX12_shortens_247 (fun f_9 hS_9q => ?_)
        have hS_9 : mS cy m a f0 n z (va_up (va_up F 78 (upd (F 78) (Int32.toNatClampNeg xq) v1)) 79 (upd (F 79) (Int32.toNatClampNeg xq) y1)) G f_9 := hS_9q
        refine gz_aload_n dX12_shortens_248 rfl rfl ?_
        refine mg_20 hS_9 dX12_shortens_249 ?_
        refine gz_iload dX12_shortens_252 rfl ?_
        refine m_iald 7 hS_9 rfl (N := 880) rfl ((by exact vin_T (rfl : wq.toInt = wq.toInt) (by omega) (by omega))) dX12_shortens_254 ?_
        refine gz_ev (w := .int ((F 7) (Int32.toNatClampNeg wq))) rfl ?_
        refine gz_bipush (v := 10) dX12_shortens_255 (by decide) ?_
        refine gz_icmp_ne (tgt := 341) dX12_shortens_257 (by decide) (fun c_257 => ?_) (fun c_257 => ?_)
        ·
          try simp only [mIn_0, lgc_lt, lgc_gt, lgc_le, lgc_ge, lgc_eq] at c_257
          try simp only [fl_lt, fl_le, fl_eq, fL_w, fL_lt, fL_le, tm1, tm10k, tm9, tm99, Int32.reduceToInt, Int64.reduceToInt, Int.not_lt, Int.not_le] at c_257
          have hxx : fx [] [] [76, 77, 78, 79, 80, 81, 82] [] n z F G n z (va_up (va_up F 78 (upd (F 78) (Int32.toNatClampNeg xq) v1)) 79 (upd (F 79) (Int32.toNatClampNeg xq) y1)) G := (fx_F (fx_F fx_rf (by decide)) (by decide))
          have s76_ : (va_up (va_up F 78 (upd (F 78) (Int32.toNatClampNeg xq) v1)) 79 (upd (F 79) (Int32.toNatClampNeg xq) y1)) 76 = (F 76) := rfl
          have s78_ : (va_up (va_up F 78 (upd (F 78) (Int32.toNatClampNeg xq) v1)) 79 (upd (F 79) (Int32.toNatClampNeg xq) y1)) 78 = (upd (F 78) (Int32.toNatClampNeg xq) v1) := rfl
          have s79_ : (va_up (va_up F 78 (upd (F 78) (Int32.toNatClampNeg xq) v1)) 79 (upd (F 79) (Int32.toNatClampNeg xq) y1)) 79 = (upd (F 79) (Int32.toNatClampNeg xq) y1) := rfl
          have s80_ : (va_up (va_up F 78 (upd (F 78) (Int32.toNatClampNeg xq) v1)) 79 (upd (F 79) (Int32.toNatClampNeg xq) y1)) 80 = (F 80) := rfl
          have s81_ : (va_up (va_up F 78 (upd (F 78) (Int32.toNatClampNeg xq) v1)) 79 (upd (F 79) (Int32.toNatClampNeg xq) y1)) 81 = (F 81) := rfl
          have s82_ : (va_up (va_up F 78 (upd (F 78) (Int32.toNatClampNeg xq) v1)) 79 (upd (F 79) (Int32.toNatClampNeg xq) y1)) 82 = (F 82) := rfl
          have hN2 : NR (va_up (va_up F 78 (upd (F 78) (Int32.toNatClampNeg xq) v1)) 79 (upd (F 79) (Int32.toNatClampNeg xq) y1)) := by
            intro q hq
            obtain ⟨q1, q2, q3, q4, q5⟩ := hN q hq
            rw [s78_, s79_, s80_, s81_, s82_]
            simp only [updE]
            refine ⟨?_, ?_, ?_, ?_, ?_⟩ <;> (repeat' split) <;> omega
          have hoff : ∀ r, r ∈ [76, 78, 79, 80, 82] → ∀ i, i ≠ bn + kN → (va_up (va_up F 78 (upd (F 78) (Int32.toNatClampNeg xq) v1)) 79 (upd (F 79) (Int32.toNatClampNeg xq) y1)) r i = F r i := by
            intro r hr i hi
            rw [← ecx] at hi
            simp only [List.mem_cons, List.not_mem_nil, or_false] at hr
            rcases hr with rfl | rfl | rfl | rfl | rfl
            · rw [s76_]
            · rw [s78_, updE, if_neg hi]
            · rw [s79_, updE, if_neg hi]
            · rw [s80_]
            · rw [s82_]
          have hP2 : SHp (va_up (va_up F 78 (upd (F 78) (Int32.toNatClampNeg xq) v1)) 79 (upd (F 79) (Int32.toNatClampNeg xq) y1)) fo Wn bn (kk.toInt) := by rw [hkN.1]; exact SHp_off (F := F) rfl rfl rfl rfl hoff (by omega) (by rw [← hkN.1]; exact hP)
          have hn2 : nOK (va_up (va_up F 78 (upd (F 78) (Int32.toNatClampNeg xq) v1)) 79 (upd (F 79) (Int32.toNatClampNeg xq) y1)) fo Wn bn kN := nOK_set (F := F) (v := v1) (y := y1) rfl rfl rfl rfl (by rw [← ecx, s80_, h80]; exact hwq) (by rw [← ecx, ← ecw, s76_]; exact h76) (by rw [← ecx, s78_, updE, if_pos rfl]) (by rw [← ecx, s79_, updE, if_pos rfl]) qu1 (fun q => by exfalso; rw [← ecw] at q; omega) (fun q => by exfalso; rw [← ecw] at q; omega)
          refine gz_sub (lv' := [(7, .int xq), (5, .int kk), (0, .ref m), (1, .int x1), (2, .int x2), (3, .int bs), (4, .int nb)]) (by simp [List.lookup]) ?_
          exact l_X12_shortensB hb hf hkN hxq hq 1 _ _ _ _ _ hS_9 (fx_F (fx_F hx (by decide)) (by decide)) (RI_fx hR hxx (by decide) (by decide)) hfo hN2 hW6 hP2 hn2 (by decide)
        ·
          try simp only [mIn_0, lgc_lt, lgc_gt, lgc_le, lgc_ge, lgc_eq] at c_257
          try simp only [fl_lt, fl_le, fl_eq, fL_w, fL_lt, fL_le, tm1, tm10k, tm9, tm99, Int32.reduceToInt, Int64.reduceToInt, Int.not_lt, Int.not_le] at c_257
          exfalso; omega
      ·
        try simp only [mIn_0, lgc_lt, lgc_gt, lgc_le, lgc_ge, lgc_eq] at c_222
        try simp only [fl_lt, fl_le, fl_eq, fL_w, fL_lt, fL_le, tm1, tm10k, tm9, tm99, Int32.reduceToInt, Int64.reduceToInt, Int.not_lt, Int.not_le] at c_222
        exfalso; omega

set_option maxHeartbeats 4000000 in
set_option maxRecDepth 100000 in
theorem l_X12_shortens {l : Launch} {D : va_G} {cy : Nat → ClassId} {b : Nat} {m : Nat} {a : Nat → Nat} {f0 : gMem} {n0 : Nat → Int32} {z0 : Nat → Int64} {F0 : Nat → Nat → Int32} {G0 : Nat → Nat → Int64}  {x1 x2 bs nb : Int32} {fo Wn bn : Nat} (hb : bs.toInt = (bn : Int) ∧ (bn = 0 ∨ bn = 41) ∧ nb.toInt = (bn : Int) + 40) (hf : x1.toInt = (fo : Int) ∧ fo < 20) : ∀ (k : Nat) (kk : Int32) (n : Nat → Int32) (z : Nat → Int64) (F : Nat → Nat → Int32) (G : Nat → Nat → Int64) (fm : gMem), mS cy m a f0 n z F G fm → fx [] [] [76, 77, 78, 79, 80, 81, 82] [] n0 z0 F0 G0 n z F G → (RI n F) → ((fo : Int) < (n 5).toInt) → (NR F) → ((F 6 fo).toInt = (Wn : Int)) → (SHp F fo Wn bn (kk.toInt)) → (-1 ≤ kk.toInt ∧ kk.toInt < (Wn : Int) ∧ Wn ≤ 40 ∧ kk.toInt + 2 ≤ (k : Int)) → gG l (gRm 3 0 0) (gQf D b (pV fun f2 => ∃ (n2 : Nat → Int32) (z2 : Nat → Int64) (F2 : Nat → Nat → Int32) (G2 : Nat → Nat → Int64), mS cy m a f0 n2 z2 F2 G2 f2 ∧ fx [] [] [76, 77, 78, 79, 80, 81, 82] [] n0 z0 F0 G0 n2 z2 F2 G2 ∧ NR F2 ∧ SHp F2 fo Wn bn (-1)) 0 0) gTt D cy b cX12_shortens 11 none RX12 "shortens" 0 0 fm 55 [(5, .int kk), (0, .ref m), (1, .int x1), (2, .int x2), (3, .int bs), (4, .int nb)] [] := by
  intro k
  induction k with
  | zero =>
    intro kk n z F G fm hS hx hR hfo hN hW6 hP hk
    exfalso; omega
  | succ k ih =>
    intro kk n z F G fm hS hx hR hfo hN hW6 hP hk
    obtain ⟨a0, a4, a5, bA, bW, a30, bL, a38, bP, a53, a47, a88⟩ := id hR
    refine gz_iload dX12_shortens_55 rfl ?_
    refine gz_if_lt (tgt := 458) dX12_shortens_57 (by decide) (fun c_57 => ?_) (fun c_57 => ?_)
    ·
      try simp only [mIn_0, lgc_lt, lgc_gt, lgc_le, lgc_ge, lgc_eq] at c_57
      try simp only [fl_lt, fl_le, fl_eq, fL_w, fL_lt, fL_le, tm1, tm10k, tm9, tm99, Int32.reduceToInt, Int64.reduceToInt, Int.not_lt, Int.not_le] at c_57
      exact gz_vret rfl dX12_shortens_458 (Nat.le_of_ble_eq_true rfl) (Nat.le_of_ble_eq_true rfl) (⟨rfl, _, _, _, _, hS, hx, hN, (by rw [show (-1 : Int) = kk.toInt by omega]; exact hP)⟩)
    ·
      try simp only [mIn_0, lgc_lt, lgc_gt, lgc_le, lgc_ge, lgc_eq] at c_57
      try simp only [fl_lt, fl_le, fl_eq, fL_w, fL_lt, fL_le, tm1, tm10k, tm9, tm99, Int32.reduceToInt, Int64.reduceToInt, Int.not_lt, Int.not_le] at c_57
      refine gz_bipush (v := 40) dX12_shortens_60 (by decide) ?_
      refine gz_iload_n dX12_shortens_62 rfl rfl ?_
      refine gz_imul dX12_shortens_63 ?_
      refine gz_iload dX12_shortens_64 rfl ?_
      refine gz_iadd dX12_shortens_66 ?_
      obtain ⟨wq, hwq⟩ : ∃ v_, v_ = ((40 * x1) + kk) := ⟨_, rfl⟩
      refine gz_ev (w := .int wq) (congrArg Value.int hwq.symm) ?_
      obtain ⟨kN, hkN⟩ : ∃ kN : Nat, kk.toInt = kN := ⟨kk.toInt.toNat, by omega⟩
      have qw : wq.toInt = 40 * (fo : Int) + kN := by rw [hwq]; have q := (T_add (T_mul (show (40 : Int32).toInt = 40 from rfl) (rfl : (x1).toInt = (x1).toInt) (by omega)) (rfl : (kk).toInt = (kk).toInt) (by omega)); omega
      have ecw : (Int32.toNatClampNeg wq) = 40 * fo + kN := by rw [clN]; omega
      have hkW : kN < (F 6 fo).toInt.toNat := by omega
      have qO := (bW fo hfo).2.1 kN hkW
      have qWn : (F 6 fo).toInt.toNat = Wn := by omega
      rw [qWn] at qO
      have qki : 0 ≤ (F 7 (Int32.toNatClampNeg wq)).toInt := by rw [ecw]; exact qO.1.1
      refine gz_istore (lv' := [(6, .int wq), (5, .int kk), (0, .ref m), (1, .int x1), (2, .int x2), (3, .int bs), (4, .int nb)]) dX12_shortens_67 (by decide) rfl ?_
      refine gz_iload_n dX12_shortens_69 rfl rfl ?_
      refine gz_iload dX12_shortens_70 rfl ?_
      refine gz_iadd dX12_shortens_72 ?_
      obtain ⟨xq, hxq⟩ : ∃ v_, v_ = (bs + kk) := ⟨_, rfl⟩
      refine gz_ev (w := .int xq) (congrArg Value.int hxq.symm) ?_
      have qx : xq.toInt = (bn : Int) + kN := by rw [hxq]; have q := (T_add (rfl : (bs).toInt = (bs).toInt) (rfl : (kk).toInt = (kk).toInt) (by omega)); omega
      have ecx : (Int32.toNatClampNeg xq) = bn + kN := by rw [clN]; omega
      refine gz_istore (lv' := [(7, .int xq), (6, .int wq), (5, .int kk), (0, .ref m), (1, .int x1), (2, .int x2), (3, .int bs), (4, .int nb)]) dX12_shortens_73 (by decide) rfl ?_
      refine gz_aload_n dX12_shortens_75 rfl rfl ?_
      refine mg_210 hS dX12_shortens_76 ?_
      refine gz_iload dX12_shortens_79 rfl ?_
      refine gz_aload_n dX12_shortens_81 rfl rfl ?_
      refine mg_20 hS dX12_shortens_82 ?_
      refine gz_iload dX12_shortens_85 rfl ?_
      refine m_iald 7 hS rfl (N := 880) rfl ((by exact vin_T (rfl : wq.toInt = wq.toInt) (by omega) (by omega))) dX12_shortens_87 ?_
      refine m_iast 76 hS rfl (N := 82) rfl ((by exact vin_T (rfl : xq.toInt = xq.toInt) (by omega) (by omega))) dX12_shortens_88 (fun f_1 hS_1q => ?_)
      have hS_1 : mS cy m a f0 n z (va_up F 76 (upd (F 76) (Int32.toNatClampNeg xq) ((F 7) (Int32.toNatClampNeg wq)))) G f_1 := hS_1q
      refine gz_aload_n dX12_shortens_89 rfl rfl ?_
      refine mg_213 hS_1 dX12_shortens_90 ?_
      refine gz_iload dX12_shortens_93 rfl ?_
      refine gz_aload_n dX12_shortens_95 rfl rfl ?_
      refine mg_23 hS_1 dX12_shortens_96 ?_
      refine gz_iload dX12_shortens_99 rfl ?_
      refine m_iald 8 hS_1 rfl (N := 880) rfl ((by exact vin_T (rfl : wq.toInt = wq.toInt) (by omega) (by omega))) dX12_shortens_101 ?_
      refine gz_ev (w := .int ((F 8) (Int32.toNatClampNeg wq))) rfl ?_
      refine m_iast 77 hS_1 rfl (N := 82) rfl ((by exact vin_T (rfl : xq.toInt = xq.toInt) (by omega) (by omega))) dX12_shortens_102 (fun f_2 hS_2q => ?_)
      have hS_2 : mS cy m a f0 n z (va_up (va_up F 76 (upd (F 76) (Int32.toNatClampNeg xq) ((F 7) (Int32.toNatClampNeg wq)))) 77 (upd (F 77) (Int32.toNatClampNeg xq) ((F 8) (Int32.toNatClampNeg wq)))) G f_2 := hS_2q
      refine gz_aload_n dX12_shortens_103 rfl rfl ?_
      refine mg_222 hS_2 dX12_shortens_104 ?_
      refine gz_iload dX12_shortens_107 rfl ?_
      refine gz_iload dX12_shortens_109 rfl ?_
      refine m_iast 80 hS_2 rfl (N := 82) rfl ((by exact vin_T (rfl : xq.toInt = xq.toInt) (by omega) (by omega))) dX12_shortens_111 (fun f_3 hS_3q => ?_)
      have hS_3 : mS cy m a f0 n z (va_up (va_up (va_up F 76 (upd (F 76) (Int32.toNatClampNeg xq) ((F 7) (Int32.toNatClampNeg wq)))) 77 (upd (F 77) (Int32.toNatClampNeg xq) ((F 8) (Int32.toNatClampNeg wq)))) 80 (upd (F 80) (Int32.toNatClampNeg xq) wq)) G f_3 := hS_3q
      refine gz_aload_n dX12_shortens_112 rfl rfl ?_
      refine mg_20 hS_3 dX12_shortens_113 ?_
      refine gz_iload dX12_shortens_116 rfl ?_
      refine m_iald 7 hS_3 rfl (N := 880) rfl ((by exact vin_T (rfl : wq.toInt = wq.toInt) (by omega) (by omega))) dX12_shortens_118 ?_
      refine gz_ev (w := .int ((F 7) (Int32.toNatClampNeg wq))) rfl ?_
      refine gz_if_eq (tgt := 133) dX12_shortens_119 (by decide) (fun c_119 => ?_) (fun c_119 => ?_)
      ·
        try simp only [mIn_0, lgc_lt, lgc_gt, lgc_le, lgc_ge, lgc_eq] at c_119
        try simp only [fl_lt, fl_le, fl_eq, fL_w, fL_lt, fL_le, tm1, tm10k, tm9, tm99, Int32.reduceToInt, Int64.reduceToInt, Int.not_lt, Int.not_le] at c_119
        refine gz_iconst (v := 1) dX12_shortens_133 (by decide) ?_
        refine gz_goto (tgt := 138) dX12_shortens_134 (by decide) ?_
        refine gz_istore (lv' := [(8, .int 1), (7, .int xq), (6, .int wq), (5, .int kk), (0, .ref m), (1, .int x1), (2, .int x2), (3, .int bs), (4, .int nb)]) dX12_shortens_138 (by decide) rfl ?_
        refine gz_aload_n dX12_shortens_140 rfl rfl ?_
        refine mg_20 hS_3 dX12_shortens_141 ?_
        refine gz_iload dX12_shortens_144 rfl ?_
        refine m_iald 7 hS_3 rfl (N := 880) rfl ((by exact vin_T (rfl : wq.toInt = wq.toInt) (by omega) (by omega))) dX12_shortens_146 ?_
        refine gz_ev (w := .int ((F 7) (Int32.toNatClampNeg wq))) rfl ?_
        refine gz_iconst (v := 3) dX12_shortens_147 (by decide) ?_
        refine gz_icmp_eq (tgt := 173) dX12_shortens_148 (by decide) (fun c_148 => ?_) (fun c_148 => ?_)
        ·
          try simp only [mIn_0, lgc_lt, lgc_gt, lgc_le, lgc_ge, lgc_eq] at c_148
          try simp only [fl_lt, fl_le, fl_eq, fL_w, fL_lt, fL_le, tm1, tm10k, tm9, tm99, Int32.reduceToInt, Int64.reduceToInt, Int.not_lt, Int.not_le] at c_148
          refine gz_iconst (v := 1) dX12_shortens_173 (by decide) ?_
          refine gz_goto (tgt := 178) dX12_shortens_174 (by decide) ?_
          refine gz_istore (lv' := [(9, .int 1), (8, .int 1), (7, .int xq), (6, .int wq), (5, .int kk), (0, .ref m), (1, .int x1), (2, .int x2), (3, .int bs), (4, .int nb)]) dX12_shortens_178 (by decide) rfl ?_
          exfalso; omega
        ·
          try simp only [mIn_0, lgc_lt, lgc_gt, lgc_le, lgc_ge, lgc_eq] at c_148
          try simp only [fl_lt, fl_le, fl_eq, fL_w, fL_lt, fL_le, tm1, tm10k, tm9, tm99, Int32.reduceToInt, Int64.reduceToInt, Int.not_lt, Int.not_le] at c_148
          refine gz_aload_n dX12_shortens_151 rfl rfl ?_
          refine mg_20 hS_3 dX12_shortens_152 ?_
          refine gz_iload dX12_shortens_155 rfl ?_
          refine m_iald 7 hS_3 rfl (N := 880) rfl ((by exact vin_T (rfl : wq.toInt = wq.toInt) (by omega) (by omega))) dX12_shortens_157 ?_
          refine gz_ev (w := .int ((F 7) (Int32.toNatClampNeg wq))) rfl ?_
          refine gz_iconst (v := 4) dX12_shortens_158 (by decide) ?_
          refine gz_icmp_eq (tgt := 173) dX12_shortens_159 (by decide) (fun c_159 => ?_) (fun c_159 => ?_)
          ·
            try simp only [mIn_0, lgc_lt, lgc_gt, lgc_le, lgc_ge, lgc_eq] at c_159
            try simp only [fl_lt, fl_le, fl_eq, fL_w, fL_lt, fL_le, tm1, tm10k, tm9, tm99, Int32.reduceToInt, Int64.reduceToInt, Int.not_lt, Int.not_le] at c_159
            refine gz_iconst (v := 1) dX12_shortens_173 (by decide) ?_
            refine gz_goto (tgt := 178) dX12_shortens_174 (by decide) ?_
            refine gz_istore (lv' := [(9, .int 1), (8, .int 1), (7, .int xq), (6, .int wq), (5, .int kk), (0, .ref m), (1, .int x1), (2, .int x2), (3, .int bs), (4, .int nb)]) dX12_shortens_178 (by decide) rfl ?_
            exfalso; omega
          ·
            try simp only [mIn_0, lgc_lt, lgc_gt, lgc_le, lgc_ge, lgc_eq] at c_159
            try simp only [fl_lt, fl_le, fl_eq, fL_w, fL_lt, fL_le, tm1, tm10k, tm9, tm99, Int32.reduceToInt, Int64.reduceToInt, Int.not_lt, Int.not_le] at c_159
            refine gz_aload_n dX12_shortens_162 rfl rfl ?_
            refine mg_20 hS_3 dX12_shortens_163 ?_
            refine gz_iload dX12_shortens_166 rfl ?_
            refine m_iald 7 hS_3 rfl (N := 880) rfl ((by exact vin_T (rfl : wq.toInt = wq.toInt) (by omega) (by omega))) dX12_shortens_168 ?_
            refine gz_ev (w := .int ((F 7) (Int32.toNatClampNeg wq))) rfl ?_
            refine gz_iconst (v := 5) dX12_shortens_169 (by decide) ?_
            refine gz_icmp_ne (tgt := 177) dX12_shortens_170 (by decide) (fun c_170 => ?_) (fun c_170 => ?_)
            ·
              try simp only [mIn_0, lgc_lt, lgc_gt, lgc_le, lgc_ge, lgc_eq] at c_170
              try simp only [fl_lt, fl_le, fl_eq, fL_w, fL_lt, fL_le, tm1, tm10k, tm9, tm99, Int32.reduceToInt, Int64.reduceToInt, Int.not_lt, Int.not_le] at c_170
              refine gz_iconst (v := 0) dX12_shortens_177 (by decide) ?_
              refine gz_istore (lv' := [(9, .int 0), (8, .int 1), (7, .int xq), (6, .int wq), (5, .int kk), (0, .ref m), (1, .int x1), (2, .int x2), (3, .int bs), (4, .int nb)]) dX12_shortens_178 (by decide) rfl ?_
              have hxx : fx [] [] [76, 77, 78, 79, 80, 81, 82] [] n z F G n z (va_up (va_up (va_up F 76 (upd (F 76) (Int32.toNatClampNeg xq) ((F 7) (Int32.toNatClampNeg wq)))) 77 (upd (F 77) (Int32.toNatClampNeg xq) ((F 8) (Int32.toNatClampNeg wq)))) 80 (upd (F 80) (Int32.toNatClampNeg xq) wq)) G := (fx_F (fx_F (fx_F fx_rf (by decide)) (by decide)) (by decide))
              have s76_ : (va_up (va_up (va_up F 76 (upd (F 76) (Int32.toNatClampNeg xq) ((F 7) (Int32.toNatClampNeg wq)))) 77 (upd (F 77) (Int32.toNatClampNeg xq) ((F 8) (Int32.toNatClampNeg wq)))) 80 (upd (F 80) (Int32.toNatClampNeg xq) wq)) 76 = (upd (F 76) (Int32.toNatClampNeg xq) ((F 7) (Int32.toNatClampNeg wq))) := rfl
              have s78_ : (va_up (va_up (va_up F 76 (upd (F 76) (Int32.toNatClampNeg xq) ((F 7) (Int32.toNatClampNeg wq)))) 77 (upd (F 77) (Int32.toNatClampNeg xq) ((F 8) (Int32.toNatClampNeg wq)))) 80 (upd (F 80) (Int32.toNatClampNeg xq) wq)) 78 = (F 78) := rfl
              have s79_ : (va_up (va_up (va_up F 76 (upd (F 76) (Int32.toNatClampNeg xq) ((F 7) (Int32.toNatClampNeg wq)))) 77 (upd (F 77) (Int32.toNatClampNeg xq) ((F 8) (Int32.toNatClampNeg wq)))) 80 (upd (F 80) (Int32.toNatClampNeg xq) wq)) 79 = (F 79) := rfl
              have s80_ : (va_up (va_up (va_up F 76 (upd (F 76) (Int32.toNatClampNeg xq) ((F 7) (Int32.toNatClampNeg wq)))) 77 (upd (F 77) (Int32.toNatClampNeg xq) ((F 8) (Int32.toNatClampNeg wq)))) 80 (upd (F 80) (Int32.toNatClampNeg xq) wq)) 80 = (upd (F 80) (Int32.toNatClampNeg xq) wq) := rfl
              have s81_ : (va_up (va_up (va_up F 76 (upd (F 76) (Int32.toNatClampNeg xq) ((F 7) (Int32.toNatClampNeg wq)))) 77 (upd (F 77) (Int32.toNatClampNeg xq) ((F 8) (Int32.toNatClampNeg wq)))) 80 (upd (F 80) (Int32.toNatClampNeg xq) wq)) 81 = (F 81) := rfl
              have s82_ : (va_up (va_up (va_up F 76 (upd (F 76) (Int32.toNatClampNeg xq) ((F 7) (Int32.toNatClampNeg wq)))) 77 (upd (F 77) (Int32.toNatClampNeg xq) ((F 8) (Int32.toNatClampNeg wq)))) 80 (upd (F 80) (Int32.toNatClampNeg xq) wq)) 82 = (F 82) := rfl
              have hN2 : NR (va_up (va_up (va_up F 76 (upd (F 76) (Int32.toNatClampNeg xq) ((F 7) (Int32.toNatClampNeg wq)))) 77 (upd (F 77) (Int32.toNatClampNeg xq) ((F 8) (Int32.toNatClampNeg wq)))) 80 (upd (F 80) (Int32.toNatClampNeg xq) wq)) := by
                intro q hq
                obtain ⟨q1, q2, q3, q4, q5⟩ := hN q hq
                rw [s78_, s79_, s80_, s81_, s82_]
                simp only [updE]
                refine ⟨?_, ?_, ?_, ?_, ?_⟩ <;> (repeat' split) <;> omega
              have hoff : ∀ r, r ∈ [76, 78, 79, 80, 82] → ∀ i, i ≠ bn + kN → (va_up (va_up (va_up F 76 (upd (F 76) (Int32.toNatClampNeg xq) ((F 7) (Int32.toNatClampNeg wq)))) 77 (upd (F 77) (Int32.toNatClampNeg xq) ((F 8) (Int32.toNatClampNeg wq)))) 80 (upd (F 80) (Int32.toNatClampNeg xq) wq)) r i = F r i := by
                intro r hr i hi
                rw [← ecx] at hi
                simp only [List.mem_cons, List.not_mem_nil, or_false] at hr
                rcases hr with rfl | rfl | rfl | rfl | rfl
                · rw [s76_, updE, if_neg hi]
                · rw [s78_]
                · rw [s79_]
                · rw [s80_, updE, if_neg hi]
                · rw [s82_]
              have hP2 : SHp (va_up (va_up (va_up F 76 (upd (F 76) (Int32.toNatClampNeg xq) ((F 7) (Int32.toNatClampNeg wq)))) 77 (upd (F 77) (Int32.toNatClampNeg xq) ((F 8) (Int32.toNatClampNeg wq)))) 80 (upd (F 80) (Int32.toNatClampNeg xq) wq)) fo Wn bn (kk.toInt) := by rw [hkN]; exact SHp_off (F := F) rfl rfl rfl rfl hoff (by omega) (by rw [← hkN]; exact hP)
              have h76 : (va_up (va_up (va_up F 76 (upd (F 76) (Int32.toNatClampNeg xq) ((F 7) (Int32.toNatClampNeg wq)))) 77 (upd (F 77) (Int32.toNatClampNeg xq) ((F 8) (Int32.toNatClampNeg wq)))) 80 (upd (F 80) (Int32.toNatClampNeg xq) wq)) 76 (Int32.toNatClampNeg xq) = F 7 (Int32.toNatClampNeg wq) := by rw [s76_, updE, if_pos rfl]
              have h80 : (va_up (va_up (va_up F 76 (upd (F 76) (Int32.toNatClampNeg xq) ((F 7) (Int32.toNatClampNeg wq)))) 77 (upd (F 77) (Int32.toNatClampNeg xq) ((F 8) (Int32.toNatClampNeg wq)))) 80 (upd (F 80) (Int32.toNatClampNeg xq) wq)) 80 (Int32.toNatClampNeg xq) = wq := by rw [s80_, updE, if_pos rfl]
              refine gz_sub (lv' := [(9, .int 0), (8, .int 1), (7, .int xq), (6, .int wq), (5, .int kk), (0, .ref m), (1, .int x1), (2, .int x2), (3, .int bs), (4, .int nb)]) (by simp [List.lookup]) ?_
              refine l_X12_shortensA (lf := 1) (pr := 0) (wq := wq) (xq := xq) (kN := kN) hb hf ⟨hkN, by omega, by omega⟩ qx qw ?_ 1 _ _ _ _ _ hS_3 (fx_F (fx_F (fx_F hx (by decide)) (by decide)) (by decide)) (RI_fx hR hxx (by decide) (by decide)) hfo hN2 hW6 hP2 h76 h80 (Or.inl ⟨rfl, (show (F 7 (Int32.toNatClampNeg wq)).toInt ≤ 1 by omega)⟩) (Or.inr ⟨rfl, (show ¬ (3 ≤ (F 7 (Int32.toNatClampNeg wq)).toInt ∧ (F 7 (Int32.toNatClampNeg wq)).toInt ≤ 5) by omega)⟩) (by decide)
              clear hS hx hR hfo hN hW6 hP
              intro n z F G fm hS hx hR hfo hN hW6 hP
              refine gz_iinc (v := (kk + (-1))) (lv' := [(5, .int (kk + (-1))), (0, .ref m), (1, .int x1), (2, .int x2), (3, .int bs), (4, .int nb)]) dX12_shortens_452 rfl (congrArg (fun z => kk + z) oi_m1) (by decide) rfl ?_
              refine gz_goto (tgt := 55) dX12_shortens_455 (by decide) ?_
              refine gz_sub (lv' := [(5, .int (kk + (-1))), (0, .ref m), (1, .int x1), (2, .int x2), (3, .int bs), (4, .int nb)]) (by simp [List.lookup]) ?_
              have hdc : (kk + (-1)).toInt = kk.toInt - 1 := T_dec (by omega) (by omega)
              rw [← hdc] at hP
              generalize kk + (-1) = k2 at hdc hP ⊢
              exact ih k2 _ _ _ _ _ hS hx (hR) (hfo) (hN) (hW6) (hP) (by omega)
            ·
              try simp only [mIn_0, lgc_lt, lgc_gt, lgc_le, lgc_ge, lgc_eq] at c_170
              try simp only [fl_lt, fl_le, fl_eq, fL_w, fL_lt, fL_le, tm1, tm10k, tm9, tm99, Int32.reduceToInt, Int64.reduceToInt, Int.not_lt, Int.not_le] at c_170
              refine gz_iconst (v := 1) dX12_shortens_173 (by decide) ?_
              refine gz_goto (tgt := 178) dX12_shortens_174 (by decide) ?_
              refine gz_istore (lv' := [(9, .int 1), (8, .int 1), (7, .int xq), (6, .int wq), (5, .int kk), (0, .ref m), (1, .int x1), (2, .int x2), (3, .int bs), (4, .int nb)]) dX12_shortens_178 (by decide) rfl ?_
              exfalso; omega
      ·
        try simp only [mIn_0, lgc_lt, lgc_gt, lgc_le, lgc_ge, lgc_eq] at c_119
        try simp only [fl_lt, fl_le, fl_eq, fL_w, fL_lt, fL_le, tm1, tm10k, tm9, tm99, Int32.reduceToInt, Int64.reduceToInt, Int.not_lt, Int.not_le] at c_119
        refine gz_aload_n dX12_shortens_122 rfl rfl ?_
        refine mg_20 hS_3 dX12_shortens_123 ?_
        refine gz_iload dX12_shortens_126 rfl ?_
        refine m_iald 7 hS_3 rfl (N := 880) rfl ((by exact vin_T (rfl : wq.toInt = wq.toInt) (by omega) (by omega))) dX12_shortens_128 ?_
        refine gz_ev (w := .int ((F 7) (Int32.toNatClampNeg wq))) rfl ?_
        refine gz_iconst (v := 1) dX12_shortens_129 (by decide) ?_
        refine gz_icmp_ne (tgt := 137) dX12_shortens_130 (by decide) (fun c_130 => ?_) (fun c_130 => ?_)
        ·
          try simp only [mIn_0, lgc_lt, lgc_gt, lgc_le, lgc_ge, lgc_eq] at c_130
          try simp only [fl_lt, fl_le, fl_eq, fL_w, fL_lt, fL_le, tm1, tm10k, tm9, tm99, Int32.reduceToInt, Int64.reduceToInt, Int.not_lt, Int.not_le] at c_130
          refine gz_iconst (v := 0) dX12_shortens_137 (by decide) ?_
          refine gz_istore (lv' := [(8, .int 0), (7, .int xq), (6, .int wq), (5, .int kk), (0, .ref m), (1, .int x1), (2, .int x2), (3, .int bs), (4, .int nb)]) dX12_shortens_138 (by decide) rfl ?_
          refine gz_aload_n dX12_shortens_140 rfl rfl ?_
          refine mg_20 hS_3 dX12_shortens_141 ?_
          refine gz_iload dX12_shortens_144 rfl ?_
          refine m_iald 7 hS_3 rfl (N := 880) rfl ((by exact vin_T (rfl : wq.toInt = wq.toInt) (by omega) (by omega))) dX12_shortens_146 ?_
          refine gz_ev (w := .int ((F 7) (Int32.toNatClampNeg wq))) rfl ?_
          refine gz_iconst (v := 3) dX12_shortens_147 (by decide) ?_
          refine gz_icmp_eq (tgt := 173) dX12_shortens_148 (by decide) (fun c_148 => ?_) (fun c_148 => ?_)
          ·
            try simp only [mIn_0, lgc_lt, lgc_gt, lgc_le, lgc_ge, lgc_eq] at c_148
            try simp only [fl_lt, fl_le, fl_eq, fL_w, fL_lt, fL_le, tm1, tm10k, tm9, tm99, Int32.reduceToInt, Int64.reduceToInt, Int.not_lt, Int.not_le] at c_148
            refine gz_iconst (v := 1) dX12_shortens_173 (by decide) ?_
            refine gz_goto (tgt := 178) dX12_shortens_174 (by decide) ?_
            refine gz_istore (lv' := [(9, .int 1), (8, .int 0), (7, .int xq), (6, .int wq), (5, .int kk), (0, .ref m), (1, .int x1), (2, .int x2), (3, .int bs), (4, .int nb)]) dX12_shortens_178 (by decide) rfl ?_
            have hxx : fx [] [] [76, 77, 78, 79, 80, 81, 82] [] n z F G n z (va_up (va_up (va_up F 76 (upd (F 76) (Int32.toNatClampNeg xq) ((F 7) (Int32.toNatClampNeg wq)))) 77 (upd (F 77) (Int32.toNatClampNeg xq) ((F 8) (Int32.toNatClampNeg wq)))) 80 (upd (F 80) (Int32.toNatClampNeg xq) wq)) G := (fx_F (fx_F (fx_F fx_rf (by decide)) (by decide)) (by decide))
            have s76_ : (va_up (va_up (va_up F 76 (upd (F 76) (Int32.toNatClampNeg xq) ((F 7) (Int32.toNatClampNeg wq)))) 77 (upd (F 77) (Int32.toNatClampNeg xq) ((F 8) (Int32.toNatClampNeg wq)))) 80 (upd (F 80) (Int32.toNatClampNeg xq) wq)) 76 = (upd (F 76) (Int32.toNatClampNeg xq) ((F 7) (Int32.toNatClampNeg wq))) := rfl
            have s78_ : (va_up (va_up (va_up F 76 (upd (F 76) (Int32.toNatClampNeg xq) ((F 7) (Int32.toNatClampNeg wq)))) 77 (upd (F 77) (Int32.toNatClampNeg xq) ((F 8) (Int32.toNatClampNeg wq)))) 80 (upd (F 80) (Int32.toNatClampNeg xq) wq)) 78 = (F 78) := rfl
            have s79_ : (va_up (va_up (va_up F 76 (upd (F 76) (Int32.toNatClampNeg xq) ((F 7) (Int32.toNatClampNeg wq)))) 77 (upd (F 77) (Int32.toNatClampNeg xq) ((F 8) (Int32.toNatClampNeg wq)))) 80 (upd (F 80) (Int32.toNatClampNeg xq) wq)) 79 = (F 79) := rfl
            have s80_ : (va_up (va_up (va_up F 76 (upd (F 76) (Int32.toNatClampNeg xq) ((F 7) (Int32.toNatClampNeg wq)))) 77 (upd (F 77) (Int32.toNatClampNeg xq) ((F 8) (Int32.toNatClampNeg wq)))) 80 (upd (F 80) (Int32.toNatClampNeg xq) wq)) 80 = (upd (F 80) (Int32.toNatClampNeg xq) wq) := rfl
            have s81_ : (va_up (va_up (va_up F 76 (upd (F 76) (Int32.toNatClampNeg xq) ((F 7) (Int32.toNatClampNeg wq)))) 77 (upd (F 77) (Int32.toNatClampNeg xq) ((F 8) (Int32.toNatClampNeg wq)))) 80 (upd (F 80) (Int32.toNatClampNeg xq) wq)) 81 = (F 81) := rfl
            have s82_ : (va_up (va_up (va_up F 76 (upd (F 76) (Int32.toNatClampNeg xq) ((F 7) (Int32.toNatClampNeg wq)))) 77 (upd (F 77) (Int32.toNatClampNeg xq) ((F 8) (Int32.toNatClampNeg wq)))) 80 (upd (F 80) (Int32.toNatClampNeg xq) wq)) 82 = (F 82) := rfl
            have hN2 : NR (va_up (va_up (va_up F 76 (upd (F 76) (Int32.toNatClampNeg xq) ((F 7) (Int32.toNatClampNeg wq)))) 77 (upd (F 77) (Int32.toNatClampNeg xq) ((F 8) (Int32.toNatClampNeg wq)))) 80 (upd (F 80) (Int32.toNatClampNeg xq) wq)) := by
              intro q hq
              obtain ⟨q1, q2, q3, q4, q5⟩ := hN q hq
              rw [s78_, s79_, s80_, s81_, s82_]
              simp only [updE]
              refine ⟨?_, ?_, ?_, ?_, ?_⟩ <;> (repeat' split) <;> omega
            have hoff : ∀ r, r ∈ [76, 78, 79, 80, 82] → ∀ i, i ≠ bn + kN → (va_up (va_up (va_up F 76 (upd (F 76) (Int32.toNatClampNeg xq) ((F 7) (Int32.toNatClampNeg wq)))) 77 (upd (F 77) (Int32.toNatClampNeg xq) ((F 8) (Int32.toNatClampNeg wq)))) 80 (upd (F 80) (Int32.toNatClampNeg xq) wq)) r i = F r i := by
              intro r hr i hi
              rw [← ecx] at hi
              simp only [List.mem_cons, List.not_mem_nil, or_false] at hr
              rcases hr with rfl | rfl | rfl | rfl | rfl
              · rw [s76_, updE, if_neg hi]
              · rw [s78_]
              · rw [s79_]
              · rw [s80_, updE, if_neg hi]
              · rw [s82_]
            have hP2 : SHp (va_up (va_up (va_up F 76 (upd (F 76) (Int32.toNatClampNeg xq) ((F 7) (Int32.toNatClampNeg wq)))) 77 (upd (F 77) (Int32.toNatClampNeg xq) ((F 8) (Int32.toNatClampNeg wq)))) 80 (upd (F 80) (Int32.toNatClampNeg xq) wq)) fo Wn bn (kk.toInt) := by rw [hkN]; exact SHp_off (F := F) rfl rfl rfl rfl hoff (by omega) (by rw [← hkN]; exact hP)
            have h76 : (va_up (va_up (va_up F 76 (upd (F 76) (Int32.toNatClampNeg xq) ((F 7) (Int32.toNatClampNeg wq)))) 77 (upd (F 77) (Int32.toNatClampNeg xq) ((F 8) (Int32.toNatClampNeg wq)))) 80 (upd (F 80) (Int32.toNatClampNeg xq) wq)) 76 (Int32.toNatClampNeg xq) = F 7 (Int32.toNatClampNeg wq) := by rw [s76_, updE, if_pos rfl]
            have h80 : (va_up (va_up (va_up F 76 (upd (F 76) (Int32.toNatClampNeg xq) ((F 7) (Int32.toNatClampNeg wq)))) 77 (upd (F 77) (Int32.toNatClampNeg xq) ((F 8) (Int32.toNatClampNeg wq)))) 80 (upd (F 80) (Int32.toNatClampNeg xq) wq)) 80 (Int32.toNatClampNeg xq) = wq := by rw [s80_, updE, if_pos rfl]
            refine gz_sub (lv' := [(9, .int 1), (8, .int 0), (7, .int xq), (6, .int wq), (5, .int kk), (0, .ref m), (1, .int x1), (2, .int x2), (3, .int bs), (4, .int nb)]) (by simp [List.lookup]) ?_
            refine l_X12_shortensA (lf := 0) (pr := 1) (wq := wq) (xq := xq) (kN := kN) hb hf ⟨hkN, by omega, by omega⟩ qx qw ?_ 1 _ _ _ _ _ hS_3 (fx_F (fx_F (fx_F hx (by decide)) (by decide)) (by decide)) (RI_fx hR hxx (by decide) (by decide)) hfo hN2 hW6 hP2 h76 h80 (Or.inr ⟨rfl, (show 2 ≤ (F 7 (Int32.toNatClampNeg wq)).toInt by omega)⟩) (Or.inl ⟨rfl, (show 3 ≤ (F 7 (Int32.toNatClampNeg wq)).toInt ∧ (F 7 (Int32.toNatClampNeg wq)).toInt ≤ 5 by omega)⟩) (by decide)
            clear hS hx hR hfo hN hW6 hP
            intro n z F G fm hS hx hR hfo hN hW6 hP
            refine gz_iinc (v := (kk + (-1))) (lv' := [(5, .int (kk + (-1))), (0, .ref m), (1, .int x1), (2, .int x2), (3, .int bs), (4, .int nb)]) dX12_shortens_452 rfl (congrArg (fun z => kk + z) oi_m1) (by decide) rfl ?_
            refine gz_goto (tgt := 55) dX12_shortens_455 (by decide) ?_
            refine gz_sub (lv' := [(5, .int (kk + (-1))), (0, .ref m), (1, .int x1), (2, .int x2), (3, .int bs), (4, .int nb)]) (by simp [List.lookup]) ?_
            have hdc : (kk + (-1)).toInt = kk.toInt - 1 := T_dec (by omega) (by omega)
            rw [← hdc] at hP
            generalize kk + (-1) = k2 at hdc hP ⊢
            exact ih k2 _ _ _ _ _ hS hx (hR) (hfo) (hN) (hW6) (hP) (by omega)
          ·
            try simp only [mIn_0, lgc_lt, lgc_gt, lgc_le, lgc_ge, lgc_eq] at c_148
            try simp only [fl_lt, fl_le, fl_eq, fL_w, fL_lt, fL_le, tm1, tm10k, tm9, tm99, Int32.reduceToInt, Int64.reduceToInt, Int.not_lt, Int.not_le] at c_148
            refine gz_aload_n dX12_shortens_151 rfl rfl ?_
            refine mg_20 hS_3 dX12_shortens_152 ?_
            refine gz_iload dX12_shortens_155 rfl ?_
            refine m_iald 7 hS_3 rfl (N := 880) rfl ((by exact vin_T (rfl : wq.toInt = wq.toInt) (by omega) (by omega))) dX12_shortens_157 ?_
            refine gz_ev (w := .int ((F 7) (Int32.toNatClampNeg wq))) rfl ?_
            refine gz_iconst (v := 4) dX12_shortens_158 (by decide) ?_
            refine gz_icmp_eq (tgt := 173) dX12_shortens_159 (by decide) (fun c_159 => ?_) (fun c_159 => ?_)
            ·
              try simp only [mIn_0, lgc_lt, lgc_gt, lgc_le, lgc_ge, lgc_eq] at c_159
              try simp only [fl_lt, fl_le, fl_eq, fL_w, fL_lt, fL_le, tm1, tm10k, tm9, tm99, Int32.reduceToInt, Int64.reduceToInt, Int.not_lt, Int.not_le] at c_159
              refine gz_iconst (v := 1) dX12_shortens_173 (by decide) ?_
              refine gz_goto (tgt := 178) dX12_shortens_174 (by decide) ?_
              refine gz_istore (lv' := [(9, .int 1), (8, .int 0), (7, .int xq), (6, .int wq), (5, .int kk), (0, .ref m), (1, .int x1), (2, .int x2), (3, .int bs), (4, .int nb)]) dX12_shortens_178 (by decide) rfl ?_
              have hxx : fx [] [] [76, 77, 78, 79, 80, 81, 82] [] n z F G n z (va_up (va_up (va_up F 76 (upd (F 76) (Int32.toNatClampNeg xq) ((F 7) (Int32.toNatClampNeg wq)))) 77 (upd (F 77) (Int32.toNatClampNeg xq) ((F 8) (Int32.toNatClampNeg wq)))) 80 (upd (F 80) (Int32.toNatClampNeg xq) wq)) G := (fx_F (fx_F (fx_F fx_rf (by decide)) (by decide)) (by decide))
              have s76_ : (va_up (va_up (va_up F 76 (upd (F 76) (Int32.toNatClampNeg xq) ((F 7) (Int32.toNatClampNeg wq)))) 77 (upd (F 77) (Int32.toNatClampNeg xq) ((F 8) (Int32.toNatClampNeg wq)))) 80 (upd (F 80) (Int32.toNatClampNeg xq) wq)) 76 = (upd (F 76) (Int32.toNatClampNeg xq) ((F 7) (Int32.toNatClampNeg wq))) := rfl
              have s78_ : (va_up (va_up (va_up F 76 (upd (F 76) (Int32.toNatClampNeg xq) ((F 7) (Int32.toNatClampNeg wq)))) 77 (upd (F 77) (Int32.toNatClampNeg xq) ((F 8) (Int32.toNatClampNeg wq)))) 80 (upd (F 80) (Int32.toNatClampNeg xq) wq)) 78 = (F 78) := rfl
              have s79_ : (va_up (va_up (va_up F 76 (upd (F 76) (Int32.toNatClampNeg xq) ((F 7) (Int32.toNatClampNeg wq)))) 77 (upd (F 77) (Int32.toNatClampNeg xq) ((F 8) (Int32.toNatClampNeg wq)))) 80 (upd (F 80) (Int32.toNatClampNeg xq) wq)) 79 = (F 79) := rfl
              have s80_ : (va_up (va_up (va_up F 76 (upd (F 76) (Int32.toNatClampNeg xq) ((F 7) (Int32.toNatClampNeg wq)))) 77 (upd (F 77) (Int32.toNatClampNeg xq) ((F 8) (Int32.toNatClampNeg wq)))) 80 (upd (F 80) (Int32.toNatClampNeg xq) wq)) 80 = (upd (F 80) (Int32.toNatClampNeg xq) wq) := rfl
              have s81_ : (va_up (va_up (va_up F 76 (upd (F 76) (Int32.toNatClampNeg xq) ((F 7) (Int32.toNatClampNeg wq)))) 77 (upd (F 77) (Int32.toNatClampNeg xq) ((F 8) (Int32.toNatClampNeg wq)))) 80 (upd (F 80) (Int32.toNatClampNeg xq) wq)) 81 = (F 81) := rfl
              have s82_ : (va_up (va_up (va_up F 76 (upd (F 76) (Int32.toNatClampNeg xq) ((F 7) (Int32.toNatClampNeg wq)))) 77 (upd (F 77) (Int32.toNatClampNeg xq) ((F 8) (Int32.toNatClampNeg wq)))) 80 (upd (F 80) (Int32.toNatClampNeg xq) wq)) 82 = (F 82) := rfl
              have hN2 : NR (va_up (va_up (va_up F 76 (upd (F 76) (Int32.toNatClampNeg xq) ((F 7) (Int32.toNatClampNeg wq)))) 77 (upd (F 77) (Int32.toNatClampNeg xq) ((F 8) (Int32.toNatClampNeg wq)))) 80 (upd (F 80) (Int32.toNatClampNeg xq) wq)) := by
                intro q hq
                obtain ⟨q1, q2, q3, q4, q5⟩ := hN q hq
                rw [s78_, s79_, s80_, s81_, s82_]
                simp only [updE]
                refine ⟨?_, ?_, ?_, ?_, ?_⟩ <;> (repeat' split) <;> omega
              have hoff : ∀ r, r ∈ [76, 78, 79, 80, 82] → ∀ i, i ≠ bn + kN → (va_up (va_up (va_up F 76 (upd (F 76) (Int32.toNatClampNeg xq) ((F 7) (Int32.toNatClampNeg wq)))) 77 (upd (F 77) (Int32.toNatClampNeg xq) ((F 8) (Int32.toNatClampNeg wq)))) 80 (upd (F 80) (Int32.toNatClampNeg xq) wq)) r i = F r i := by
                intro r hr i hi
                rw [← ecx] at hi
                simp only [List.mem_cons, List.not_mem_nil, or_false] at hr
                rcases hr with rfl | rfl | rfl | rfl | rfl
                · rw [s76_, updE, if_neg hi]
                · rw [s78_]
                · rw [s79_]
                · rw [s80_, updE, if_neg hi]
                · rw [s82_]
              have hP2 : SHp (va_up (va_up (va_up F 76 (upd (F 76) (Int32.toNatClampNeg xq) ((F 7) (Int32.toNatClampNeg wq)))) 77 (upd (F 77) (Int32.toNatClampNeg xq) ((F 8) (Int32.toNatClampNeg wq)))) 80 (upd (F 80) (Int32.toNatClampNeg xq) wq)) fo Wn bn (kk.toInt) := by rw [hkN]; exact SHp_off (F := F) rfl rfl rfl rfl hoff (by omega) (by rw [← hkN]; exact hP)
              have h76 : (va_up (va_up (va_up F 76 (upd (F 76) (Int32.toNatClampNeg xq) ((F 7) (Int32.toNatClampNeg wq)))) 77 (upd (F 77) (Int32.toNatClampNeg xq) ((F 8) (Int32.toNatClampNeg wq)))) 80 (upd (F 80) (Int32.toNatClampNeg xq) wq)) 76 (Int32.toNatClampNeg xq) = F 7 (Int32.toNatClampNeg wq) := by rw [s76_, updE, if_pos rfl]
              have h80 : (va_up (va_up (va_up F 76 (upd (F 76) (Int32.toNatClampNeg xq) ((F 7) (Int32.toNatClampNeg wq)))) 77 (upd (F 77) (Int32.toNatClampNeg xq) ((F 8) (Int32.toNatClampNeg wq)))) 80 (upd (F 80) (Int32.toNatClampNeg xq) wq)) 80 (Int32.toNatClampNeg xq) = wq := by rw [s80_, updE, if_pos rfl]
              refine gz_sub (lv' := [(9, .int 1), (8, .int 0), (7, .int xq), (6, .int wq), (5, .int kk), (0, .ref m), (1, .int x1), (2, .int x2), (3, .int bs), (4, .int nb)]) (by simp [List.lookup]) ?_
              refine l_X12_shortensA (lf := 0) (pr := 1) (wq := wq) (xq := xq) (kN := kN) hb hf ⟨hkN, by omega, by omega⟩ qx qw ?_ 1 _ _ _ _ _ hS_3 (fx_F (fx_F (fx_F hx (by decide)) (by decide)) (by decide)) (RI_fx hR hxx (by decide) (by decide)) hfo hN2 hW6 hP2 h76 h80 (Or.inr ⟨rfl, (show 2 ≤ (F 7 (Int32.toNatClampNeg wq)).toInt by omega)⟩) (Or.inl ⟨rfl, (show 3 ≤ (F 7 (Int32.toNatClampNeg wq)).toInt ∧ (F 7 (Int32.toNatClampNeg wq)).toInt ≤ 5 by omega)⟩) (by decide)
              clear hS hx hR hfo hN hW6 hP
              intro n z F G fm hS hx hR hfo hN hW6 hP
              refine gz_iinc (v := (kk + (-1))) (lv' := [(5, .int (kk + (-1))), (0, .ref m), (1, .int x1), (2, .int x2), (3, .int bs), (4, .int nb)]) dX12_shortens_452 rfl (congrArg (fun z => kk + z) oi_m1) (by decide) rfl ?_
              refine gz_goto (tgt := 55) dX12_shortens_455 (by decide) ?_
              refine gz_sub (lv' := [(5, .int (kk + (-1))), (0, .ref m), (1, .int x1), (2, .int x2), (3, .int bs), (4, .int nb)]) (by simp [List.lookup]) ?_
              have hdc : (kk + (-1)).toInt = kk.toInt - 1 := T_dec (by omega) (by omega)
              rw [← hdc] at hP
              generalize kk + (-1) = k2 at hdc hP ⊢
              exact ih k2 _ _ _ _ _ hS hx (hR) (hfo) (hN) (hW6) (hP) (by omega)
            ·
              try simp only [mIn_0, lgc_lt, lgc_gt, lgc_le, lgc_ge, lgc_eq] at c_159
              try simp only [fl_lt, fl_le, fl_eq, fL_w, fL_lt, fL_le, tm1, tm10k, tm9, tm99, Int32.reduceToInt, Int64.reduceToInt, Int.not_lt, Int.not_le] at c_159
              refine gz_aload_n dX12_shortens_162 rfl rfl ?_
              refine mg_20 hS_3 dX12_shortens_163 ?_
              refine gz_iload dX12_shortens_166 rfl ?_
              refine m_iald 7 hS_3 rfl (N := 880) rfl ((by exact vin_T (rfl : wq.toInt = wq.toInt) (by omega) (by omega))) dX12_shortens_168 ?_
              refine gz_ev (w := .int ((F 7) (Int32.toNatClampNeg wq))) rfl ?_
              refine gz_iconst (v := 5) dX12_shortens_169 (by decide) ?_
              refine gz_icmp_ne (tgt := 177) dX12_shortens_170 (by decide) (fun c_170 => ?_) (fun c_170 => ?_)
              ·
                try simp only [mIn_0, lgc_lt, lgc_gt, lgc_le, lgc_ge, lgc_eq] at c_170
                try simp only [fl_lt, fl_le, fl_eq, fL_w, fL_lt, fL_le, tm1, tm10k, tm9, tm99, Int32.reduceToInt, Int64.reduceToInt, Int.not_lt, Int.not_le] at c_170
                refine gz_iconst (v := 0) dX12_shortens_177 (by decide) ?_
                refine gz_istore (lv' := [(9, .int 0), (8, .int 0), (7, .int xq), (6, .int wq), (5, .int kk), (0, .ref m), (1, .int x1), (2, .int x2), (3, .int bs), (4, .int nb)]) dX12_shortens_178 (by decide) rfl ?_
                have hxx : fx [] [] [76, 77, 78, 79, 80, 81, 82] [] n z F G n z (va_up (va_up (va_up F 76 (upd (F 76) (Int32.toNatClampNeg xq) ((F 7) (Int32.toNatClampNeg wq)))) 77 (upd (F 77) (Int32.toNatClampNeg xq) ((F 8) (Int32.toNatClampNeg wq)))) 80 (upd (F 80) (Int32.toNatClampNeg xq) wq)) G := (fx_F (fx_F (fx_F fx_rf (by decide)) (by decide)) (by decide))
                have s76_ : (va_up (va_up (va_up F 76 (upd (F 76) (Int32.toNatClampNeg xq) ((F 7) (Int32.toNatClampNeg wq)))) 77 (upd (F 77) (Int32.toNatClampNeg xq) ((F 8) (Int32.toNatClampNeg wq)))) 80 (upd (F 80) (Int32.toNatClampNeg xq) wq)) 76 = (upd (F 76) (Int32.toNatClampNeg xq) ((F 7) (Int32.toNatClampNeg wq))) := rfl
                have s78_ : (va_up (va_up (va_up F 76 (upd (F 76) (Int32.toNatClampNeg xq) ((F 7) (Int32.toNatClampNeg wq)))) 77 (upd (F 77) (Int32.toNatClampNeg xq) ((F 8) (Int32.toNatClampNeg wq)))) 80 (upd (F 80) (Int32.toNatClampNeg xq) wq)) 78 = (F 78) := rfl
                have s79_ : (va_up (va_up (va_up F 76 (upd (F 76) (Int32.toNatClampNeg xq) ((F 7) (Int32.toNatClampNeg wq)))) 77 (upd (F 77) (Int32.toNatClampNeg xq) ((F 8) (Int32.toNatClampNeg wq)))) 80 (upd (F 80) (Int32.toNatClampNeg xq) wq)) 79 = (F 79) := rfl
                have s80_ : (va_up (va_up (va_up F 76 (upd (F 76) (Int32.toNatClampNeg xq) ((F 7) (Int32.toNatClampNeg wq)))) 77 (upd (F 77) (Int32.toNatClampNeg xq) ((F 8) (Int32.toNatClampNeg wq)))) 80 (upd (F 80) (Int32.toNatClampNeg xq) wq)) 80 = (upd (F 80) (Int32.toNatClampNeg xq) wq) := rfl
                have s81_ : (va_up (va_up (va_up F 76 (upd (F 76) (Int32.toNatClampNeg xq) ((F 7) (Int32.toNatClampNeg wq)))) 77 (upd (F 77) (Int32.toNatClampNeg xq) ((F 8) (Int32.toNatClampNeg wq)))) 80 (upd (F 80) (Int32.toNatClampNeg xq) wq)) 81 = (F 81) := rfl
                have s82_ : (va_up (va_up (va_up F 76 (upd (F 76) (Int32.toNatClampNeg xq) ((F 7) (Int32.toNatClampNeg wq)))) 77 (upd (F 77) (Int32.toNatClampNeg xq) ((F 8) (Int32.toNatClampNeg wq)))) 80 (upd (F 80) (Int32.toNatClampNeg xq) wq)) 82 = (F 82) := rfl
                have hN2 : NR (va_up (va_up (va_up F 76 (upd (F 76) (Int32.toNatClampNeg xq) ((F 7) (Int32.toNatClampNeg wq)))) 77 (upd (F 77) (Int32.toNatClampNeg xq) ((F 8) (Int32.toNatClampNeg wq)))) 80 (upd (F 80) (Int32.toNatClampNeg xq) wq)) := by
                  intro q hq
                  obtain ⟨q1, q2, q3, q4, q5⟩ := hN q hq
                  rw [s78_, s79_, s80_, s81_, s82_]
                  simp only [updE]
                  refine ⟨?_, ?_, ?_, ?_, ?_⟩ <;> (repeat' split) <;> omega
                have hoff : ∀ r, r ∈ [76, 78, 79, 80, 82] → ∀ i, i ≠ bn + kN → (va_up (va_up (va_up F 76 (upd (F 76) (Int32.toNatClampNeg xq) ((F 7) (Int32.toNatClampNeg wq)))) 77 (upd (F 77) (Int32.toNatClampNeg xq) ((F 8) (Int32.toNatClampNeg wq)))) 80 (upd (F 80) (Int32.toNatClampNeg xq) wq)) r i = F r i := by
                  intro r hr i hi
                  rw [← ecx] at hi
                  simp only [List.mem_cons, List.not_mem_nil, or_false] at hr
                  rcases hr with rfl | rfl | rfl | rfl | rfl
                  · rw [s76_, updE, if_neg hi]
                  · rw [s78_]
                  · rw [s79_]
                  · rw [s80_, updE, if_neg hi]
                  · rw [s82_]
                have hP2 : SHp (va_up (va_up (va_up F 76 (upd (F 76) (Int32.toNatClampNeg xq) ((F 7) (Int32.toNatClampNeg wq)))) 77 (upd (F 77) (Int32.toNatClampNeg xq) ((F 8) (Int32.toNatClampNeg wq)))) 80 (upd (F 80) (Int32.toNatClampNeg xq) wq)) fo Wn bn (kk.toInt) := by rw [hkN]; exact SHp_off (F := F) rfl rfl rfl rfl hoff (by omega) (by rw [← hkN]; exact hP)
                have h76 : (va_up (va_up (va_up F 76 (upd (F 76) (Int32.toNatClampNeg xq) ((F 7) (Int32.toNatClampNeg wq)))) 77 (upd (F 77) (Int32.toNatClampNeg xq) ((F 8) (Int32.toNatClampNeg wq)))) 80 (upd (F 80) (Int32.toNatClampNeg xq) wq)) 76 (Int32.toNatClampNeg xq) = F 7 (Int32.toNatClampNeg wq) := by rw [s76_, updE, if_pos rfl]
                have h80 : (va_up (va_up (va_up F 76 (upd (F 76) (Int32.toNatClampNeg xq) ((F 7) (Int32.toNatClampNeg wq)))) 77 (upd (F 77) (Int32.toNatClampNeg xq) ((F 8) (Int32.toNatClampNeg wq)))) 80 (upd (F 80) (Int32.toNatClampNeg xq) wq)) 80 (Int32.toNatClampNeg xq) = wq := by rw [s80_, updE, if_pos rfl]
                refine gz_sub (lv' := [(9, .int 0), (8, .int 0), (7, .int xq), (6, .int wq), (5, .int kk), (0, .ref m), (1, .int x1), (2, .int x2), (3, .int bs), (4, .int nb)]) (by simp [List.lookup]) ?_
                refine l_X12_shortensA (lf := 0) (pr := 0) (wq := wq) (xq := xq) (kN := kN) hb hf ⟨hkN, by omega, by omega⟩ qx qw ?_ 1 _ _ _ _ _ hS_3 (fx_F (fx_F (fx_F hx (by decide)) (by decide)) (by decide)) (RI_fx hR hxx (by decide) (by decide)) hfo hN2 hW6 hP2 h76 h80 (Or.inr ⟨rfl, (show 2 ≤ (F 7 (Int32.toNatClampNeg wq)).toInt by omega)⟩) (Or.inr ⟨rfl, (show ¬ (3 ≤ (F 7 (Int32.toNatClampNeg wq)).toInt ∧ (F 7 (Int32.toNatClampNeg wq)).toInt ≤ 5) by omega)⟩) (by decide)
                clear hS hx hR hfo hN hW6 hP
                intro n z F G fm hS hx hR hfo hN hW6 hP
                refine gz_iinc (v := (kk + (-1))) (lv' := [(5, .int (kk + (-1))), (0, .ref m), (1, .int x1), (2, .int x2), (3, .int bs), (4, .int nb)]) dX12_shortens_452 rfl (congrArg (fun z => kk + z) oi_m1) (by decide) rfl ?_
                refine gz_goto (tgt := 55) dX12_shortens_455 (by decide) ?_
                refine gz_sub (lv' := [(5, .int (kk + (-1))), (0, .ref m), (1, .int x1), (2, .int x2), (3, .int bs), (4, .int nb)]) (by simp [List.lookup]) ?_
                have hdc : (kk + (-1)).toInt = kk.toInt - 1 := T_dec (by omega) (by omega)
                rw [← hdc] at hP
                generalize kk + (-1) = k2 at hdc hP ⊢
                exact ih k2 _ _ _ _ _ hS hx (hR) (hfo) (hN) (hW6) (hP) (by omega)
              ·
                try simp only [mIn_0, lgc_lt, lgc_gt, lgc_le, lgc_ge, lgc_eq] at c_170
                try simp only [fl_lt, fl_le, fl_eq, fL_w, fL_lt, fL_le, tm1, tm10k, tm9, tm99, Int32.reduceToInt, Int64.reduceToInt, Int.not_lt, Int.not_le] at c_170
                refine gz_iconst (v := 1) dX12_shortens_173 (by decide) ?_
                refine gz_goto (tgt := 178) dX12_shortens_174 (by decide) ?_
                refine gz_istore (lv' := [(9, .int 1), (8, .int 0), (7, .int xq), (6, .int wq), (5, .int kk), (0, .ref m), (1, .int x1), (2, .int x2), (3, .int bs), (4, .int nb)]) dX12_shortens_178 (by decide) rfl ?_
                have hxx : fx [] [] [76, 77, 78, 79, 80, 81, 82] [] n z F G n z (va_up (va_up (va_up F 76 (upd (F 76) (Int32.toNatClampNeg xq) ((F 7) (Int32.toNatClampNeg wq)))) 77 (upd (F 77) (Int32.toNatClampNeg xq) ((F 8) (Int32.toNatClampNeg wq)))) 80 (upd (F 80) (Int32.toNatClampNeg xq) wq)) G := (fx_F (fx_F (fx_F fx_rf (by decide)) (by decide)) (by decide))
                have s76_ : (va_up (va_up (va_up F 76 (upd (F 76) (Int32.toNatClampNeg xq) ((F 7) (Int32.toNatClampNeg wq)))) 77 (upd (F 77) (Int32.toNatClampNeg xq) ((F 8) (Int32.toNatClampNeg wq)))) 80 (upd (F 80) (Int32.toNatClampNeg xq) wq)) 76 = (upd (F 76) (Int32.toNatClampNeg xq) ((F 7) (Int32.toNatClampNeg wq))) := rfl
                have s78_ : (va_up (va_up (va_up F 76 (upd (F 76) (Int32.toNatClampNeg xq) ((F 7) (Int32.toNatClampNeg wq)))) 77 (upd (F 77) (Int32.toNatClampNeg xq) ((F 8) (Int32.toNatClampNeg wq)))) 80 (upd (F 80) (Int32.toNatClampNeg xq) wq)) 78 = (F 78) := rfl
                have s79_ : (va_up (va_up (va_up F 76 (upd (F 76) (Int32.toNatClampNeg xq) ((F 7) (Int32.toNatClampNeg wq)))) 77 (upd (F 77) (Int32.toNatClampNeg xq) ((F 8) (Int32.toNatClampNeg wq)))) 80 (upd (F 80) (Int32.toNatClampNeg xq) wq)) 79 = (F 79) := rfl
                have s80_ : (va_up (va_up (va_up F 76 (upd (F 76) (Int32.toNatClampNeg xq) ((F 7) (Int32.toNatClampNeg wq)))) 77 (upd (F 77) (Int32.toNatClampNeg xq) ((F 8) (Int32.toNatClampNeg wq)))) 80 (upd (F 80) (Int32.toNatClampNeg xq) wq)) 80 = (upd (F 80) (Int32.toNatClampNeg xq) wq) := rfl
                have s81_ : (va_up (va_up (va_up F 76 (upd (F 76) (Int32.toNatClampNeg xq) ((F 7) (Int32.toNatClampNeg wq)))) 77 (upd (F 77) (Int32.toNatClampNeg xq) ((F 8) (Int32.toNatClampNeg wq)))) 80 (upd (F 80) (Int32.toNatClampNeg xq) wq)) 81 = (F 81) := rfl
                have s82_ : (va_up (va_up (va_up F 76 (upd (F 76) (Int32.toNatClampNeg xq) ((F 7) (Int32.toNatClampNeg wq)))) 77 (upd (F 77) (Int32.toNatClampNeg xq) ((F 8) (Int32.toNatClampNeg wq)))) 80 (upd (F 80) (Int32.toNatClampNeg xq) wq)) 82 = (F 82) := rfl
                have hN2 : NR (va_up (va_up (va_up F 76 (upd (F 76) (Int32.toNatClampNeg xq) ((F 7) (Int32.toNatClampNeg wq)))) 77 (upd (F 77) (Int32.toNatClampNeg xq) ((F 8) (Int32.toNatClampNeg wq)))) 80 (upd (F 80) (Int32.toNatClampNeg xq) wq)) := by
                  intro q hq
                  obtain ⟨q1, q2, q3, q4, q5⟩ := hN q hq
                  rw [s78_, s79_, s80_, s81_, s82_]
                  simp only [updE]
                  refine ⟨?_, ?_, ?_, ?_, ?_⟩ <;> (repeat' split) <;> omega
                have hoff : ∀ r, r ∈ [76, 78, 79, 80, 82] → ∀ i, i ≠ bn + kN → (va_up (va_up (va_up F 76 (upd (F 76) (Int32.toNatClampNeg xq) ((F 7) (Int32.toNatClampNeg wq)))) 77 (upd (F 77) (Int32.toNatClampNeg xq) ((F 8) (Int32.toNatClampNeg wq)))) 80 (upd (F 80) (Int32.toNatClampNeg xq) wq)) r i = F r i := by
                  intro r hr i hi
                  rw [← ecx] at hi
                  simp only [List.mem_cons, List.not_mem_nil, or_false] at hr
                  rcases hr with rfl | rfl | rfl | rfl | rfl
                  · rw [s76_, updE, if_neg hi]
                  · rw [s78_]
                  · rw [s79_]
                  · rw [s80_, updE, if_neg hi]
                  · rw [s82_]
                have hP2 : SHp (va_up (va_up (va_up F 76 (upd (F 76) (Int32.toNatClampNeg xq) ((F 7) (Int32.toNatClampNeg wq)))) 77 (upd (F 77) (Int32.toNatClampNeg xq) ((F 8) (Int32.toNatClampNeg wq)))) 80 (upd (F 80) (Int32.toNatClampNeg xq) wq)) fo Wn bn (kk.toInt) := by rw [hkN]; exact SHp_off (F := F) rfl rfl rfl rfl hoff (by omega) (by rw [← hkN]; exact hP)
                have h76 : (va_up (va_up (va_up F 76 (upd (F 76) (Int32.toNatClampNeg xq) ((F 7) (Int32.toNatClampNeg wq)))) 77 (upd (F 77) (Int32.toNatClampNeg xq) ((F 8) (Int32.toNatClampNeg wq)))) 80 (upd (F 80) (Int32.toNatClampNeg xq) wq)) 76 (Int32.toNatClampNeg xq) = F 7 (Int32.toNatClampNeg wq) := by rw [s76_, updE, if_pos rfl]
                have h80 : (va_up (va_up (va_up F 76 (upd (F 76) (Int32.toNatClampNeg xq) ((F 7) (Int32.toNatClampNeg wq)))) 77 (upd (F 77) (Int32.toNatClampNeg xq) ((F 8) (Int32.toNatClampNeg wq)))) 80 (upd (F 80) (Int32.toNatClampNeg xq) wq)) 80 (Int32.toNatClampNeg xq) = wq := by rw [s80_, updE, if_pos rfl]
                refine gz_sub (lv' := [(9, .int 1), (8, .int 0), (7, .int xq), (6, .int wq), (5, .int kk), (0, .ref m), (1, .int x1), (2, .int x2), (3, .int bs), (4, .int nb)]) (by simp [List.lookup]) ?_
                refine l_X12_shortensA (lf := 0) (pr := 1) (wq := wq) (xq := xq) (kN := kN) hb hf ⟨hkN, by omega, by omega⟩ qx qw ?_ 1 _ _ _ _ _ hS_3 (fx_F (fx_F (fx_F hx (by decide)) (by decide)) (by decide)) (RI_fx hR hxx (by decide) (by decide)) hfo hN2 hW6 hP2 h76 h80 (Or.inr ⟨rfl, (show 2 ≤ (F 7 (Int32.toNatClampNeg wq)).toInt by omega)⟩) (Or.inl ⟨rfl, (show 3 ≤ (F 7 (Int32.toNatClampNeg wq)).toInt ∧ (F 7 (Int32.toNatClampNeg wq)).toInt ≤ 5 by omega)⟩) (by decide)
                clear hS hx hR hfo hN hW6 hP
                intro n z F G fm hS hx hR hfo hN hW6 hP
                refine gz_iinc (v := (kk + (-1))) (lv' := [(5, .int (kk + (-1))), (0, .ref m), (1, .int x1), (2, .int x2), (3, .int bs), (4, .int nb)]) dX12_shortens_452 rfl (congrArg (fun z => kk + z) oi_m1) (by decide) rfl ?_
                refine gz_goto (tgt := 55) dX12_shortens_455 (by decide) ?_
                refine gz_sub (lv' := [(5, .int (kk + (-1))), (0, .ref m), (1, .int x1), (2, .int x2), (3, .int bs), (4, .int nb)]) (by simp [List.lookup]) ?_
                have hdc : (kk + (-1)).toInt = kk.toInt - 1 := T_dec (by omega) (by omega)
                rw [← hdc] at hP
                generalize kk + (-1) = k2 at hdc hP ⊢
                exact ih k2 _ _ _ _ _ hS hx (hR) (hfo) (hN) (hW6) (hP) (by omega)
        ·
          try simp only [mIn_0, lgc_lt, lgc_gt, lgc_le, lgc_ge, lgc_eq] at c_130
          try simp only [fl_lt, fl_le, fl_eq, fL_w, fL_lt, fL_le, tm1, tm10k, tm9, tm99, Int32.reduceToInt, Int64.reduceToInt, Int.not_lt, Int.not_le] at c_130
          refine gz_iconst (v := 1) dX12_shortens_133 (by decide) ?_
          refine gz_goto (tgt := 138) dX12_shortens_134 (by decide) ?_
          refine gz_istore (lv' := [(8, .int 1), (7, .int xq), (6, .int wq), (5, .int kk), (0, .ref m), (1, .int x1), (2, .int x2), (3, .int bs), (4, .int nb)]) dX12_shortens_138 (by decide) rfl ?_
          refine gz_aload_n dX12_shortens_140 rfl rfl ?_
          refine mg_20 hS_3 dX12_shortens_141 ?_
          refine gz_iload dX12_shortens_144 rfl ?_
          refine m_iald 7 hS_3 rfl (N := 880) rfl ((by exact vin_T (rfl : wq.toInt = wq.toInt) (by omega) (by omega))) dX12_shortens_146 ?_
          refine gz_ev (w := .int ((F 7) (Int32.toNatClampNeg wq))) rfl ?_
          refine gz_iconst (v := 3) dX12_shortens_147 (by decide) ?_
          refine gz_icmp_eq (tgt := 173) dX12_shortens_148 (by decide) (fun c_148 => ?_) (fun c_148 => ?_)
          ·
            try simp only [mIn_0, lgc_lt, lgc_gt, lgc_le, lgc_ge, lgc_eq] at c_148
            try simp only [fl_lt, fl_le, fl_eq, fL_w, fL_lt, fL_le, tm1, tm10k, tm9, tm99, Int32.reduceToInt, Int64.reduceToInt, Int.not_lt, Int.not_le] at c_148
            refine gz_iconst (v := 1) dX12_shortens_173 (by decide) ?_
            refine gz_goto (tgt := 178) dX12_shortens_174 (by decide) ?_
            refine gz_istore (lv' := [(9, .int 1), (8, .int 1), (7, .int xq), (6, .int wq), (5, .int kk), (0, .ref m), (1, .int x1), (2, .int x2), (3, .int bs), (4, .int nb)]) dX12_shortens_178 (by decide) rfl ?_
            exfalso; omega
          ·
            try simp only [mIn_0, lgc_lt, lgc_gt, lgc_le, lgc_ge, lgc_eq] at c_148
            try simp only [fl_lt, fl_le, fl_eq, fL_w, fL_lt, fL_le, tm1, tm10k, tm9, tm99, Int32.reduceToInt, Int64.reduceToInt, Int.not_lt, Int.not_le] at c_148
            refine gz_aload_n dX12_shortens_151 rfl rfl ?_
            refine mg_20 hS_3 dX12_shortens_152 ?_
            refine gz_iload dX12_shortens_155 rfl ?_
            refine m_iald 7 hS_3 rfl (N := 880) rfl ((by exact vin_T (rfl : wq.toInt = wq.toInt) (by omega) (by omega))) dX12_shortens_157 ?_
            refine gz_ev (w := .int ((F 7) (Int32.toNatClampNeg wq))) rfl ?_
            refine gz_iconst (v := 4) dX12_shortens_158 (by decide) ?_
            refine gz_icmp_eq (tgt := 173) dX12_shortens_159 (by decide) (fun c_159 => ?_) (fun c_159 => ?_)
            ·
              try simp only [mIn_0, lgc_lt, lgc_gt, lgc_le, lgc_ge, lgc_eq] at c_159
              try simp only [fl_lt, fl_le, fl_eq, fL_w, fL_lt, fL_le, tm1, tm10k, tm9, tm99, Int32.reduceToInt, Int64.reduceToInt, Int.not_lt, Int.not_le] at c_159
              refine gz_iconst (v := 1) dX12_shortens_173 (by decide) ?_
              refine gz_goto (tgt := 178) dX12_shortens_174 (by decide) ?_
              refine gz_istore (lv' := [(9, .int 1), (8, .int 1), (7, .int xq), (6, .int wq), (5, .int kk), (0, .ref m), (1, .int x1), (2, .int x2), (3, .int bs), (4, .int nb)]) dX12_shortens_178 (by decide) rfl ?_
              exfalso; omega
            ·
              try simp only [mIn_0, lgc_lt, lgc_gt, lgc_le, lgc_ge, lgc_eq] at c_159
              try simp only [fl_lt, fl_le, fl_eq, fL_w, fL_lt, fL_le, tm1, tm10k, tm9, tm99, Int32.reduceToInt, Int64.reduceToInt, Int.not_lt, Int.not_le] at c_159
              refine gz_aload_n dX12_shortens_162 rfl rfl ?_
              refine mg_20 hS_3 dX12_shortens_163 ?_
              refine gz_iload dX12_shortens_166 rfl ?_
              refine m_iald 7 hS_3 rfl (N := 880) rfl ((by exact vin_T (rfl : wq.toInt = wq.toInt) (by omega) (by omega))) dX12_shortens_168 ?_
              refine gz_ev (w := .int ((F 7) (Int32.toNatClampNeg wq))) rfl ?_
              refine gz_iconst (v := 5) dX12_shortens_169 (by decide) ?_
              refine gz_icmp_ne (tgt := 177) dX12_shortens_170 (by decide) (fun c_170 => ?_) (fun c_170 => ?_)
              ·
                try simp only [mIn_0, lgc_lt, lgc_gt, lgc_le, lgc_ge, lgc_eq] at c_170
                try simp only [fl_lt, fl_le, fl_eq, fL_w, fL_lt, fL_le, tm1, tm10k, tm9, tm99, Int32.reduceToInt, Int64.reduceToInt, Int.not_lt, Int.not_le] at c_170
                refine gz_iconst (v := 0) dX12_shortens_177 (by decide) ?_
                refine gz_istore (lv' := [(9, .int 0), (8, .int 1), (7, .int xq), (6, .int wq), (5, .int kk), (0, .ref m), (1, .int x1), (2, .int x2), (3, .int bs), (4, .int nb)]) dX12_shortens_178 (by decide) rfl ?_
                have hxx : fx [] [] [76, 77, 78, 79, 80, 81, 82] [] n z F G n z (va_up (va_up (va_up F 76 (upd (F 76) (Int32.toNatClampNeg xq) ((F 7) (Int32.toNatClampNeg wq)))) 77 (upd (F 77) (Int32.toNatClampNeg xq) ((F 8) (Int32.toNatClampNeg wq)))) 80 (upd (F 80) (Int32.toNatClampNeg xq) wq)) G := (fx_F (fx_F (fx_F fx_rf (by decide)) (by decide)) (by decide))
                have s76_ : (va_up (va_up (va_up F 76 (upd (F 76) (Int32.toNatClampNeg xq) ((F 7) (Int32.toNatClampNeg wq)))) 77 (upd (F 77) (Int32.toNatClampNeg xq) ((F 8) (Int32.toNatClampNeg wq)))) 80 (upd (F 80) (Int32.toNatClampNeg xq) wq)) 76 = (upd (F 76) (Int32.toNatClampNeg xq) ((F 7) (Int32.toNatClampNeg wq))) := rfl
                have s78_ : (va_up (va_up (va_up F 76 (upd (F 76) (Int32.toNatClampNeg xq) ((F 7) (Int32.toNatClampNeg wq)))) 77 (upd (F 77) (Int32.toNatClampNeg xq) ((F 8) (Int32.toNatClampNeg wq)))) 80 (upd (F 80) (Int32.toNatClampNeg xq) wq)) 78 = (F 78) := rfl
                have s79_ : (va_up (va_up (va_up F 76 (upd (F 76) (Int32.toNatClampNeg xq) ((F 7) (Int32.toNatClampNeg wq)))) 77 (upd (F 77) (Int32.toNatClampNeg xq) ((F 8) (Int32.toNatClampNeg wq)))) 80 (upd (F 80) (Int32.toNatClampNeg xq) wq)) 79 = (F 79) := rfl
                have s80_ : (va_up (va_up (va_up F 76 (upd (F 76) (Int32.toNatClampNeg xq) ((F 7) (Int32.toNatClampNeg wq)))) 77 (upd (F 77) (Int32.toNatClampNeg xq) ((F 8) (Int32.toNatClampNeg wq)))) 80 (upd (F 80) (Int32.toNatClampNeg xq) wq)) 80 = (upd (F 80) (Int32.toNatClampNeg xq) wq) := rfl
                have s81_ : (va_up (va_up (va_up F 76 (upd (F 76) (Int32.toNatClampNeg xq) ((F 7) (Int32.toNatClampNeg wq)))) 77 (upd (F 77) (Int32.toNatClampNeg xq) ((F 8) (Int32.toNatClampNeg wq)))) 80 (upd (F 80) (Int32.toNatClampNeg xq) wq)) 81 = (F 81) := rfl
                have s82_ : (va_up (va_up (va_up F 76 (upd (F 76) (Int32.toNatClampNeg xq) ((F 7) (Int32.toNatClampNeg wq)))) 77 (upd (F 77) (Int32.toNatClampNeg xq) ((F 8) (Int32.toNatClampNeg wq)))) 80 (upd (F 80) (Int32.toNatClampNeg xq) wq)) 82 = (F 82) := rfl
                have hN2 : NR (va_up (va_up (va_up F 76 (upd (F 76) (Int32.toNatClampNeg xq) ((F 7) (Int32.toNatClampNeg wq)))) 77 (upd (F 77) (Int32.toNatClampNeg xq) ((F 8) (Int32.toNatClampNeg wq)))) 80 (upd (F 80) (Int32.toNatClampNeg xq) wq)) := by
                  intro q hq
                  obtain ⟨q1, q2, q3, q4, q5⟩ := hN q hq
                  rw [s78_, s79_, s80_, s81_, s82_]
                  simp only [updE]
                  refine ⟨?_, ?_, ?_, ?_, ?_⟩ <;> (repeat' split) <;> omega
                have hoff : ∀ r, r ∈ [76, 78, 79, 80, 82] → ∀ i, i ≠ bn + kN → (va_up (va_up (va_up F 76 (upd (F 76) (Int32.toNatClampNeg xq) ((F 7) (Int32.toNatClampNeg wq)))) 77 (upd (F 77) (Int32.toNatClampNeg xq) ((F 8) (Int32.toNatClampNeg wq)))) 80 (upd (F 80) (Int32.toNatClampNeg xq) wq)) r i = F r i := by
                  intro r hr i hi
                  rw [← ecx] at hi
                  simp only [List.mem_cons, List.not_mem_nil, or_false] at hr
                  rcases hr with rfl | rfl | rfl | rfl | rfl
                  · rw [s76_, updE, if_neg hi]
                  · rw [s78_]
                  · rw [s79_]
                  · rw [s80_, updE, if_neg hi]
                  · rw [s82_]
                have hP2 : SHp (va_up (va_up (va_up F 76 (upd (F 76) (Int32.toNatClampNeg xq) ((F 7) (Int32.toNatClampNeg wq)))) 77 (upd (F 77) (Int32.toNatClampNeg xq) ((F 8) (Int32.toNatClampNeg wq)))) 80 (upd (F 80) (Int32.toNatClampNeg xq) wq)) fo Wn bn (kk.toInt) := by rw [hkN]; exact SHp_off (F := F) rfl rfl rfl rfl hoff (by omega) (by rw [← hkN]; exact hP)
                have h76 : (va_up (va_up (va_up F 76 (upd (F 76) (Int32.toNatClampNeg xq) ((F 7) (Int32.toNatClampNeg wq)))) 77 (upd (F 77) (Int32.toNatClampNeg xq) ((F 8) (Int32.toNatClampNeg wq)))) 80 (upd (F 80) (Int32.toNatClampNeg xq) wq)) 76 (Int32.toNatClampNeg xq) = F 7 (Int32.toNatClampNeg wq) := by rw [s76_, updE, if_pos rfl]
                have h80 : (va_up (va_up (va_up F 76 (upd (F 76) (Int32.toNatClampNeg xq) ((F 7) (Int32.toNatClampNeg wq)))) 77 (upd (F 77) (Int32.toNatClampNeg xq) ((F 8) (Int32.toNatClampNeg wq)))) 80 (upd (F 80) (Int32.toNatClampNeg xq) wq)) 80 (Int32.toNatClampNeg xq) = wq := by rw [s80_, updE, if_pos rfl]
                refine gz_sub (lv' := [(9, .int 0), (8, .int 1), (7, .int xq), (6, .int wq), (5, .int kk), (0, .ref m), (1, .int x1), (2, .int x2), (3, .int bs), (4, .int nb)]) (by simp [List.lookup]) ?_
                refine l_X12_shortensA (lf := 1) (pr := 0) (wq := wq) (xq := xq) (kN := kN) hb hf ⟨hkN, by omega, by omega⟩ qx qw ?_ 1 _ _ _ _ _ hS_3 (fx_F (fx_F (fx_F hx (by decide)) (by decide)) (by decide)) (RI_fx hR hxx (by decide) (by decide)) hfo hN2 hW6 hP2 h76 h80 (Or.inl ⟨rfl, (show (F 7 (Int32.toNatClampNeg wq)).toInt ≤ 1 by omega)⟩) (Or.inr ⟨rfl, (show ¬ (3 ≤ (F 7 (Int32.toNatClampNeg wq)).toInt ∧ (F 7 (Int32.toNatClampNeg wq)).toInt ≤ 5) by omega)⟩) (by decide)
                clear hS hx hR hfo hN hW6 hP
                intro n z F G fm hS hx hR hfo hN hW6 hP
                refine gz_iinc (v := (kk + (-1))) (lv' := [(5, .int (kk + (-1))), (0, .ref m), (1, .int x1), (2, .int x2), (3, .int bs), (4, .int nb)]) dX12_shortens_452 rfl (congrArg (fun z => kk + z) oi_m1) (by decide) rfl ?_
                refine gz_goto (tgt := 55) dX12_shortens_455 (by decide) ?_
                refine gz_sub (lv' := [(5, .int (kk + (-1))), (0, .ref m), (1, .int x1), (2, .int x2), (3, .int bs), (4, .int nb)]) (by simp [List.lookup]) ?_
                have hdc : (kk + (-1)).toInt = kk.toInt - 1 := T_dec (by omega) (by omega)
                rw [← hdc] at hP
                generalize kk + (-1) = k2 at hdc hP ⊢
                exact ih k2 _ _ _ _ _ hS hx (hR) (hfo) (hN) (hW6) (hP) (by omega)
              ·
                try simp only [mIn_0, lgc_lt, lgc_gt, lgc_le, lgc_ge, lgc_eq] at c_170
                try simp only [fl_lt, fl_le, fl_eq, fL_w, fL_lt, fL_le, tm1, tm10k, tm9, tm99, Int32.reduceToInt, Int64.reduceToInt, Int.not_lt, Int.not_le] at c_170
                refine gz_iconst (v := 1) dX12_shortens_173 (by decide) ?_
                refine gz_goto (tgt := 178) dX12_shortens_174 (by decide) ?_
                refine gz_istore (lv' := [(9, .int 1), (8, .int 1), (7, .int xq), (6, .int wq), (5, .int kk), (0, .ref m), (1, .int x1), (2, .int x2), (3, .int bs), (4, .int nb)]) dX12_shortens_178 (by decide) rfl ?_
                exfalso; omega
