/-! shortens -/
theorem tn_ok {lo bn : Nat} {H : Nat → Hd} {fi se : Nat → Nat} (hE : ∀ w, lo ≤ w → w < bn + 41 → (1 ≤ arH (H w) → w < fi w ∧ fi w < bn + 41) ∧ (arH (H w) = 2 → w < se w ∧ se w < bn + 41)) : ∀ k x, lo ≤ x → x < bn + 41 → bn + 41 ≤ x + k → okT (trG H fi se k x) 1 := by
  intro k
  induction k with
  | zero => intro x h0 h1 h2; omega
  | succ k ih =>
    intro x h0 h1 h2
    obtain ⟨e1, e2⟩ := hE x h0 h1
    have hl := arH_le (h := H x)
    show okT _ (0 + arH (H x))
    rw [Nat.zero_add]
    by_cases c2 : arH (H x) = 2
    · have := e1 (by omega)
      have := e2 c2
      rw [if_pos c2, c2]
      exact okT_app (n := 1) (m := 1) (ih _ (by omega) (by omega) (by omega)) (ih _ (by omega) (by omega) (by omega))
    · rw [if_neg c2]
      by_cases c1 : arH (H x) = 1
      · have := e1 (by omega)
        rw [if_pos c1, c1]
        exact ih _ (by omega) (by omega) (by omega)
      · rw [if_neg c1, show arH (H x) = 0 by omega]
        rfl
theorem lawN_w {F : Nat → Nat → Int32} {h : Hd} {x : Nat} {nb r : Int} (vh : hvH h) (q : lawN F h x nb r) : r = nb ∨ r = x ∨ r = (F 78 x).toInt ∨ (r = (F 79 x).toInt ∧ h.1 = 3) ∨ (r = (F 78 (F 78 x).toInt.toNat).toInt ∧ (F 76 (F 78 x).toInt.toNat).toInt = 2) := by
  obtain ⟨r0, r1, r2, r3, r4, r9, r6⟩ := q
  have hk := vh.1
  by_cases k0 : h.1 = 0
  · exact Or.inl (r0 k0)
  by_cases k1 : h.1 = 1
  · exact Or.inr (Or.inl (r1 k1))
  by_cases k2 : h.1 = 2
  · obtain ⟨s1, s2⟩ := r2 k2
    by_cases c : (F 78 x).toInt = nb
    · exact Or.inl (s1 c)
    · obtain ⟨s3, s4⟩ := s2 c
      by_cases d : (F 76 (F 78 x).toInt.toNat).toInt = 2
      · exact Or.inr (Or.inr (Or.inr (Or.inr ⟨s3 d, d⟩)))
      · exact Or.inr (Or.inl (s4 d))
  by_cases k3 : h.1 = 3
  · obtain ⟨s1, s2⟩ := r3 k3
    by_cases c : (F 78 x).toInt = nb
    · exact Or.inr (Or.inr (Or.inr (Or.inl ⟨s1 c, k3⟩)))
    · obtain ⟨s3, s4⟩ := s2 c
      by_cases d : (F 79 x).toInt = nb
      · exact Or.inr (Or.inr (Or.inl (s3 d)))
      · exact Or.inr (Or.inl (s4 d))
  by_cases k4 : h.1 = 4 ∨ h.1 = 5
  · obtain ⟨s1, s2⟩ := r4 k4
    by_cases c : (F 81 (F 78 x).toInt.toNat).toInt = (F 81 (F 79 x).toInt.toNat).toInt
    · exact Or.inr (Or.inr (Or.inl (s1 c)))
    · exact Or.inr (Or.inl (s2 c))
  by_cases k9 : h.1 = 9
  · obtain ⟨s1, s2⟩ := r9 k9
    by_cases c : (F 78 x).toInt = nb
    · exact Or.inl (s1 c)
    · obtain ⟨s3, s4⟩ := s2 c
      by_cases d : alH h 0
      · exact Or.inl (s3 d)
      · obtain ⟨s5, s6⟩ := s4 d
        by_cases d1 : alH h 1
        · exact Or.inr (Or.inr (Or.inl (s5 d1)))
        · exact Or.inr (Or.inl (s6 d1))
  · obtain ⟨s1, s2⟩ := r6 (by omega)
    by_cases c : (F 78 x).toInt = nb
    · exact Or.inl (s1 c)
    · exact Or.inr (Or.inl (s2 c))
theorem LX_cg {F F2 : Nat → Nat → Int32} {f : Nat} {T : List Hd} (h : ∀ r, 6 ≤ r → r ≤ 20 → F2 r = F r) (q : LX F f T) : LX F2 f T := by
  obtain ⟨q1, q2, q4, q5⟩ := q
  refine ⟨q1, by rw [h 6 (by decide) (by decide)]; exact q2, LR_rw (fun r h1 h2 _ => h r (by omega) h2) q4, fun k hk z => ?_⟩
  rw [h 13 (by decide) (by decide), h 14 (by decide) (by decide), h 15 (by decide) (by decide)]
  exact q5 k hk z
/-- nodes of the other side stay -/
def outS (F0 F : Nat → Nat → Int32) (bn : Nat) : Prop := ∀ r, r ∈ [76, 77, 78, 79, 80, 81, 82] → ∀ i, i < bn ∨ bn + 40 < i → F r i = F0 r i
theorem outS_rf {F : Nat → Nat → Int32} {bn : Nat} : outS F F bn := fun _ _ _ _ => rfl
theorem outS_st {F0 F F2 : Nat → Nat → Int32} {bn k : Nat} (h : outS F0 F bn) (ho : ∀ r, r ∈ [76, 77, 78, 79, 80, 81, 82] → ∀ i, i ≠ bn + k → F2 r i = F r i) (hk : k ≤ 40) : outS F0 F2 bn := fun r hr i hi => (ho r hr i (by omega)).trans (h r hr i hi)
/-- how far a node like this one was looked for -/
def stQn (F : Nat → Nat → Int32) (bn kN : Nat) (T : List Hd) (H : Nat → Hd) (fi se : Nat → Nat) (y : Int) : Prop := ((F 81 (bn + kN)).toInt = (bn : Int) + kN ∧ ∀ z : Nat, y < (z : Int) → z < bn + T.length → fxN F z → sjT T kN ≠ trG H fi se 41 z) ∨ ∃ z : Nat, bn + kN < z ∧ z < bn + T.length ∧ fxN F z ∧ sjT T kN = trG H fi se 41 z ∧ (F 81 (bn + kN)).toInt = (F 81 z).toInt
theorem st_mk {F : Nat → Nat → Int32} {bn kN : Nat} {T : List Hd} {H : Nat → Hd} {fi se : Nat → Nat} {y : Int} (h : ((F 81 (bn + kN)).toInt = (bn : Int) + kN ∧ ∀ z : Nat, y < (z : Int) → z < bn + T.length → fxN F z → sjT T kN ≠ trG H fi se 41 z) ∨ ∃ z : Nat, bn + kN < z ∧ z < bn + T.length ∧ fxN F z ∧ sjT T kN = trG H fi se 41 z ∧ (F 81 (bn + kN)).toInt = (F 81 z).toInt) : stQn F bn kN T H fi se y := h
theorem st_un {F : Nat → Nat → Int32} {bn kN : Nat} {T : List Hd} {H : Nat → Hd} {fi se : Nat → Nat} {y : Int} (h : stQn F bn kN T H fi se y) : ((F 81 (bn + kN)).toInt = (bn : Int) + kN ∧ ∀ z : Nat, y < (z : Int) → z < bn + T.length → fxN F z → sjT T kN ≠ trG H fi se 41 z) ∨ ∃ z : Nat, bn + kN < z ∧ z < bn + T.length ∧ fxN F z ∧ sjT T kN = trG H fi se 41 z ∧ (F 81 (bn + kN)).toInt = (F 81 z).toInt := h
set_option maxHeartbeats 4000000 in
set_option maxRecDepth 100000 in
theorem l_X12_shortens2E {l : Launch} {D : va_G} {cy : Nat → ClassId} {b : Nat} {m : Nat} {a : Nat → Nat} {f0 : gMem} {n0 : Nat → Int32} {z0 : Nat → Int64} {F0 : Nat → Nat → Int32} {G0 : Nat → Nat → Int64}  {x1 x2 bs nb : Int32} {fo Wn bn : Nat} {kk xq : Int32} {T : List Hd} {H : Nat → Hd} {fi se : Nat → Nat} {kN u A0 B0 R : Nat} {hh h2 : Hd} (hb : bs.toInt = (bn : Int) ∧ (bn = 0 ∨ bn = 41) ∧ nb.toInt = (bn : Int) + 40) (hf : x1.toInt = (fo : Int) ∧ fo < 20) (hTl : T.length ≤ 40 ∧ kN < T.length ∧ Wn = T.length) (hkq : kk.toInt = (kN : Int) ∧ xq.toInt = (bn : Int) + kN) (hne : Unit → (R ≠ bn + kN → trG H fi se 41 R = sjT T kN)) (hxs : Unit → (R = bn + kN → h2.1 ≠ 0 ∧ (arH h2 = 0 → sjT T kN = [h2]) ∧ (arH h2 = 1 → A0 ≠ bn + 40 ∧ sjT T kN = h2 :: trG H fi se 41 A0) ∧ (arH h2 = 2 → sjT T kN = h2 :: (trG H fi se 41 A0 ++ trG H fi se 41 B0)))) (hq : ∀  (n : Nat → Int32) (z : Nat → Int64) (F : Nat → Nat → Int32) (G : Nat → Nat → Int64) (fm : gMem), mS cy m a f0 n z F G fm → fx [] [] [76, 77, 78, 79, 80, 81, 82] [] n0 z0 F0 G0 n z F G → (RI n F) → ((fo : Int) < (n 5).toInt) → (NR F) → ((F 6 fo).toInt = (Wn : Int)) → (outS F0 F bn) → (SHp F fo Wn bn (kk.toInt - 1)) → (∃ (H : Nat → Hd) (fi se : Nat → Nat), shE F fo bn T H fi se kk.toInt.toNat) → gG l (gRm 3 0 0) (gQf D b (pV fun f2 => ∃ (n2 : Nat → Int32) (z2 : Nat → Int64) (F2 : Nat → Nat → Int32) (G2 : Nat → Nat → Int64), mS cy m a f0 n2 z2 F2 G2 f2 ∧ fx [] [] [76, 77, 78, 79, 80, 81, 82] [] n0 z0 F0 G0 n2 z2 F2 G2 ∧ NR F2 ∧ SHp F2 fo Wn bn (-1) ∧ outS F0 F2 bn ∧ ∃ (H : Nat → Hd) (fi se : Nat → Nat), shE F2 fo bn T H fi se 0) 0 0) gTt D cy b cX12_shortens 11 none RX12 "shortens" 0 0 fm 452 [(5, .int kk), (0, .ref m), (1, .int x1), (2, .int x2), (3, .int bs), (4, .int nb)] []) : ∀ (k : Nat) (y : Int32) (n : Nat → Int32) (z : Nat → Int64) (F : Nat → Nat → Int32) (G : Nat → Nat → Int64) (fm : gMem), mS cy m a f0 n z F G fm → fx [] [] [76, 77, 78, 79, 80, 81, 82] [] n0 z0 F0 G0 n z F G → (RI n F) → ((fo : Int) < (n 5).toInt) → (NR F) → ((F 6 fo).toInt = (Wn : Int)) → (outS F0 F bn) → (SHp F fo Wn bn (kk.toInt - 1)) → (shE F fo bn T H fi se (kN + 1)) → (enN F fo bn T H fi se kN hh h2 A0 B0 u) → ((F 82 (bn + kN)).toInt = (R : Int)) → (Unit → (R = bn + 40 ∨ R = bn + kN ∨ (bn + kN < R ∧ R < bn + T.length ∧ fxN F R))) → (Unit → (R = bn + kN → stQn F bn kN T H fi se (y.toInt))) → (y.toInt + 2 ≤ (k : Int) ∧ y.toInt ≤ 81 ∧ y.toInt < (bn : Int) + Wn ∧ (xq.toInt - 1 ≤ y.toInt) ∧ 0 ≤ xq.toInt ∧ xq.toInt ≤ 81) → gG l (gRm 3 0 0) (gQf D b (pV fun f2 => ∃ (n2 : Nat → Int32) (z2 : Nat → Int64) (F2 : Nat → Nat → Int32) (G2 : Nat → Nat → Int64), mS cy m a f0 n2 z2 F2 G2 f2 ∧ fx [] [] [76, 77, 78, 79, 80, 81, 82] [] n0 z0 F0 G0 n2 z2 F2 G2 ∧ NR F2 ∧ SHp F2 fo Wn bn (-1) ∧ outS F0 F2 bn ∧ ∃ (H : Nat → Hd) (fi se : Nat → Nat), shE F2 fo bn T H fi se 0) 0 0) gTt D cy b cX12_shortens 11 none RX12 "shortens" 0 0 fm 377 [(10, .int y), (7, .int xq), (5, .int kk), (0, .ref m), (1, .int x1), (2, .int x2), (3, .int bs), (4, .int nb)] [] := by
  intro k
  induction k with
  | zero =>
    intro y n z F G fm hS hx hR hfo hN hW6 hou hP hE hen h82 hRR hst hk
    exfalso; omega
  | succ k ih =>
    intro y n z F G fm hS hx hR hfo hN hW6 hou hP hE hen h82 hRR hst hk
    obtain ⟨a0, a4, a5, bA, bW, a30, bL, a38, bP, a53, a47, a88⟩ := id hR
    refine gz_iload dX12_shortens_377 rfl ?_
    refine gz_iload dX12_shortens_379 rfl ?_
    refine gz_icmp_le (tgt := 452) dX12_shortens_381 (by decide) (fun c_381 => ?_) (fun c_381 => ?_)
    ·
      try simp only [mIn_0, lgc_lt, lgc_gt, lgc_le, lgc_ge, lgc_eq] at c_381
      try simp only [fl_lt, fl_le, fl_eq, fL_w, fL_lt, fL_le, tm1, tm10k, tm9, tm99, Int32.reduceToInt, Int64.reduceToInt, Int.not_lt, Int.not_le] at c_381
      refine gz_sub (lv' := [(5, .int kk), (0, .ref m), (1, .int x1), (2, .int x2), (3, .int bs), (4, .int nb)]) (by simp [List.lookup]) ?_
      exact hq  _ _ _ _ _ hS hx (hR) (hfo) (hN) (hW6) (hou) (hP) (by
              have ecx : (Int32.toNatClampNeg xq) = bn + kN := by rw [clN]; omega
              have h82x : (F 82 (Int32.toNatClampNeg xq)).toInt = (R : Int) := by rw [ecx]; exact h82
              have h81x : (F 81 (Int32.toNatClampNeg xq)).toInt = (F 81 (bn + kN)).toInt := by rw [ecx]
              rw [hkq.1, show ((kN : Int)).toNat = kN from Int.toNat_natCast kN]
              exact ⟨_, _, _, shE_st hE hTl.1 hTl.2.1 hen (fun _ _ => rfl) (fun _ _ _ _ => rfl) (fun _ _ => rfl) h82 (hRR ()) (hne ()) (hxs ()) (fun eR => (st_un (hst () eR)).imp (fun q => ⟨q.1, fun z z1 z2 z3 => q.2 z (by have q1 := q.1; omega) z2 z3⟩) id)⟩)
    ·
      try simp only [mIn_0, lgc_lt, lgc_gt, lgc_le, lgc_ge, lgc_eq] at c_381
      try simp only [fl_lt, fl_le, fl_eq, fL_w, fL_lt, fL_le, tm1, tm10k, tm9, tm99, Int32.reduceToInt, Int64.reduceToInt, Int.not_lt, Int.not_le] at c_381
      refine gz_aload_n dX12_shortens_384 rfl rfl ?_
      refine mg_228 hS dX12_shortens_385 ?_
      refine gz_iload dX12_shortens_388 rfl ?_
      refine m_iald 82 hS rfl (N := 82) rfl ((by exact vin_T (rfl : (xq).toInt = (xq).toInt) (by omega) (by omega))) dX12_shortens_390 ?_
      refine gz_iload dX12_shortens_391 rfl ?_
      refine gz_icmp_ne (tgt := 452) dX12_shortens_393 (by decide) (fun c_393 => ?_) (fun c_393 => ?_)
      ·
        try simp only [mIn_0, lgc_lt, lgc_gt, lgc_le, lgc_ge, lgc_eq] at c_393
        try simp only [fl_lt, fl_le, fl_eq, fL_w, fL_lt, fL_le, tm1, tm10k, tm9, tm99, Int32.reduceToInt, Int64.reduceToInt, Int.not_lt, Int.not_le] at c_393
        refine gz_sub (lv' := [(5, .int kk), (0, .ref m), (1, .int x1), (2, .int x2), (3, .int bs), (4, .int nb)]) (by simp [List.lookup]) ?_
        exact hq  _ _ _ _ _ hS hx (hR) (hfo) (hN) (hW6) (hou) (hP) (by
              have ecx : (Int32.toNatClampNeg xq) = bn + kN := by rw [clN]; omega
              have h82x : (F 82 (Int32.toNatClampNeg xq)).toInt = (R : Int) := by rw [ecx]; exact h82
              have h81x : (F 81 (Int32.toNatClampNeg xq)).toInt = (F 81 (bn + kN)).toInt := by rw [ecx]
              rw [hkq.1, show ((kN : Int)).toNat = kN from Int.toNat_natCast kN]
              exact ⟨_, _, _, shE_st hE hTl.1 hTl.2.1 hen (fun _ _ => rfl) (fun _ _ _ _ => rfl) (fun _ _ => rfl) h82 (hRR ()) (hne ()) (hxs ()) (fun eR => (st_un (hst () eR)).imp (fun q => ⟨q.1, fun z z1 z2 z3 => q.2 z (by have q1 := q.1; omega) z2 z3⟩) id)⟩)
      ·
        try simp only [mIn_0, lgc_lt, lgc_gt, lgc_le, lgc_ge, lgc_eq] at c_393
        try simp only [fl_lt, fl_le, fl_eq, fL_w, fL_lt, fL_le, tm1, tm10k, tm9, tm99, Int32.reduceToInt, Int64.reduceToInt, Int.not_lt, Int.not_le] at c_393
        refine gz_aload_n dX12_shortens_396 rfl rfl ?_
        refine mg_225 hS dX12_shortens_397 ?_
        refine gz_iload dX12_shortens_400 rfl ?_
        refine m_iald 81 hS rfl (N := 82) rfl ((by exact vin_T (rfl : (xq).toInt = (xq).toInt) (by omega) (by omega))) dX12_shortens_402 ?_
        refine gz_iload dX12_shortens_403 rfl ?_
        refine gz_icmp_ne (tgt := 452) dX12_shortens_405 (by decide) (fun c_405 => ?_) (fun c_405 => ?_)
        ·
          try simp only [mIn_0, lgc_lt, lgc_gt, lgc_le, lgc_ge, lgc_eq] at c_405
          try simp only [fl_lt, fl_le, fl_eq, fL_w, fL_lt, fL_le, tm1, tm10k, tm9, tm99, Int32.reduceToInt, Int64.reduceToInt, Int.not_lt, Int.not_le] at c_405
          refine gz_sub (lv' := [(5, .int kk), (0, .ref m), (1, .int x1), (2, .int x2), (3, .int bs), (4, .int nb)]) (by simp [List.lookup]) ?_
          exact hq  _ _ _ _ _ hS hx (hR) (hfo) (hN) (hW6) (hou) (hP) (by
              have ecx : (Int32.toNatClampNeg xq) = bn + kN := by rw [clN]; omega
              have h82x : (F 82 (Int32.toNatClampNeg xq)).toInt = (R : Int) := by rw [ecx]; exact h82
              have h81x : (F 81 (Int32.toNatClampNeg xq)).toInt = (F 81 (bn + kN)).toInt := by rw [ecx]
              rw [hkq.1, show ((kN : Int)).toNat = kN from Int.toNat_natCast kN]
              exact ⟨_, _, _, shE_st hE hTl.1 hTl.2.1 hen (fun _ _ => rfl) (fun _ _ _ _ => rfl) (fun _ _ => rfl) h82 (hRR ()) (hne ()) (hxs ()) (fun eR => (st_un (hst () eR)).imp (fun q => ⟨q.1, fun z z1 z2 z3 => q.2 z (by have q1 := q.1; omega) z2 z3⟩) id)⟩)
        ·
          try simp only [mIn_0, lgc_lt, lgc_gt, lgc_le, lgc_ge, lgc_eq] at c_405
          try simp only [fl_lt, fl_le, fl_eq, fL_w, fL_lt, fL_le, tm1, tm10k, tm9, tm99, Int32.reduceToInt, Int64.reduceToInt, Int.not_lt, Int.not_le] at c_405
          refine gz_aload_n dX12_shortens_408 rfl rfl ?_
          refine mg_228 hS dX12_shortens_409 ?_
          refine gz_iload dX12_shortens_412 rfl ?_
          refine m_iald 82 hS rfl (N := 82) rfl ((by exact vin_T (rfl : (y).toInt = (y).toInt) (by omega) (by omega))) dX12_shortens_414 ?_
          refine gz_iload dX12_shortens_415 rfl ?_
          refine gz_icmp_ne (tgt := 446) dX12_shortens_417 (by decide) (fun c_417 => ?_) (fun c_417 => ?_)
          ·
            try simp only [mIn_0, lgc_lt, lgc_gt, lgc_le, lgc_ge, lgc_eq] at c_417
            try simp only [fl_lt, fl_le, fl_eq, fL_w, fL_lt, fL_le, tm1, tm10k, tm9, tm99, Int32.reduceToInt, Int64.reduceToInt, Int.not_lt, Int.not_le] at c_417
            refine gz_iinc (v := (y + (-1))) (lv' := [(10, .int (y + (-1))), (7, .int xq), (5, .int kk), (0, .ref m), (1, .int x1), (2, .int x2), (3, .int bs), (4, .int nb)]) dX12_shortens_446 rfl (congrArg (fun z => y + z) oi_m1) (by decide) rfl ?_
            refine gz_goto (tgt := 377) dX12_shortens_449 (by decide) ?_
            refine gz_sub (lv' := [(10, .int (y + (-1))), (7, .int xq), (5, .int kk), (0, .ref m), (1, .int x1), (2, .int x2), (3, .int bs), (4, .int nb)]) (by simp [List.lookup]) ?_
            have hdc : (y + (-1)).toInt = y.toInt - 1 := T_dec (by omega) (by omega)
            generalize y + (-1) = y2 at hdc ⊢
            have ecx : (Int32.toNatClampNeg xq) = bn + kN := by rw [clN]; omega
            have h82x : (F 82 (Int32.toNatClampNeg xq)).toInt = (R : Int) := by rw [ecx]; exact h82
            have hst9 : Unit → (R = bn + kN → stQn F bn kN T H fi se (y2.toInt)) := fun _ eR => st_mk ((st_un (hst () eR)).imp (fun q => ⟨q.1, fun z z1 z2 z3 => by by_cases e : z = y.toInt.toNat; (exfalso; unfold fxN at z3; have q9 : (F 82 (Int32.toNatClampNeg y)).toInt = (F 82 z).toInt := (by rw [clN, e]); omega); (exact q.2 z (by omega) z2 z3)⟩) id)
            exact ih y2 _ _ _ _ _ hS hx (hR) (hfo) (hN) (hW6) (hou) (hP) (hE) (hen) (h82) (hRR) (hst9) (by omega)
          ·
            try simp only [mIn_0, lgc_lt, lgc_gt, lgc_le, lgc_ge, lgc_eq] at c_417
            try simp only [fl_lt, fl_le, fl_eq, fL_w, fL_lt, fL_le, tm1, tm10k, tm9, tm99, Int32.reduceToInt, Int64.reduceToInt, Int.not_lt, Int.not_le] at c_417
            refine gz_aload_n dX12_shortens_420 rfl rfl ?_
            refine gz_iload dX12_shortens_421 rfl ?_
            refine gz_iload dX12_shortens_423 rfl ?_
            refine gz_iconst (v := 0) dX12_shortens_425 (by decide) ?_
            have ecx : (Int32.toNatClampNeg xq) = bn + kN := by rw [clN]; omega
            have enx : xq.toInt.toNat = bn + kN := by omega
            have h82x : (F 82 (Int32.toNatClampNeg xq)).toInt = (R : Int) := by rw [ecx]; exact h82
            have eR : R = bn + kN := by omega
            have hyx : bn + kN < y.toInt.toNat ∧ y.toInt.toNat < bn + T.length ∧ fxN F y.toInt.toNat := ⟨by omega, by omega, by unfold fxN; have q9 : (F 82 y.toInt.toNat).toInt = (F 82 (Int32.toNatClampNeg y)).toInt := rfl; omega⟩
            have qBy := hE.2.2.1 (y.toInt.toNat - bn) (by omega) (by omega) (by rw [show bn + (y.toInt.toNat - bn) = y.toInt.toNat by omega]; exact hyx.2.2)
            rw [show bn + (y.toInt.toNat - bn) = y.toInt.toNat by omega] at qBy
            have hal := al_ok hE hTl.1 hen (hxs () eR) hyx (fun z hz => tn_ok hE.2.2.2.2.2 41 z (by rcases hz with q | q <;> omega) (by rcases hz with q | q <;> omega) (by rcases hz with q | q <;> omega))
            refine scX12_520 (k_X12_areLikeE (x1 := xq) (x2 := y) (x3 := 0) (fo := fo) (go := fo) (a_ := h2) (b_ := H y.toInt.toNat) hS bA hN (by omega) (by omega) hf.2 (Or.inl (by rw [enx]; exact hen.2.2.1)) (Or.inl qBy.1) hf.2) hS.1 ⟨(Nat.le_of_ble_eq_true rfl), (Nat.le_of_ble_eq_true rfl)⟩ ⟨(Nat.le_of_ble_eq_true rfl), (Nat.le_of_ble_eq_true rfl)⟩ rfl rfl (Nat.le_of_ble_eq_true rfl) dX12_shortens_426 ?_
            rintro r_1 f9 ⟨hb_1, y9⟩; rw [y9]
            rw [enx, show (0 : Int32).toInt = 0 from rfl] at hb_1
            rcases hb_1 with ⟨hr1, halp⟩ | ⟨hr1, halp⟩
            ·
              refine gz_ev (w := .int 1) (congrArg Value.int hr1) ?_
              refine gz_if_eq (tgt := 446) dX12_shortens_429 (by decide) (fun c_429 => ?_) (fun c_429 => ?_)
              · exact absurd c_429 (by decide)
              ·
                try simp only [mIn_0, lgc_lt, lgc_gt, lgc_le, lgc_ge, lgc_eq] at c_429
                try simp only [fl_lt, fl_le, fl_eq, fL_w, fL_lt, fL_le, tm1, tm10k, tm9, tm99, Int32.reduceToInt, Int64.reduceToInt, Int.not_lt, Int.not_le] at c_429
                refine gz_aload_n dX12_shortens_432 rfl rfl ?_
                refine mg_225 hS dX12_shortens_433 ?_
                refine gz_iload dX12_shortens_436 rfl ?_
                refine gz_aload_n dX12_shortens_438 rfl rfl ?_
                refine mg_225 hS dX12_shortens_439 ?_
                refine gz_iload dX12_shortens_442 rfl ?_
                refine m_iald 81 hS rfl (N := 82) rfl ((by exact vin_T (rfl : (y).toInt = (y).toInt) (by omega) (by omega))) dX12_shortens_444 ?_
                refine m_iast 81 hS rfl (N := 82) rfl ((by exact vin_T (rfl : (xq).toInt = (xq).toInt) (by omega) (by omega))) dX12_shortens_445 (fun f_2 hS_2q => ?_)
                have hS_2 : mS cy m a f0 n z (va_up F 81 (upd (F 81) (Int32.toNatClampNeg xq) ((F 81) (Int32.toNatClampNeg y)))) G f_2 := hS_2q
                refine gz_iinc (v := (y + (-1))) (lv' := [(10, .int (y + (-1))), (7, .int xq), (5, .int kk), (0, .ref m), (1, .int x1), (2, .int x2), (3, .int bs), (4, .int nb)]) dX12_shortens_446 rfl (congrArg (fun z => y + z) oi_m1) (by decide) rfl ?_
                refine gz_goto (tgt := 377) dX12_shortens_449 (by decide) ?_
                refine gz_sub (lv' := [(10, .int (y + (-1))), (7, .int xq), (5, .int kk), (0, .ref m), (1, .int x1), (2, .int x2), (3, .int bs), (4, .int nb)]) (by simp [List.lookup]) ?_
                have hdc : (y + (-1)).toInt = y.toInt - 1 := T_dec (by omega) (by omega)
                generalize y + (-1) = y2 at hdc ⊢
                have hxx : fx [] [] [81] [] n z F G n z (va_up F 81 (upd (F 81) (Int32.toNatClampNeg xq) ((F 81) (Int32.toNatClampNeg y)))) G := (fx_F fx_rf (by decide))
                have qy := NR_at hN (x := y) (by omega)
                have hN9 : NR (va_up F 81 (upd (F 81) (Int32.toNatClampNeg xq) ((F 81) (Int32.toNatClampNeg y)))) := NR_up hN 81 (fun k hk hne => up_out (K := [81]) (fun _ _ => rfl) (by decide) k (by simp only [List.mem_cons, List.not_mem_nil, or_false]; exact hne)) rfl (Or.inl qy.2.2.2.1) (by decide)
                have hP9 : SHp (va_up F 81 (upd (F 81) (Int32.toNatClampNeg xq) ((F 81) (Int32.toNatClampNeg y)))) fo Wn bn (kk.toInt - 1) := SHp_cg (fun k hk => hxx.2.2.1 k ((by decide : ∀ k : Nat, k ∈ shK → k ∉ ([81] : List Nat)) k hk)) hP
                have hR9 := RI_fx hR hxx (by decide) (by decide)
                have s81_ : (va_up F 81 (upd (F 81) (Int32.toNatClampNeg xq) ((F 81) (Int32.toNatClampNeg y)))) 81 = (upd (F 81) (Int32.toNatClampNeg xq) ((F 81) (Int32.toNatClampNeg y))) := rfl
                have ecx : (Int32.toNatClampNeg xq) = bn + kN := by rw [clN]; omega
                have ecy : (Int32.toNatClampNeg y) = y.toInt.toNat := rfl
                have off81 : ∀ i, i ≠ bn + kN → (va_up F 81 (upd (F 81) (Int32.toNatClampNeg xq) ((F 81) (Int32.toNatClampNeg y)))) 81 i = F 81 i := fun i hi => by rw [s81_, ecx, updE, if_neg hi]
                have at81 : (va_up F 81 (upd (F 81) (Int32.toNatClampNeg xq) ((F 81) (Int32.toNatClampNeg y)))) 81 (bn + kN) = F 81 y.toInt.toNat := by rw [s81_, ecx, updE, if_pos rfl]; rfl
                have sm81 : ∀ r, r ≠ 81 → (va_up F 81 (upd (F 81) (Int32.toNatClampNeg xq) ((F 81) (Int32.toNatClampNeg y)))) r = F r := fun r hr => hxx.2.2.1 r (by simp only [List.mem_cons, List.not_mem_nil, or_false]; exact hr)
                have hE9 : shE (va_up F 81 (upd (F 81) (Int32.toNatClampNeg xq) ((F 81) (Int32.toNatClampNeg y)))) fo bn T H fi se (kN + 1) := shE_cg (fun r hr => sm81 r (by rintro rfl; revert hr; decide)) (fun r hr i hi => by by_cases e : r = 81; (rw [e]; exact off81 i (by omega)); (exact congrFun (sm81 r e) i)) (by omega) hE
                have hen9 : enN (va_up F 81 (upd (F 81) (Int32.toNatClampNeg xq) ((F 81) (Int32.toNatClampNeg y)))) fo bn T H fi se kN hh h2 A0 B0 u := enN_cg (fun r hr => sm81 r (by rintro rfl; revert hr; decide)) (fun r hr => congrFun (sm81 r (by rintro rfl; revert hr; decide)) _) (fun i _ => congrFun (sm81 82 (by decide)) i) hTl.1 hTl.2.1 hen
                have h829 : ((va_up F 81 (upd (F 81) (Int32.toNatClampNeg xq) ((F 81) (Int32.toNatClampNeg y)))) 82 (bn + kN)).toInt = (R : Int) := by rw [sm81 82 (by decide)]; exact h82
                have fx9 : ∀ z, fxN (va_up F 81 (upd (F 81) (Int32.toNatClampNeg xq) ((F 81) (Int32.toNatClampNeg y)))) z ↔ fxN F z := fun z => by unfold fxN; rw [sm81 82 (by decide)]
                have hRR9 : Unit → (R = bn + 40 ∨ R = bn + kN ∨ (bn + kN < R ∧ R < bn + T.length ∧ fxN (va_up F 81 (upd (F 81) (Int32.toNatClampNeg xq) ((F 81) (Int32.toNatClampNeg y)))) R)) := fun _ => by rcases hRR () with z | z | z; (exact Or.inl z); (exact Or.inr (Or.inl z)); (exact Or.inr (Or.inr ⟨z.1, z.2.1, (fx9 R).mpr z.2.2⟩))
                have hou9 : outS F0 (va_up F 81 (upd (F 81) (Int32.toNatClampNeg xq) ((F 81) (Int32.toNatClampNeg y)))) bn := outS_st (k := kN) hou (fun r hr i hi => by by_cases e : r = 81; (rw [e]; exact off81 i hi); (exact congrFun (sm81 r e) i)) (by omega)
                have hst9 : Unit → (R = bn + kN → stQn ((va_up F 81 (upd (F 81) (Int32.toNatClampNeg xq) ((F 81) (Int32.toNatClampNeg y))))) bn kN T H fi se (y2.toInt)) := fun _ _ => st_mk (Or.inr ⟨y.toInt.toNat, hyx.1, hyx.2.1, (fx9 _).mpr hyx.2.2, hal.mp halp, by rw [at81, off81 _ (by omega)]⟩)
                exact ih y2 _ _ _ _ _ hS_2 (fx_F hx (by decide)) (hR9) (hfo) (hN9) (hW6) (hou9) (hP9) (hE9) (hen9) (h829) (hRR9) (hst9) (by omega)
            ·
              refine gz_ev (w := .int 0) (congrArg Value.int hr1) ?_
              refine gz_if_eq (tgt := 446) dX12_shortens_429 (by decide) (fun c_429 => ?_) (fun c_429 => ?_)
              ·
                try simp only [mIn_0, lgc_lt, lgc_gt, lgc_le, lgc_ge, lgc_eq] at c_429
                try simp only [fl_lt, fl_le, fl_eq, fL_w, fL_lt, fL_le, tm1, tm10k, tm9, tm99, Int32.reduceToInt, Int64.reduceToInt, Int.not_lt, Int.not_le] at c_429
                refine gz_iinc (v := (y + (-1))) (lv' := [(10, .int (y + (-1))), (7, .int xq), (5, .int kk), (0, .ref m), (1, .int x1), (2, .int x2), (3, .int bs), (4, .int nb)]) dX12_shortens_446 rfl (congrArg (fun z => y + z) oi_m1) (by decide) rfl ?_
                refine gz_goto (tgt := 377) dX12_shortens_449 (by decide) ?_
                refine gz_sub (lv' := [(10, .int (y + (-1))), (7, .int xq), (5, .int kk), (0, .ref m), (1, .int x1), (2, .int x2), (3, .int bs), (4, .int nb)]) (by simp [List.lookup]) ?_
                have hdc : (y + (-1)).toInt = y.toInt - 1 := T_dec (by omega) (by omega)
                generalize y + (-1) = y2 at hdc ⊢
                have ecx : (Int32.toNatClampNeg xq) = bn + kN := by rw [clN]; omega
                have h82x : (F 82 (Int32.toNatClampNeg xq)).toInt = (R : Int) := by rw [ecx]; exact h82
                have hst9 : Unit → (R = bn + kN → stQn F bn kN T H fi se (y2.toInt)) := fun _ eR => st_mk ((st_un (hst () eR)).imp (fun q => ⟨q.1, fun z z1 z2 z3 => by by_cases e : z = y.toInt.toNat; (rw [e]; exact fun w9 => halp (hal.mpr w9)); (exact q.2 z (by omega) z2 z3)⟩) id)
                exact ih y2 _ _ _ _ _ hS hx (hR) (hfo) (hN) (hW6) (hou) (hP) (hE) (hen) (h82) (hRR) (hst9) (by omega)
              · exact absurd c_429 (by decide)
