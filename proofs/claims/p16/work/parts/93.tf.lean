/-! the reference: SUMS, TESTS, what stands around a WORD -/
/-- a DAY as the reference has it -/
def sRn (S : Sn) (z : Nat → Int64) (G : Nat → Nat → Int64) : Prop := z 29 = Int64.ofInt S.1 ∧ ∀ i, i < 6 → G 28 i = Int64.ofInt (S.2 i)
theorem hlV_0 {a b : Int} : hlV 0 a b = decide (a < b) := by unfold hlV; rw [if_pos rfl]
theorem hlV_1 {a b : Int} : hlV 1 a b = decide (a ≤ b) := by unfold hlV; rw [if_neg (by decide), if_pos rfl]
theorem hlV_2 {a b : Int} : hlV 2 a b = decide (a = b) := by unfold hlV; rw [if_neg (by decide), if_neg (by decide), if_pos rfl]
theorem hlV_3 {a b : Int} : hlV 3 a b = decide (b ≤ a) := by unfold hlV; rw [if_neg (by decide), if_neg (by decide), if_neg (by decide), if_pos rfl]
theorem hlV_4 {a b : Int} : hlV 4 a b = decide (b < a) := by unfold hlV; rw [if_neg (by decide), if_neg (by decide), if_neg (by decide), if_neg (by decide)]
/-- the way up from a WORD: where it is, what is still to come of it -/
def upI {α : Type} (T : List Hd) (fo : Nat) (z : α) (s : Hd → α → α) (u : Int) (V : α → Prop) : Prop := (u = -1 ∧ V z) ∨ ∃ p : Nat, p < T.length ∧ u = 40 * (fo : Int) + p ∧ V (s (grH T p) (upF T z s 41 p))
theorem upI_nx {α : Type} {T : List Hd} {fo p : Nat} {z : α} {s : Hd → α → α} {u : Int} {V : α → Prop} (ho : upO T) (h4 : T.length ≤ 40) (hp : p < T.length) (e : u = if tcC T 9 p = -1 then -1 else 40 * (fo : Int) + tcC T 9 p) (hV : V (upF T z s 41 p)) : upI T fo z s u V := by
  have q := ho p hp
  rw [upF_st ho h4 hp] at hV
  by_cases c : tcC T 9 p = -1
  · rw [if_pos c] at e hV
    exact Or.inl ⟨e, hV⟩
  · rw [if_neg c] at e hV
    exact Or.inr ⟨(tcC T 9 p).toNat, by omega, by omega, hV⟩
theorem upI_lo {α : Type} {T : List Hd} {fo : Nat} {z : α} {s : Hd → α → α} {u : Int} {V : α → Prop} (h : upI T fo z s u V) (hu : u < 0) : V z := by
  rcases h with h | ⟨p, h1, h2, h3⟩
  · exact h.2
  · omega
theorem upI_hi {α : Type} {T : List Hd} {fo : Nat} {z : α} {s : Hd → α → α} {u : Int} {V : α → Prop} (h : upI T fo z s u V) (hu : 0 ≤ u) : ∃ p : Nat, p < T.length ∧ u = 40 * (fo : Int) + p ∧ V (s (grH T p) (upF T z s 41 p)) := by
  rcases h with h | h
  · omega
  · exact h
theorem upI_b {α : Type} {T : List Hd} {fo : Nat} {z : α} {s : Hd → α → α} {u : Int} {V : α → Prop} (h : upI T fo z s u V) (hf : fo < 20) (h4 : T.length ≤ 40) : -1 ≤ u ∧ u ≤ 879 := by
  rcases h with h | ⟨p, h1, h2, h3⟩ <;> omega
/-- the WORD around, in the reference's row -/
theorem LX_up {F : Nat → Nat → Int32} {f : Nat} {T : List Hd} (hX : LX F f T) {k : Nat} (hk : k < T.length) : (F 10 (40 * f + k)).toInt = if tcC T 9 k = -1 then -1 else 40 * (f : Int) + tcC T 9 k := (hX.2.2.1.1 k hk).2.2.2.1
def cmb (c r : Int) : Int := if c = -1 then r else if r = -1 ∨ c < r then c else r
theorem cmb_n {r : Int} : cmb (-1) r = r := by unfold cmb; rw [if_pos rfl]
theorem cmb_e {c : Int} : cmb c (-1) = c := by
  unfold cmb
  split
  · omega
  · rw [if_pos (Or.inl rfl)]
theorem cmb_y {c r : Int} {h : Hd} (hc : -1 ≤ c) (hr : -1 ≤ r) (hn : 0 ≤ h.2.1) (hk : h.1 = 10) (hl : c < 0 ∨ h.2.1 < c) : cmb c (cpH h r) = cmb h.2.1 r := by
  unfold cmb cpH
  rw [if_pos hk]
  by_cases c1 : c = -1
  · rw [if_pos c1, if_neg (show ¬ h.2.1 = -1 by omega)]
  · rw [if_neg c1, if_neg (show ¬ h.2.1 = -1 by omega)]
    (repeat' split) <;> omega
theorem cmb_x {c r : Int} {h : Hd} (hc : -1 ≤ c) (hr : -1 ≤ r) (hn : h.1 = 10 → 0 ≤ h.2.1) (hl : ¬ h.1 = 10 ∨ (0 ≤ c ∧ c ≤ h.2.1)) : cmb c (cpH h r) = cmb c r := by
  unfold cpH
  by_cases hk : h.1 = 10
  · rw [if_pos hk]
    have := hn hk
    unfold cmb
    (repeat' split) <;> omega
  · rw [if_neg hk]
theorem xr_v {v : Int32} (h : v.toInt = 0 ∨ v.toInt = 1) : (v ^^^ 1).toInt = 1 - v.toInt ∧ (v ^^^ 0).toInt = v.toInt := by
  rcases h with h | h
  · have e : v = 0 := Int32.toInt_inj.mp h
    subst e
    decide
  · have e : v = 1 := Int32.toInt_inj.mp h
    subst e
    decide
def xrI (v r : Int) : Int := if v = 0 then r else 1 - r
theorem xrI_y {v r : Int} {h : Hd} (hv : v = 0 ∨ v = 1) (hr : r = 0 ∨ r = 1) (hk : h.1 = 2) : xrI v (sdH h r) = xrI (1 - v) r := by
  unfold xrI sdH
  rw [if_pos hk]
  rcases hv with e | e
  · rw [e, if_pos rfl, if_neg (by decide)]
  · rw [e, if_neg (by decide), if_pos (by decide)]
    omega
theorem xrI_n {v r : Int} {h : Hd} (hk : ¬ h.1 = 2) : xrI v (sdH h r) = xrI v r := by unfold sdH; rw [if_neg hk]
theorem NL_of {x : Int64} {k : Int} (h : x.toInt = k) (h2 : -9000000000000000000 ≤ k) (h3 : k ≤ 9000000000000000000) : (-x).toInt = -k := by
  rw [Int64.toInt_neg, h]
  exact Int.bmod_eq_of_le (by omega) (by omega)

set_option maxHeartbeats 4000000 in
set_option maxRecDepth 100000 in
theorem l_X12_sumOfE {l : Launch} {D : va_G} {cy : Nat → ClassId} {b : Nat} {m : Nat} {a : Nat → Nat} {f0 : gMem} {n0 : Nat → Int32} {z0 : Nat → Int64} {F0 : Nat → Nat → Int32} {G0 : Nat → Nat → Int64}  {x1 x2 x3 : Int32} {f : gMem} {S : Sn} {R0 : Int64} (hb : 0 ≤ x1.toInt ∧ x1.toInt ≤ 840) (hlo : 0 ≤ x2.toInt ∧ x2.toInt ≤ 40) (hhi : 0 ≤ x3.toInt ∧ x3.toInt ≤ 40) : ∀ (k : Nat) (i : Int32) (u v : Int64) (L : List Vl) (n : Nat → Int32) (z : Nat → Int64) (F : Nat → Nat → Int32) (G : Nat → Nat → Int64) (fm : gMem), mS cy m a f0 n z F G fm → fx [] [] [] [] n0 z0 F0 G0 n z F G → (rAll F) → (sRn S z G) → (0 ≤ i.toInt ∧ i.toInt ≤ 880 ∧ 881 ≤ i.toInt + (k : Int)) → (i.toInt + (L.length : Int) = x1.toInt + x3.toInt) → (vdM F (Int32.toNatClampNeg i) L) → (∀ y, y ∈ L → (y.1 = 0 ∨ y.1 = 43 ∨ y.1 = 45 ∨ y.1 = 42) ∧ hvV y) → (suS S L u v = R0) → (fm = f) → gG l (gRm 0 0 0) (gQf D b (pL fun r f2 => r = R0 ∧ f2 = f) 0 0) gTt D cy b cX12_sumOf 11 (some .long) RX12 "sumOf" 0 0 fm 11 [(8, .int i), (4, .long u), (6, .long v), (0, .ref m), (1, .int x1), (2, .int x2), (3, .int x3)] [] := by
  intro k
  induction k with
  | zero =>
    intro i u v L n z F G fm hS hx bA hsR hk hlen hL hall hE hf
    exfalso; omega
  | succ k ih =>
    intro i u v L n z F G fm hS hx bA hsR hk hlen hL hall hE hf
    have q13 : (x1 + x3).toInt = x1.toInt + x3.toInt := T_add rfl rfl (by omega)
    refine gz_iload dX12_sumOf_11 rfl ?_
    refine gz_iload_n dX12_sumOf_13 rfl rfl ?_
    refine gz_iload_n dX12_sumOf_14 rfl rfl ?_
    refine gz_iadd dX12_sumOf_15 ?_
    refine gz_icmp_ge (tgt := 130) dX12_sumOf_16 (by decide) (fun c_16 => ?_) (fun c_16 => ?_)
    ·
      try simp only [mIn_0, lgc_lt, lgc_gt, lgc_le, lgc_ge, lgc_eq] at c_16
      try simp only [fl_lt, fl_le, fl_eq, fL_w, fL_lt, fL_le, tm1, tm10k, tm9, tm99, Int32.reduceToInt, Int64.reduceToInt, Int.not_lt, Int.not_le] at c_16
      try have u_16t0 := (T_add (rfl : (x1).toInt = (x1).toInt) (rfl : (x3).toInt = (x3).toInt) (by omega))
      refine gz_lload dX12_sumOf_130 rfl ?_
      refine gz_lload dX12_sumOf_132 rfl ?_
      refine gz_ladd dX12_sumOf_134 ?_
      exact gz_lret rfl dX12_sumOf_135 (Nat.le_of_ble_eq_true rfl) (Nat.le_of_ble_eq_true rfl) (⟨_, rfl, (by rw [← hE, List.eq_nil_of_length_eq_zero (l := L) (by omega)]; rfl), hf⟩)
    ·
      try simp only [mIn_0, lgc_lt, lgc_gt, lgc_le, lgc_ge, lgc_eq] at c_16
      try simp only [fl_lt, fl_le, fl_eq, fL_w, fL_lt, fL_le, tm1, tm10k, tm9, tm99, Int32.reduceToInt, Int64.reduceToInt, Int.not_lt, Int.not_le] at c_16
      try have u_16t0 := (T_add (rfl : (x1).toInt = (x1).toInt) (rfl : (x3).toInt = (x3).toInt) (by omega))
      obtain ⟨xh, L2, eL⟩ : ∃ a b, L = a :: b := by
        cases L with
        | nil => exfalso; rw [List.length_nil] at hlen; omega
        | cons a b => exact ⟨a, b, rfl⟩
      subst eL
      obtain ⟨u1, u2, u3, u4⟩ := hL
      obtain ⟨xj, xv⟩ := hall xh List.mem_cons_self
      rw [List.length_cons] at hlen
      have qv := xv.1
      have qi1 : (i + 1).toInt = i.toInt + 1 := T_add rfl (show (1 : Int32).toInt = 1 from rfl) (by omega)
      refine gz_aload_n dX12_sumOf_19 rfl rfl ?_
      refine mg_56 hS dX12_sumOf_20 ?_
      refine gz_iload dX12_sumOf_23 rfl ?_
      refine m_iald 19 hS rfl (N := 880) rfl ((by exact vin_T (rfl : (i).toInt = (i).toInt) (by omega) (by omega))) dX12_sumOf_25 ?_
      refine gz_if_ge (tgt := 40) dX12_sumOf_26 (by decide) (fun c_26 => ?_) (fun c_26 => ?_)
      ·
        try simp only [mIn_0, lgc_lt, lgc_gt, lgc_le, lgc_ge, lgc_eq] at c_26
        try simp only [fl_lt, fl_le, fl_eq, fL_w, fL_lt, fL_le, tm1, tm10k, tm9, tm99, Int32.reduceToInt, Int64.reduceToInt, Int.not_lt, Int.not_le] at c_26
        refine gz_aload_n dX12_sumOf_40 rfl rfl ?_
        refine mg_56 hS dX12_sumOf_41 ?_
        refine gz_iload dX12_sumOf_44 rfl ?_
        refine m_iald 19 hS rfl (N := 880) rfl ((by exact vin_T (rfl : (i).toInt = (i).toInt) (by omega) (by omega))) dX12_sumOf_46 ?_
        refine gz_bipush (v := 6) dX12_sumOf_47 (by decide) ?_
        refine gz_icmp_ne (tgt := 59) dX12_sumOf_49 (by decide) (fun c_49 => ?_) (fun c_49 => ?_)
        ·
          try simp only [mIn_0, lgc_lt, lgc_gt, lgc_le, lgc_ge, lgc_eq] at c_49
          try simp only [fl_lt, fl_le, fl_eq, fL_w, fL_lt, fL_le, tm1, tm10k, tm9, tm99, Int32.reduceToInt, Int64.reduceToInt, Int.not_lt, Int.not_le] at c_49
          refine gz_aload_n dX12_sumOf_59 rfl rfl ?_
          refine mg_94 hS dX12_sumOf_60 ?_
          refine gz_aload_n dX12_sumOf_63 rfl rfl ?_
          refine mg_56 hS dX12_sumOf_64 ?_
          refine gz_iload dX12_sumOf_67 rfl ?_
          refine m_iald 19 hS rfl (N := 880) rfl ((by exact vin_T (rfl : (i).toInt = (i).toInt) (by omega) (by omega))) dX12_sumOf_69 ?_
          refine m_lald 28 hS rfl (N := 6) rfl ((by exact vin_T u2 (by omega) (by omega))) dX12_sumOf_70 ?_
          refine gz_lstore (lv' := [(9, .long ((G 28) (Int32.toNatClampNeg ((F 19) (Int32.toNatClampNeg i))))), (8, .int i), (4, .long u), (6, .long v), (0, .ref m), (1, .int x1), (2, .int x2), (3, .int x3)]) dX12_sumOf_71 (by decide) rfl ?_
          refine gz_aload_n dX12_sumOf_73 rfl rfl ?_
          refine mg_53 hS dX12_sumOf_74 ?_
          refine gz_iload dX12_sumOf_77 rfl ?_
          refine m_iald 18 hS rfl (N := 880) rfl ((by exact vin_T (rfl : (i).toInt = (i).toInt) (by omega) (by omega))) dX12_sumOf_79 ?_
          refine gz_bipush (v := 42) dX12_sumOf_80 (by decide) ?_
          refine gz_icmp_ne (tgt := 95) dX12_sumOf_82 (by decide) (fun c_82 => ?_) (fun c_82 => ?_)
          ·
            try simp only [mIn_0, lgc_lt, lgc_gt, lgc_le, lgc_ge, lgc_eq] at c_82
            try simp only [fl_lt, fl_le, fl_eq, fL_w, fL_lt, fL_le, tm1, tm10k, tm9, tm99, Int32.reduceToInt, Int64.reduceToInt, Int.not_lt, Int.not_le] at c_82
            refine gz_lload dX12_sumOf_95 rfl ?_
            refine gz_lload dX12_sumOf_97 rfl ?_
            refine gz_ladd dX12_sumOf_99 ?_
            refine gz_lstore (lv' := [(4, .long (u + v)), (9, .long ((G 28) (Int32.toNatClampNeg ((F 19) (Int32.toNatClampNeg i))))), (8, .int i), (6, .long v), (0, .ref m), (1, .int x1), (2, .int x2), (3, .int x3)]) dX12_sumOf_100 (by decide) rfl ?_
            refine gz_aload_n dX12_sumOf_102 rfl rfl ?_
            refine mg_53 hS dX12_sumOf_103 ?_
            refine gz_iload dX12_sumOf_106 rfl ?_
            refine m_iald 18 hS rfl (N := 880) rfl ((by exact vin_T (rfl : (i).toInt = (i).toInt) (by omega) (by omega))) dX12_sumOf_108 ?_
            refine gz_bipush (v := 45) dX12_sumOf_109 (by decide) ?_
            refine gz_icmp_ne (tgt := 120) dX12_sumOf_111 (by decide) (fun c_111 => ?_) (fun c_111 => ?_)
            ·
              try simp only [mIn_0, lgc_lt, lgc_gt, lgc_le, lgc_ge, lgc_eq] at c_111
              try simp only [fl_lt, fl_le, fl_eq, fL_w, fL_lt, fL_le, tm1, tm10k, tm9, tm99, Int32.reduceToInt, Int64.reduceToInt, Int.not_lt, Int.not_le] at c_111
              refine gz_lload dX12_sumOf_120 rfl ?_
              refine gz_lstore (lv' := [(6, .long ((G 28) (Int32.toNatClampNeg ((F 19) (Int32.toNatClampNeg i))))), (4, .long (u + v)), (9, .long ((G 28) (Int32.toNatClampNeg ((F 19) (Int32.toNatClampNeg i))))), (8, .int i), (0, .ref m), (1, .int x1), (2, .int x2), (3, .int x3)]) dX12_sumOf_122 (by decide) rfl ?_
              refine gz_iinc (v := (i + 1)) (lv' := [(8, .int (i + 1)), (6, .long ((G 28) (Int32.toNatClampNeg ((F 19) (Int32.toNatClampNeg i))))), (4, .long (u + v)), (9, .long ((G 28) (Int32.toNatClampNeg ((F 19) (Int32.toNatClampNeg i))))), (0, .ref m), (1, .int x1), (2, .int x2), (3, .int x3)]) dX12_sumOf_124 rfl rfl (by decide) rfl ?_
              refine gz_goto (tgt := 11) dX12_sumOf_127 (by decide) ?_
              refine gz_sub (lv' := [(8, .int (i + 1)), (4, .long (u + v)), (6, .long ((G 28) (Int32.toNatClampNeg ((F 19) (Int32.toNatClampNeg i))))), (0, .ref m), (1, .int x1), (2, .int x2), (3, .int x3)]) (by simp [List.lookup]) ?_
              have ex : (G 28 (Int32.toNatClampNeg (F 19 (Int32.toNatClampNeg i)))) = Int64.ofInt (vaS S xh) := by unfold vaS; rw [if_neg (by omega), if_neg (by omega), show Int32.toNatClampNeg (F 19 (Int32.toNatClampNeg i)) = xh.2.1.toNat by rw [clN, u2]]; exact hsR.2 _ (by omega)
              have hE9 : suS S L2 (u + v) ((G 28) (Int32.toNatClampNeg ((F 19) (Int32.toNatClampNeg i)))) = R0 := by
                rw [← hE]
                show _ = (if xh.1 = 42 then suS S L2 u (v * Int64.ofInt (vaS S xh)) else suS S L2 (u + v) (if xh.1 = 45 then -(Int64.ofInt (vaS S xh)) else Int64.ofInt (vaS S xh)))
                rw [if_neg (show ¬ xh.1 = 42 by omega), if_neg (show ¬ xh.1 = 45 by omega), ex]
              exact ih (i + 1) (u + v) ((G 28) (Int32.toNatClampNeg ((F 19) (Int32.toNatClampNeg i)))) L2 _ _ _ _ _ hS hx (bA) (hsR) ((by have q1_ := (T_add (rfl : (i).toInt = (i).toInt) (show (1 : Int32).toInt = 1 from rfl) (by omega)); omega)) ((by have q1_ := (T_add (rfl : (i).toInt = (i).toInt) (show (1 : Int32).toInt = 1 from rfl) (by omega)); omega)) (by rw [show Int32.toNatClampNeg (i + 1) = (Int32.toNatClampNeg i) + 1 by rw [clN, clN, qi1]; omega]; exact u4) (fun y hy => hall y (List.mem_cons_of_mem _ hy)) (hE9) (hf)
            ·
              try simp only [mIn_0, lgc_lt, lgc_gt, lgc_le, lgc_ge, lgc_eq] at c_111
              try simp only [fl_lt, fl_le, fl_eq, fL_w, fL_lt, fL_le, tm1, tm10k, tm9, tm99, Int32.reduceToInt, Int64.reduceToInt, Int.not_lt, Int.not_le] at c_111
              refine gz_lload dX12_sumOf_114 rfl ?_
              refine gz_lneg dX12_sumOf_116 ?_
              refine gz_goto (tgt := 122) dX12_sumOf_117 (by decide) ?_
              refine gz_lstore (lv' := [(6, .long (-((G 28) (Int32.toNatClampNeg ((F 19) (Int32.toNatClampNeg i)))))), (4, .long (u + v)), (9, .long ((G 28) (Int32.toNatClampNeg ((F 19) (Int32.toNatClampNeg i))))), (8, .int i), (0, .ref m), (1, .int x1), (2, .int x2), (3, .int x3)]) dX12_sumOf_122 (by decide) rfl ?_
              refine gz_iinc (v := (i + 1)) (lv' := [(8, .int (i + 1)), (6, .long (-((G 28) (Int32.toNatClampNeg ((F 19) (Int32.toNatClampNeg i)))))), (4, .long (u + v)), (9, .long ((G 28) (Int32.toNatClampNeg ((F 19) (Int32.toNatClampNeg i))))), (0, .ref m), (1, .int x1), (2, .int x2), (3, .int x3)]) dX12_sumOf_124 rfl rfl (by decide) rfl ?_
              refine gz_goto (tgt := 11) dX12_sumOf_127 (by decide) ?_
              refine gz_sub (lv' := [(8, .int (i + 1)), (4, .long (u + v)), (6, .long (-((G 28) (Int32.toNatClampNeg ((F 19) (Int32.toNatClampNeg i)))))), (0, .ref m), (1, .int x1), (2, .int x2), (3, .int x3)]) (by simp [List.lookup]) ?_
              have ex : (G 28 (Int32.toNatClampNeg (F 19 (Int32.toNatClampNeg i)))) = Int64.ofInt (vaS S xh) := by unfold vaS; rw [if_neg (by omega), if_neg (by omega), show Int32.toNatClampNeg (F 19 (Int32.toNatClampNeg i)) = xh.2.1.toNat by rw [clN, u2]]; exact hsR.2 _ (by omega)
              have hE9 : suS S L2 (u + v) (-((G 28) (Int32.toNatClampNeg ((F 19) (Int32.toNatClampNeg i))))) = R0 := by
                rw [← hE]
                show _ = (if xh.1 = 42 then suS S L2 u (v * Int64.ofInt (vaS S xh)) else suS S L2 (u + v) (if xh.1 = 45 then -(Int64.ofInt (vaS S xh)) else Int64.ofInt (vaS S xh)))
                rw [if_neg (show ¬ xh.1 = 42 by omega), if_pos (show xh.1 = 45 by omega), ex]
              exact ih (i + 1) (u + v) (-((G 28) (Int32.toNatClampNeg ((F 19) (Int32.toNatClampNeg i))))) L2 _ _ _ _ _ hS hx (bA) (hsR) ((by have q1_ := (T_add (rfl : (i).toInt = (i).toInt) (show (1 : Int32).toInt = 1 from rfl) (by omega)); omega)) ((by have q1_ := (T_add (rfl : (i).toInt = (i).toInt) (show (1 : Int32).toInt = 1 from rfl) (by omega)); omega)) (by rw [show Int32.toNatClampNeg (i + 1) = (Int32.toNatClampNeg i) + 1 by rw [clN, clN, qi1]; omega]; exact u4) (fun y hy => hall y (List.mem_cons_of_mem _ hy)) (hE9) (hf)
          ·
            try simp only [mIn_0, lgc_lt, lgc_gt, lgc_le, lgc_ge, lgc_eq] at c_82
            try simp only [fl_lt, fl_le, fl_eq, fL_w, fL_lt, fL_le, tm1, tm10k, tm9, tm99, Int32.reduceToInt, Int64.reduceToInt, Int.not_lt, Int.not_le] at c_82
            refine gz_lload dX12_sumOf_85 rfl ?_
            refine gz_lload dX12_sumOf_87 rfl ?_
            refine gz_lmul dX12_sumOf_89 ?_
            refine gz_lstore (lv' := [(6, .long (v * ((G 28) (Int32.toNatClampNeg ((F 19) (Int32.toNatClampNeg i)))))), (9, .long ((G 28) (Int32.toNatClampNeg ((F 19) (Int32.toNatClampNeg i))))), (8, .int i), (4, .long u), (0, .ref m), (1, .int x1), (2, .int x2), (3, .int x3)]) dX12_sumOf_90 (by decide) rfl ?_
            refine gz_goto (tgt := 124) dX12_sumOf_92 (by decide) ?_
            refine gz_iinc (v := (i + 1)) (lv' := [(8, .int (i + 1)), (6, .long (v * ((G 28) (Int32.toNatClampNeg ((F 19) (Int32.toNatClampNeg i)))))), (9, .long ((G 28) (Int32.toNatClampNeg ((F 19) (Int32.toNatClampNeg i))))), (4, .long u), (0, .ref m), (1, .int x1), (2, .int x2), (3, .int x3)]) dX12_sumOf_124 rfl rfl (by decide) rfl ?_
            refine gz_goto (tgt := 11) dX12_sumOf_127 (by decide) ?_
            refine gz_sub (lv' := [(8, .int (i + 1)), (4, .long u), (6, .long (v * ((G 28) (Int32.toNatClampNeg ((F 19) (Int32.toNatClampNeg i)))))), (0, .ref m), (1, .int x1), (2, .int x2), (3, .int x3)]) (by simp [List.lookup]) ?_
            have ex : (G 28 (Int32.toNatClampNeg (F 19 (Int32.toNatClampNeg i)))) = Int64.ofInt (vaS S xh) := by unfold vaS; rw [if_neg (by omega), if_neg (by omega), show Int32.toNatClampNeg (F 19 (Int32.toNatClampNeg i)) = xh.2.1.toNat by rw [clN, u2]]; exact hsR.2 _ (by omega)
            have hE9 : suS S L2 u (v * ((G 28) (Int32.toNatClampNeg ((F 19) (Int32.toNatClampNeg i))))) = R0 := by
              rw [← hE]
              show _ = (if xh.1 = 42 then suS S L2 u (v * Int64.ofInt (vaS S xh)) else suS S L2 (u + v) (if xh.1 = 45 then -(Int64.ofInt (vaS S xh)) else Int64.ofInt (vaS S xh)))
              rw [if_pos (show xh.1 = 42 by omega), ex]
            exact ih (i + 1) u (v * ((G 28) (Int32.toNatClampNeg ((F 19) (Int32.toNatClampNeg i))))) L2 _ _ _ _ _ hS hx (bA) (hsR) ((by have q1_ := (T_add (rfl : (i).toInt = (i).toInt) (show (1 : Int32).toInt = 1 from rfl) (by omega)); omega)) ((by have q1_ := (T_add (rfl : (i).toInt = (i).toInt) (show (1 : Int32).toInt = 1 from rfl) (by omega)); omega)) (by rw [show Int32.toNatClampNeg (i + 1) = (Int32.toNatClampNeg i) + 1 by rw [clN, clN, qi1]; omega]; exact u4) (fun y hy => hall y (List.mem_cons_of_mem _ hy)) (hE9) (hf)
        ·
          try simp only [mIn_0, lgc_lt, lgc_gt, lgc_le, lgc_ge, lgc_eq] at c_49
          try simp only [fl_lt, fl_le, fl_eq, fL_w, fL_lt, fL_le, tm1, tm10k, tm9, tm99, Int32.reduceToInt, Int64.reduceToInt, Int.not_lt, Int.not_le] at c_49
          refine gz_aload_n dX12_sumOf_52 rfl rfl ?_
          refine mg_340 hS dX12_sumOf_53 ?_
          refine gz_goto (tgt := 71) dX12_sumOf_56 (by decide) ?_
          refine gz_lstore (lv' := [(9, .long (z 29)), (8, .int i), (4, .long u), (6, .long v), (0, .ref m), (1, .int x1), (2, .int x2), (3, .int x3)]) dX12_sumOf_71 (by decide) rfl ?_
          refine gz_aload_n dX12_sumOf_73 rfl rfl ?_
          refine mg_53 hS dX12_sumOf_74 ?_
          refine gz_iload dX12_sumOf_77 rfl ?_
          refine m_iald 18 hS rfl (N := 880) rfl ((by exact vin_T (rfl : (i).toInt = (i).toInt) (by omega) (by omega))) dX12_sumOf_79 ?_
          refine gz_bipush (v := 42) dX12_sumOf_80 (by decide) ?_
          refine gz_icmp_ne (tgt := 95) dX12_sumOf_82 (by decide) (fun c_82 => ?_) (fun c_82 => ?_)
          ·
            try simp only [mIn_0, lgc_lt, lgc_gt, lgc_le, lgc_ge, lgc_eq] at c_82
            try simp only [fl_lt, fl_le, fl_eq, fL_w, fL_lt, fL_le, tm1, tm10k, tm9, tm99, Int32.reduceToInt, Int64.reduceToInt, Int.not_lt, Int.not_le] at c_82
            refine gz_lload dX12_sumOf_95 rfl ?_
            refine gz_lload dX12_sumOf_97 rfl ?_
            refine gz_ladd dX12_sumOf_99 ?_
            refine gz_lstore (lv' := [(4, .long (u + v)), (9, .long (z 29)), (8, .int i), (6, .long v), (0, .ref m), (1, .int x1), (2, .int x2), (3, .int x3)]) dX12_sumOf_100 (by decide) rfl ?_
            refine gz_aload_n dX12_sumOf_102 rfl rfl ?_
            refine mg_53 hS dX12_sumOf_103 ?_
            refine gz_iload dX12_sumOf_106 rfl ?_
            refine m_iald 18 hS rfl (N := 880) rfl ((by exact vin_T (rfl : (i).toInt = (i).toInt) (by omega) (by omega))) dX12_sumOf_108 ?_
            refine gz_bipush (v := 45) dX12_sumOf_109 (by decide) ?_
            refine gz_icmp_ne (tgt := 120) dX12_sumOf_111 (by decide) (fun c_111 => ?_) (fun c_111 => ?_)
            ·
              try simp only [mIn_0, lgc_lt, lgc_gt, lgc_le, lgc_ge, lgc_eq] at c_111
              try simp only [fl_lt, fl_le, fl_eq, fL_w, fL_lt, fL_le, tm1, tm10k, tm9, tm99, Int32.reduceToInt, Int64.reduceToInt, Int.not_lt, Int.not_le] at c_111
              refine gz_lload dX12_sumOf_120 rfl ?_
              refine gz_lstore (lv' := [(6, .long (z 29)), (4, .long (u + v)), (9, .long (z 29)), (8, .int i), (0, .ref m), (1, .int x1), (2, .int x2), (3, .int x3)]) dX12_sumOf_122 (by decide) rfl ?_
              refine gz_iinc (v := (i + 1)) (lv' := [(8, .int (i + 1)), (6, .long (z 29)), (4, .long (u + v)), (9, .long (z 29)), (0, .ref m), (1, .int x1), (2, .int x2), (3, .int x3)]) dX12_sumOf_124 rfl rfl (by decide) rfl ?_
              refine gz_goto (tgt := 11) dX12_sumOf_127 (by decide) ?_
              refine gz_sub (lv' := [(8, .int (i + 1)), (4, .long (u + v)), (6, .long (z 29)), (0, .ref m), (1, .int x1), (2, .int x2), (3, .int x3)]) (by simp [List.lookup]) ?_
              have ex : (z 29) = Int64.ofInt (vaS S xh) := by unfold vaS; rw [if_neg (by omega), if_pos (by omega)]; exact hsR.1
              have hE9 : suS S L2 (u + v) (z 29) = R0 := by
                rw [← hE]
                show _ = (if xh.1 = 42 then suS S L2 u (v * Int64.ofInt (vaS S xh)) else suS S L2 (u + v) (if xh.1 = 45 then -(Int64.ofInt (vaS S xh)) else Int64.ofInt (vaS S xh)))
                rw [if_neg (show ¬ xh.1 = 42 by omega), if_neg (show ¬ xh.1 = 45 by omega), ex]
              exact ih (i + 1) (u + v) (z 29) L2 _ _ _ _ _ hS hx (bA) (hsR) ((by have q1_ := (T_add (rfl : (i).toInt = (i).toInt) (show (1 : Int32).toInt = 1 from rfl) (by omega)); omega)) ((by have q1_ := (T_add (rfl : (i).toInt = (i).toInt) (show (1 : Int32).toInt = 1 from rfl) (by omega)); omega)) (by rw [show Int32.toNatClampNeg (i + 1) = (Int32.toNatClampNeg i) + 1 by rw [clN, clN, qi1]; omega]; exact u4) (fun y hy => hall y (List.mem_cons_of_mem _ hy)) (hE9) (hf)
            ·
              try simp only [mIn_0, lgc_lt, lgc_gt, lgc_le, lgc_ge, lgc_eq] at c_111
              try simp only [fl_lt, fl_le, fl_eq, fL_w, fL_lt, fL_le, tm1, tm10k, tm9, tm99, Int32.reduceToInt, Int64.reduceToInt, Int.not_lt, Int.not_le] at c_111
              refine gz_lload dX12_sumOf_114 rfl ?_
              refine gz_lneg dX12_sumOf_116 ?_
              refine gz_goto (tgt := 122) dX12_sumOf_117 (by decide) ?_
              refine gz_lstore (lv' := [(6, .long (-(z 29))), (4, .long (u + v)), (9, .long (z 29)), (8, .int i), (0, .ref m), (1, .int x1), (2, .int x2), (3, .int x3)]) dX12_sumOf_122 (by decide) rfl ?_
              refine gz_iinc (v := (i + 1)) (lv' := [(8, .int (i + 1)), (6, .long (-(z 29))), (4, .long (u + v)), (9, .long (z 29)), (0, .ref m), (1, .int x1), (2, .int x2), (3, .int x3)]) dX12_sumOf_124 rfl rfl (by decide) rfl ?_
              refine gz_goto (tgt := 11) dX12_sumOf_127 (by decide) ?_
              refine gz_sub (lv' := [(8, .int (i + 1)), (4, .long (u + v)), (6, .long (-(z 29))), (0, .ref m), (1, .int x1), (2, .int x2), (3, .int x3)]) (by simp [List.lookup]) ?_
              have ex : (z 29) = Int64.ofInt (vaS S xh) := by unfold vaS; rw [if_neg (by omega), if_pos (by omega)]; exact hsR.1
              have hE9 : suS S L2 (u + v) (-(z 29)) = R0 := by
                rw [← hE]
                show _ = (if xh.1 = 42 then suS S L2 u (v * Int64.ofInt (vaS S xh)) else suS S L2 (u + v) (if xh.1 = 45 then -(Int64.ofInt (vaS S xh)) else Int64.ofInt (vaS S xh)))
                rw [if_neg (show ¬ xh.1 = 42 by omega), if_pos (show xh.1 = 45 by omega), ex]
              exact ih (i + 1) (u + v) (-(z 29)) L2 _ _ _ _ _ hS hx (bA) (hsR) ((by have q1_ := (T_add (rfl : (i).toInt = (i).toInt) (show (1 : Int32).toInt = 1 from rfl) (by omega)); omega)) ((by have q1_ := (T_add (rfl : (i).toInt = (i).toInt) (show (1 : Int32).toInt = 1 from rfl) (by omega)); omega)) (by rw [show Int32.toNatClampNeg (i + 1) = (Int32.toNatClampNeg i) + 1 by rw [clN, clN, qi1]; omega]; exact u4) (fun y hy => hall y (List.mem_cons_of_mem _ hy)) (hE9) (hf)
          ·
            try simp only [mIn_0, lgc_lt, lgc_gt, lgc_le, lgc_ge, lgc_eq] at c_82
            try simp only [fl_lt, fl_le, fl_eq, fL_w, fL_lt, fL_le, tm1, tm10k, tm9, tm99, Int32.reduceToInt, Int64.reduceToInt, Int.not_lt, Int.not_le] at c_82
            refine gz_lload dX12_sumOf_85 rfl ?_
            refine gz_lload dX12_sumOf_87 rfl ?_
            refine gz_lmul dX12_sumOf_89 ?_
            refine gz_lstore (lv' := [(6, .long (v * (z 29))), (9, .long (z 29)), (8, .int i), (4, .long u), (0, .ref m), (1, .int x1), (2, .int x2), (3, .int x3)]) dX12_sumOf_90 (by decide) rfl ?_
            refine gz_goto (tgt := 124) dX12_sumOf_92 (by decide) ?_
            refine gz_iinc (v := (i + 1)) (lv' := [(8, .int (i + 1)), (6, .long (v * (z 29))), (9, .long (z 29)), (4, .long u), (0, .ref m), (1, .int x1), (2, .int x2), (3, .int x3)]) dX12_sumOf_124 rfl rfl (by decide) rfl ?_
            refine gz_goto (tgt := 11) dX12_sumOf_127 (by decide) ?_
            refine gz_sub (lv' := [(8, .int (i + 1)), (4, .long u), (6, .long (v * (z 29))), (0, .ref m), (1, .int x1), (2, .int x2), (3, .int x3)]) (by simp [List.lookup]) ?_
            have ex : (z 29) = Int64.ofInt (vaS S xh) := by unfold vaS; rw [if_neg (by omega), if_pos (by omega)]; exact hsR.1
            have hE9 : suS S L2 u (v * (z 29)) = R0 := by
              rw [← hE]
              show _ = (if xh.1 = 42 then suS S L2 u (v * Int64.ofInt (vaS S xh)) else suS S L2 (u + v) (if xh.1 = 45 then -(Int64.ofInt (vaS S xh)) else Int64.ofInt (vaS S xh)))
              rw [if_pos (show xh.1 = 42 by omega), ex]
            exact ih (i + 1) u (v * (z 29)) L2 _ _ _ _ _ hS hx (bA) (hsR) ((by have q1_ := (T_add (rfl : (i).toInt = (i).toInt) (show (1 : Int32).toInt = 1 from rfl) (by omega)); omega)) ((by have q1_ := (T_add (rfl : (i).toInt = (i).toInt) (show (1 : Int32).toInt = 1 from rfl) (by omega)); omega)) (by rw [show Int32.toNatClampNeg (i + 1) = (Int32.toNatClampNeg i) + 1 by rw [clN, clN, qi1]; omega]; exact u4) (fun y hy => hall y (List.mem_cons_of_mem _ hy)) (hE9) (hf)
      ·
        try simp only [mIn_0, lgc_lt, lgc_gt, lgc_le, lgc_ge, lgc_eq] at c_26
        try simp only [fl_lt, fl_le, fl_eq, fL_w, fL_lt, fL_le, tm1, tm10k, tm9, tm99, Int32.reduceToInt, Int64.reduceToInt, Int.not_lt, Int.not_le] at c_26
        refine gz_aload_n dX12_sumOf_29 rfl rfl ?_
        refine mg_59 hS dX12_sumOf_30 ?_
        refine gz_iload dX12_sumOf_33 rfl ?_
        refine m_iald 20 hS rfl (N := 880) rfl ((by exact vin_T (rfl : (i).toInt = (i).toInt) (by omega) (by omega))) dX12_sumOf_35 ?_
        refine gz_i2l dX12_sumOf_36 ?_
        refine gz_goto (tgt := 71) dX12_sumOf_37 (by decide) ?_
        refine gz_lstore (lv' := [(9, .long ((F 20) (Int32.toNatClampNeg i)).toInt64), (8, .int i), (4, .long u), (6, .long v), (0, .ref m), (1, .int x1), (2, .int x2), (3, .int x3)]) dX12_sumOf_71 (by decide) rfl ?_
        refine gz_aload_n dX12_sumOf_73 rfl rfl ?_
        refine mg_53 hS dX12_sumOf_74 ?_
        refine gz_iload dX12_sumOf_77 rfl ?_
        refine m_iald 18 hS rfl (N := 880) rfl ((by exact vin_T (rfl : (i).toInt = (i).toInt) (by omega) (by omega))) dX12_sumOf_79 ?_
        refine gz_bipush (v := 42) dX12_sumOf_80 (by decide) ?_
        refine gz_icmp_ne (tgt := 95) dX12_sumOf_82 (by decide) (fun c_82 => ?_) (fun c_82 => ?_)
        ·
          try simp only [mIn_0, lgc_lt, lgc_gt, lgc_le, lgc_ge, lgc_eq] at c_82
          try simp only [fl_lt, fl_le, fl_eq, fL_w, fL_lt, fL_le, tm1, tm10k, tm9, tm99, Int32.reduceToInt, Int64.reduceToInt, Int.not_lt, Int.not_le] at c_82
          refine gz_lload dX12_sumOf_95 rfl ?_
          refine gz_lload dX12_sumOf_97 rfl ?_
          refine gz_ladd dX12_sumOf_99 ?_
          refine gz_lstore (lv' := [(4, .long (u + v)), (9, .long ((F 20) (Int32.toNatClampNeg i)).toInt64), (8, .int i), (6, .long v), (0, .ref m), (1, .int x1), (2, .int x2), (3, .int x3)]) dX12_sumOf_100 (by decide) rfl ?_
          refine gz_aload_n dX12_sumOf_102 rfl rfl ?_
          refine mg_53 hS dX12_sumOf_103 ?_
          refine gz_iload dX12_sumOf_106 rfl ?_
          refine m_iald 18 hS rfl (N := 880) rfl ((by exact vin_T (rfl : (i).toInt = (i).toInt) (by omega) (by omega))) dX12_sumOf_108 ?_
          refine gz_bipush (v := 45) dX12_sumOf_109 (by decide) ?_
          refine gz_icmp_ne (tgt := 120) dX12_sumOf_111 (by decide) (fun c_111 => ?_) (fun c_111 => ?_)
          ·
            try simp only [mIn_0, lgc_lt, lgc_gt, lgc_le, lgc_ge, lgc_eq] at c_111
            try simp only [fl_lt, fl_le, fl_eq, fL_w, fL_lt, fL_le, tm1, tm10k, tm9, tm99, Int32.reduceToInt, Int64.reduceToInt, Int.not_lt, Int.not_le] at c_111
            refine gz_lload dX12_sumOf_120 rfl ?_
            refine gz_lstore (lv' := [(6, .long ((F 20) (Int32.toNatClampNeg i)).toInt64), (4, .long (u + v)), (9, .long ((F 20) (Int32.toNatClampNeg i)).toInt64), (8, .int i), (0, .ref m), (1, .int x1), (2, .int x2), (3, .int x3)]) dX12_sumOf_122 (by decide) rfl ?_
            refine gz_iinc (v := (i + 1)) (lv' := [(8, .int (i + 1)), (6, .long ((F 20) (Int32.toNatClampNeg i)).toInt64), (4, .long (u + v)), (9, .long ((F 20) (Int32.toNatClampNeg i)).toInt64), (0, .ref m), (1, .int x1), (2, .int x2), (3, .int x3)]) dX12_sumOf_124 rfl rfl (by decide) rfl ?_
            refine gz_goto (tgt := 11) dX12_sumOf_127 (by decide) ?_
            refine gz_sub (lv' := [(8, .int (i + 1)), (4, .long (u + v)), (6, .long ((F 20) (Int32.toNatClampNeg i)).toInt64), (0, .ref m), (1, .int x1), (2, .int x2), (3, .int x3)]) (by simp [List.lookup]) ?_
            have ex : (F 20 (Int32.toNatClampNeg i)).toInt64 = Int64.ofInt (vaS S xh) := by unfold vaS; rw [if_pos (by omega)]; exact L_of u3
            have hE9 : suS S L2 (u + v) (((F 20) (Int32.toNatClampNeg i)).toInt64) = R0 := by
              rw [← hE]
              show _ = (if xh.1 = 42 then suS S L2 u (v * Int64.ofInt (vaS S xh)) else suS S L2 (u + v) (if xh.1 = 45 then -(Int64.ofInt (vaS S xh)) else Int64.ofInt (vaS S xh)))
              rw [if_neg (show ¬ xh.1 = 42 by omega), if_neg (show ¬ xh.1 = 45 by omega), ex]
            exact ih (i + 1) (u + v) (((F 20) (Int32.toNatClampNeg i)).toInt64) L2 _ _ _ _ _ hS hx (bA) (hsR) ((by have q1_ := (T_add (rfl : (i).toInt = (i).toInt) (show (1 : Int32).toInt = 1 from rfl) (by omega)); omega)) ((by have q1_ := (T_add (rfl : (i).toInt = (i).toInt) (show (1 : Int32).toInt = 1 from rfl) (by omega)); omega)) (by rw [show Int32.toNatClampNeg (i + 1) = (Int32.toNatClampNeg i) + 1 by rw [clN, clN, qi1]; omega]; exact u4) (fun y hy => hall y (List.mem_cons_of_mem _ hy)) (hE9) (hf)
          ·
            try simp only [mIn_0, lgc_lt, lgc_gt, lgc_le, lgc_ge, lgc_eq] at c_111
            try simp only [fl_lt, fl_le, fl_eq, fL_w, fL_lt, fL_le, tm1, tm10k, tm9, tm99, Int32.reduceToInt, Int64.reduceToInt, Int.not_lt, Int.not_le] at c_111
            refine gz_lload dX12_sumOf_114 rfl ?_
            refine gz_lneg dX12_sumOf_116 ?_
            refine gz_goto (tgt := 122) dX12_sumOf_117 (by decide) ?_
            refine gz_lstore (lv' := [(6, .long (-(((F 20) (Int32.toNatClampNeg i)).toInt64))), (4, .long (u + v)), (9, .long ((F 20) (Int32.toNatClampNeg i)).toInt64), (8, .int i), (0, .ref m), (1, .int x1), (2, .int x2), (3, .int x3)]) dX12_sumOf_122 (by decide) rfl ?_
            refine gz_iinc (v := (i + 1)) (lv' := [(8, .int (i + 1)), (6, .long (-(((F 20) (Int32.toNatClampNeg i)).toInt64))), (4, .long (u + v)), (9, .long ((F 20) (Int32.toNatClampNeg i)).toInt64), (0, .ref m), (1, .int x1), (2, .int x2), (3, .int x3)]) dX12_sumOf_124 rfl rfl (by decide) rfl ?_
            refine gz_goto (tgt := 11) dX12_sumOf_127 (by decide) ?_
            refine gz_sub (lv' := [(8, .int (i + 1)), (4, .long (u + v)), (6, .long (-(((F 20) (Int32.toNatClampNeg i)).toInt64))), (0, .ref m), (1, .int x1), (2, .int x2), (3, .int x3)]) (by simp [List.lookup]) ?_
            have ex : (F 20 (Int32.toNatClampNeg i)).toInt64 = Int64.ofInt (vaS S xh) := by unfold vaS; rw [if_pos (by omega)]; exact L_of u3
            have hE9 : suS S L2 (u + v) (-(((F 20) (Int32.toNatClampNeg i)).toInt64)) = R0 := by
              rw [← hE]
              show _ = (if xh.1 = 42 then suS S L2 u (v * Int64.ofInt (vaS S xh)) else suS S L2 (u + v) (if xh.1 = 45 then -(Int64.ofInt (vaS S xh)) else Int64.ofInt (vaS S xh)))
              rw [if_neg (show ¬ xh.1 = 42 by omega), if_pos (show xh.1 = 45 by omega), ex]
            exact ih (i + 1) (u + v) (-(((F 20) (Int32.toNatClampNeg i)).toInt64)) L2 _ _ _ _ _ hS hx (bA) (hsR) ((by have q1_ := (T_add (rfl : (i).toInt = (i).toInt) (show (1 : Int32).toInt = 1 from rfl) (by omega)); omega)) ((by have q1_ := (T_add (rfl : (i).toInt = (i).toInt) (show (1 : Int32).toInt = 1 from rfl) (by omega)); omega)) (by rw [show Int32.toNatClampNeg (i + 1) = (Int32.toNatClampNeg i) + 1 by rw [clN, clN, qi1]; omega]; exact u4) (fun y hy => hall y (List.mem_cons_of_mem _ hy)) (hE9) (hf)
        ·
          try simp only [mIn_0, lgc_lt, lgc_gt, lgc_le, lgc_ge, lgc_eq] at c_82
          try simp only [fl_lt, fl_le, fl_eq, fL_w, fL_lt, fL_le, tm1, tm10k, tm9, tm99, Int32.reduceToInt, Int64.reduceToInt, Int.not_lt, Int.not_le] at c_82
          refine gz_lload dX12_sumOf_85 rfl ?_
          refine gz_lload dX12_sumOf_87 rfl ?_
          refine gz_lmul dX12_sumOf_89 ?_
          refine gz_lstore (lv' := [(6, .long (v * (((F 20) (Int32.toNatClampNeg i)).toInt64))), (9, .long ((F 20) (Int32.toNatClampNeg i)).toInt64), (8, .int i), (4, .long u), (0, .ref m), (1, .int x1), (2, .int x2), (3, .int x3)]) dX12_sumOf_90 (by decide) rfl ?_
          refine gz_goto (tgt := 124) dX12_sumOf_92 (by decide) ?_
          refine gz_iinc (v := (i + 1)) (lv' := [(8, .int (i + 1)), (6, .long (v * (((F 20) (Int32.toNatClampNeg i)).toInt64))), (9, .long ((F 20) (Int32.toNatClampNeg i)).toInt64), (4, .long u), (0, .ref m), (1, .int x1), (2, .int x2), (3, .int x3)]) dX12_sumOf_124 rfl rfl (by decide) rfl ?_
          refine gz_goto (tgt := 11) dX12_sumOf_127 (by decide) ?_
          refine gz_sub (lv' := [(8, .int (i + 1)), (4, .long u), (6, .long (v * (((F 20) (Int32.toNatClampNeg i)).toInt64))), (0, .ref m), (1, .int x1), (2, .int x2), (3, .int x3)]) (by simp [List.lookup]) ?_
          have ex : (F 20 (Int32.toNatClampNeg i)).toInt64 = Int64.ofInt (vaS S xh) := by unfold vaS; rw [if_pos (by omega)]; exact L_of u3
          have hE9 : suS S L2 u (v * (((F 20) (Int32.toNatClampNeg i)).toInt64)) = R0 := by
            rw [← hE]
            show _ = (if xh.1 = 42 then suS S L2 u (v * Int64.ofInt (vaS S xh)) else suS S L2 (u + v) (if xh.1 = 45 then -(Int64.ofInt (vaS S xh)) else Int64.ofInt (vaS S xh)))
            rw [if_pos (show xh.1 = 42 by omega), ex]
          exact ih (i + 1) u (v * (((F 20) (Int32.toNatClampNeg i)).toInt64)) L2 _ _ _ _ _ hS hx (bA) (hsR) ((by have q1_ := (T_add (rfl : (i).toInt = (i).toInt) (show (1 : Int32).toInt = 1 from rfl) (by omega)); omega)) ((by have q1_ := (T_add (rfl : (i).toInt = (i).toInt) (show (1 : Int32).toInt = 1 from rfl) (by omega)); omega)) (by rw [show Int32.toNatClampNeg (i + 1) = (Int32.toNatClampNeg i) + 1 by rw [clN, clN, qi1]; omega]; exact u4) (fun y hy => hall y (List.mem_cons_of_mem _ hy)) (hE9) (hf)

set_option maxHeartbeats 4000000 in
set_option maxRecDepth 100000 in
theorem k_X12_sumOfE {l : Launch} {D : va_G} {cy : Nat → ClassId} {b : Nat} {f : gMem} {m : Nat} {a : Nat → Nat} {f0 : gMem} {n : Nat → Int32} {z : Nat → Int64} {F : Nat → Nat → Int32} {G : Nat → Nat → Int64}  {x1 x2 x3 : Int32} {S : Sn} {L : List Vl} (hS : mS cy m a f0 n z F G f) (bA : rAll F) (hsR : sRn S z G) (hb : 0 ≤ x1.toInt ∧ x1.toInt ≤ 840) (hlo : 0 ≤ x2.toInt ∧ x2.toInt ≤ 40) (hhi : 0 ≤ x3.toInt ∧ x3.toInt ≤ 40) (hL : vdM F (x1.toInt.toNat + x2.toInt.toNat) L) (hlen : x3.toInt = x2.toInt + (L.length : Int)) (hall : ∀ y, y ∈ L → (y.1 = 0 ∨ y.1 = 43 ∨ y.1 = 45 ∨ y.1 = 42) ∧ hvV y) : gC l D cy b yX12_sumOf cX12_sumOf 11 (some .long) 0 0 0 [.ref m, .int x1, .int x2, .int x3] f (pL fun r f2 => r = smS S L ∧ f2 = f) := by
  have q12 := T_add (rfl : x1.toInt = x1.toInt) (rfl : x2.toInt = x2.toInt) (by omega)
  refine gC_of (by decide) (Nat.le_of_ble_eq_true rfl) ?_
  show gG l _ _ _ D cy b cX12_sumOf 11 _ RX12 "sumOf" 0 0 f 0 [(0, .ref m), (1, .int x1), (2, .int x2), (3, .int x3)] []
  refine gz_lconst (v := 0) dX12_sumOf_0 (by decide) ?_
  refine gz_lstore (lv' := [(4, .long 0), (0, .ref m), (1, .int x1), (2, .int x2), (3, .int x3)]) dX12_sumOf_1 (by decide) rfl ?_
  refine gz_lconst (v := 0) dX12_sumOf_3 (by decide) ?_
  refine gz_lstore (lv' := [(6, .long 0), (4, .long 0), (0, .ref m), (1, .int x1), (2, .int x2), (3, .int x3)]) dX12_sumOf_4 (by decide) rfl ?_
  refine gz_iload_n dX12_sumOf_6 rfl rfl ?_
  refine gz_iload_n dX12_sumOf_7 rfl rfl ?_
  refine gz_iadd dX12_sumOf_8 ?_
  refine gz_istore (lv' := [(8, .int (x1 + x2)), (6, .long 0), (4, .long 0), (0, .ref m), (1, .int x1), (2, .int x2), (3, .int x3)]) dX12_sumOf_9 (by decide) rfl ?_
  refine gz_sub (lv' := [(8, .int (x1 + x2)), (4, .long 0), (6, .long 0), (0, .ref m), (1, .int x1), (2, .int x2), (3, .int x3)]) (by simp [List.lookup]) ?_
  exact l_X12_sumOfE hb hlo hhi 881 (x1 + x2) 0 0 L _ _ _ _ _ hS fx_rf (bA) (hsR) (by omega) (by omega) (by rw [show Int32.toNatClampNeg (x1 + x2) = x1.toInt.toNat + x2.toInt.toNat by rw [clN, q12]; omega]; exact hL) (hall) (rfl) (rfl)

set_option maxHeartbeats 4000000 in
set_option maxRecDepth 100000 in
theorem k_X12_holdsE {l : Launch} {D : va_G} {cy : Nat → ClassId} {b : Nat} {f : gMem} {m : Nat} {a : Nat → Nat} {f0 : gMem} {n : Nat → Int32} {z : Nat → Int64} {F : Nat → Nat → Int32} {G : Nat → Nat → Int64}  {x1 : Int32} {S : Sn} {xh : Hd} (hS : mS cy m a f0 n z F G f) (bA : rAll F) (hsR : sRn S z G) (hw : 0 ≤ x1.toInt ∧ x1.toInt < 880) (hH : hdM F (Int32.toNatClampNeg x1) xh) (hv : hvH xh) (hk6 : 6 ≤ xh.1 ∧ xh.1 ≤ 8) : gC l D cy b yX12_holds cX12_holds 7 (some .boolean) 1 0 0 [.ref m, .int x1] f (pI fun r f2 => ((r = 1 ∧ hlB S xh = true) ∨ (r = 0 ∧ hlB S xh = false)) ∧ f2 = f) := by
  have qA := all_ok bA hw
  obtain ⟨V, ⟨h13, h14, h15, h40⟩, v1, v2⟩ := hdM_sp hH
  obtain ⟨s0, s4, hl2⟩ := hv.2.2.2.1 hk6
  have hl1 := hv.2.2.2.2.2.1 ⟨hk6.1, by omega⟩
  have h16 := hH.2.2.1 hk6
  have qx : Int32.toNatClampNeg x1 = x1.toInt.toNat := rfl
  refine gC_of (by decide) (Nat.le_of_ble_eq_true rfl) ?_
  show gG l _ _ _ D cy b cX12_holds 7 _ RX12 "holds" 0 0 f 0 [(0, .ref m), (1, .int x1)] []
  refine gz_bipush (v := 40) dX12_holds_0 (by decide) ?_
  refine gz_iload_n dX12_holds_2 rfl rfl ?_
  refine gz_bipush (v := 40) dX12_holds_3 (by decide) ?_
  refine gz_idiv dX12_holds_5 (by decide) ?_
  refine gz_imul dX12_holds_6 ?_
  refine gz_istore_n (lv' := [(2, .int (40 * (x1 / 40))), (0, .ref m), (1, .int x1)]) dX12_holds_7 rfl (by decide) rfl ?_
  refine gz_aload_n dX12_holds_8 rfl rfl ?_
  refine gz_iload_n dX12_holds_9 rfl rfl ?_
  refine gz_aload_n dX12_holds_10 rfl rfl ?_
  refine mg_38 hS dX12_holds_11 ?_
  refine gz_iload_n dX12_holds_14 rfl rfl ?_
  refine m_iald 13 hS rfl (N := 880) rfl ((by exact vin_T (rfl : (x1).toInt = (x1).toInt) (by omega) (by omega))) dX12_holds_15 ?_
  refine gz_aload_n dX12_holds_16 rfl rfl ?_
  refine mg_41 hS dX12_holds_17 ?_
  refine gz_iload_n dX12_holds_20 rfl rfl ?_
  refine m_iald 14 hS rfl (N := 880) rfl ((by exact vin_T (rfl : (x1).toInt = (x1).toInt) (by omega) (by omega))) dX12_holds_21 ?_
  have qb0 := (T_mul (show (40 : Int32).toInt = 40 from rfl) (T_div (rfl : (x1).toInt = (x1).toInt) (show (40 : Int32).toInt = 40 from rfl) (by omega) (by omega)) (by omega))
  refine scX12_344 (k_X12_sumOfE (x1 := (40 * (x1 / 40))) (x2 := ((F 13) (Int32.toNatClampNeg x1))) (x3 := ((F 14) (Int32.toNatClampNeg x1))) (S := S) (L := xh.2.2.2.1) hS bA hsR ⟨by omega, by omega⟩ (by omega) (by omega) (by rw [show (40 * (x1 / 40)).toInt.toNat + ((F 13) (Int32.toNatClampNeg x1)).toInt.toNat = 40 * (Int32.toNatClampNeg x1 / 40) + (V) by omega]; exact v1) (by omega) (hvL_all hl1)) hS.1 ⟨(Nat.le_of_ble_eq_true rfl), (Nat.le_of_ble_eq_true rfl)⟩ ⟨(Nat.le_of_ble_eq_true rfl), (Nat.le_of_ble_eq_true rfl)⟩ rfl rfl (Nat.le_of_ble_eq_true rfl) dX12_holds_22 ?_
  rintro r9 f9 ⟨z9, y9⟩; rw [z9, y9]
  refine gz_lstore_n (lv' := [(3, .long (smS S xh.2.2.2.1)), (2, .int (40 * (x1 / 40))), (0, .ref m), (1, .int x1)]) dX12_holds_25 rfl (by decide) rfl ?_
  refine gz_aload_n dX12_holds_26 rfl rfl ?_
  refine gz_iload_n dX12_holds_27 rfl rfl ?_
  refine gz_aload_n dX12_holds_28 rfl rfl ?_
  refine mg_41 hS dX12_holds_29 ?_
  refine gz_iload_n dX12_holds_32 rfl rfl ?_
  refine m_iald 14 hS rfl (N := 880) rfl ((by exact vin_T (rfl : (x1).toInt = (x1).toInt) (by omega) (by omega))) dX12_holds_33 ?_
  refine gz_aload_n dX12_holds_34 rfl rfl ?_
  refine mg_44 hS dX12_holds_35 ?_
  refine gz_iload_n dX12_holds_38 rfl rfl ?_
  refine m_iald 15 hS rfl (N := 880) rfl ((by exact vin_T (rfl : (x1).toInt = (x1).toInt) (by omega) (by omega))) dX12_holds_39 ?_
  have qb1 := (T_mul (show (40 : Int32).toInt = 40 from rfl) (T_div (rfl : (x1).toInt = (x1).toInt) (show (40 : Int32).toInt = 40 from rfl) (by omega) (by omega)) (by omega))
  refine scX12_344 (k_X12_sumOfE (x1 := (40 * (x1 / 40))) (x2 := ((F 14) (Int32.toNatClampNeg x1))) (x3 := ((F 15) (Int32.toNatClampNeg x1))) (S := S) (L := xh.2.2.2.2) hS bA hsR ⟨by omega, by omega⟩ (by omega) (by omega) (by rw [show (40 * (x1 / 40)).toInt.toNat + ((F 14) (Int32.toNatClampNeg x1)).toInt.toNat = 40 * (Int32.toNatClampNeg x1 / 40) + (V + xh.2.2.2.1.length) by omega]; exact v2) (by omega) (hvL_all hl2)) hS.1 ⟨(Nat.le_of_ble_eq_true rfl), (Nat.le_of_ble_eq_true rfl)⟩ ⟨(Nat.le_of_ble_eq_true rfl), (Nat.le_of_ble_eq_true rfl)⟩ rfl rfl (Nat.le_of_ble_eq_true rfl) dX12_holds_40 ?_
  rintro r9 f9 ⟨z9, y9⟩; rw [z9, y9]
  refine gz_lstore (lv' := [(5, .long (smS S xh.2.2.2.2)), (3, .long (smS S xh.2.2.2.1)), (2, .int (40 * (x1 / 40))), (0, .ref m), (1, .int x1)]) dX12_holds_43 (by decide) rfl ?_
  refine gz_aload_n dX12_holds_45 rfl rfl ?_
  refine mg_47 hS dX12_holds_46 ?_
  refine gz_iload_n dX12_holds_49 rfl rfl ?_
  refine m_iald 16 hS rfl (N := 880) rfl ((by exact vin_T (rfl : (x1).toInt = (x1).toInt) (by omega) (by omega))) dX12_holds_50 ?_
  by_cases hw_51_0 : ((F 16) (Int32.toNatClampNeg x1)) = 0
  ·
    refine gz_ev (w := .int 0) (congrArg Value.int hw_51_0) ?_
    refine gz_tableIn (off := 29) (tgt := 80) dX12_holds_51 (by decide) (by decide) rfl (by decide) ?_
    refine gz_lload_n dX12_holds_80 rfl rfl ?_
    refine gz_lload dX12_holds_81 rfl ?_
    refine gz_lcmp dX12_holds_83 ?_
    refine gz_if_ge (tgt := 91) dX12_holds_84 (by decide) (fun c_84 => ?_) (fun c_84 => ?_)
    ·
      try simp only [mIn_0, lgc_lt, lgc_gt, lgc_le, lgc_ge, lgc_eq] at c_84
      try simp only [fl_lt, fl_le, fl_eq, fL_w, fL_lt, fL_le, tm1, tm10k, tm9, tm99, Int32.reduceToInt, Int64.reduceToInt, Int.not_lt, Int.not_le] at c_84
      refine gz_iconst (v := 0) dX12_holds_91 (by decide) ?_
      have zs0 : (F 16 (Int32.toNatClampNeg x1)).toInt = 0 := by rw [hw_51_0]; rfl
      have hsg : xh.2.2.1 = 0 := by omega
      exact gz_zret rfl (by first | decide | exact nrb (by assumption) | exact nrb (Or.inl rfl) | exact nrb (Or.inr rfl)) dX12_holds_92 (Nat.le_of_ble_eq_true rfl) (Nat.le_of_ble_eq_true rfl) (⟨_, rfl, Or.inr ⟨rfl, (by rw [hlB_V, hsg, hlV_0]; exact decide_eq_false (by omega))⟩, rfl⟩)
    ·
      try simp only [mIn_0, lgc_lt, lgc_gt, lgc_le, lgc_ge, lgc_eq] at c_84
      try simp only [fl_lt, fl_le, fl_eq, fL_w, fL_lt, fL_le, tm1, tm10k, tm9, tm99, Int32.reduceToInt, Int64.reduceToInt, Int.not_lt, Int.not_le] at c_84
      refine gz_iconst (v := 1) dX12_holds_87 (by decide) ?_
      refine gz_goto (tgt := 92) dX12_holds_88 (by decide) ?_
      have zs0 : (F 16 (Int32.toNatClampNeg x1)).toInt = 0 := by rw [hw_51_0]; rfl
      have hsg : xh.2.2.1 = 0 := by omega
      exact gz_zret rfl (by first | decide | exact nrb (by assumption) | exact nrb (Or.inl rfl) | exact nrb (Or.inr rfl)) dX12_holds_92 (Nat.le_of_ble_eq_true rfl) (Nat.le_of_ble_eq_true rfl) (⟨_, rfl, Or.inl ⟨rfl, (by rw [hlB_V, hsg, hlV_0]; exact decide_eq_true (by omega))⟩, rfl⟩)
  ·
    by_cases hw_51_1 : ((F 16) (Int32.toNatClampNeg x1)) = 1
    ·
      refine gz_ev (w := .int 1) (congrArg Value.int hw_51_1) ?_
      refine gz_tableIn (off := 42) (tgt := 93) dX12_holds_51 (by decide) (by decide) rfl (by decide) ?_
      refine gz_lload_n dX12_holds_93 rfl rfl ?_
      refine gz_lload dX12_holds_94 rfl ?_
      refine gz_lcmp dX12_holds_96 ?_
      refine gz_if_gt (tgt := 104) dX12_holds_97 (by decide) (fun c_97 => ?_) (fun c_97 => ?_)
      ·
        try simp only [mIn_0, lgc_lt, lgc_gt, lgc_le, lgc_ge, lgc_eq] at c_97
        try simp only [fl_lt, fl_le, fl_eq, fL_w, fL_lt, fL_le, tm1, tm10k, tm9, tm99, Int32.reduceToInt, Int64.reduceToInt, Int.not_lt, Int.not_le] at c_97
        refine gz_iconst (v := 0) dX12_holds_104 (by decide) ?_
        have zs0 : (F 16 (Int32.toNatClampNeg x1)).toInt ≠ 0 := fun e => hw_51_0 (Int32.toInt_inj.mp (e.trans rfl))
        have zs1 : (F 16 (Int32.toNatClampNeg x1)).toInt = 1 := by rw [hw_51_1]; rfl
        have hsg : xh.2.2.1 = 1 := by omega
        exact gz_zret rfl (by first | decide | exact nrb (by assumption) | exact nrb (Or.inl rfl) | exact nrb (Or.inr rfl)) dX12_holds_105 (Nat.le_of_ble_eq_true rfl) (Nat.le_of_ble_eq_true rfl) (⟨_, rfl, Or.inr ⟨rfl, (by rw [hlB_V, hsg, hlV_1]; exact decide_eq_false (by omega))⟩, rfl⟩)
      ·
        try simp only [mIn_0, lgc_lt, lgc_gt, lgc_le, lgc_ge, lgc_eq] at c_97
        try simp only [fl_lt, fl_le, fl_eq, fL_w, fL_lt, fL_le, tm1, tm10k, tm9, tm99, Int32.reduceToInt, Int64.reduceToInt, Int.not_lt, Int.not_le] at c_97
        refine gz_iconst (v := 1) dX12_holds_100 (by decide) ?_
        refine gz_goto (tgt := 105) dX12_holds_101 (by decide) ?_
        have zs0 : (F 16 (Int32.toNatClampNeg x1)).toInt ≠ 0 := fun e => hw_51_0 (Int32.toInt_inj.mp (e.trans rfl))
        have zs1 : (F 16 (Int32.toNatClampNeg x1)).toInt = 1 := by rw [hw_51_1]; rfl
        have hsg : xh.2.2.1 = 1 := by omega
        exact gz_zret rfl (by first | decide | exact nrb (by assumption) | exact nrb (Or.inl rfl) | exact nrb (Or.inr rfl)) dX12_holds_105 (Nat.le_of_ble_eq_true rfl) (Nat.le_of_ble_eq_true rfl) (⟨_, rfl, Or.inl ⟨rfl, (by rw [hlB_V, hsg, hlV_1]; exact decide_eq_true (by omega))⟩, rfl⟩)
    ·
      by_cases hw_51_2 : ((F 16) (Int32.toNatClampNeg x1)) = 2
      ·
        refine gz_ev (w := .int 2) (congrArg Value.int hw_51_2) ?_
        refine gz_tableIn (off := 55) (tgt := 106) dX12_holds_51 (by decide) (by decide) rfl (by decide) ?_
        refine gz_lload_n dX12_holds_106 rfl rfl ?_
        refine gz_lload dX12_holds_107 rfl ?_
        refine gz_lcmp dX12_holds_109 ?_
        refine gz_if_ne (tgt := 117) dX12_holds_110 (by decide) (fun c_110 => ?_) (fun c_110 => ?_)
        ·
          try simp only [mIn_0, lgc_lt, lgc_gt, lgc_le, lgc_ge, lgc_eq] at c_110
          try simp only [fl_lt, fl_le, fl_eq, fL_w, fL_lt, fL_le, tm1, tm10k, tm9, tm99, Int32.reduceToInt, Int64.reduceToInt, Int.not_lt, Int.not_le] at c_110
          refine gz_iconst (v := 0) dX12_holds_117 (by decide) ?_
          have zs0 : (F 16 (Int32.toNatClampNeg x1)).toInt ≠ 0 := fun e => hw_51_0 (Int32.toInt_inj.mp (e.trans rfl))
          have zs1 : (F 16 (Int32.toNatClampNeg x1)).toInt ≠ 1 := fun e => hw_51_1 (Int32.toInt_inj.mp (e.trans rfl))
          have zs2 : (F 16 (Int32.toNatClampNeg x1)).toInt = 2 := by rw [hw_51_2]; rfl
          have hsg : xh.2.2.1 = 2 := by omega
          exact gz_zret rfl (by first | decide | exact nrb (by assumption) | exact nrb (Or.inl rfl) | exact nrb (Or.inr rfl)) dX12_holds_118 (Nat.le_of_ble_eq_true rfl) (Nat.le_of_ble_eq_true rfl) (⟨_, rfl, Or.inr ⟨rfl, (by rw [hlB_V, hsg, hlV_2]; exact decide_eq_false (fun z9 => c_110 (Int64.toInt_inj.mp z9)))⟩, rfl⟩)
        ·
          try simp only [mIn_0, lgc_lt, lgc_gt, lgc_le, lgc_ge, lgc_eq] at c_110
          try simp only [fl_lt, fl_le, fl_eq, fL_w, fL_lt, fL_le, tm1, tm10k, tm9, tm99, Int32.reduceToInt, Int64.reduceToInt, Int.not_lt, Int.not_le] at c_110
          refine gz_iconst (v := 1) dX12_holds_113 (by decide) ?_
          refine gz_goto (tgt := 118) dX12_holds_114 (by decide) ?_
          have zs0 : (F 16 (Int32.toNatClampNeg x1)).toInt ≠ 0 := fun e => hw_51_0 (Int32.toInt_inj.mp (e.trans rfl))
          have zs1 : (F 16 (Int32.toNatClampNeg x1)).toInt ≠ 1 := fun e => hw_51_1 (Int32.toInt_inj.mp (e.trans rfl))
          have zs2 : (F 16 (Int32.toNatClampNeg x1)).toInt = 2 := by rw [hw_51_2]; rfl
          have hsg : xh.2.2.1 = 2 := by omega
          exact gz_zret rfl (by first | decide | exact nrb (by assumption) | exact nrb (Or.inl rfl) | exact nrb (Or.inr rfl)) dX12_holds_118 (Nat.le_of_ble_eq_true rfl) (Nat.le_of_ble_eq_true rfl) (⟨_, rfl, Or.inl ⟨rfl, (by rw [hlB_V, hsg, hlV_2]; exact decide_eq_true (congrArg Int64.toInt c_110))⟩, rfl⟩)
      ·
        by_cases hw_51_3 : ((F 16) (Int32.toNatClampNeg x1)) = 3
        ·
          refine gz_ev (w := .int 3) (congrArg Value.int hw_51_3) ?_
          refine gz_tableIn (off := 68) (tgt := 119) dX12_holds_51 (by decide) (by decide) rfl (by decide) ?_
          refine gz_lload_n dX12_holds_119 rfl rfl ?_
          refine gz_lload dX12_holds_120 rfl ?_
          refine gz_lcmp dX12_holds_122 ?_
          refine gz_if_lt (tgt := 130) dX12_holds_123 (by decide) (fun c_123 => ?_) (fun c_123 => ?_)
          ·
            try simp only [mIn_0, lgc_lt, lgc_gt, lgc_le, lgc_ge, lgc_eq] at c_123
            try simp only [fl_lt, fl_le, fl_eq, fL_w, fL_lt, fL_le, tm1, tm10k, tm9, tm99, Int32.reduceToInt, Int64.reduceToInt, Int.not_lt, Int.not_le] at c_123
            refine gz_iconst (v := 0) dX12_holds_130 (by decide) ?_
            have zs0 : (F 16 (Int32.toNatClampNeg x1)).toInt ≠ 0 := fun e => hw_51_0 (Int32.toInt_inj.mp (e.trans rfl))
            have zs1 : (F 16 (Int32.toNatClampNeg x1)).toInt ≠ 1 := fun e => hw_51_1 (Int32.toInt_inj.mp (e.trans rfl))
            have zs2 : (F 16 (Int32.toNatClampNeg x1)).toInt ≠ 2 := fun e => hw_51_2 (Int32.toInt_inj.mp (e.trans rfl))
            have zs3 : (F 16 (Int32.toNatClampNeg x1)).toInt = 3 := by rw [hw_51_3]; rfl
            have hsg : xh.2.2.1 = 3 := by omega
            exact gz_zret rfl (by first | decide | exact nrb (by assumption) | exact nrb (Or.inl rfl) | exact nrb (Or.inr rfl)) dX12_holds_131 (Nat.le_of_ble_eq_true rfl) (Nat.le_of_ble_eq_true rfl) (⟨_, rfl, Or.inr ⟨rfl, (by rw [hlB_V, hsg, hlV_3]; exact decide_eq_false (by omega))⟩, rfl⟩)
          ·
            try simp only [mIn_0, lgc_lt, lgc_gt, lgc_le, lgc_ge, lgc_eq] at c_123
            try simp only [fl_lt, fl_le, fl_eq, fL_w, fL_lt, fL_le, tm1, tm10k, tm9, tm99, Int32.reduceToInt, Int64.reduceToInt, Int.not_lt, Int.not_le] at c_123
            refine gz_iconst (v := 1) dX12_holds_126 (by decide) ?_
            refine gz_goto (tgt := 131) dX12_holds_127 (by decide) ?_
            have zs0 : (F 16 (Int32.toNatClampNeg x1)).toInt ≠ 0 := fun e => hw_51_0 (Int32.toInt_inj.mp (e.trans rfl))
            have zs1 : (F 16 (Int32.toNatClampNeg x1)).toInt ≠ 1 := fun e => hw_51_1 (Int32.toInt_inj.mp (e.trans rfl))
            have zs2 : (F 16 (Int32.toNatClampNeg x1)).toInt ≠ 2 := fun e => hw_51_2 (Int32.toInt_inj.mp (e.trans rfl))
            have zs3 : (F 16 (Int32.toNatClampNeg x1)).toInt = 3 := by rw [hw_51_3]; rfl
            have hsg : xh.2.2.1 = 3 := by omega
            exact gz_zret rfl (by first | decide | exact nrb (by assumption) | exact nrb (Or.inl rfl) | exact nrb (Or.inr rfl)) dX12_holds_131 (Nat.le_of_ble_eq_true rfl) (Nat.le_of_ble_eq_true rfl) (⟨_, rfl, Or.inl ⟨rfl, (by rw [hlB_V, hsg, hlV_3]; exact decide_eq_true (by omega))⟩, rfl⟩)
        ·
          refine gz_tableOut (tgt := 132) dX12_holds_51 (by have g0 : ((F 16) (Int32.toNatClampNeg x1)).toInt ≠ 0 := fun e => hw_51_0 (Int32.toInt_inj.mp (e.trans rfl)); have g1 : ((F 16) (Int32.toNatClampNeg x1)).toInt ≠ 1 := fun e => hw_51_1 (Int32.toInt_inj.mp (e.trans rfl)); have g2 : ((F 16) (Int32.toNatClampNeg x1)).toInt ≠ 2 := fun e => hw_51_2 (Int32.toInt_inj.mp (e.trans rfl)); have g3 : ((F 16) (Int32.toNatClampNeg x1)).toInt ≠ 3 := fun e => hw_51_3 (Int32.toInt_inj.mp (e.trans rfl)); omega) (by decide) ?_
          refine gz_lload_n dX12_holds_132 rfl rfl ?_
          refine gz_lload dX12_holds_133 rfl ?_
          refine gz_lcmp dX12_holds_135 ?_
          refine gz_if_le (tgt := 143) dX12_holds_136 (by decide) (fun c_136 => ?_) (fun c_136 => ?_)
          ·
            try simp only [mIn_0, lgc_lt, lgc_gt, lgc_le, lgc_ge, lgc_eq] at c_136
            try simp only [fl_lt, fl_le, fl_eq, fL_w, fL_lt, fL_le, tm1, tm10k, tm9, tm99, Int32.reduceToInt, Int64.reduceToInt, Int.not_lt, Int.not_le] at c_136
            refine gz_iconst (v := 0) dX12_holds_143 (by decide) ?_
            have zs0 : (F 16 (Int32.toNatClampNeg x1)).toInt ≠ 0 := fun e => hw_51_0 (Int32.toInt_inj.mp (e.trans rfl))
            have zs1 : (F 16 (Int32.toNatClampNeg x1)).toInt ≠ 1 := fun e => hw_51_1 (Int32.toInt_inj.mp (e.trans rfl))
            have zs2 : (F 16 (Int32.toNatClampNeg x1)).toInt ≠ 2 := fun e => hw_51_2 (Int32.toInt_inj.mp (e.trans rfl))
            have zs3 : (F 16 (Int32.toNatClampNeg x1)).toInt ≠ 3 := fun e => hw_51_3 (Int32.toInt_inj.mp (e.trans rfl))
            have hsg : xh.2.2.1 = 4 := by omega
            exact gz_zret rfl (by first | decide | exact nrb (by assumption) | exact nrb (Or.inl rfl) | exact nrb (Or.inr rfl)) dX12_holds_144 (Nat.le_of_ble_eq_true rfl) (Nat.le_of_ble_eq_true rfl) (⟨_, rfl, Or.inr ⟨rfl, (by rw [hlB_V, hsg, hlV_4]; exact decide_eq_false (by omega))⟩, rfl⟩)
          ·
            try simp only [mIn_0, lgc_lt, lgc_gt, lgc_le, lgc_ge, lgc_eq] at c_136
            try simp only [fl_lt, fl_le, fl_eq, fL_w, fL_lt, fL_le, tm1, tm10k, tm9, tm99, Int32.reduceToInt, Int64.reduceToInt, Int.not_lt, Int.not_le] at c_136
            refine gz_iconst (v := 1) dX12_holds_139 (by decide) ?_
            refine gz_goto (tgt := 144) dX12_holds_140 (by decide) ?_
            have zs0 : (F 16 (Int32.toNatClampNeg x1)).toInt ≠ 0 := fun e => hw_51_0 (Int32.toInt_inj.mp (e.trans rfl))
            have zs1 : (F 16 (Int32.toNatClampNeg x1)).toInt ≠ 1 := fun e => hw_51_1 (Int32.toInt_inj.mp (e.trans rfl))
            have zs2 : (F 16 (Int32.toNatClampNeg x1)).toInt ≠ 2 := fun e => hw_51_2 (Int32.toInt_inj.mp (e.trans rfl))
            have zs3 : (F 16 (Int32.toNatClampNeg x1)).toInt ≠ 3 := fun e => hw_51_3 (Int32.toInt_inj.mp (e.trans rfl))
            have hsg : xh.2.2.1 = 4 := by omega
            exact gz_zret rfl (by first | decide | exact nrb (by assumption) | exact nrb (Or.inl rfl) | exact nrb (Or.inr rfl)) dX12_holds_144 (Nat.le_of_ble_eq_true rfl) (Nat.le_of_ble_eq_true rfl) (⟨_, rfl, Or.inl ⟨rfl, (by rw [hlB_V, hsg, hlV_4]; exact decide_eq_true (by omega))⟩, rfl⟩)

set_option maxHeartbeats 4000000 in
set_option maxRecDepth 100000 in
theorem l_X12_isLapsedE {l : Launch} {D : va_G} {cy : Nat → ClassId} {b : Nat} {m : Nat} {a : Nat → Nat} {f0 : gMem} {n0 : Nat → Int32} {z0 : Nat → Int64} {F0 : Nat → Nat → Int32} {G0 : Nat → Nat → Int64}  {x1 : Int32} {fo wN : Nat} {T : List Hd} {S : Sn} {f : gMem} (hfo : fo < 20) (hwx : x1.toInt = 40 * (fo : Int) + (wN : Int) ∧ wN < T.length) : ∀ (k : Nat) (up : Int32) (n : Nat → Int32) (z : Nat → Int64) (F : Nat → Nat → Int32) (G : Nat → Nat → Int64) (fm : gMem), mS cy m a f0 n z F G fm → fx [] [] [] [] n0 z0 F0 G0 n z F G → (rAll F) → (LX F fo T) → (sRn S z G) → (upI T fo (false) (lpH S) up.toInt (fun r => lpT T S wN = r)) → (-1 ≤ up.toInt ∧ up.toInt + 2 ≤ (k : Int) ∧ up.toInt ≤ 879) → (fm = f) → gG l (gRm 2 0 0) (gQf D b (pI fun r f2 => ((r = 1 ∧ lpT T S wN = true) ∨ (r = 0 ∧ lpT T S wN = false)) ∧ f2 = f) 0 0) gTt D cy b cX12_isLapsed 3 (some .boolean) RX12 "isLapsed" 0 0 fm 7 [(2, .int up), (0, .ref m), (1, .int x1)] [] := by
  intro k
  induction k with
  | zero =>
    intro up n z F G fm hS hx bA hX hsR hup hk hf
    exfalso; omega
  | succ k ih =>
    intro up n z F G fm hS hx bA hX hsR hup hk hf
    refine gz_iload_n dX12_isLapsed_7 rfl rfl ?_
    refine gz_if_lt (tgt := 42) dX12_isLapsed_8 (by decide) (fun c_8 => ?_) (fun c_8 => ?_)
    ·
      try simp only [mIn_0, lgc_lt, lgc_gt, lgc_le, lgc_ge, lgc_eq] at c_8
      try simp only [fl_lt, fl_le, fl_eq, fL_w, fL_lt, fL_le, tm1, tm10k, tm9, tm99, Int32.reduceToInt, Int64.reduceToInt, Int.not_lt, Int.not_le] at c_8
      refine gz_iconst (v := 0) dX12_isLapsed_42 (by decide) ?_
      exact gz_zret rfl (by first | decide | exact nrb (by assumption) | exact nrb (Or.inl rfl) | exact nrb (Or.inr rfl)) dX12_isLapsed_43 (Nat.le_of_ble_eq_true rfl) (Nat.le_of_ble_eq_true rfl) (⟨_, rfl, Or.inr ⟨rfl, upI_lo hup (by omega)⟩, hf⟩)
    ·
      try simp only [mIn_0, lgc_lt, lgc_gt, lgc_le, lgc_ge, lgc_eq] at c_8
      try simp only [fl_lt, fl_le, fl_eq, fL_w, fL_lt, fL_le, tm1, tm10k, tm9, tm99, Int32.reduceToInt, Int64.reduceToInt, Int.not_lt, Int.not_le] at c_8
      have hT4 := hX.1.2.2.2.1
      have hoT := upO_ok hX.1.1
      obtain ⟨p, hp1, hp2, hp3⟩ := upI_hi hup (by omega)
      obtain ⟨xd, xv, _, _, _⟩ := LX_at bA hfo hX hp1
      have ecu : Int32.toNatClampNeg up = 40 * fo + p := by rw [clN]; omega
      have qpr := LX_up hX hp1
      rw [← ecu] at qpr xd
      have qup := hoT p hp1
      have qkd := xd.1
      have qn8 := xd.2.1
      refine gz_aload_n dX12_isLapsed_11 rfl rfl ?_
      refine mg_20 hS dX12_isLapsed_12 ?_
      refine gz_iload_n dX12_isLapsed_15 rfl rfl ?_
      refine m_iald 7 hS rfl (N := 880) rfl ((by exact vin_T (rfl : (up).toInt = (up).toInt) (by omega) (by omega))) dX12_isLapsed_16 ?_
      refine gz_bipush (v := 8) dX12_isLapsed_17 (by decide) ?_
      refine gz_icmp_ne (tgt := 32) dX12_isLapsed_19 (by decide) (fun c_19 => ?_) (fun c_19 => ?_)
      ·
        try simp only [mIn_0, lgc_lt, lgc_gt, lgc_le, lgc_ge, lgc_eq] at c_19
        try simp only [fl_lt, fl_le, fl_eq, fL_w, fL_lt, fL_le, tm1, tm10k, tm9, tm99, Int32.reduceToInt, Int64.reduceToInt, Int.not_lt, Int.not_le] at c_19
        refine gz_aload_n dX12_isLapsed_32 rfl rfl ?_
        refine mg_29 hS dX12_isLapsed_33 ?_
        refine gz_iload_n dX12_isLapsed_36 rfl rfl ?_
        refine m_iald 10 hS rfl (N := 880) rfl ((by exact vin_T (rfl : (up).toInt = (up).toInt) (by omega) (by omega))) dX12_isLapsed_37 ?_
        refine gz_istore_n (lv' := [(2, .int ((F 10) (Int32.toNatClampNeg up))), (0, .ref m), (1, .int x1)]) dX12_isLapsed_38 rfl (by decide) rfl ?_
        refine gz_goto (tgt := 7) dX12_isLapsed_39 (by decide) ?_
        refine gz_sub (lv' := [(2, .int ((F 10) (Int32.toNatClampNeg up))), (0, .ref m), (1, .int x1)]) (by simp [List.lookup]) ?_
        exact ih ((F 10) (Int32.toNatClampNeg up)) _ _ _ _ _ hS hx (bA) (hX) (hsR) (upI_nx hoT hT4 hp1 qpr (show lpT T S wN = upF T false (lpH S) 41 p by rw [show lpT T S wN = lpH S (grH T p) (upF T false (lpH S) 41 p) from hp3]; show ((decide ((grH T p).1 = 8) && hlB S (grH T p)) || upF T false (lpH S) 41 p) = _; rw [decide_eq_false (show ¬ (grH T p).1 = 8 by omega), Bool.false_and, Bool.false_or])) (by rw [qpr]; split <;> omega) (hf)
      ·
        try simp only [mIn_0, lgc_lt, lgc_gt, lgc_le, lgc_ge, lgc_eq] at c_19
        try simp only [fl_lt, fl_le, fl_eq, fL_w, fL_lt, fL_le, tm1, tm10k, tm9, tm99, Int32.reduceToInt, Int64.reduceToInt, Int.not_lt, Int.not_le] at c_19
        refine gz_aload_n dX12_isLapsed_22 rfl rfl ?_
        refine gz_iload_n dX12_isLapsed_23 rfl rfl ?_
        refine scX12_348 (k_X12_holdsE (x1 := up) (S := S) hS bA hsR (by omega) xd xv (by omega)) hS.1 ⟨(Nat.le_of_ble_eq_true rfl), (Nat.le_of_ble_eq_true rfl)⟩ ⟨(Nat.le_of_ble_eq_true rfl), (Nat.le_of_ble_eq_true rfl)⟩ rfl rfl (Nat.le_of_ble_eq_true rfl) dX12_isLapsed_24 ?_
        rintro r_1 f9 ⟨hb_1, y9⟩; rw [y9]
        rcases hb_1 with ⟨hr1, hbt⟩ | ⟨hr1, hbt⟩
        ·
          refine gz_ev (w := .int 1) (congrArg Value.int hr1) ?_
          refine gz_if_eq (tgt := 32) dX12_isLapsed_27 (by decide) (fun c_27 => ?_) (fun c_27 => ?_)
          · exact absurd c_27 (by decide)
          ·
            try simp only [mIn_0, lgc_lt, lgc_gt, lgc_le, lgc_ge, lgc_eq] at c_27
            try simp only [fl_lt, fl_le, fl_eq, fL_w, fL_lt, fL_le, tm1, tm10k, tm9, tm99, Int32.reduceToInt, Int64.reduceToInt, Int.not_lt, Int.not_le] at c_27
            refine gz_iconst (v := 1) dX12_isLapsed_30 (by decide) ?_
            exact gz_zret rfl (by first | decide | exact nrb (by assumption) | exact nrb (Or.inl rfl) | exact nrb (Or.inr rfl)) dX12_isLapsed_31 (Nat.le_of_ble_eq_true rfl) (Nat.le_of_ble_eq_true rfl) (⟨_, rfl, Or.inl ⟨rfl, (by rw [show lpT T S wN = lpH S (grH T p) (upF T false (lpH S) 41 p) from hp3]; show ((decide ((grH T p).1 = 8) && hlB S (grH T p)) || upF T false (lpH S) 41 p) = true; rw [hbt, decide_eq_true (show (grH T p).1 = 8 by omega)]; rfl)⟩, hf⟩)
        ·
          refine gz_ev (w := .int 0) (congrArg Value.int hr1) ?_
          refine gz_if_eq (tgt := 32) dX12_isLapsed_27 (by decide) (fun c_27 => ?_) (fun c_27 => ?_)
          ·
            try simp only [mIn_0, lgc_lt, lgc_gt, lgc_le, lgc_ge, lgc_eq] at c_27
            try simp only [fl_lt, fl_le, fl_eq, fL_w, fL_lt, fL_le, tm1, tm10k, tm9, tm99, Int32.reduceToInt, Int64.reduceToInt, Int.not_lt, Int.not_le] at c_27
            refine gz_aload_n dX12_isLapsed_32 rfl rfl ?_
            refine mg_29 hS dX12_isLapsed_33 ?_
            refine gz_iload_n dX12_isLapsed_36 rfl rfl ?_
            refine m_iald 10 hS rfl (N := 880) rfl ((by exact vin_T (rfl : (up).toInt = (up).toInt) (by omega) (by omega))) dX12_isLapsed_37 ?_
            refine gz_istore_n (lv' := [(2, .int ((F 10) (Int32.toNatClampNeg up))), (0, .ref m), (1, .int x1)]) dX12_isLapsed_38 rfl (by decide) rfl ?_
            refine gz_goto (tgt := 7) dX12_isLapsed_39 (by decide) ?_
            refine gz_sub (lv' := [(2, .int ((F 10) (Int32.toNatClampNeg up))), (0, .ref m), (1, .int x1)]) (by simp [List.lookup]) ?_
            exact ih ((F 10) (Int32.toNatClampNeg up)) _ _ _ _ _ hS hx (bA) (hX) (hsR) (upI_nx hoT hT4 hp1 qpr (show lpT T S wN = upF T false (lpH S) 41 p by rw [show lpT T S wN = lpH S (grH T p) (upF T false (lpH S) 41 p) from hp3]; show ((decide ((grH T p).1 = 8) && hlB S (grH T p)) || upF T false (lpH S) 41 p) = _; rw [hbt, Bool.and_false, Bool.false_or])) (by rw [qpr]; split <;> omega) (hf)
          · exact absurd c_27 (by decide)

set_option maxHeartbeats 4000000 in
set_option maxRecDepth 100000 in
theorem k_X12_isLapsedE {l : Launch} {D : va_G} {cy : Nat → ClassId} {b : Nat} {f : gMem} {m : Nat} {a : Nat → Nat} {f0 : gMem} {n : Nat → Int32} {z : Nat → Int64} {F : Nat → Nat → Int32} {G : Nat → Nat → Int64}  {x1 : Int32} {fo wN : Nat} {T : List Hd} {S : Sn} (hS : mS cy m a f0 n z F G f) (bA : rAll F) (hX : LX F fo T) (hsR : sRn S z G) (hfo : fo < 20) (hwx : x1.toInt = 40 * (fo : Int) + (wN : Int) ∧ wN < T.length) : gC l D cy b yX12_isLapsed cX12_isLapsed 3 (some .boolean) 2 0 0 [.ref m, .int x1] f (pI fun r f2 => ((r = 1 ∧ lpT T S wN = true) ∨ (r = 0 ∧ lpT T S wN = false)) ∧ f2 = f) := by
  have hT4 := hX.1.2.2.2.1
  have hoT := upO_ok hX.1.1
  have ecu : Int32.toNatClampNeg x1 = 40 * fo + wN := by rw [clN]; omega
  have qpr := LX_up hX hwx.2
  rw [← ecu] at qpr
  have qup := hoT wN hwx.2
  refine gC_of (by decide) (Nat.le_of_ble_eq_true rfl) ?_
  show gG l _ _ _ D cy b cX12_isLapsed 3 _ RX12 "isLapsed" 0 0 f 0 [(0, .ref m), (1, .int x1)] []
  refine gz_aload_n dX12_isLapsed_0 rfl rfl ?_
  refine mg_29 hS dX12_isLapsed_1 ?_
  refine gz_iload_n dX12_isLapsed_4 rfl rfl ?_
  refine m_iald 10 hS rfl (N := 880) rfl ((by exact vin_T (rfl : (x1).toInt = (x1).toInt) (by omega) (by omega))) dX12_isLapsed_5 ?_
  refine gz_istore_n (lv' := [(2, .int ((F 10) (Int32.toNatClampNeg x1))), (0, .ref m), (1, .int x1)]) dX12_isLapsed_6 rfl (by decide) rfl ?_
  refine gz_sub (lv' := [(2, .int ((F 10) (Int32.toNatClampNeg x1))), (0, .ref m), (1, .int x1)]) (by simp [List.lookup]) ?_
  exact l_X12_isLapsedE hfo hwx 882 (F 10 (Int32.toNatClampNeg x1)) _ _ _ _ _ hS fx_rf (bA) (hX) (hsR) (upI_nx hoT hT4 hwx.2 qpr (show lpT T S wN = upF T false (lpH S) 41 wN from rfl)) (by rw [qpr]; split <;> omega) (rfl)

set_option maxHeartbeats 4000000 in
set_option maxRecDepth 100000 in
theorem l_X12_untilsE {l : Launch} {D : va_G} {cy : Nat → ClassId} {b : Nat} {m : Nat} {a : Nat → Nat} {f0 : gMem} {n0 : Nat → Int32} {z0 : Nat → Int64} {F0 : Nat → Nat → Int32} {G0 : Nat → Nat → Int64}  {x1 : Int32} {fo wN : Nat} {T : List Hd} {f : gMem} (hfo : fo < 20) (hwx : x1.toInt = 40 * (fo : Int) + (wN : Int) ∧ wN < T.length) : ∀ (k : Nat) (up v : Int32) (n : Nat → Int32) (z : Nat → Int64) (F : Nat → Nat → Int32) (G : Nat → Nat → Int64) (fm : gMem), mS cy m a f0 n z F G fm → fx [] [] [] [] n0 z0 F0 G0 n z F G → (rAll F) → (LX F fo T) → (upI T fo (0) unH up.toInt (fun r => unT T wN = v.toInt + r)) → (0 ≤ v.toInt ∧ v.toInt + up.toInt ≤ 880) → (-1 ≤ up.toInt ∧ up.toInt + 2 ≤ (k : Int) ∧ up.toInt ≤ 879) → (fm = f) → gG l (gRm 0 0 0) (gQf D b (pI fun r f2 => r.toInt = unT T wN ∧ f2 = f) 0 0) gTt D cy b cX12_untils 4 (some .int) RX12 "untils" 0 0 fm 9 [(3, .int up), (2, .int v), (0, .ref m), (1, .int x1)] [] := by
  intro k
  induction k with
  | zero =>
    intro up v n z F G fm hS hx bA hX hup hvb hk hf
    exfalso; omega
  | succ k ih =>
    intro up v n z F G fm hS hx bA hX hup hvb hk hf
    refine gz_iload_n dX12_untils_9 rfl rfl ?_
    refine gz_if_lt (tgt := 42) dX12_untils_10 (by decide) (fun c_10 => ?_) (fun c_10 => ?_)
    ·
      try simp only [mIn_0, lgc_lt, lgc_gt, lgc_le, lgc_ge, lgc_eq] at c_10
      try simp only [fl_lt, fl_le, fl_eq, fL_w, fL_lt, fL_le, tm1, tm10k, tm9, tm99, Int32.reduceToInt, Int64.reduceToInt, Int.not_lt, Int.not_le] at c_10
      refine gz_iload_n dX12_untils_42 rfl rfl ?_
      exact gz_iret rfl dX12_untils_43 (Nat.le_of_ble_eq_true rfl) (Nat.le_of_ble_eq_true rfl) (⟨_, rfl, (by have q9 := upI_lo hup (by omega); have q9 : unT T wN = v.toInt + 0 := q9; omega), hf⟩)
    ·
      try simp only [mIn_0, lgc_lt, lgc_gt, lgc_le, lgc_ge, lgc_eq] at c_10
      try simp only [fl_lt, fl_le, fl_eq, fL_w, fL_lt, fL_le, tm1, tm10k, tm9, tm99, Int32.reduceToInt, Int64.reduceToInt, Int.not_lt, Int.not_le] at c_10
      have hT4 := hX.1.2.2.2.1
      have hoT := upO_ok hX.1.1
      obtain ⟨p, hp1, hp2, hp3⟩ := upI_hi hup (by omega)
      obtain ⟨xd, xv, _, _, _⟩ := LX_at bA hfo hX hp1
      have ecu : Int32.toNatClampNeg up = 40 * fo + p := by rw [clN]; omega
      have qpr := LX_up hX hp1
      rw [← ecu] at qpr xd
      have qup := hoT p hp1
      have qkd := xd.1
      have qn8 := xd.2.1
      refine gz_iload_n dX12_untils_13 rfl rfl ?_
      refine gz_aload_n dX12_untils_14 rfl rfl ?_
      refine mg_20 hS dX12_untils_15 ?_
      refine gz_iload_n dX12_untils_18 rfl rfl ?_
      refine m_iald 7 hS rfl (N := 880) rfl ((by exact vin_T (rfl : (up).toInt = (up).toInt) (by omega) (by omega))) dX12_untils_19 ?_
      refine gz_bipush (v := 8) dX12_untils_20 (by decide) ?_
      refine gz_icmp_ne (tgt := 29) dX12_untils_22 (by decide) (fun c_22 => ?_) (fun c_22 => ?_)
      ·
        try simp only [mIn_0, lgc_lt, lgc_gt, lgc_le, lgc_ge, lgc_eq] at c_22
        try simp only [fl_lt, fl_le, fl_eq, fL_w, fL_lt, fL_le, tm1, tm10k, tm9, tm99, Int32.reduceToInt, Int64.reduceToInt, Int.not_lt, Int.not_le] at c_22
        refine gz_iconst (v := 0) dX12_untils_29 (by decide) ?_
        refine gz_iadd dX12_untils_30 ?_
        refine gz_istore_n (lv' := [(2, .int (v + 0)), (3, .int up), (0, .ref m), (1, .int x1)]) dX12_untils_31 rfl (by decide) rfl ?_
        refine gz_aload_n dX12_untils_32 rfl rfl ?_
        refine mg_29 hS dX12_untils_33 ?_
        refine gz_iload_n dX12_untils_36 rfl rfl ?_
        refine m_iald 10 hS rfl (N := 880) rfl ((by exact vin_T (rfl : (up).toInt = (up).toInt) (by omega) (by omega))) dX12_untils_37 ?_
        refine gz_istore_n (lv' := [(3, .int ((F 10) (Int32.toNatClampNeg up))), (2, .int (v + 0)), (0, .ref m), (1, .int x1)]) dX12_untils_38 rfl (by decide) rfl ?_
        refine gz_goto (tgt := 9) dX12_untils_39 (by decide) ?_
        refine gz_sub (lv' := [(3, .int ((F 10) (Int32.toNatClampNeg up))), (2, .int (v + 0)), (0, .ref m), (1, .int x1)]) (by simp [List.lookup]) ?_
        exact ih ((F 10) (Int32.toNatClampNeg up)) (v + 0) _ _ _ _ _ hS hx (bA) (hX) (upI_nx hoT hT4 hp1 qpr (show unT T wN = (v + 0).toInt + upF T 0 unH 41 p by have q9 := (T_add (rfl : (v).toInt = (v).toInt) (show (0 : Int32).toInt = 0 from rfl) (by omega)); have p9 : unT T wN = v.toInt + (upF T 0 unH 41 p + (if (grH T p).1 = 8 then 1 else 0)) := hp3; rw [if_neg (show ¬ (grH T p).1 = 8 by omega)] at p9; omega)) (by have q9 := (T_add (rfl : (v).toInt = (v).toInt) (show (0 : Int32).toInt = 0 from rfl) (by omega)); rw [qpr]; split <;> omega) (by rw [qpr]; split <;> omega) (hf)
      ·
        try simp only [mIn_0, lgc_lt, lgc_gt, lgc_le, lgc_ge, lgc_eq] at c_22
        try simp only [fl_lt, fl_le, fl_eq, fL_w, fL_lt, fL_le, tm1, tm10k, tm9, tm99, Int32.reduceToInt, Int64.reduceToInt, Int.not_lt, Int.not_le] at c_22
        refine gz_iconst (v := 1) dX12_untils_25 (by decide) ?_
        refine gz_goto (tgt := 30) dX12_untils_26 (by decide) ?_
        refine gz_iadd dX12_untils_30 ?_
        refine gz_istore_n (lv' := [(2, .int (v + 1)), (3, .int up), (0, .ref m), (1, .int x1)]) dX12_untils_31 rfl (by decide) rfl ?_
        refine gz_aload_n dX12_untils_32 rfl rfl ?_
        refine mg_29 hS dX12_untils_33 ?_
        refine gz_iload_n dX12_untils_36 rfl rfl ?_
        refine m_iald 10 hS rfl (N := 880) rfl ((by exact vin_T (rfl : (up).toInt = (up).toInt) (by omega) (by omega))) dX12_untils_37 ?_
        refine gz_istore_n (lv' := [(3, .int ((F 10) (Int32.toNatClampNeg up))), (2, .int (v + 1)), (0, .ref m), (1, .int x1)]) dX12_untils_38 rfl (by decide) rfl ?_
        refine gz_goto (tgt := 9) dX12_untils_39 (by decide) ?_
        refine gz_sub (lv' := [(3, .int ((F 10) (Int32.toNatClampNeg up))), (2, .int (v + 1)), (0, .ref m), (1, .int x1)]) (by simp [List.lookup]) ?_
        exact ih ((F 10) (Int32.toNatClampNeg up)) (v + 1) _ _ _ _ _ hS hx (bA) (hX) (upI_nx hoT hT4 hp1 qpr (show unT T wN = (v + 1).toInt + upF T 0 unH 41 p by have q9 := (T_add (rfl : (v).toInt = (v).toInt) (show (1 : Int32).toInt = 1 from rfl) (by omega)); have p9 : unT T wN = v.toInt + (upF T 0 unH 41 p + (if (grH T p).1 = 8 then 1 else 0)) := hp3; rw [if_pos (show (grH T p).1 = 8 by omega)] at p9; omega)) (by have q9 := (T_add (rfl : (v).toInt = (v).toInt) (show (1 : Int32).toInt = 1 from rfl) (by omega)); rw [qpr]; split <;> omega) (by rw [qpr]; split <;> omega) (hf)

set_option maxHeartbeats 4000000 in
set_option maxRecDepth 100000 in
theorem k_X12_untilsE {l : Launch} {D : va_G} {cy : Nat → ClassId} {b : Nat} {f : gMem} {m : Nat} {a : Nat → Nat} {f0 : gMem} {n : Nat → Int32} {z : Nat → Int64} {F : Nat → Nat → Int32} {G : Nat → Nat → Int64}  {x1 : Int32} {fo wN : Nat} {T : List Hd} (hS : mS cy m a f0 n z F G f) (bA : rAll F) (hX : LX F fo T) (hfo : fo < 20) (hwx : x1.toInt = 40 * (fo : Int) + (wN : Int) ∧ wN < T.length) : gC l D cy b yX12_untils cX12_untils 4 (some .int) 0 0 0 [.ref m, .int x1] f (pI fun r f2 => r.toInt = unT T wN ∧ f2 = f) := by
  have hT4 := hX.1.2.2.2.1
  have hoT := upO_ok hX.1.1
  have ecu : Int32.toNatClampNeg x1 = 40 * fo + wN := by rw [clN]; omega
  have qpr := LX_up hX hwx.2
  rw [← ecu] at qpr
  have qup := hoT wN hwx.2
  refine gC_of (by decide) (Nat.le_of_ble_eq_true rfl) ?_
  show gG l _ _ _ D cy b cX12_untils 4 _ RX12 "untils" 0 0 f 0 [(0, .ref m), (1, .int x1)] []
  refine gz_iconst (v := 0) dX12_untils_0 (by decide) ?_
  refine gz_istore_n (lv' := [(2, .int 0), (0, .ref m), (1, .int x1)]) dX12_untils_1 rfl (by decide) rfl ?_
  refine gz_aload_n dX12_untils_2 rfl rfl ?_
  refine mg_29 hS dX12_untils_3 ?_
  refine gz_iload_n dX12_untils_6 rfl rfl ?_
  refine m_iald 10 hS rfl (N := 880) rfl ((by exact vin_T (rfl : (x1).toInt = (x1).toInt) (by omega) (by omega))) dX12_untils_7 ?_
  refine gz_istore_n (lv' := [(3, .int ((F 10) (Int32.toNatClampNeg x1))), (2, .int 0), (0, .ref m), (1, .int x1)]) dX12_untils_8 rfl (by decide) rfl ?_
  refine gz_sub (lv' := [(3, .int ((F 10) (Int32.toNatClampNeg x1))), (2, .int 0), (0, .ref m), (1, .int x1)]) (by simp [List.lookup]) ?_
  exact l_X12_untilsE hfo hwx 882 (F 10 (Int32.toNatClampNeg x1)) 0 _ _ _ _ _ hS fx_rf (bA) (hX) (upI_nx hoT hT4 hwx.2 qpr (show unT T wN = (0 : Int32).toInt + upF T 0 unH 41 wN from (Int.zero_add _).symm)) (by have e0 : (0 : Int32).toInt = 0 := rfl; rw [qpr]; split <;> omega) (by rw [qpr]; split <;> omega) (rfl)

set_option maxHeartbeats 4000000 in
set_option maxRecDepth 100000 in
theorem l_X12_capOfE {l : Launch} {D : va_G} {cy : Nat → ClassId} {b : Nat} {m : Nat} {a : Nat → Nat} {f0 : gMem} {n0 : Nat → Int32} {z0 : Nat → Int64} {F0 : Nat → Nat → Int32} {G0 : Nat → Nat → Int64}  {x1 : Int32} {fo wN : Nat} {T : List Hd} {f : gMem} (hfo : fo < 20) (hwx : x1.toInt = 40 * (fo : Int) + (wN : Int) ∧ wN < T.length) : ∀ (k : Nat) (up v : Int32) (n : Nat → Int32) (z : Nat → Int64) (F : Nat → Nat → Int32) (G : Nat → Nat → Int64) (fm : gMem), mS cy m a f0 n z F G fm → fx [] [] [] [] n0 z0 F0 G0 n z F G → (rAll F) → (LX F fo T) → (upI T fo (-1) cpH up.toInt (fun r => cqT T wN = cmb v.toInt r)) → (-1 ≤ v.toInt) → (-1 ≤ up.toInt ∧ up.toInt + 2 ≤ (k : Int) ∧ up.toInt ≤ 879) → (fm = f) → gG l (gRm 0 0 0) (gQf D b (pI fun r f2 => r.toInt = cqT T wN ∧ f2 = f) 0 0) gTt D cy b cX12_capOf 4 (some .int) RX12 "capOf" 0 0 fm 9 [(3, .int up), (2, .int v), (0, .ref m), (1, .int x1)] [] := by
  intro k
  induction k with
  | zero =>
    intro up v n z F G fm hS hx bA hX hup hvb hk hf
    exfalso; omega
  | succ k ih =>
    intro up v n z F G fm hS hx bA hX hup hvb hk hf
    refine gz_iload_n dX12_capOf_9 rfl rfl ?_
    refine gz_if_lt (tgt := 55) dX12_capOf_10 (by decide) (fun c_10 => ?_) (fun c_10 => ?_)
    ·
      try simp only [mIn_0, lgc_lt, lgc_gt, lgc_le, lgc_ge, lgc_eq] at c_10
      try simp only [fl_lt, fl_le, fl_eq, fL_w, fL_lt, fL_le, tm1, tm10k, tm9, tm99, Int32.reduceToInt, Int64.reduceToInt, Int.not_lt, Int.not_le] at c_10
      refine gz_iload_n dX12_capOf_55 rfl rfl ?_
      exact gz_iret rfl dX12_capOf_56 (Nat.le_of_ble_eq_true rfl) (Nat.le_of_ble_eq_true rfl) (⟨_, rfl, (by have q9 := upI_lo hup (by omega); have q9 : cqT T wN = cmb v.toInt (-1) := q9; rw [q9, cmb_e]), hf⟩)
    ·
      try simp only [mIn_0, lgc_lt, lgc_gt, lgc_le, lgc_ge, lgc_eq] at c_10
      try simp only [fl_lt, fl_le, fl_eq, fL_w, fL_lt, fL_le, tm1, tm10k, tm9, tm99, Int32.reduceToInt, Int64.reduceToInt, Int.not_lt, Int.not_le] at c_10
      have hT4 := hX.1.2.2.2.1
      have hoT := upO_ok hX.1.1
      obtain ⟨p, hp1, hp2, hp3⟩ := upI_hi hup (by omega)
      obtain ⟨xd, xv, _, _, _⟩ := LX_at bA hfo hX hp1
      have ecu : Int32.toNatClampNeg up = 40 * fo + p := by rw [clN]; omega
      have qpr := LX_up hX hp1
      rw [← ecu] at qpr xd
      have qup := hoT p hp1
      have qkd := xd.1
      have qn8 := xd.2.1
      refine gz_aload_n dX12_capOf_13 rfl rfl ?_
      refine mg_20 hS dX12_capOf_14 ?_
      refine gz_iload_n dX12_capOf_17 rfl rfl ?_
      refine m_iald 7 hS rfl (N := 880) rfl ((by exact vin_T (rfl : (up).toInt = (up).toInt) (by omega) (by omega))) dX12_capOf_18 ?_
      refine gz_bipush (v := 10) dX12_capOf_19 (by decide) ?_
      refine gz_icmp_ne (tgt := 45) dX12_capOf_21 (by decide) (fun c_21 => ?_) (fun c_21 => ?_)
      ·
        try simp only [mIn_0, lgc_lt, lgc_gt, lgc_le, lgc_ge, lgc_eq] at c_21
        try simp only [fl_lt, fl_le, fl_eq, fL_w, fL_lt, fL_le, tm1, tm10k, tm9, tm99, Int32.reduceToInt, Int64.reduceToInt, Int.not_lt, Int.not_le] at c_21
        refine gz_aload_n dX12_capOf_45 rfl rfl ?_
        refine mg_29 hS dX12_capOf_46 ?_
        refine gz_iload_n dX12_capOf_49 rfl rfl ?_
        refine m_iald 10 hS rfl (N := 880) rfl ((by exact vin_T (rfl : (up).toInt = (up).toInt) (by omega) (by omega))) dX12_capOf_50 ?_
        refine gz_istore_n (lv' := [(3, .int ((F 10) (Int32.toNatClampNeg up))), (2, .int v), (0, .ref m), (1, .int x1)]) dX12_capOf_51 rfl (by decide) rfl ?_
        refine gz_goto (tgt := 9) dX12_capOf_52 (by decide) ?_
        refine gz_sub (lv' := [(3, .int ((F 10) (Int32.toNatClampNeg up))), (2, .int v), (0, .ref m), (1, .int x1)]) (by simp [List.lookup]) ?_
        exact ih ((F 10) (Int32.toNatClampNeg up)) v _ _ _ _ _ hS hx (bA) (hX) (upI_nx hoT hT4 hp1 qpr (show cqT T wN = cmb v.toInt (upF T (-1) cpH 41 p) from by have p9 : cqT T wN = cmb v.toInt (cpH (grH T p) (upF T (-1) cpH 41 p)) := hp3; have n9 := (cqT_n hX.1.2.1 hoT 41 p hp1).1; have m9 := xv.2.1; rw [p9]; exact cmb_x hvb n9 (fun z => (m9 (Or.inr z)).1) (by omega))) (hvb) (by rw [qpr]; split <;> omega) (hf)
      ·
        try simp only [mIn_0, lgc_lt, lgc_gt, lgc_le, lgc_ge, lgc_eq] at c_21
        try simp only [fl_lt, fl_le, fl_eq, fL_w, fL_lt, fL_le, tm1, tm10k, tm9, tm99, Int32.reduceToInt, Int64.reduceToInt, Int.not_lt, Int.not_le] at c_21
        refine gz_iload_n dX12_capOf_24 rfl rfl ?_
        refine gz_if_lt (tgt := 38) dX12_capOf_25 (by decide) (fun c_25 => ?_) (fun c_25 => ?_)
        ·
          try simp only [mIn_0, lgc_lt, lgc_gt, lgc_le, lgc_ge, lgc_eq] at c_25
          try simp only [fl_lt, fl_le, fl_eq, fL_w, fL_lt, fL_le, tm1, tm10k, tm9, tm99, Int32.reduceToInt, Int64.reduceToInt, Int.not_lt, Int.not_le] at c_25
          refine gz_aload_n dX12_capOf_38 rfl rfl ?_
          refine mg_23 hS dX12_capOf_39 ?_
          refine gz_iload_n dX12_capOf_42 rfl rfl ?_
          refine m_iald 8 hS rfl (N := 880) rfl ((by exact vin_T (rfl : (up).toInt = (up).toInt) (by omega) (by omega))) dX12_capOf_43 ?_
          refine gz_istore_n (lv' := [(2, .int ((F 8) (Int32.toNatClampNeg up))), (3, .int up), (0, .ref m), (1, .int x1)]) dX12_capOf_44 rfl (by decide) rfl ?_
          refine gz_aload_n dX12_capOf_45 rfl rfl ?_
          refine mg_29 hS dX12_capOf_46 ?_
          refine gz_iload_n dX12_capOf_49 rfl rfl ?_
          refine m_iald 10 hS rfl (N := 880) rfl ((by exact vin_T (rfl : (up).toInt = (up).toInt) (by omega) (by omega))) dX12_capOf_50 ?_
          refine gz_istore_n (lv' := [(3, .int ((F 10) (Int32.toNatClampNeg up))), (2, .int ((F 8) (Int32.toNatClampNeg up))), (0, .ref m), (1, .int x1)]) dX12_capOf_51 rfl (by decide) rfl ?_
          refine gz_goto (tgt := 9) dX12_capOf_52 (by decide) ?_
          refine gz_sub (lv' := [(3, .int ((F 10) (Int32.toNatClampNeg up))), (2, .int ((F 8) (Int32.toNatClampNeg up))), (0, .ref m), (1, .int x1)]) (by simp [List.lookup]) ?_
          exact ih ((F 10) (Int32.toNatClampNeg up)) ((F 8) (Int32.toNatClampNeg up)) _ _ _ _ _ hS hx (bA) (hX) (upI_nx hoT hT4 hp1 qpr (show cqT T wN = cmb ((F 8) (Int32.toNatClampNeg up)).toInt (upF T (-1) cpH 41 p) from by have p9 : cqT T wN = cmb v.toInt (cpH (grH T p) (upF T (-1) cpH 41 p)) := hp3; have n9 := (cqT_n hX.1.2.1 hoT 41 p hp1).1; have m9 := xv.2.1; rw [p9, qn8]; exact cmb_y hvb n9 (m9 (Or.inr (by omega))).1 (by omega) (by omega))) (by rw [qn8]; have m9 := xv.2.1 (Or.inr (by omega)); omega) (by rw [qpr]; split <;> omega) (hf)
        ·
          try simp only [mIn_0, lgc_lt, lgc_gt, lgc_le, lgc_ge, lgc_eq] at c_25
          try simp only [fl_lt, fl_le, fl_eq, fL_w, fL_lt, fL_le, tm1, tm10k, tm9, tm99, Int32.reduceToInt, Int64.reduceToInt, Int.not_lt, Int.not_le] at c_25
          refine gz_aload_n dX12_capOf_28 rfl rfl ?_
          refine mg_23 hS dX12_capOf_29 ?_
          refine gz_iload_n dX12_capOf_32 rfl rfl ?_
          refine m_iald 8 hS rfl (N := 880) rfl ((by exact vin_T (rfl : (up).toInt = (up).toInt) (by omega) (by omega))) dX12_capOf_33 ?_
          refine gz_iload_n dX12_capOf_34 rfl rfl ?_
          refine gz_icmp_ge (tgt := 45) dX12_capOf_35 (by decide) (fun c_35 => ?_) (fun c_35 => ?_)
          ·
            try simp only [mIn_0, lgc_lt, lgc_gt, lgc_le, lgc_ge, lgc_eq] at c_35
            try simp only [fl_lt, fl_le, fl_eq, fL_w, fL_lt, fL_le, tm1, tm10k, tm9, tm99, Int32.reduceToInt, Int64.reduceToInt, Int.not_lt, Int.not_le] at c_35
            refine gz_aload_n dX12_capOf_45 rfl rfl ?_
            refine mg_29 hS dX12_capOf_46 ?_
            refine gz_iload_n dX12_capOf_49 rfl rfl ?_
            refine m_iald 10 hS rfl (N := 880) rfl ((by exact vin_T (rfl : (up).toInt = (up).toInt) (by omega) (by omega))) dX12_capOf_50 ?_
            refine gz_istore_n (lv' := [(3, .int ((F 10) (Int32.toNatClampNeg up))), (2, .int v), (0, .ref m), (1, .int x1)]) dX12_capOf_51 rfl (by decide) rfl ?_
            refine gz_goto (tgt := 9) dX12_capOf_52 (by decide) ?_
            refine gz_sub (lv' := [(3, .int ((F 10) (Int32.toNatClampNeg up))), (2, .int v), (0, .ref m), (1, .int x1)]) (by simp [List.lookup]) ?_
            exact ih ((F 10) (Int32.toNatClampNeg up)) v _ _ _ _ _ hS hx (bA) (hX) (upI_nx hoT hT4 hp1 qpr (show cqT T wN = cmb v.toInt (upF T (-1) cpH 41 p) from by have p9 : cqT T wN = cmb v.toInt (cpH (grH T p) (upF T (-1) cpH 41 p)) := hp3; have n9 := (cqT_n hX.1.2.1 hoT 41 p hp1).1; have m9 := xv.2.1; rw [p9]; exact cmb_x hvb n9 (fun z => (m9 (Or.inr z)).1) (by omega))) (hvb) (by rw [qpr]; split <;> omega) (hf)
          ·
            try simp only [mIn_0, lgc_lt, lgc_gt, lgc_le, lgc_ge, lgc_eq] at c_35
            try simp only [fl_lt, fl_le, fl_eq, fL_w, fL_lt, fL_le, tm1, tm10k, tm9, tm99, Int32.reduceToInt, Int64.reduceToInt, Int.not_lt, Int.not_le] at c_35
            refine gz_aload_n dX12_capOf_38 rfl rfl ?_
            refine mg_23 hS dX12_capOf_39 ?_
            refine gz_iload_n dX12_capOf_42 rfl rfl ?_
            refine m_iald 8 hS rfl (N := 880) rfl ((by exact vin_T (rfl : (up).toInt = (up).toInt) (by omega) (by omega))) dX12_capOf_43 ?_
            refine gz_istore_n (lv' := [(2, .int ((F 8) (Int32.toNatClampNeg up))), (3, .int up), (0, .ref m), (1, .int x1)]) dX12_capOf_44 rfl (by decide) rfl ?_
            refine gz_aload_n dX12_capOf_45 rfl rfl ?_
            refine mg_29 hS dX12_capOf_46 ?_
            refine gz_iload_n dX12_capOf_49 rfl rfl ?_
            refine m_iald 10 hS rfl (N := 880) rfl ((by exact vin_T (rfl : (up).toInt = (up).toInt) (by omega) (by omega))) dX12_capOf_50 ?_
            refine gz_istore_n (lv' := [(3, .int ((F 10) (Int32.toNatClampNeg up))), (2, .int ((F 8) (Int32.toNatClampNeg up))), (0, .ref m), (1, .int x1)]) dX12_capOf_51 rfl (by decide) rfl ?_
            refine gz_goto (tgt := 9) dX12_capOf_52 (by decide) ?_
            refine gz_sub (lv' := [(3, .int ((F 10) (Int32.toNatClampNeg up))), (2, .int ((F 8) (Int32.toNatClampNeg up))), (0, .ref m), (1, .int x1)]) (by simp [List.lookup]) ?_
            exact ih ((F 10) (Int32.toNatClampNeg up)) ((F 8) (Int32.toNatClampNeg up)) _ _ _ _ _ hS hx (bA) (hX) (upI_nx hoT hT4 hp1 qpr (show cqT T wN = cmb ((F 8) (Int32.toNatClampNeg up)).toInt (upF T (-1) cpH 41 p) from by have p9 : cqT T wN = cmb v.toInt (cpH (grH T p) (upF T (-1) cpH 41 p)) := hp3; have n9 := (cqT_n hX.1.2.1 hoT 41 p hp1).1; have m9 := xv.2.1; rw [p9, qn8]; exact cmb_y hvb n9 (m9 (Or.inr (by omega))).1 (by omega) (by omega))) (by rw [qn8]; have m9 := xv.2.1 (Or.inr (by omega)); omega) (by rw [qpr]; split <;> omega) (hf)

set_option maxHeartbeats 4000000 in
set_option maxRecDepth 100000 in
theorem k_X12_capOfE {l : Launch} {D : va_G} {cy : Nat → ClassId} {b : Nat} {f : gMem} {m : Nat} {a : Nat → Nat} {f0 : gMem} {n : Nat → Int32} {z : Nat → Int64} {F : Nat → Nat → Int32} {G : Nat → Nat → Int64}  {x1 : Int32} {fo wN : Nat} {T : List Hd} (hS : mS cy m a f0 n z F G f) (bA : rAll F) (hX : LX F fo T) (hfo : fo < 20) (hwx : x1.toInt = 40 * (fo : Int) + (wN : Int) ∧ wN < T.length) : gC l D cy b yX12_capOf cX12_capOf 4 (some .int) 0 0 0 [.ref m, .int x1] f (pI fun r f2 => r.toInt = cqT T wN ∧ f2 = f) := by
  have hT4 := hX.1.2.2.2.1
  have hoT := upO_ok hX.1.1
  have ecu : Int32.toNatClampNeg x1 = 40 * fo + wN := by rw [clN]; omega
  have qpr := LX_up hX hwx.2
  rw [← ecu] at qpr
  have qup := hoT wN hwx.2
  refine gC_of (by decide) (Nat.le_of_ble_eq_true rfl) ?_
  show gG l _ _ _ D cy b cX12_capOf 4 _ RX12 "capOf" 0 0 f 0 [(0, .ref m), (1, .int x1)] []
  refine gz_iconst (v := (-1)) dX12_capOf_0 (by decide) ?_
  refine gz_istore_n (lv' := [(2, .int (-1)), (0, .ref m), (1, .int x1)]) dX12_capOf_1 rfl (by decide) rfl ?_
  refine gz_aload_n dX12_capOf_2 rfl rfl ?_
  refine mg_29 hS dX12_capOf_3 ?_
  refine gz_iload_n dX12_capOf_6 rfl rfl ?_
  refine m_iald 10 hS rfl (N := 880) rfl ((by exact vin_T (rfl : (x1).toInt = (x1).toInt) (by omega) (by omega))) dX12_capOf_7 ?_
  refine gz_istore_n (lv' := [(3, .int ((F 10) (Int32.toNatClampNeg x1))), (2, .int (-1)), (0, .ref m), (1, .int x1)]) dX12_capOf_8 rfl (by decide) rfl ?_
  refine gz_sub (lv' := [(3, .int ((F 10) (Int32.toNatClampNeg x1))), (2, .int (-1)), (0, .ref m), (1, .int x1)]) (by simp [List.lookup]) ?_
  exact l_X12_capOfE hfo hwx 882 (F 10 (Int32.toNatClampNeg x1)) (-1) _ _ _ _ _ hS fx_rf (bA) (hX) (upI_nx hoT hT4 hwx.2 qpr (show cqT T wN = cmb (-1 : Int32).toInt (upF T (-1) cpH 41 wN) from cmb_n.symm)) (by decide) (by rw [qpr]; split <;> omega) (rfl)

set_option maxHeartbeats 4000000 in
set_option maxRecDepth 100000 in
theorem l_X12_chooserE {l : Launch} {D : va_G} {cy : Nat → ClassId} {b : Nat} {m : Nat} {a : Nat → Nat} {f0 : gMem} {n0 : Nat → Int32} {z0 : Nat → Int64} {F0 : Nat → Nat → Int32} {G0 : Nat → Nat → Int64}  {x1 : Int32} {fo wN : Nat} {T : List Hd} {f : gMem} (hfo : fo < 20) (hwx : x1.toInt = 40 * (fo : Int) + (wN : Int) ∧ wN < T.length) : ∀ (k : Nat) (up v : Int32) (n : Nat → Int32) (z : Nat → Int64) (F : Nat → Nat → Int32) (G : Nat → Nat → Int64) (fm : gMem), mS cy m a f0 n z F G fm → fx [] [] [] [] n0 z0 F0 G0 n z F G → (rAll F) → (LX F fo T) → (upI T fo (0) sdH up.toInt (fun r => sdT T wN = xrI v.toInt r)) → (v.toInt = 0 ∨ v.toInt = 1) → (-1 ≤ up.toInt ∧ up.toInt + 2 ≤ (k : Int) ∧ up.toInt ≤ 879) → (fm = f) → gG l (gRm 0 0 0) (gQf D b (pI fun r f2 => r.toInt = sdT T wN ∧ f2 = f) 0 0) gTt D cy b cX12_chooser 4 (some .int) RX12 "chooser" 0 0 fm 9 [(3, .int up), (2, .int v), (0, .ref m), (1, .int x1)] [] := by
  intro k
  induction k with
  | zero =>
    intro up v n z F G fm hS hx bA hX hup hvb hk hf
    exfalso; omega
  | succ k ih =>
    intro up v n z F G fm hS hx bA hX hup hvb hk hf
    refine gz_iload_n dX12_chooser_9 rfl rfl ?_
    refine gz_if_lt (tgt := 41) dX12_chooser_10 (by decide) (fun c_10 => ?_) (fun c_10 => ?_)
    ·
      try simp only [mIn_0, lgc_lt, lgc_gt, lgc_le, lgc_ge, lgc_eq] at c_10
      try simp only [fl_lt, fl_le, fl_eq, fL_w, fL_lt, fL_le, tm1, tm10k, tm9, tm99, Int32.reduceToInt, Int64.reduceToInt, Int.not_lt, Int.not_le] at c_10
      refine gz_iload_n dX12_chooser_41 rfl rfl ?_
      exact gz_iret rfl dX12_chooser_42 (Nat.le_of_ble_eq_true rfl) (Nat.le_of_ble_eq_true rfl) (⟨_, rfl, (by have q9 := upI_lo hup (by omega); have q9 : sdT T wN = xrI v.toInt 0 := q9; unfold xrI at q9; rw [q9]; split <;> omega), hf⟩)
    ·
      try simp only [mIn_0, lgc_lt, lgc_gt, lgc_le, lgc_ge, lgc_eq] at c_10
      try simp only [fl_lt, fl_le, fl_eq, fL_w, fL_lt, fL_le, tm1, tm10k, tm9, tm99, Int32.reduceToInt, Int64.reduceToInt, Int.not_lt, Int.not_le] at c_10
      have hT4 := hX.1.2.2.2.1
      have hoT := upO_ok hX.1.1
      obtain ⟨p, hp1, hp2, hp3⟩ := upI_hi hup (by omega)
      obtain ⟨xd, xv, _, _, _⟩ := LX_at bA hfo hX hp1
      have ecu : Int32.toNatClampNeg up = 40 * fo + p := by rw [clN]; omega
      have qpr := LX_up hX hp1
      rw [← ecu] at qpr xd
      have qup := hoT p hp1
      have qkd := xd.1
      have qn8 := xd.2.1
      refine gz_iload_n dX12_chooser_13 rfl rfl ?_
      refine gz_aload_n dX12_chooser_14 rfl rfl ?_
      refine mg_20 hS dX12_chooser_15 ?_
      refine gz_iload_n dX12_chooser_18 rfl rfl ?_
      refine m_iald 7 hS rfl (N := 880) rfl ((by exact vin_T (rfl : (up).toInt = (up).toInt) (by omega) (by omega))) dX12_chooser_19 ?_
      refine gz_iconst (v := 2) dX12_chooser_20 (by decide) ?_
      refine gz_icmp_ne (tgt := 28) dX12_chooser_21 (by decide) (fun c_21 => ?_) (fun c_21 => ?_)
      ·
        try simp only [mIn_0, lgc_lt, lgc_gt, lgc_le, lgc_ge, lgc_eq] at c_21
        try simp only [fl_lt, fl_le, fl_eq, fL_w, fL_lt, fL_le, tm1, tm10k, tm9, tm99, Int32.reduceToInt, Int64.reduceToInt, Int.not_lt, Int.not_le] at c_21
        refine gz_iconst (v := 0) dX12_chooser_28 (by decide) ?_
        refine gz_ixor dX12_chooser_29 ?_
        refine gz_istore_n (lv' := [(2, .int (v ^^^ 0)), (3, .int up), (0, .ref m), (1, .int x1)]) dX12_chooser_30 rfl (by decide) rfl ?_
        refine gz_aload_n dX12_chooser_31 rfl rfl ?_
        refine mg_29 hS dX12_chooser_32 ?_
        refine gz_iload_n dX12_chooser_35 rfl rfl ?_
        refine m_iald 10 hS rfl (N := 880) rfl ((by exact vin_T (rfl : (up).toInt = (up).toInt) (by omega) (by omega))) dX12_chooser_36 ?_
        refine gz_istore_n (lv' := [(3, .int ((F 10) (Int32.toNatClampNeg up))), (2, .int (v ^^^ 0)), (0, .ref m), (1, .int x1)]) dX12_chooser_37 rfl (by decide) rfl ?_
        refine gz_goto (tgt := 9) dX12_chooser_38 (by decide) ?_
        refine gz_sub (lv' := [(3, .int ((F 10) (Int32.toNatClampNeg up))), (2, .int (v ^^^ 0)), (0, .ref m), (1, .int x1)]) (by simp [List.lookup]) ?_
        exact ih ((F 10) (Int32.toNatClampNeg up)) (v ^^^ 0) _ _ _ _ _ hS hx (bA) (hX) (upI_nx hoT hT4 hp1 qpr (show sdT T wN = xrI (v ^^^ 0).toInt (upF T 0 sdH 41 p) by have p9 : sdT T wN = xrI v.toInt (sdH (grH T p) (upF T 0 sdH 41 p)) := hp3; rw [p9, (xr_v hvb).2]; exact xrI_n (by omega))) (by rw [(xr_v hvb).2]; omega) (by rw [qpr]; split <;> omega) (hf)
      ·
        try simp only [mIn_0, lgc_lt, lgc_gt, lgc_le, lgc_ge, lgc_eq] at c_21
        try simp only [fl_lt, fl_le, fl_eq, fL_w, fL_lt, fL_le, tm1, tm10k, tm9, tm99, Int32.reduceToInt, Int64.reduceToInt, Int.not_lt, Int.not_le] at c_21
        refine gz_iconst (v := 1) dX12_chooser_24 (by decide) ?_
        refine gz_goto (tgt := 29) dX12_chooser_25 (by decide) ?_
        refine gz_ixor dX12_chooser_29 ?_
        refine gz_istore_n (lv' := [(2, .int (v ^^^ 1)), (3, .int up), (0, .ref m), (1, .int x1)]) dX12_chooser_30 rfl (by decide) rfl ?_
        refine gz_aload_n dX12_chooser_31 rfl rfl ?_
        refine mg_29 hS dX12_chooser_32 ?_
        refine gz_iload_n dX12_chooser_35 rfl rfl ?_
        refine m_iald 10 hS rfl (N := 880) rfl ((by exact vin_T (rfl : (up).toInt = (up).toInt) (by omega) (by omega))) dX12_chooser_36 ?_
        refine gz_istore_n (lv' := [(3, .int ((F 10) (Int32.toNatClampNeg up))), (2, .int (v ^^^ 1)), (0, .ref m), (1, .int x1)]) dX12_chooser_37 rfl (by decide) rfl ?_
        refine gz_goto (tgt := 9) dX12_chooser_38 (by decide) ?_
        refine gz_sub (lv' := [(3, .int ((F 10) (Int32.toNatClampNeg up))), (2, .int (v ^^^ 1)), (0, .ref m), (1, .int x1)]) (by simp [List.lookup]) ?_
        exact ih ((F 10) (Int32.toNatClampNeg up)) (v ^^^ 1) _ _ _ _ _ hS hx (bA) (hX) (upI_nx hoT hT4 hp1 qpr (show sdT T wN = xrI (v ^^^ 1).toInt (upF T 0 sdH 41 p) by have p9 : sdT T wN = xrI v.toInt (sdH (grH T p) (upF T 0 sdH 41 p)) := hp3; rw [p9, (xr_v hvb).1]; exact xrI_y hvb (sdT_01 41 p) (by omega))) (by rw [(xr_v hvb).1]; omega) (by rw [qpr]; split <;> omega) (hf)

set_option maxHeartbeats 4000000 in
set_option maxRecDepth 100000 in
theorem k_X12_chooserE {l : Launch} {D : va_G} {cy : Nat → ClassId} {b : Nat} {f : gMem} {m : Nat} {a : Nat → Nat} {f0 : gMem} {n : Nat → Int32} {z : Nat → Int64} {F : Nat → Nat → Int32} {G : Nat → Nat → Int64}  {x1 : Int32} {fo wN : Nat} {T : List Hd} (hS : mS cy m a f0 n z F G f) (bA : rAll F) (hX : LX F fo T) (hfo : fo < 20) (hwx : x1.toInt = 40 * (fo : Int) + (wN : Int) ∧ wN < T.length) : gC l D cy b yX12_chooser cX12_chooser 4 (some .int) 0 0 0 [.ref m, .int x1] f (pI fun r f2 => r.toInt = sdT T wN ∧ f2 = f) := by
  have hT4 := hX.1.2.2.2.1
  have hoT := upO_ok hX.1.1
  have ecu : Int32.toNatClampNeg x1 = 40 * fo + wN := by rw [clN]; omega
  have qpr := LX_up hX hwx.2
  rw [← ecu] at qpr
  have qup := hoT wN hwx.2
  refine gC_of (by decide) (Nat.le_of_ble_eq_true rfl) ?_
  show gG l _ _ _ D cy b cX12_chooser 4 _ RX12 "chooser" 0 0 f 0 [(0, .ref m), (1, .int x1)] []
  refine gz_iconst (v := 0) dX12_chooser_0 (by decide) ?_
  refine gz_istore_n (lv' := [(2, .int 0), (0, .ref m), (1, .int x1)]) dX12_chooser_1 rfl (by decide) rfl ?_
  refine gz_aload_n dX12_chooser_2 rfl rfl ?_
  refine mg_29 hS dX12_chooser_3 ?_
  refine gz_iload_n dX12_chooser_6 rfl rfl ?_
  refine m_iald 10 hS rfl (N := 880) rfl ((by exact vin_T (rfl : (x1).toInt = (x1).toInt) (by omega) (by omega))) dX12_chooser_7 ?_
  refine gz_istore_n (lv' := [(3, .int ((F 10) (Int32.toNatClampNeg x1))), (2, .int 0), (0, .ref m), (1, .int x1)]) dX12_chooser_8 rfl (by decide) rfl ?_
  refine gz_sub (lv' := [(3, .int ((F 10) (Int32.toNatClampNeg x1))), (2, .int 0), (0, .ref m), (1, .int x1)]) (by simp [List.lookup]) ?_
  exact l_X12_chooserE hfo hwx 882 (F 10 (Int32.toNatClampNeg x1)) 0 _ _ _ _ _ hS fx_rf (bA) (hX) (upI_nx hoT hT4 hwx.2 qpr (show sdT T wN = xrI (0 : Int32).toInt (upF T 0 sdH 41 wN) from (if_pos rfl).symm)) (Or.inl rfl) (by rw [qpr]; split <;> omega) (rfl)

set_option maxHeartbeats 4000000 in
set_option maxRecDepth 100000 in
theorem k_X12_heldE {l : Launch} {D : va_G} {cy : Nat → ClassId} {b : Nat} {f : gMem} {x y : Int64} {c : Int}  (hy : y.toInt = c ∧ 0 ≤ c ∧ c ≤ 1000000) : gC l D cy b yX12_held cX12_held 4 (some .long) 0 0 0 [.long x, .long y] f (pL fun r f2 => r.toInt = clP c x.toInt ∧ f2 = f) := by
  refine gC_of (by decide) (Nat.le_of_ble_eq_true rfl) ?_
  show gG l _ _ _ D cy b cX12_held 4 _ RX12 "held" 0 0 f 0 [(0, .long x), (2, .long y)] []
  refine gz_lload_n dX12_held_0 rfl rfl ?_
  refine gz_lload_n dX12_held_1 rfl rfl ?_
  refine gz_lneg dX12_held_2 ?_
  refine gz_lcmp dX12_held_3 ?_
  refine gz_if_ge (tgt := 12) dX12_held_4 (by decide) (fun c_4 => ?_) (fun c_4 => ?_)
  ·
    refine gz_lload_n dX12_held_12 rfl rfl ?_
    refine gz_lload_n dX12_held_13 rfl rfl ?_
    refine gz_lcmp dX12_held_14 ?_
    refine gz_if_le (tgt := 22) dX12_held_15 (by decide) (fun c_15 => ?_) (fun c_15 => ?_)
    ·
      refine gz_lload_n dX12_held_22 rfl rfl ?_
      have qn := NL_of hy.1 (by omega) (by omega)
      simp only [lgc_lt, lgc_le, lgc_gt, lgc_ge] at c_4
      simp only [lgc_lt, lgc_le, lgc_gt, lgc_ge] at c_15
      rw [qn] at c_4
      rw [hy.1] at c_15
      exact gz_lret rfl dX12_held_23 (Nat.le_of_ble_eq_true rfl) (Nat.le_of_ble_eq_true rfl) (⟨_, rfl, (by unfold clP; rw [if_neg (by omega), if_neg (by omega)]), rfl⟩)
    ·
      refine gz_lload_n dX12_held_18 rfl rfl ?_
      refine gz_goto (tgt := 23) dX12_held_19 (by decide) ?_
      have qn := NL_of hy.1 (by omega) (by omega)
      simp only [lgc_lt, lgc_le, lgc_gt, lgc_ge] at c_4
      simp only [lgc_lt, lgc_le, lgc_gt, lgc_ge] at c_15
      rw [qn] at c_4
      rw [hy.1] at c_15
      exact gz_lret rfl dX12_held_23 (Nat.le_of_ble_eq_true rfl) (Nat.le_of_ble_eq_true rfl) (⟨_, rfl, (by unfold clP; rw [if_neg (by omega), if_pos (by omega)]; exact hy.1), rfl⟩)
  ·
    refine gz_lload_n dX12_held_7 rfl rfl ?_
    refine gz_lneg dX12_held_8 ?_
    refine gz_goto (tgt := 23) dX12_held_9 (by decide) ?_
    have qn := NL_of hy.1 (by omega) (by omega)
    simp only [lgc_lt, lgc_le, lgc_gt, lgc_ge] at c_4
    rw [qn] at c_4
    exact gz_lret rfl dX12_held_23 (Nat.le_of_ble_eq_true rfl) (Nat.le_of_ble_eq_true rfl) (⟨_, rfl, (by unfold clP; rw [if_pos (by omega)]; exact qn), rfl⟩)

set_option maxHeartbeats 4000000 in
set_option maxRecDepth 100000 in
theorem k_X12_paysOfE {l : Launch} {D : va_G} {cy : Nat → ClassId} {b : Nat} {f : gMem} {m : Nat} {a : Nat → Nat} {f0 : gMem} {n : Nat → Int32} {z : Nat → Int64} {F : Nat → Nat → Int32} {G : Nat → Nat → Int64}  {x1 : Int32} {y : Int64} {fN : Int} {fo wN : Nat} {T : List Hd}  (hS : mS cy m a f0 n z F G f) (bA : rAll F) (hX : LX F fo T) (hfo : fo < 20) (hwx : x1.toInt = 40 * (fo : Int) + (wN : Int) ∧ wN < T.length) (hy : y.toInt = fN ∧ -1000000 ≤ fN ∧ fN ≤ 1000000) : gC l D cy b yX12_paysOf cX12_paysOf 5 (some .long) 1 0 0 [.ref m, .int x1, .long y] f (pL fun r f2 => r.toInt = hdP (cqT T wN) fN ∧ f2 = f) := by
  refine gC_of (by decide) (Nat.le_of_ble_eq_true rfl) ?_
  show gG l _ _ _ D cy b cX12_paysOf 5 _ RX12 "paysOf" 0 0 f 0 [(0, .ref m), (1, .int x1), (2, .long y)] []
  refine gz_aload_n dX12_paysOf_0 rfl rfl ?_
  refine gz_iload_n dX12_paysOf_1 rfl rfl ?_
  refine scX12_351 (k_X12_capOfE (x1 := x1) hS bA hX hfo hwx) hS.1 ⟨(Nat.le_of_ble_eq_true rfl), (Nat.le_of_ble_eq_true rfl)⟩ ⟨(Nat.le_of_ble_eq_true rfl), (Nat.le_of_ble_eq_true rfl)⟩ rfl rfl (Nat.le_of_ble_eq_true rfl) dX12_paysOf_2 ?_
  rintro r_c f9 ⟨hrc, y9⟩; rw [y9]
  refine gz_istore (lv' := [(4, .int r_c), (0, .ref m), (1, .int x1), (2, .long y)]) dX12_paysOf_5 (by decide) rfl ?_
  refine gz_iload dX12_paysOf_7 rfl ?_
  refine gz_if_ge (tgt := 16) dX12_paysOf_9 (by decide) (fun c_9 => ?_) (fun c_9 => ?_)
  ·
    try simp only [mIn_0, lgc_lt, lgc_gt, lgc_le, lgc_ge, lgc_eq] at c_9
    try simp only [fl_lt, fl_le, fl_eq, fL_w, fL_lt, fL_le, tm1, tm10k, tm9, tm99, Int32.reduceToInt, Int64.reduceToInt, Int.not_lt, Int.not_le] at c_9
    refine gz_lload_n dX12_paysOf_16 rfl rfl ?_
    refine gz_iload dX12_paysOf_17 rfl ?_
    refine gz_i2l dX12_paysOf_19 ?_
    refine scX12_355 (k_X12_heldE (x := y) (y := r_c.toInt64) (c := cqT T wN) ⟨by rw [fL_w]; exact hrc, by omega, by have n9 := (cqT_n hX.1.2.1 (upO_ok hX.1.1) 41 wN hwx.2).2; have n8 : cqT T wN ≤ 99999 := n9; omega⟩) ⟨(Nat.le_of_ble_eq_true rfl), (Nat.le_of_ble_eq_true rfl)⟩ ⟨(Nat.le_of_ble_eq_true rfl), (Nat.le_of_ble_eq_true rfl)⟩ rfl rfl (Nat.le_of_ble_eq_true rfl) dX12_paysOf_20 ?_
    rintro r_h f9 ⟨hrh, y9⟩; rw [y9]
    exact gz_lret rfl dX12_paysOf_23 (Nat.le_of_ble_eq_true rfl) (Nat.le_of_ble_eq_true rfl) (⟨_, rfl, (by rw [hrh, hy.1]; unfold hdP; rw [if_neg (by omega)]), rfl⟩)
  ·
    try simp only [mIn_0, lgc_lt, lgc_gt, lgc_le, lgc_ge, lgc_eq] at c_9
    try simp only [fl_lt, fl_le, fl_eq, fL_w, fL_lt, fL_le, tm1, tm10k, tm9, tm99, Int32.reduceToInt, Int64.reduceToInt, Int.not_lt, Int.not_le] at c_9
    refine gz_lload_n dX12_paysOf_12 rfl rfl ?_
    refine gz_goto (tgt := 23) dX12_paysOf_13 (by decide) ?_
    exact gz_lret rfl dX12_paysOf_23 (Nat.le_of_ble_eq_true rfl) (Nat.le_of_ble_eq_true rfl) (⟨_, rfl, (by have n9 := (cqT_n hX.1.2.1 (upO_ok hX.1.1) 41 wN hwx.2).1; have n8 : -1 ≤ cqT T wN := n9; unfold hdP; rw [if_pos (by omega)]; exact hy.1), rfl⟩)

set_option maxHeartbeats 4000000 in
set_option maxRecDepth 100000 in
theorem k_X12_factorBehindE {l : Launch} {D : va_G} {cy : Nat → ClassId} {b : Nat} {f : gMem} {m : Nat} {a : Nat → Nat} {f0 : gMem} {n : Nat → Int32} {z : Nat → Int64} {F : Nat → Nat → Int32} {G : Nat → Nat → Int64}  {x1 : Int32} {y : Int64} {fN : Int} {fo wN : Nat} {T : List Hd} {S : Sn} (hS : mS cy m a f0 n z F G f) (bA : rAll F) (hX : LX F fo T) (hsR : sRn S z G) (hfo : fo < 20) (hwx : x1.toInt = 40 * (fo : Int) + (wN : Int) ∧ wN < T.length) (hy : y.toInt = fN ∧ -1000000 ≤ fN ∧ fN ≤ 1000000) : gC l D cy b yX12_factorBehind cX12_factorBehind 4 (some .long) 1 0 0 [.ref m, .int x1, .long y] f (pL fun r f2 => r.toInt = psT S (grH T wN) fN ∧ f2 = f) := by
  have hT4 := hX.1.2.2.2.1
  obtain ⟨xd, xv, xo1, xo2, _⟩ := LX_at bA hfo hX hwx.2
  have ecu : Int32.toNatClampNeg x1 = 40 * fo + wN := by rw [clN]; omega
  have qA := all_ok bA (w := x1) (by omega)
  rw [← ecu] at xd xo1 xo2
  have qkd := xd.1
  have qn8 := xd.2.1
  obtain ⟨V, ⟨h13, h14, h15, h40⟩, v1, v2⟩ := hdM_sp xd
  refine gC_of (by decide) (Nat.le_of_ble_eq_true rfl) ?_
  show gG l _ _ _ D cy b cX12_factorBehind 4 _ RX12 "factorBehind" 0 0 f 0 [(0, .ref m), (1, .int x1), (2, .long y)] []
  refine gz_aload_n dX12_factorBehind_0 rfl rfl ?_
  refine mg_20 hS dX12_factorBehind_1 ?_
  refine gz_iload_n dX12_factorBehind_4 rfl rfl ?_
  refine m_iald 7 hS rfl (N := 880) rfl ((by exact vin_T (rfl : (x1).toInt = (x1).toInt) (by omega) (by omega))) dX12_factorBehind_5 ?_
  refine gz_iconst (v := 2) dX12_factorBehind_6 (by decide) ?_
  refine gz_icmp_ne (tgt := 13) dX12_factorBehind_7 (by decide) (fun c_7 => ?_) (fun c_7 => ?_)
  ·
    try simp only [mIn_0, lgc_lt, lgc_gt, lgc_le, lgc_ge, lgc_eq] at c_7
    try simp only [fl_lt, fl_le, fl_eq, fL_w, fL_lt, fL_le, tm1, tm10k, tm9, tm99, Int32.reduceToInt, Int64.reduceToInt, Int.not_lt, Int.not_le] at c_7
    refine gz_aload_n dX12_factorBehind_13 rfl rfl ?_
    refine mg_20 hS dX12_factorBehind_14 ?_
    refine gz_iload_n dX12_factorBehind_17 rfl rfl ?_
    refine m_iald 7 hS rfl (N := 880) rfl ((by exact vin_T (rfl : (x1).toInt = (x1).toInt) (by omega) (by omega))) dX12_factorBehind_18 ?_
    refine gz_bipush (v := 9) dX12_factorBehind_19 (by decide) ?_
    refine gz_icmp_ne (tgt := 58) dX12_factorBehind_21 (by decide) (fun c_21 => ?_) (fun c_21 => ?_)
    ·
      try simp only [mIn_0, lgc_lt, lgc_gt, lgc_le, lgc_ge, lgc_eq] at c_21
      try simp only [fl_lt, fl_le, fl_eq, fL_w, fL_lt, fL_le, tm1, tm10k, tm9, tm99, Int32.reduceToInt, Int64.reduceToInt, Int.not_lt, Int.not_le] at c_21
      refine gz_lload_n dX12_factorBehind_58 rfl rfl ?_
      exact gz_lret rfl dX12_factorBehind_59 (Nat.le_of_ble_eq_true rfl) (Nat.le_of_ble_eq_true rfl) (⟨_, rfl, (by unfold psT; rw [if_neg (by omega), if_neg (by omega)]; exact hy.1), rfl⟩)
    ·
      try simp only [mIn_0, lgc_lt, lgc_gt, lgc_le, lgc_ge, lgc_eq] at c_21
      try simp only [fl_lt, fl_le, fl_eq, fL_w, fL_lt, fL_le, tm1, tm10k, tm9, tm99, Int32.reduceToInt, Int64.reduceToInt, Int.not_lt, Int.not_le] at c_21
      refine gz_lload_n dX12_factorBehind_24 rfl rfl ?_
      refine gz_aload_n dX12_factorBehind_25 rfl rfl ?_
      refine gz_bipush (v := 40) dX12_factorBehind_26 (by decide) ?_
      refine gz_iload_n dX12_factorBehind_28 rfl rfl ?_
      refine gz_bipush (v := 40) dX12_factorBehind_29 (by decide) ?_
      refine gz_idiv dX12_factorBehind_31 (by decide) ?_
      refine gz_imul dX12_factorBehind_32 ?_
      refine gz_aload_n dX12_factorBehind_33 rfl rfl ?_
      refine mg_38 hS dX12_factorBehind_34 ?_
      refine gz_iload_n dX12_factorBehind_37 rfl rfl ?_
      refine m_iald 13 hS rfl (N := 880) rfl ((by exact vin_T (rfl : (x1).toInt = (x1).toInt) (by omega) (by omega))) dX12_factorBehind_38 ?_
      refine gz_aload_n dX12_factorBehind_39 rfl rfl ?_
      refine mg_41 hS dX12_factorBehind_40 ?_
      refine gz_iload_n dX12_factorBehind_43 rfl rfl ?_
      refine m_iald 14 hS rfl (N := 880) rfl ((by exact vin_T (rfl : (x1).toInt = (x1).toInt) (by omega) (by omega))) dX12_factorBehind_44 ?_
      have qb0 := (T_mul (show (40 : Int32).toInt = 40 from rfl) (T_div (rfl : (x1).toInt = (x1).toInt) (show (40 : Int32).toInt = 40 from rfl) (by omega) (by omega)) (by omega))
      have hl1 := xv.2.2.2.2.2.1 (by omega)
      refine scX12_344 (k_X12_sumOfE (x1 := (40 * (x1 / 40))) (x2 := ((F 13) (Int32.toNatClampNeg x1))) (x3 := ((F 14) (Int32.toNatClampNeg x1))) (S := S) (L := (grH T wN).2.2.2.1) hS bA hsR ⟨by omega, by omega⟩ (by omega) (by omega) (by rw [show (40 * (x1 / 40)).toInt.toNat + ((F 13) (Int32.toNatClampNeg x1)).toInt.toNat = 40 * (Int32.toNatClampNeg x1 / 40) + V by omega]; exact v1) (by omega) (hvL_all hl1)) hS.1 ⟨(Nat.le_of_ble_eq_true rfl), (Nat.le_of_ble_eq_true rfl)⟩ ⟨(Nat.le_of_ble_eq_true rfl), (Nat.le_of_ble_eq_true rfl)⟩ rfl rfl (Nat.le_of_ble_eq_true rfl) dX12_factorBehind_45 ?_
      rintro r9 f9 ⟨z9, y9⟩; rw [z9, y9]
      refine gz_lmul dX12_factorBehind_48 ?_
      refine gz_ldc2 (v := (1000000)) wd_880 dX12_factorBehind_49 ?_
      refine scX12_355 (k_X12_heldE (x := (y * (smS S (grH T wN).2.2.2.1))) (y := (1000000)) (c := 1000000) ⟨rfl, by decide, by decide⟩) ⟨(Nat.le_of_ble_eq_true rfl), (Nat.le_of_ble_eq_true rfl)⟩ ⟨(Nat.le_of_ble_eq_true rfl), (Nat.le_of_ble_eq_true rfl)⟩ rfl rfl (Nat.le_of_ble_eq_true rfl) dX12_factorBehind_52 ?_
      rintro r_h f9 ⟨hrh, y9⟩; rw [y9]
      refine gz_goto (tgt := 59) dX12_factorBehind_55 (by decide) ?_
      have ey : y = Int64.ofInt fN := by rw [← hy.1, Int64.ofInt_toInt]
      exact gz_lret rfl dX12_factorBehind_59 (Nat.le_of_ble_eq_true rfl) (Nat.le_of_ble_eq_true rfl) (⟨_, rfl, (by rw [hrh, ey]; unfold psT; rw [if_neg (by omega), if_pos (by omega)]), rfl⟩)
  ·
    try simp only [mIn_0, lgc_lt, lgc_gt, lgc_le, lgc_ge, lgc_eq] at c_7
    try simp only [fl_lt, fl_le, fl_eq, fL_w, fL_lt, fL_le, tm1, tm10k, tm9, tm99, Int32.reduceToInt, Int64.reduceToInt, Int.not_lt, Int.not_le] at c_7
    refine gz_lload_n dX12_factorBehind_10 rfl rfl ?_
    refine gz_lneg dX12_factorBehind_11 ?_
    exact gz_lret rfl dX12_factorBehind_12 (Nat.le_of_ble_eq_true rfl) (Nat.le_of_ble_eq_true rfl) (⟨_, rfl, (by unfold psT; rw [if_pos (by omega)]; exact NL_of hy.1 (by omega) (by omega)), rfl⟩)

set_option maxHeartbeats 4000000 in
set_option maxRecDepth 100000 in
theorem k_X12_leadsToE {l : Launch} {D : va_G} {cy : Nat → ClassId} {b : Nat} {f : gMem} {m : Nat} {a : Nat → Nat} {f0 : gMem} {n : Nat → Int32} {z : Nat → Int64} {F : Nat → Nat → Int32} {G : Nat → Nat → Int64}  {x1 : Int32} {fo wN : Nat} {T : List Hd} {S : Sn} (hS : mS cy m a f0 n z F G f) (bA : rAll F) (hX : LX F fo T) (hsR : sRn S z G) (hfo : fo < 20) (hwx : x1.toInt = 40 * (fo : Int) + (wN : Int) ∧ wN < T.length) (hSb : -9000000000000000000 ≤ S.1 ∧ S.1 ≤ 9000000000000000000) : gC l D cy b yX12_leadsTo cX12_leadsTo 2 (some .int) 2 0 0 [.ref m, .int x1] f (pI fun r f2 => ((r.toInt = -1 ∧ ((grH T wN).1 = 0 ∨ (grH T wN).1 = 1 ∨ (grH T wN).1 = 3 ∨ (grH T wN).1 = 4 ∨ (grH T wN).1 = 7 ∨ ((grH T wN).1 = 6 ∧ hlB S (grH T wN) = false))) ∨ (r.toInt = 40 * (fo : Int) + (nxT T S wN : Int) ∧ (2 ≤ (grH T wN).1 ∧ (grH T wN).1 ≠ 3 ∧ (grH T wN).1 ≠ 4 ∧ (grH T wN).1 ≠ 7) ∧ ((grH T wN).1 = 6 → hlB S (grH T wN) = true))) ∧ f2 = f) := by
  have hT4 := hX.1.2.2.2.1
  obtain ⟨xd, xv, xo1, xo2, _⟩ := LX_at bA hfo hX hwx.2
  have ecu : Int32.toNatClampNeg x1 = 40 * fo + wN := by rw [clN]; omega
  have qA := all_ok bA (w := x1) (by omega)
  rw [← ecu] at xd xo1 xo2
  have qkd := xd.1
  have qn8 := xd.2.1
  have qkk := xv.1
  refine gC_of (by decide) (Nat.le_of_ble_eq_true rfl) ?_
  show gG l _ _ _ D cy b cX12_leadsTo 2 _ RX12 "leadsTo" 0 0 f 0 [(0, .ref m), (1, .int x1)] []
  refine gz_aload_n dX12_leadsTo_0 rfl rfl ?_
  refine mg_20 hS dX12_leadsTo_1 ?_
  refine gz_iload_n dX12_leadsTo_4 rfl rfl ?_
  refine m_iald 7 hS rfl (N := 880) rfl ((by exact vin_T (rfl : (x1).toInt = (x1).toInt) (by omega) (by omega))) dX12_leadsTo_5 ?_
  by_cases hw_6_0 : ((F 7) (Int32.toNatClampNeg x1)) = 2
  ·
    refine gz_ev (w := .int 2) (congrArg Value.int hw_6_0) ?_
    refine gz_tableIn (off := 50) (tgt := 56) dX12_leadsTo_6 (by decide) (by decide) rfl (by decide) ?_
    refine gz_aload_n dX12_leadsTo_56 rfl rfl ?_
    refine mg_32 hS dX12_leadsTo_57 ?_
    refine gz_iload_n dX12_leadsTo_60 rfl rfl ?_
    refine m_iald 11 hS rfl (N := 880) rfl ((by exact vin_T (rfl : (x1).toInt = (x1).toInt) (by omega) (by omega))) dX12_leadsTo_61 ?_
    have zs2_23 : (F 7 (Int32.toNatClampNeg x1)).toInt = 2 := by rw [hw_6_0]; rfl
    have hak := arH_k xv
    exact gz_iret rfl dX12_leadsTo_62 (Nat.le_of_ble_eq_true rfl) (Nat.le_of_ble_eq_true rfl) (⟨_, rfl, Or.inr ⟨(by unfold nxT; rw [if_neg (show ¬ ((grH T wN).1 = 5 ∧ (grH T wN).2.1 ≤ S.1) by omega)]; have q9 := xo1 (by omega); omega), by omega, (fun z => by omega)⟩, rfl⟩)
  ·
    by_cases hw_6_1 : ((F 7) (Int32.toNatClampNeg x1)) = 3
    ·
      refine gz_ev (w := .int 3) (congrArg Value.int hw_6_1) ?_
      refine gz_tableIn (off := 107) (tgt := 113) dX12_leadsTo_6 (by decide) (by decide) rfl (by decide) ?_
      refine gz_iconst (v := (-1)) dX12_leadsTo_113 (by decide) ?_
      have zs2_32 : (F 7 (Int32.toNatClampNeg x1)).toInt ≠ 2 := fun e => hw_6_0 (Int32.toInt_inj.mp (e.trans rfl))
      have zs3_33 : (F 7 (Int32.toNatClampNeg x1)).toInt = 3 := by rw [hw_6_1]; rfl
      exact gz_iret rfl dX12_leadsTo_114 (Nat.le_of_ble_eq_true rfl) (Nat.le_of_ble_eq_true rfl) (⟨_, rfl, Or.inl ⟨rfl, by omega⟩, rfl⟩)
    ·
      by_cases hw_6_2 : ((F 7) (Int32.toNatClampNeg x1)) = 4
      ·
        refine gz_ev (w := .int 4) (congrArg Value.int hw_6_2) ?_
        refine gz_tableIn (off := 107) (tgt := 113) dX12_leadsTo_6 (by decide) (by decide) rfl (by decide) ?_
        refine gz_iconst (v := (-1)) dX12_leadsTo_113 (by decide) ?_
        have zs2_41 : (F 7 (Int32.toNatClampNeg x1)).toInt ≠ 2 := fun e => hw_6_0 (Int32.toInt_inj.mp (e.trans rfl))
        have zs3_42 : (F 7 (Int32.toNatClampNeg x1)).toInt ≠ 3 := fun e => hw_6_1 (Int32.toInt_inj.mp (e.trans rfl))
        have zs4_43 : (F 7 (Int32.toNatClampNeg x1)).toInt = 4 := by rw [hw_6_2]; rfl
        exact gz_iret rfl dX12_leadsTo_114 (Nat.le_of_ble_eq_true rfl) (Nat.le_of_ble_eq_true rfl) (⟨_, rfl, Or.inl ⟨rfl, by omega⟩, rfl⟩)
      ·
        by_cases hw_6_3 : ((F 7) (Int32.toNatClampNeg x1)) = 5
        ·
          refine gz_ev (w := .int 5) (congrArg Value.int hw_6_3) ?_
          refine gz_tableIn (off := 57) (tgt := 63) dX12_leadsTo_6 (by decide) (by decide) rfl (by decide) ?_
          have zs2_50 : (F 7 (Int32.toNatClampNeg x1)).toInt ≠ 2 := fun e => hw_6_0 (Int32.toInt_inj.mp (e.trans rfl))
          have zs3_51 : (F 7 (Int32.toNatClampNeg x1)).toInt ≠ 3 := fun e => hw_6_1 (Int32.toInt_inj.mp (e.trans rfl))
          have zs4_52 : (F 7 (Int32.toNatClampNeg x1)).toInt ≠ 4 := fun e => hw_6_2 (Int32.toInt_inj.mp (e.trans rfl))
          have zs5_53 : (F 7 (Int32.toNatClampNeg x1)).toInt = 5 := by rw [hw_6_3]; rfl
          have z29 : (z 29).toInt = S.1 := by rw [hsR.1]; exact L_in hSb
          refine gz_aload_n dX12_leadsTo_63 rfl rfl ?_
          refine mg_340 hS dX12_leadsTo_64 ?_
          refine gz_aload_n dX12_leadsTo_67 rfl rfl ?_
          refine mg_23 hS dX12_leadsTo_68 ?_
          refine gz_iload_n dX12_leadsTo_71 rfl rfl ?_
          refine m_iald 8 hS rfl (N := 880) rfl ((by exact vin_T (rfl : (x1).toInt = (x1).toInt) (by omega) (by omega))) dX12_leadsTo_72 ?_
          refine gz_i2l dX12_leadsTo_73 ?_
          refine gz_lcmp dX12_leadsTo_74 ?_
          refine gz_if_ge (tgt := 87) dX12_leadsTo_75 (by decide) (fun c_75 => ?_) (fun c_75 => ?_)
          ·
            try simp only [mIn_0, lgc_lt, lgc_gt, lgc_le, lgc_ge, lgc_eq] at c_75
            try simp only [fl_lt, fl_le, fl_eq, fL_w, fL_lt, fL_le, tm1, tm10k, tm9, tm99, Int32.reduceToInt, Int64.reduceToInt, Int.not_lt, Int.not_le] at c_75
            refine gz_aload_n dX12_leadsTo_87 rfl rfl ?_
            refine mg_35 hS dX12_leadsTo_88 ?_
            refine gz_iload_n dX12_leadsTo_91 rfl rfl ?_
            refine m_iald 12 hS rfl (N := 880) rfl ((by exact vin_T (rfl : (x1).toInt = (x1).toInt) (by omega) (by omega))) dX12_leadsTo_92 ?_
            have hak := arH_k xv
            exact gz_iret rfl dX12_leadsTo_93 (Nat.le_of_ble_eq_true rfl) (Nat.le_of_ble_eq_true rfl) (⟨_, rfl, Or.inr ⟨(by unfold nxT; rw [if_pos (show (grH T wN).1 = 5 ∧ (grH T wN).2.1 ≤ S.1 by omega)]; exact xo2 (by omega)), by omega, (fun z => by omega)⟩, rfl⟩)
          ·
            try simp only [mIn_0, lgc_lt, lgc_gt, lgc_le, lgc_ge, lgc_eq] at c_75
            try simp only [fl_lt, fl_le, fl_eq, fL_w, fL_lt, fL_le, tm1, tm10k, tm9, tm99, Int32.reduceToInt, Int64.reduceToInt, Int.not_lt, Int.not_le] at c_75
            refine gz_aload_n dX12_leadsTo_78 rfl rfl ?_
            refine mg_32 hS dX12_leadsTo_79 ?_
            refine gz_iload_n dX12_leadsTo_82 rfl rfl ?_
            refine m_iald 11 hS rfl (N := 880) rfl ((by exact vin_T (rfl : (x1).toInt = (x1).toInt) (by omega) (by omega))) dX12_leadsTo_83 ?_
            refine gz_goto (tgt := 93) dX12_leadsTo_84 (by decide) ?_
            have hak := arH_k xv
            exact gz_iret rfl dX12_leadsTo_93 (Nat.le_of_ble_eq_true rfl) (Nat.le_of_ble_eq_true rfl) (⟨_, rfl, Or.inr ⟨(by unfold nxT; rw [if_neg (show ¬ ((grH T wN).1 = 5 ∧ (grH T wN).2.1 ≤ S.1) by omega)]; have q9 := xo1 (by omega); omega), by omega, (fun z => by omega)⟩, rfl⟩)
        ·
          by_cases hw_6_4 : ((F 7) (Int32.toNatClampNeg x1)) = 6
          ·
            refine gz_ev (w := .int 6) (congrArg Value.int hw_6_4) ?_
            refine gz_tableIn (off := 88) (tgt := 94) dX12_leadsTo_6 (by decide) (by decide) rfl (by decide) ?_
            have zs2_88 : (F 7 (Int32.toNatClampNeg x1)).toInt ≠ 2 := fun e => hw_6_0 (Int32.toInt_inj.mp (e.trans rfl))
            have zs3_89 : (F 7 (Int32.toNatClampNeg x1)).toInt ≠ 3 := fun e => hw_6_1 (Int32.toInt_inj.mp (e.trans rfl))
            have zs4_90 : (F 7 (Int32.toNatClampNeg x1)).toInt ≠ 4 := fun e => hw_6_2 (Int32.toInt_inj.mp (e.trans rfl))
            have zs5_91 : (F 7 (Int32.toNatClampNeg x1)).toInt ≠ 5 := fun e => hw_6_3 (Int32.toInt_inj.mp (e.trans rfl))
            have zs6_92 : (F 7 (Int32.toNatClampNeg x1)).toInt = 6 := by rw [hw_6_4]; rfl
            refine gz_aload_n dX12_leadsTo_94 rfl rfl ?_
            refine gz_iload_n dX12_leadsTo_95 rfl rfl ?_
            refine scX12_348 (k_X12_holdsE (x1 := x1) (S := S) hS bA hsR (by omega) xd xv (by omega)) hS.1 ⟨(Nat.le_of_ble_eq_true rfl), (Nat.le_of_ble_eq_true rfl)⟩ ⟨(Nat.le_of_ble_eq_true rfl), (Nat.le_of_ble_eq_true rfl)⟩ rfl rfl (Nat.le_of_ble_eq_true rfl) dX12_leadsTo_96 ?_
            rintro r_1 f9 ⟨hb_1, y9⟩; rw [y9]
            rcases hb_1 with ⟨hr1, hbt⟩ | ⟨hr1, hbt⟩
            ·
              refine gz_ev (w := .int 1) (congrArg Value.int hr1) ?_
              refine gz_if_eq (tgt := 111) dX12_leadsTo_99 (by decide) (fun c_99 => ?_) (fun c_99 => ?_)
              · exact absurd c_99 (by decide)
              ·
                try simp only [mIn_0, lgc_lt, lgc_gt, lgc_le, lgc_ge, lgc_eq] at c_99
                try simp only [fl_lt, fl_le, fl_eq, fL_w, fL_lt, fL_le, tm1, tm10k, tm9, tm99, Int32.reduceToInt, Int64.reduceToInt, Int.not_lt, Int.not_le] at c_99
                refine gz_aload_n dX12_leadsTo_102 rfl rfl ?_
                refine mg_32 hS dX12_leadsTo_103 ?_
                refine gz_iload_n dX12_leadsTo_106 rfl rfl ?_
                refine m_iald 11 hS rfl (N := 880) rfl ((by exact vin_T (rfl : (x1).toInt = (x1).toInt) (by omega) (by omega))) dX12_leadsTo_107 ?_
                refine gz_goto (tgt := 112) dX12_leadsTo_108 (by decide) ?_
                have hak := arH_k xv
                exact gz_iret rfl dX12_leadsTo_112 (Nat.le_of_ble_eq_true rfl) (Nat.le_of_ble_eq_true rfl) (⟨_, rfl, Or.inr ⟨(by unfold nxT; rw [if_neg (show ¬ ((grH T wN).1 = 5 ∧ (grH T wN).2.1 ≤ S.1) by omega)]; have q9 := xo1 (by omega); omega), by omega, (fun z => hbt)⟩, rfl⟩)
            ·
              refine gz_ev (w := .int 0) (congrArg Value.int hr1) ?_
              refine gz_if_eq (tgt := 111) dX12_leadsTo_99 (by decide) (fun c_99 => ?_) (fun c_99 => ?_)
              ·
                try simp only [mIn_0, lgc_lt, lgc_gt, lgc_le, lgc_ge, lgc_eq] at c_99
                try simp only [fl_lt, fl_le, fl_eq, fL_w, fL_lt, fL_le, tm1, tm10k, tm9, tm99, Int32.reduceToInt, Int64.reduceToInt, Int.not_lt, Int.not_le] at c_99
                refine gz_iconst (v := (-1)) dX12_leadsTo_111 (by decide) ?_
                exact gz_iret rfl dX12_leadsTo_112 (Nat.le_of_ble_eq_true rfl) (Nat.le_of_ble_eq_true rfl) (⟨_, rfl, Or.inl ⟨rfl, Or.inr (Or.inr (Or.inr (Or.inr (Or.inr ⟨by omega, hbt⟩))))⟩, rfl⟩)
              · exact absurd c_99 (by decide)
          ·
            by_cases hw_6_5 : ((F 7) (Int32.toNatClampNeg x1)) = 7
            ·
              refine gz_ev (w := .int 7) (congrArg Value.int hw_6_5) ?_
              refine gz_tableIn (off := 107) (tgt := 113) dX12_leadsTo_6 (by decide) (by decide) rfl (by decide) ?_
              refine gz_iconst (v := (-1)) dX12_leadsTo_113 (by decide) ?_
              have zs2_127 : (F 7 (Int32.toNatClampNeg x1)).toInt ≠ 2 := fun e => hw_6_0 (Int32.toInt_inj.mp (e.trans rfl))
              have zs3_128 : (F 7 (Int32.toNatClampNeg x1)).toInt ≠ 3 := fun e => hw_6_1 (Int32.toInt_inj.mp (e.trans rfl))
              have zs4_129 : (F 7 (Int32.toNatClampNeg x1)).toInt ≠ 4 := fun e => hw_6_2 (Int32.toInt_inj.mp (e.trans rfl))
              have zs5_130 : (F 7 (Int32.toNatClampNeg x1)).toInt ≠ 5 := fun e => hw_6_3 (Int32.toInt_inj.mp (e.trans rfl))
              have zs6_131 : (F 7 (Int32.toNatClampNeg x1)).toInt ≠ 6 := fun e => hw_6_4 (Int32.toInt_inj.mp (e.trans rfl))
              have zs7_132 : (F 7 (Int32.toNatClampNeg x1)).toInt = 7 := by rw [hw_6_5]; rfl
              exact gz_iret rfl dX12_leadsTo_114 (Nat.le_of_ble_eq_true rfl) (Nat.le_of_ble_eq_true rfl) (⟨_, rfl, Or.inl ⟨rfl, by omega⟩, rfl⟩)
            ·
              by_cases hw_6_6 : ((F 7) (Int32.toNatClampNeg x1)) = 8
              ·
                refine gz_ev (w := .int 8) (congrArg Value.int hw_6_6) ?_
                refine gz_tableIn (off := 50) (tgt := 56) dX12_leadsTo_6 (by decide) (by decide) rfl (by decide) ?_
                refine gz_aload_n dX12_leadsTo_56 rfl rfl ?_
                refine mg_32 hS dX12_leadsTo_57 ?_
                refine gz_iload_n dX12_leadsTo_60 rfl rfl ?_
                refine m_iald 11 hS rfl (N := 880) rfl ((by exact vin_T (rfl : (x1).toInt = (x1).toInt) (by omega) (by omega))) dX12_leadsTo_61 ?_
                have zs2_143 : (F 7 (Int32.toNatClampNeg x1)).toInt ≠ 2 := fun e => hw_6_0 (Int32.toInt_inj.mp (e.trans rfl))
                have zs3_144 : (F 7 (Int32.toNatClampNeg x1)).toInt ≠ 3 := fun e => hw_6_1 (Int32.toInt_inj.mp (e.trans rfl))
                have zs4_145 : (F 7 (Int32.toNatClampNeg x1)).toInt ≠ 4 := fun e => hw_6_2 (Int32.toInt_inj.mp (e.trans rfl))
                have zs5_146 : (F 7 (Int32.toNatClampNeg x1)).toInt ≠ 5 := fun e => hw_6_3 (Int32.toInt_inj.mp (e.trans rfl))
                have zs6_147 : (F 7 (Int32.toNatClampNeg x1)).toInt ≠ 6 := fun e => hw_6_4 (Int32.toInt_inj.mp (e.trans rfl))
                have zs7_148 : (F 7 (Int32.toNatClampNeg x1)).toInt ≠ 7 := fun e => hw_6_5 (Int32.toInt_inj.mp (e.trans rfl))
                have zs8_149 : (F 7 (Int32.toNatClampNeg x1)).toInt = 8 := by rw [hw_6_6]; rfl
                have hak := arH_k xv
                exact gz_iret rfl dX12_leadsTo_62 (Nat.le_of_ble_eq_true rfl) (Nat.le_of_ble_eq_true rfl) (⟨_, rfl, Or.inr ⟨(by unfold nxT; rw [if_neg (show ¬ ((grH T wN).1 = 5 ∧ (grH T wN).2.1 ≤ S.1) by omega)]; have q9 := xo1 (by omega); omega), by omega, (fun z => by omega)⟩, rfl⟩)
              ·
                by_cases hw_6_7 : ((F 7) (Int32.toNatClampNeg x1)) = 9
                ·
                  refine gz_ev (w := .int 9) (congrArg Value.int hw_6_7) ?_
                  refine gz_tableIn (off := 50) (tgt := 56) dX12_leadsTo_6 (by decide) (by decide) rfl (by decide) ?_
                  refine gz_aload_n dX12_leadsTo_56 rfl rfl ?_
                  refine mg_32 hS dX12_leadsTo_57 ?_
                  refine gz_iload_n dX12_leadsTo_60 rfl rfl ?_
                  refine m_iald 11 hS rfl (N := 880) rfl ((by exact vin_T (rfl : (x1).toInt = (x1).toInt) (by omega) (by omega))) dX12_leadsTo_61 ?_
                  have zs2_161 : (F 7 (Int32.toNatClampNeg x1)).toInt ≠ 2 := fun e => hw_6_0 (Int32.toInt_inj.mp (e.trans rfl))
                  have zs3_162 : (F 7 (Int32.toNatClampNeg x1)).toInt ≠ 3 := fun e => hw_6_1 (Int32.toInt_inj.mp (e.trans rfl))
                  have zs4_163 : (F 7 (Int32.toNatClampNeg x1)).toInt ≠ 4 := fun e => hw_6_2 (Int32.toInt_inj.mp (e.trans rfl))
                  have zs5_164 : (F 7 (Int32.toNatClampNeg x1)).toInt ≠ 5 := fun e => hw_6_3 (Int32.toInt_inj.mp (e.trans rfl))
                  have zs6_165 : (F 7 (Int32.toNatClampNeg x1)).toInt ≠ 6 := fun e => hw_6_4 (Int32.toInt_inj.mp (e.trans rfl))
                  have zs7_166 : (F 7 (Int32.toNatClampNeg x1)).toInt ≠ 7 := fun e => hw_6_5 (Int32.toInt_inj.mp (e.trans rfl))
                  have zs8_167 : (F 7 (Int32.toNatClampNeg x1)).toInt ≠ 8 := fun e => hw_6_6 (Int32.toInt_inj.mp (e.trans rfl))
                  have zs9_168 : (F 7 (Int32.toNatClampNeg x1)).toInt = 9 := by rw [hw_6_7]; rfl
                  have hak := arH_k xv
                  exact gz_iret rfl dX12_leadsTo_62 (Nat.le_of_ble_eq_true rfl) (Nat.le_of_ble_eq_true rfl) (⟨_, rfl, Or.inr ⟨(by unfold nxT; rw [if_neg (show ¬ ((grH T wN).1 = 5 ∧ (grH T wN).2.1 ≤ S.1) by omega)]; have q9 := xo1 (by omega); omega), by omega, (fun z => by omega)⟩, rfl⟩)
                ·
                  by_cases hw_6_8 : ((F 7) (Int32.toNatClampNeg x1)) = 10
                  ·
                    refine gz_ev (w := .int 10) (congrArg Value.int hw_6_8) ?_
                    refine gz_tableIn (off := 50) (tgt := 56) dX12_leadsTo_6 (by decide) (by decide) rfl (by decide) ?_
                    refine gz_aload_n dX12_leadsTo_56 rfl rfl ?_
                    refine mg_32 hS dX12_leadsTo_57 ?_
                    refine gz_iload_n dX12_leadsTo_60 rfl rfl ?_
                    refine m_iald 11 hS rfl (N := 880) rfl ((by exact vin_T (rfl : (x1).toInt = (x1).toInt) (by omega) (by omega))) dX12_leadsTo_61 ?_
                    have zs2_180 : (F 7 (Int32.toNatClampNeg x1)).toInt ≠ 2 := fun e => hw_6_0 (Int32.toInt_inj.mp (e.trans rfl))
                    have zs3_181 : (F 7 (Int32.toNatClampNeg x1)).toInt ≠ 3 := fun e => hw_6_1 (Int32.toInt_inj.mp (e.trans rfl))
                    have zs4_182 : (F 7 (Int32.toNatClampNeg x1)).toInt ≠ 4 := fun e => hw_6_2 (Int32.toInt_inj.mp (e.trans rfl))
                    have zs5_183 : (F 7 (Int32.toNatClampNeg x1)).toInt ≠ 5 := fun e => hw_6_3 (Int32.toInt_inj.mp (e.trans rfl))
                    have zs6_184 : (F 7 (Int32.toNatClampNeg x1)).toInt ≠ 6 := fun e => hw_6_4 (Int32.toInt_inj.mp (e.trans rfl))
                    have zs7_185 : (F 7 (Int32.toNatClampNeg x1)).toInt ≠ 7 := fun e => hw_6_5 (Int32.toInt_inj.mp (e.trans rfl))
                    have zs8_186 : (F 7 (Int32.toNatClampNeg x1)).toInt ≠ 8 := fun e => hw_6_6 (Int32.toInt_inj.mp (e.trans rfl))
                    have zs9_187 : (F 7 (Int32.toNatClampNeg x1)).toInt ≠ 9 := fun e => hw_6_7 (Int32.toInt_inj.mp (e.trans rfl))
                    have zs10_188 : (F 7 (Int32.toNatClampNeg x1)).toInt = 10 := by rw [hw_6_8]; rfl
                    have hak := arH_k xv
                    exact gz_iret rfl dX12_leadsTo_62 (Nat.le_of_ble_eq_true rfl) (Nat.le_of_ble_eq_true rfl) (⟨_, rfl, Or.inr ⟨(by unfold nxT; rw [if_neg (show ¬ ((grH T wN).1 = 5 ∧ (grH T wN).2.1 ≤ S.1) by omega)]; have q9 := xo1 (by omega); omega), by omega, (fun z => by omega)⟩, rfl⟩)
                  ·
                    refine gz_tableOut (tgt := 113) dX12_leadsTo_6 (by have g0 : ((F 7) (Int32.toNatClampNeg x1)).toInt ≠ 2 := fun e => hw_6_0 (Int32.toInt_inj.mp (e.trans rfl)); have g1 : ((F 7) (Int32.toNatClampNeg x1)).toInt ≠ 3 := fun e => hw_6_1 (Int32.toInt_inj.mp (e.trans rfl)); have g2 : ((F 7) (Int32.toNatClampNeg x1)).toInt ≠ 4 := fun e => hw_6_2 (Int32.toInt_inj.mp (e.trans rfl)); have g3 : ((F 7) (Int32.toNatClampNeg x1)).toInt ≠ 5 := fun e => hw_6_3 (Int32.toInt_inj.mp (e.trans rfl)); have g4 : ((F 7) (Int32.toNatClampNeg x1)).toInt ≠ 6 := fun e => hw_6_4 (Int32.toInt_inj.mp (e.trans rfl)); have g5 : ((F 7) (Int32.toNatClampNeg x1)).toInt ≠ 7 := fun e => hw_6_5 (Int32.toInt_inj.mp (e.trans rfl)); have g6 : ((F 7) (Int32.toNatClampNeg x1)).toInt ≠ 8 := fun e => hw_6_6 (Int32.toInt_inj.mp (e.trans rfl)); have g7 : ((F 7) (Int32.toNatClampNeg x1)).toInt ≠ 9 := fun e => hw_6_7 (Int32.toInt_inj.mp (e.trans rfl)); have g8 : ((F 7) (Int32.toNatClampNeg x1)).toInt ≠ 10 := fun e => hw_6_8 (Int32.toInt_inj.mp (e.trans rfl)); omega) (by decide) ?_
                    refine gz_iconst (v := (-1)) dX12_leadsTo_113 (by decide) ?_
                    have zs2_194 : (F 7 (Int32.toNatClampNeg x1)).toInt ≠ 2 := fun e => hw_6_0 (Int32.toInt_inj.mp (e.trans rfl))
                    have zs3_195 : (F 7 (Int32.toNatClampNeg x1)).toInt ≠ 3 := fun e => hw_6_1 (Int32.toInt_inj.mp (e.trans rfl))
                    have zs4_196 : (F 7 (Int32.toNatClampNeg x1)).toInt ≠ 4 := fun e => hw_6_2 (Int32.toInt_inj.mp (e.trans rfl))
                    have zs5_197 : (F 7 (Int32.toNatClampNeg x1)).toInt ≠ 5 := fun e => hw_6_3 (Int32.toInt_inj.mp (e.trans rfl))
                    have zs6_198 : (F 7 (Int32.toNatClampNeg x1)).toInt ≠ 6 := fun e => hw_6_4 (Int32.toInt_inj.mp (e.trans rfl))
                    have zs7_199 : (F 7 (Int32.toNatClampNeg x1)).toInt ≠ 7 := fun e => hw_6_5 (Int32.toInt_inj.mp (e.trans rfl))
                    have zs8_200 : (F 7 (Int32.toNatClampNeg x1)).toInt ≠ 8 := fun e => hw_6_6 (Int32.toInt_inj.mp (e.trans rfl))
                    have zs9_201 : (F 7 (Int32.toNatClampNeg x1)).toInt ≠ 9 := fun e => hw_6_7 (Int32.toInt_inj.mp (e.trans rfl))
                    have zs10_202 : (F 7 (Int32.toNatClampNeg x1)).toInt ≠ 10 := fun e => hw_6_8 (Int32.toInt_inj.mp (e.trans rfl))
                    exact gz_iret rfl dX12_leadsTo_114 (Nat.le_of_ble_eq_true rfl) (Nat.le_of_ble_eq_true rfl) (⟨_, rfl, Or.inl ⟨rfl, by omega⟩, rfl⟩)

set_option maxHeartbeats 4000000 in
set_option maxRecDepth 100000 in
theorem k_X12_choosingE {l : Launch} {D : va_G} {cy : Nat → ClassId} {b : Nat} {f : gMem} {m : Nat} {a : Nat → Nat} {f0 : gMem} {n : Nat → Int32} {z : Nat → Int64} {F : Nat → Nat → Int32} {G : Nat → Nat → Int64}  {x1 x2 : Int32} {fo wN : Nat} {T : List Hd} (hS : mS cy m a f0 n z F G f) (hl : 0 ≤ x1.toInt ∧ x1.toInt < 40) (bA : rAll F) (hX : LX F fo T) (hfo : fo < 20) (hwx : x2.toInt = 40 * (fo : Int) + (wN : Int) ∧ wN < T.length) : gC l D cy b yX12_choosing cX12_choosing 3 (some .int) 1 0 0 [.ref m, .int x1, .int x2] f (pI fun r f2 => r = (if sdT T wN = 0 then F 32 (Int32.toNatClampNeg x1) else F 33 (Int32.toNatClampNeg x1)) ∧ f2 = f) := by
  refine gC_of (by decide) (Nat.le_of_ble_eq_true rfl) ?_
  show gG l _ _ _ D cy b cX12_choosing 3 _ RX12 "choosing" 0 0 f 0 [(0, .ref m), (1, .int x1), (2, .int x2)] []
  refine gz_aload_n dX12_choosing_0 rfl rfl ?_
  refine gz_iload_n dX12_choosing_1 rfl rfl ?_
  refine scX12_413 (k_X12_chooserE (x1 := x2) hS bA hX hfo hwx) hS.1 ⟨(Nat.le_of_ble_eq_true rfl), (Nat.le_of_ble_eq_true rfl)⟩ ⟨(Nat.le_of_ble_eq_true rfl), (Nat.le_of_ble_eq_true rfl)⟩ rfl rfl (Nat.le_of_ble_eq_true rfl) dX12_choosing_2 ?_
  rintro r_c f9 ⟨hrc, y9⟩; rw [y9]
  refine gz_if_ne (tgt := 17) dX12_choosing_5 (by decide) (fun c_5 => ?_) (fun c_5 => ?_)
  ·
    try simp only [mIn_0, lgc_lt, lgc_gt, lgc_le, lgc_ge, lgc_eq] at c_5
    try simp only [fl_lt, fl_le, fl_eq, fL_w, fL_lt, fL_le, tm1, tm10k, tm9, tm99, Int32.reduceToInt, Int64.reduceToInt, Int.not_lt, Int.not_le] at c_5
    refine gz_aload_n dX12_choosing_17 rfl rfl ?_
    refine mg_103 hS dX12_choosing_18 ?_
    refine gz_iload_n dX12_choosing_21 rfl rfl ?_
    refine m_iald 33 hS rfl (N := 40) rfl ((by exact vin_T (rfl : (x1).toInt = (x1).toInt) (by omega) (by omega))) dX12_choosing_22 ?_
    exact gz_iret rfl dX12_choosing_23 (Nat.le_of_ble_eq_true rfl) (Nat.le_of_ble_eq_true rfl) (⟨_, rfl, (by rw [if_neg (by omega)]), rfl⟩)
  ·
    try simp only [mIn_0, lgc_lt, lgc_gt, lgc_le, lgc_ge, lgc_eq] at c_5
    try simp only [fl_lt, fl_le, fl_eq, fL_w, fL_lt, fL_le, tm1, tm10k, tm9, tm99, Int32.reduceToInt, Int64.reduceToInt, Int.not_lt, Int.not_le] at c_5
    refine gz_aload_n dX12_choosing_8 rfl rfl ?_
    refine mg_100 hS dX12_choosing_9 ?_
    refine gz_iload_n dX12_choosing_12 rfl rfl ?_
    refine m_iald 32 hS rfl (N := 40) rfl ((by exact vin_T (rfl : (x1).toInt = (x1).toInt) (by omega) (by omega))) dX12_choosing_13 ?_
    refine gz_goto (tgt := 23) dX12_choosing_14 (by decide) ?_
    exact gz_iret rfl dX12_choosing_23 (Nat.le_of_ble_eq_true rfl) (Nat.le_of_ble_eq_true rfl) (⟨_, rfl, (by rw [if_pos (by omega)]), rfl⟩)
