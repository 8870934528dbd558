/-! the reference's heads -/
def vdM (F : Nat → Nat → Int32) : Nat → List Vl → Prop
  | _, [] => True
  | p, x :: L => (F 18 p).toInt = x.1 ∧ (F 19 p).toInt = x.2.1 ∧ (F 20 p).toInt = x.2.2 ∧ vdM F (p + 1) L
theorem vdM_app {F : Nat → Nat → Int32} : ∀ {A B : List Vl} {V : Nat}, vdM F V (A ++ B) ↔ vdM F V A ∧ vdM F (V + A.length) B := by
  intro A
  induction A with
  | nil => intro B V; exact ⟨fun z => ⟨trivial, z⟩, fun z => z.2⟩
  | cons x A ih =>
    intro B V
    have q := ih (B := B) (V := V + 1)
    show (_ ∧ _ ∧ _ ∧ vdM F (V + 1) (A ++ B)) ↔ (_ ∧ _ ∧ _ ∧ vdM F (V + 1) A) ∧ vdM F (V + (A.length + 1)) B
    rw [show V + (A.length + 1) = V + 1 + A.length by omega]
    exact ⟨fun z => ⟨⟨z.1, z.2.1, z.2.2.1, (q.mp z.2.2.2).1⟩, (q.mp z.2.2.2).2⟩, fun z => ⟨z.1.1, z.1.2.1, z.1.2.2.1, q.mpr ⟨z.1.2.2.2, z.2⟩⟩⟩
/-- what the reference's rows of WORD w say: the head x -/
def hdM (F : Nat → Nat → Int32) (w : Nat) (x : Hd) : Prop := (F 7 w).toInt = x.1 ∧ (F 8 w).toInt = x.2.1 ∧ (6 ≤ x.1 ∧ x.1 ≤ 8 → (F 16 w).toInt = x.2.2.1)
  ∧ ∃ V : Nat, (F 13 w).toInt = V ∧ (F 14 w).toInt = (V : Int) + (x.2.2.2.1.length : Int) ∧ (F 15 w).toInt = (V : Int) + (nvH x : Int) ∧ V + nvH x ≤ 40 ∧ vdM F (40 * (w / 40) + V) (vsH x)
theorem hdM_sp {F : Nat → Nat → Int32} {w : Nat} {x : Hd} (h : hdM F w x) : ∃ V : Nat, ((F 13 w).toInt = V ∧ (F 14 w).toInt = (V : Int) + (x.2.2.2.1.length : Int) ∧ (F 15 w).toInt = (V : Int) + (x.2.2.2.1.length : Int) + (x.2.2.2.2.length : Int) ∧ V + (x.2.2.2.1.length + x.2.2.2.2.length) ≤ 40) ∧ vdM F (40 * (w / 40) + V) x.2.2.2.1 ∧ vdM F (40 * (w / 40) + (V + x.2.2.2.1.length)) x.2.2.2.2 := by
  obtain ⟨_, _, _, V, h13, h14, h15, h40, hv⟩ := h
  obtain ⟨v1, v2⟩ := vdM_app.mp hv
  unfold nvH at h15 h40
  exact ⟨V, ⟨h13, h14, by omega, h40⟩, v1, by rw [← Nat.add_assoc]; exact v2⟩
theorem hvL_ne {L : List Vl} (h : hvL L) : 1 ≤ L.length := by
  cases L with
  | nil => exact (show False from h).elim
  | cons x L => rw [List.length_cons]; omega
theorem hd_eq {a b : Hd} (e1 : a.1 = b.1) (e2 : a.2.1 = b.2.1) (e3 : a.2.2 = b.2.2) : a = b := Prod.ext e1 (Prod.ext e2 e3)
/-- no SUMS: heads of one kind without a SIGN -/
theorem hd_ns {a b : Hd} (ha : hvH a) (hb : hvH b) (e1 : a.1 = b.1) (sm : ¬ (6 ≤ a.1 ∧ a.1 ≤ 9)) : a.2.2 = b.2.2 := by
  obtain ⟨_, _, _, _, a4, _, a6⟩ := ha
  obtain ⟨_, _, _, _, b4, _, b6⟩ := hb
  exact Prod.ext ((a4 (by omega)).1.trans (b4 (by omega)).1.symm) (Prod.ext ((a6 sm).trans (b6 (by omega)).symm) ((a4 (by omega)).2.trans (b4 (by omega)).2.symm))
/-- a node of the FORM fo: its head, by a WORD with the same SUMS -/
def nD (F : Nat → Nat → Int32) (fo x : Nat) (h : Hd) : Prop := hvH h ∧ (F 76 x).toInt = h.1 ∧ (F 77 x).toInt = h.2.1 ∧ ∃ (k : Nat) (y : Hd), k < 40 ∧ (F 80 x).toInt = 40 * (fo : Int) + k ∧ hdM F (40 * fo + k) y ∧ hvH y ∧ y.1 = h.1 ∧ y.2.2 = h.2.2
/-- two nodes are alike, by what their DEEDS are alike to -/
def alN (F : Nat → Nat → Int32) (e : Int) (x y : Nat) (a b : Hd) : Prop := a = b ∧ (arH a = 1 → (F 81 (F 78 x).toInt.toNat).toInt = (F 81 (F 78 y).toInt.toNat).toInt) ∧ (arH a = 2 → ((F 81 (F 78 x).toInt.toNat).toInt = (F 81 (F 78 y).toInt.toNat).toInt ∧ (F 81 (F 79 x).toInt.toNat).toInt = (F 81 (F 79 y).toInt.toNat).toInt) ∨ (e ≠ 0 ∧ a.1 = 3 ∧ (F 81 (F 78 x).toInt.toNat).toInt = (F 81 (F 79 y).toInt.toNat).toInt ∧ (F 81 (F 79 x).toInt.toNat).toInt = (F 81 (F 78 y).toInt.toNat).toInt))

set_option maxHeartbeats 4000000 in
set_option maxRecDepth 100000 in
theorem l_X12_areSumsE {l : Launch} {D : va_G} {cy : Nat → ClassId} {b : Nat} {m : Nat} {a : Nat → Nat} {f0 : gMem} {n0 : Nat → Int32} {z0 : Nat → Int64} {F0 : Nat → Nat → Int32} {G0 : Nat → Nat → Int64}  {x1 x2 x3 x4 x5 x6 : Int32} {LA LB : List Vl} {f : gMem} (ha : 0 ≤ x1.toInt ∧ x1.toInt < 880) (hb : 0 ≤ x4.toInt ∧ x4.toInt < 880) (h2 : 0 ≤ x2.toInt ∧ x2.toInt ≤ 40) (h3 : 0 ≤ x3.toInt ∧ x3.toInt ≤ 40) (h5 : 0 ≤ x5.toInt ∧ x5.toInt ≤ 40) (h6 : 0 ≤ x6.toInt ∧ x6.toInt ≤ 40) (he : x3.toInt - x2.toInt = x6.toInt - x5.toInt) : ∀ (k : Nat) (i : Int32) (jj : Nat) (L M : List Vl) (n : Nat → Int32) (z : Nat → Int64) (F : Nat → Nat → Int32) (G : Nat → Nat → Int64) (fm : gMem), mS cy m a f0 n z F G fm → fx [] [] [] [] n0 z0 F0 G0 n z F G → (i.toInt = (jj : Int)) → (i.toInt + (L.length : Int) = x3.toInt - x2.toInt) → (M.length = L.length) → (vdM F (40 * (x1.toInt.toNat / 40) + x2.toInt.toNat + jj) L) → (vdM F (40 * (x4.toInt.toNat / 40) + x5.toInt.toNat + jj) M) → (LA = LB ↔ L = M) → (jj + k = 41) → (fm = f) → gG l (gRm 0 0 0) (gQf D b (pI fun r f2 => ((r = 1 ∧ LA = LB) ∨ (r = 0 ∧ ¬ LA = LB)) ∧ f2 = f) 0 0) gTt D cy b cX12_areSums 10 (some .boolean) RX12 "areSums" 0 0 fm 16 [(7, .int i), (0, .ref m), (1, .int x1), (2, .int x2), (3, .int x3), (4, .int x4), (5, .int x5), (6, .int x6)] [] := by
  intro k
  induction k with
  | zero =>
    intro i jj L M n z F G fm hS hx hij hlen hlm hL hM hE hk hf
    exfalso; omega
  | succ k ih =>
    intro i jj L M n z F G fm hS hx hij hlen hlm hL hM hE hk hf
    have q32 : (x3 - x2).toInt = x3.toInt - x2.toInt := T_sub rfl rfl (by omega)
    have q65 : (x6 - x5).toInt = x6.toInt - x5.toInt := T_sub rfl rfl (by omega)
    refine gz_iload dX12_areSums_16 rfl ?_
    refine gz_iload_n dX12_areSums_18 rfl rfl ?_
    refine gz_iload_n dX12_areSums_19 rfl rfl ?_
    refine gz_isub dX12_areSums_20 ?_
    refine gz_icmp_ge (tgt := 113) dX12_areSums_21 (by decide) (fun c_21 => ?_) (fun c_21 => ?_)
    ·
      try simp only [mIn_0, lgc_lt, lgc_gt, lgc_le, lgc_ge, lgc_eq] at c_21
      try simp only [fl_lt, fl_le, fl_eq, fL_w, fL_lt, fL_le, tm1, tm10k, tm9, tm99, Int32.reduceToInt, Int64.reduceToInt, Int.not_lt, Int.not_le] at c_21
      try have u_21t0 := (T_sub (rfl : (x3).toInt = (x3).toInt) (rfl : (x2).toInt = (x2).toInt) (by omega))
      refine gz_iconst (v := 1) dX12_areSums_113 (by decide) ?_
      have eL : L = [] := List.eq_nil_of_length_eq_zero (by omega)
      have eM : M = [] := List.eq_nil_of_length_eq_zero (by omega)
      exact gz_zret rfl (by first | decide | exact nrb (by assumption) | exact nrb (Or.inl rfl) | exact nrb (Or.inr rfl)) dX12_areSums_114 (Nat.le_of_ble_eq_true rfl) (Nat.le_of_ble_eq_true rfl) (⟨_, rfl, Or.inl ⟨rfl, hE.mpr (eL.trans eM.symm)⟩, hf⟩)
    ·
      try simp only [mIn_0, lgc_lt, lgc_gt, lgc_le, lgc_ge, lgc_eq] at c_21
      try simp only [fl_lt, fl_le, fl_eq, fL_w, fL_lt, fL_le, tm1, tm10k, tm9, tm99, Int32.reduceToInt, Int64.reduceToInt, Int.not_lt, Int.not_le] at c_21
      try have u_21t0 := (T_sub (rfl : (x3).toInt = (x3).toInt) (rfl : (x2).toInt = (x2).toInt) (by omega))
      obtain ⟨xa, L2, eL⟩ : ∃ a b, L = a :: b := by
        cases L with
        | nil => exfalso; rw [List.length_nil] at hlen; omega
        | cons a b => exact ⟨a, b, rfl⟩
      obtain ⟨xb, M2, eM⟩ : ∃ a b, M = a :: b := by
        cases M with
        | nil => exfalso; rw [eL, List.length_nil, List.length_cons] at hlm; omega
        | cons a b => exact ⟨a, b, rfl⟩
      subst eL
      subst eM
      obtain ⟨u1, u2, u3, u4⟩ := hL
      obtain ⟨v1, v2, v3, v4⟩ := hM
      rw [List.length_cons] at hlen
      rw [List.length_cons, List.length_cons] at hlm
      refine gz_bipush (v := 40) dX12_areSums_24 (by decide) ?_
      refine gz_iload_n dX12_areSums_26 rfl rfl ?_
      refine gz_bipush (v := 40) dX12_areSums_27 (by decide) ?_
      refine gz_idiv dX12_areSums_29 (by decide) ?_
      refine gz_imul dX12_areSums_30 ?_
      refine gz_iload_n dX12_areSums_31 rfl rfl ?_
      refine gz_iadd dX12_areSums_32 ?_
      refine gz_iload dX12_areSums_33 rfl ?_
      refine gz_iadd dX12_areSums_35 ?_
      obtain ⟨pa, hpa⟩ : ∃ v_ : Int32, v_ = (((40 * (x1 / 40)) + x2) + i) := ⟨_, rfl⟩
      refine gz_ev (w := .int pa) (congrArg Value.int hpa.symm) ?_
      have qpa : pa.toInt = 40 * (x1.toInt / 40) + x2.toInt + i.toInt := by rw [hpa]; have q := (T_add (T_add (T_mul (show (40 : Int32).toInt = 40 from rfl) (T_div (rfl : (x1).toInt = (x1).toInt) (show (40 : Int32).toInt = 40 from rfl) (by omega) (by omega)) (by omega)) (rfl : (x2).toInt = (x2).toInt) (by omega)) (rfl : (i).toInt = (i).toInt) (by omega)); omega
      have epa : Int32.toNatClampNeg pa = 40 * (x1.toInt.toNat / 40) + x2.toInt.toNat + jj := by rw [clN]; omega
      rw [← epa] at u1 u2 u3
      refine gz_istore (lv' := [(8, .int pa), (7, .int i), (0, .ref m), (1, .int x1), (2, .int x2), (3, .int x3), (4, .int x4), (5, .int x5), (6, .int x6)]) dX12_areSums_36 (by decide) rfl ?_
      refine gz_bipush (v := 40) dX12_areSums_38 (by decide) ?_
      refine gz_iload dX12_areSums_40 rfl ?_
      refine gz_bipush (v := 40) dX12_areSums_42 (by decide) ?_
      refine gz_idiv dX12_areSums_44 (by decide) ?_
      refine gz_imul dX12_areSums_45 ?_
      refine gz_iload dX12_areSums_46 rfl ?_
      refine gz_iadd dX12_areSums_48 ?_
      refine gz_iload dX12_areSums_49 rfl ?_
      refine gz_iadd dX12_areSums_51 ?_
      obtain ⟨pb, hpb⟩ : ∃ v_ : Int32, v_ = (((40 * (x4 / 40)) + x5) + i) := ⟨_, rfl⟩
      refine gz_ev (w := .int pb) (congrArg Value.int hpb.symm) ?_
      have qpb : pb.toInt = 40 * (x4.toInt / 40) + x5.toInt + i.toInt := by rw [hpb]; have q := (T_add (T_add (T_mul (show (40 : Int32).toInt = 40 from rfl) (T_div (rfl : (x4).toInt = (x4).toInt) (show (40 : Int32).toInt = 40 from rfl) (by omega) (by omega)) (by omega)) (rfl : (x5).toInt = (x5).toInt) (by omega)) (rfl : (i).toInt = (i).toInt) (by omega)); omega
      have epb : Int32.toNatClampNeg pb = 40 * (x4.toInt.toNat / 40) + x5.toInt.toNat + jj := by rw [clN]; omega
      rw [← epb] at v1 v2 v3
      refine gz_istore (lv' := [(9, .int pb), (8, .int pa), (7, .int i), (0, .ref m), (1, .int x1), (2, .int x2), (3, .int x3), (4, .int x4), (5, .int x5), (6, .int x6)]) dX12_areSums_52 (by decide) rfl ?_
      refine gz_aload_n dX12_areSums_54 rfl rfl ?_
      refine mg_53 hS dX12_areSums_55 ?_
      refine gz_iload dX12_areSums_58 rfl ?_
      refine m_iald 18 hS rfl (N := 880) rfl ((by exact vin_T (rfl : pa.toInt = pa.toInt) (by omega) (by omega))) dX12_areSums_60 ?_
      refine gz_aload_n dX12_areSums_61 rfl rfl ?_
      refine mg_53 hS dX12_areSums_62 ?_
      refine gz_iload dX12_areSums_65 rfl ?_
      refine m_iald 18 hS rfl (N := 880) rfl ((by exact vin_T (rfl : pb.toInt = pb.toInt) (by omega) (by omega))) dX12_areSums_67 ?_
      refine gz_icmp_ne (tgt := 105) dX12_areSums_68 (by decide) (fun c_68 => ?_) (fun c_68 => ?_)
      ·
        try simp only [mIn_0, lgc_lt, lgc_gt, lgc_le, lgc_ge, lgc_eq] at c_68
        try simp only [fl_lt, fl_le, fl_eq, fL_w, fL_lt, fL_le, tm1, tm10k, tm9, tm99, Int32.reduceToInt, Int64.reduceToInt, Int.not_lt, Int.not_le] at c_68
        refine gz_iconst (v := 0) dX12_areSums_105 (by decide) ?_
        have hne : ¬ (xa :: L2 = xb :: M2) := fun z => by injection z with z1 z2; rw [z1] at u1 u2 u3; omega
        exact gz_zret rfl (by first | decide | exact nrb (by assumption) | exact nrb (Or.inl rfl) | exact nrb (Or.inr rfl)) dX12_areSums_106 (Nat.le_of_ble_eq_true rfl) (Nat.le_of_ble_eq_true rfl) (⟨_, rfl, Or.inr ⟨rfl, fun z => hne (hE.mp z)⟩, hf⟩)
      ·
        try simp only [mIn_0, lgc_lt, lgc_gt, lgc_le, lgc_ge, lgc_eq] at c_68
        try simp only [fl_lt, fl_le, fl_eq, fL_w, fL_lt, fL_le, tm1, tm10k, tm9, tm99, Int32.reduceToInt, Int64.reduceToInt, Int.not_lt, Int.not_le] at c_68
        refine gz_aload_n dX12_areSums_71 rfl rfl ?_
        refine mg_56 hS dX12_areSums_72 ?_
        refine gz_iload dX12_areSums_75 rfl ?_
        refine m_iald 19 hS rfl (N := 880) rfl ((by exact vin_T (rfl : pa.toInt = pa.toInt) (by omega) (by omega))) dX12_areSums_77 ?_
        refine gz_aload_n dX12_areSums_78 rfl rfl ?_
        refine mg_56 hS dX12_areSums_79 ?_
        refine gz_iload dX12_areSums_82 rfl ?_
        refine m_iald 19 hS rfl (N := 880) rfl ((by exact vin_T (rfl : pb.toInt = pb.toInt) (by omega) (by omega))) dX12_areSums_84 ?_
        refine gz_icmp_ne (tgt := 105) dX12_areSums_85 (by decide) (fun c_85 => ?_) (fun c_85 => ?_)
        ·
          try simp only [mIn_0, lgc_lt, lgc_gt, lgc_le, lgc_ge, lgc_eq] at c_85
          try simp only [fl_lt, fl_le, fl_eq, fL_w, fL_lt, fL_le, tm1, tm10k, tm9, tm99, Int32.reduceToInt, Int64.reduceToInt, Int.not_lt, Int.not_le] at c_85
          refine gz_iconst (v := 0) dX12_areSums_105 (by decide) ?_
          have hne : ¬ (xa :: L2 = xb :: M2) := fun z => by injection z with z1 z2; rw [z1] at u1 u2 u3; omega
          exact gz_zret rfl (by first | decide | exact nrb (by assumption) | exact nrb (Or.inl rfl) | exact nrb (Or.inr rfl)) dX12_areSums_106 (Nat.le_of_ble_eq_true rfl) (Nat.le_of_ble_eq_true rfl) (⟨_, rfl, Or.inr ⟨rfl, fun z => hne (hE.mp z)⟩, hf⟩)
        ·
          try simp only [mIn_0, lgc_lt, lgc_gt, lgc_le, lgc_ge, lgc_eq] at c_85
          try simp only [fl_lt, fl_le, fl_eq, fL_w, fL_lt, fL_le, tm1, tm10k, tm9, tm99, Int32.reduceToInt, Int64.reduceToInt, Int.not_lt, Int.not_le] at c_85
          refine gz_aload_n dX12_areSums_88 rfl rfl ?_
          refine mg_59 hS dX12_areSums_89 ?_
          refine gz_iload dX12_areSums_92 rfl ?_
          refine m_iald 20 hS rfl (N := 880) rfl ((by exact vin_T (rfl : pa.toInt = pa.toInt) (by omega) (by omega))) dX12_areSums_94 ?_
          refine gz_aload_n dX12_areSums_95 rfl rfl ?_
          refine mg_59 hS dX12_areSums_96 ?_
          refine gz_iload dX12_areSums_99 rfl ?_
          refine m_iald 20 hS rfl (N := 880) rfl ((by exact vin_T (rfl : pb.toInt = pb.toInt) (by omega) (by omega))) dX12_areSums_101 ?_
          refine gz_icmp_eq (tgt := 107) dX12_areSums_102 (by decide) (fun c_102 => ?_) (fun c_102 => ?_)
          ·
            try simp only [mIn_0, lgc_lt, lgc_gt, lgc_le, lgc_ge, lgc_eq] at c_102
            try simp only [fl_lt, fl_le, fl_eq, fL_w, fL_lt, fL_le, tm1, tm10k, tm9, tm99, Int32.reduceToInt, Int64.reduceToInt, Int.not_lt, Int.not_le] at c_102
            refine gz_iinc (v := (i + 1)) (lv' := [(7, .int (i + 1)), (9, .int pb), (8, .int pa), (0, .ref m), (1, .int x1), (2, .int x2), (3, .int x3), (4, .int x4), (5, .int x5), (6, .int x6)]) dX12_areSums_107 rfl rfl (by decide) rfl ?_
            refine gz_goto (tgt := 16) dX12_areSums_110 (by decide) ?_
            refine gz_sub (lv' := [(7, .int (i + 1)), (0, .ref m), (1, .int x1), (2, .int x2), (3, .int x3), (4, .int x4), (5, .int x5), (6, .int x6)]) (by simp [List.lookup]) ?_
            have exy : xa = xb := Prod.ext (by omega) (Prod.ext (by omega) (by omega))
            have hE9 : LA = LB ↔ L2 = M2 := hE.trans ⟨fun z => by injection z, fun z => by rw [exy, z]⟩
            exact ih (i + 1) (jj + 1) L2 M2 _ _ _ _ _ hS hx ((by have q1_ := (T_add (rfl : (i).toInt = (i).toInt) (show (1 : Int32).toInt = 1 from rfl) (by omega)); omega)) ((by have q1_ := (T_add (rfl : (i).toInt = (i).toInt) (show (1 : Int32).toInt = 1 from rfl) (by omega)); omega)) (by omega) (by rw [← Nat.add_assoc]; exact u4) (by rw [← Nat.add_assoc]; exact v4) (hE9) (by omega) (hf)
          ·
            try simp only [mIn_0, lgc_lt, lgc_gt, lgc_le, lgc_ge, lgc_eq] at c_102
            try simp only [fl_lt, fl_le, fl_eq, fL_w, fL_lt, fL_le, tm1, tm10k, tm9, tm99, Int32.reduceToInt, Int64.reduceToInt, Int.not_lt, Int.not_le] at c_102
            refine gz_iconst (v := 0) dX12_areSums_105 (by decide) ?_
            have hne : ¬ (xa :: L2 = xb :: M2) := fun z => by injection z with z1 z2; rw [z1] at u1 u2 u3; omega
            exact gz_zret rfl (by first | decide | exact nrb (by assumption) | exact nrb (Or.inl rfl) | exact nrb (Or.inr rfl)) dX12_areSums_106 (Nat.le_of_ble_eq_true rfl) (Nat.le_of_ble_eq_true rfl) (⟨_, rfl, Or.inr ⟨rfl, fun z => hne (hE.mp z)⟩, hf⟩)

set_option maxHeartbeats 4000000 in
set_option maxRecDepth 100000 in
theorem k_X12_areSumsE {l : Launch} {D : va_G} {cy : Nat → ClassId} {b : Nat} {f : gMem} {m : Nat} {a : Nat → Nat} {f0 : gMem} {n : Nat → Int32} {z : Nat → Int64} {F : Nat → Nat → Int32} {G : Nat → Nat → Int64}  {x1 x2 x3 x4 x5 x6 : Int32} {LA LB : List Vl} (hS : mS cy m a f0 n z F G f) (ha : 0 ≤ x1.toInt ∧ x1.toInt < 880) (hb : 0 ≤ x4.toInt ∧ x4.toInt < 880) (h2 : 0 ≤ x2.toInt ∧ x2.toInt ≤ 40) (h3 : 0 ≤ x3.toInt ∧ x3.toInt ≤ 40) (h5 : 0 ≤ x5.toInt ∧ x5.toInt ≤ 40) (h6 : 0 ≤ x6.toInt ∧ x6.toInt ≤ 40) (vA : vdM F (40 * (x1.toInt.toNat / 40) + x2.toInt.toNat) LA) (vB : vdM F (40 * (x4.toInt.toNat / 40) + x5.toInt.toNat) LB) (lA : x3.toInt = x2.toInt + (LA.length : Int)) (lB : x6.toInt = x5.toInt + (LB.length : Int)) : gC l D cy b yX12_areSums cX12_areSums 10 (some .boolean) 0 0 0 [.ref m, .int x1, .int x2, .int x3, .int x4, .int x5, .int x6] f (pI fun r f2 => ((r = 1 ∧ LA = LB) ∨ (r = 0 ∧ ¬ LA = LB)) ∧ f2 = f) := by
  have q32 : (x3 - x2).toInt = x3.toInt - x2.toInt := T_sub rfl rfl (by omega)
  have q65 : (x6 - x5).toInt = x6.toInt - x5.toInt := T_sub rfl rfl (by omega)
  refine gC_of (by decide) (Nat.le_of_ble_eq_true rfl) ?_
  show gG l _ _ _ D cy b cX12_areSums 10 _ RX12 "areSums" 0 0 f 0 [(0, .ref m), (1, .int x1), (2, .int x2), (3, .int x3), (4, .int x4), (5, .int x5), (6, .int x6)] []
  refine gz_iload_n dX12_areSums_0 rfl rfl ?_
  refine gz_iload_n dX12_areSums_1 rfl rfl ?_
  refine gz_isub dX12_areSums_2 ?_
  refine gz_iload dX12_areSums_3 rfl ?_
  refine gz_iload dX12_areSums_5 rfl ?_
  refine gz_isub dX12_areSums_7 ?_
  refine gz_icmp_eq (tgt := 13) dX12_areSums_8 (by decide) (fun c_8 => ?_) (fun c_8 => ?_)
  ·
    try simp only [mIn_0, lgc_lt, lgc_gt, lgc_le, lgc_ge, lgc_eq] at c_8
    try simp only [fl_lt, fl_le, fl_eq, fL_w, fL_lt, fL_le, tm1, tm10k, tm9, tm99, Int32.reduceToInt, Int64.reduceToInt, Int.not_lt, Int.not_le] at c_8
    try have u_8t0 := (T_sub (rfl : (x6).toInt = (x6).toInt) (rfl : (x5).toInt = (x5).toInt) (by omega))
    try have u_8t1 := (T_sub (rfl : (x3).toInt = (x3).toInt) (rfl : (x2).toInt = (x2).toInt) (by omega))
    refine gz_iconst (v := 0) dX12_areSums_13 (by decide) ?_
    refine gz_istore (lv' := [(7, .int 0), (0, .ref m), (1, .int x1), (2, .int x2), (3, .int x3), (4, .int x4), (5, .int x5), (6, .int x6)]) dX12_areSums_14 (by decide) rfl ?_
    refine gz_sub (lv' := [(7, .int 0), (0, .ref m), (1, .int x1), (2, .int x2), (3, .int x3), (4, .int x4), (5, .int x5), (6, .int x6)]) (by simp [List.lookup]) ?_
    exact l_X12_areSumsE ha hb h2 h3 h5 h6 (by omega) 41 0 0 LA LB _ _ _ _ _ hS fx_rf (rfl) (by have e0 : (0 : Int32).toInt = 0 := rfl; omega) (by omega) (vA) (vB) (Iff.rfl) (by omega) (rfl)
  ·
    try simp only [mIn_0, lgc_lt, lgc_gt, lgc_le, lgc_ge, lgc_eq] at c_8
    try simp only [fl_lt, fl_le, fl_eq, fL_w, fL_lt, fL_le, tm1, tm10k, tm9, tm99, Int32.reduceToInt, Int64.reduceToInt, Int.not_lt, Int.not_le] at c_8
    try have u_8t0 := (T_sub (rfl : (x6).toInt = (x6).toInt) (rfl : (x5).toInt = (x5).toInt) (by omega))
    try have u_8t1 := (T_sub (rfl : (x3).toInt = (x3).toInt) (rfl : (x2).toInt = (x2).toInt) (by omega))
    refine gz_iconst (v := 0) dX12_areSums_11 (by decide) ?_
    exact gz_zret rfl (by first | decide | exact nrb (by assumption) | exact nrb (Or.inl rfl) | exact nrb (Or.inr rfl)) dX12_areSums_12 (Nat.le_of_ble_eq_true rfl) (Nat.le_of_ble_eq_true rfl) (⟨_, rfl, Or.inr ⟨rfl, fun z => by rw [z] at lA; omega⟩, rfl⟩)

theorem tst_ne {F : Nat → Nat → Int32} {x y : Nat} {a b : Hd} (hA : hdM F x a) (hB : hdM F y b) (vA : hvH a) (vB : hvH b) (ek : a.1 = b.1) (h9 : ¬ a.1 = 9) (h15 : ¬ (F 15 x).toInt = (F 13 x).toInt) (h16 : ¬ (F 16 x).toInt = (F 16 y).toInt) : ¬ a.2.2 = b.2.2 := fun z => by
  have z1 : a.2.2.1 = b.2.2.1 := by rw [z]
  obtain ⟨_, _, a16, V, h13, _, e15, _, _⟩ := hA
  by_cases c : 6 ≤ a.1 ∧ a.1 ≤ 8
  · have y1 := a16 c
    have y2 := hB.2.2.1 (by omega)
    omega
  · have y3 := vA.2.2.2.2.2.2 (by omega)
    have y4 := (vA.2.2.2.2.1 c).2
    unfold nvH at e15
    rw [y3, y4, List.length_nil] at e15
    omega
theorem tst_sg {F : Nat → Nat → Int32} {x y : Nat} {a b : Hd} (hA : hdM F x a) (hB : hdM F y b) (vA : hvH a) (vB : hvH b) (ek : a.1 = b.1) (h16 : (F 16 x).toInt = (F 16 y).toInt) : a.2.2.1 = b.2.2.1 := by
  by_cases c : 6 ≤ a.1 ∧ a.1 ≤ 8
  · have y1 := hA.2.2.1 c
    have y2 := hB.2.2.1 (by omega)
    omega
  · exact (vA.2.2.2.2.1 c).1.trans (vB.2.2.2.2.1 (by omega)).1.symm
set_option maxHeartbeats 4000000 in
set_option maxRecDepth 100000 in
theorem k_X12_areTestsE {l : Launch} {D : va_G} {cy : Nat → ClassId} {b : Nat} {f : gMem} {m : Nat} {a : Nat → Nat} {f0 : gMem} {n : Nat → Int32} {z : Nat → Int64} {F : Nat → Nat → Int32} {G : Nat → Nat → Int64}  {x1 x2 : Int32} {a_ b_ : Hd} (hS : mS cy m a f0 n z F G f) (bA : rAll F) (ha : 0 ≤ x1.toInt ∧ x1.toInt < 880) (hb : 0 ≤ x2.toInt ∧ x2.toInt < 880) (hA : hdM F x1.toInt.toNat a_) (hB : hdM F x2.toInt.toNat b_) (vA : hvH a_) (vB : hvH b_) (ek : a_.1 = b_.1) : gC l D cy b yX12_areTests cX12_areTests 3 (some .boolean) 1 0 0 [.ref m, .int x1, .int x2] f (pI fun r f2 => ((r = 1 ∧ a_.2.2 = b_.2.2) ∨ (r = 0 ∧ ¬ a_.2.2 = b_.2.2)) ∧ f2 = f) := by
  obtain ⟨VA, qA, wA1, wA2⟩ := hdM_sp hA
  obtain ⟨VB, qB, wB1, wB2⟩ := hdM_sp hB
  have gA := hA.1
  have ecx1 : Int32.toNatClampNeg x1 = x1.toInt.toNat := rfl
  have ecx2 : Int32.toNatClampNeg x2 = x2.toInt.toNat := rfl
  rw [← ecx1] at qA gA
  rw [← ecx2] at qB
  refine gC_of (by decide) (Nat.le_of_ble_eq_true rfl) ?_
  show gG l _ _ _ D cy b cX12_areTests 3 _ RX12 "areTests" 0 0 f 0 [(0, .ref m), (1, .int x1), (2, .int x2)] []
  refine gz_aload_n dX12_areTests_0 rfl rfl ?_
  refine gz_iload_n dX12_areTests_1 rfl rfl ?_
  refine gz_aload_n dX12_areTests_2 rfl rfl ?_
  refine mg_38 hS dX12_areTests_3 ?_
  refine gz_iload_n dX12_areTests_6 rfl rfl ?_
  refine m_iald 13 hS rfl (N := 880) rfl ((by exact vin_T (rfl : (x1).toInt = (x1).toInt) (by omega) (by omega))) dX12_areTests_7 ?_
  refine gz_aload_n dX12_areTests_8 rfl rfl ?_
  refine mg_41 hS dX12_areTests_9 ?_
  refine gz_iload_n dX12_areTests_12 rfl rfl ?_
  refine m_iald 14 hS rfl (N := 880) rfl ((by exact vin_T (rfl : (x1).toInt = (x1).toInt) (by omega) (by omega))) dX12_areTests_13 ?_
  refine gz_iload_n dX12_areTests_14 rfl rfl ?_
  refine gz_aload_n dX12_areTests_15 rfl rfl ?_
  refine mg_38 hS dX12_areTests_16 ?_
  refine gz_iload_n dX12_areTests_19 rfl rfl ?_
  refine m_iald 13 hS rfl (N := 880) rfl ((by exact vin_T (rfl : (x2).toInt = (x2).toInt) (by omega) (by omega))) dX12_areTests_20 ?_
  refine gz_aload_n dX12_areTests_21 rfl rfl ?_
  refine mg_41 hS dX12_areTests_22 ?_
  refine gz_iload_n dX12_areTests_25 rfl rfl ?_
  refine m_iald 14 hS rfl (N := 880) rfl ((by exact vin_T (rfl : (x2).toInt = (x2).toInt) (by omega) (by omega))) dX12_areTests_26 ?_
  refine scX12_507 (k_X12_areSumsE (x1 := x1) (x2 := ((F 13) (Int32.toNatClampNeg x1))) (x3 := ((F 14) (Int32.toNatClampNeg x1))) (x4 := x2) (x5 := ((F 13) (Int32.toNatClampNeg x2))) (x6 := ((F 14) (Int32.toNatClampNeg x2))) (LA := a_.2.2.2.1) (LB := b_.2.2.2.1) hS ha hb (by omega) (by omega) (by omega) (by omega) (by rw [show ((F 13) (Int32.toNatClampNeg x1)).toInt.toNat = VA by omega]; exact wA1) (by rw [show ((F 13) (Int32.toNatClampNeg x2)).toInt.toNat = VB by omega]; exact wB1) (by omega) (by omega)) hS.1 ⟨(Nat.le_of_ble_eq_true rfl), (Nat.le_of_ble_eq_true rfl)⟩ ⟨(Nat.le_of_ble_eq_true rfl), (Nat.le_of_ble_eq_true rfl)⟩ rfl rfl (Nat.le_of_ble_eq_true rfl) dX12_areTests_27 ?_
  rintro r_1 f9 ⟨hb_1, y9⟩; rw [y9]
  rcases hb_1 with ⟨hr1, hp0⟩ | ⟨hr1, hp0⟩
  ·
    refine gz_ev (w := .int 1) (congrArg Value.int hr1) ?_
    refine gz_if_eq (tgt := 66) dX12_areTests_30 (by decide) (fun c_30 => ?_) (fun c_30 => ?_)
    · exact absurd c_30 (by decide)
    ·
      try simp only [mIn_0, lgc_lt, lgc_gt, lgc_le, lgc_ge, lgc_eq] at c_30
      try simp only [fl_lt, fl_le, fl_eq, fL_w, fL_lt, fL_le, tm1, tm10k, tm9, tm99, Int32.reduceToInt, Int64.reduceToInt, Int.not_lt, Int.not_le] at c_30
      refine gz_aload_n dX12_areTests_33 rfl rfl ?_
      refine gz_iload_n dX12_areTests_34 rfl rfl ?_
      refine gz_aload_n dX12_areTests_35 rfl rfl ?_
      refine mg_41 hS dX12_areTests_36 ?_
      refine gz_iload_n dX12_areTests_39 rfl rfl ?_
      refine m_iald 14 hS rfl (N := 880) rfl ((by exact vin_T (rfl : (x1).toInt = (x1).toInt) (by omega) (by omega))) dX12_areTests_40 ?_
      refine gz_aload_n dX12_areTests_41 rfl rfl ?_
      refine mg_44 hS dX12_areTests_42 ?_
      refine gz_iload_n dX12_areTests_45 rfl rfl ?_
      refine m_iald 15 hS rfl (N := 880) rfl ((by exact vin_T (rfl : (x1).toInt = (x1).toInt) (by omega) (by omega))) dX12_areTests_46 ?_
      refine gz_iload_n dX12_areTests_47 rfl rfl ?_
      refine gz_aload_n dX12_areTests_48 rfl rfl ?_
      refine mg_41 hS dX12_areTests_49 ?_
      refine gz_iload_n dX12_areTests_52 rfl rfl ?_
      refine m_iald 14 hS rfl (N := 880) rfl ((by exact vin_T (rfl : (x2).toInt = (x2).toInt) (by omega) (by omega))) dX12_areTests_53 ?_
      refine gz_aload_n dX12_areTests_54 rfl rfl ?_
      refine mg_44 hS dX12_areTests_55 ?_
      refine gz_iload_n dX12_areTests_58 rfl rfl ?_
      refine m_iald 15 hS rfl (N := 880) rfl ((by exact vin_T (rfl : (x2).toInt = (x2).toInt) (by omega) (by omega))) dX12_areTests_59 ?_
      refine scX12_507 (k_X12_areSumsE (x1 := x1) (x2 := ((F 14) (Int32.toNatClampNeg x1))) (x3 := ((F 15) (Int32.toNatClampNeg x1))) (x4 := x2) (x5 := ((F 14) (Int32.toNatClampNeg x2))) (x6 := ((F 15) (Int32.toNatClampNeg x2))) (LA := a_.2.2.2.2) (LB := b_.2.2.2.2) hS ha hb (by omega) (by omega) (by omega) (by omega) (by rw [show ((F 14) (Int32.toNatClampNeg x1)).toInt.toNat = VA + a_.2.2.2.1.length by omega]; exact wA2) (by rw [show ((F 14) (Int32.toNatClampNeg x2)).toInt.toNat = VB + b_.2.2.2.1.length by omega]; exact wB2) (by omega) (by omega)) hS.1 ⟨(Nat.le_of_ble_eq_true rfl), (Nat.le_of_ble_eq_true rfl)⟩ ⟨(Nat.le_of_ble_eq_true rfl), (Nat.le_of_ble_eq_true rfl)⟩ rfl rfl (Nat.le_of_ble_eq_true rfl) dX12_areTests_60 ?_
      rintro r_2 f9 ⟨hb_2, y9⟩; rw [y9]
      rcases hb_2 with ⟨hr2, hp1⟩ | ⟨hr2, hp1⟩
      ·
        refine gz_ev (w := .int 1) (congrArg Value.int hr2) ?_
        refine gz_if_ne (tgt := 68) dX12_areTests_63 (by decide) (fun c_63 => ?_) (fun c_63 => ?_)
        ·
          try simp only [mIn_0, lgc_lt, lgc_gt, lgc_le, lgc_ge, lgc_eq] at c_63
          try simp only [fl_lt, fl_le, fl_eq, fL_w, fL_lt, fL_le, tm1, tm10k, tm9, tm99, Int32.reduceToInt, Int64.reduceToInt, Int.not_lt, Int.not_le] at c_63
          refine gz_aload_n dX12_areTests_68 rfl rfl ?_
          refine mg_20 hS dX12_areTests_69 ?_
          refine gz_iload_n dX12_areTests_72 rfl rfl ?_
          refine m_iald 7 hS rfl (N := 880) rfl ((by exact vin_T (rfl : (x1).toInt = (x1).toInt) (by omega) (by omega))) dX12_areTests_73 ?_
          refine gz_bipush (v := 9) dX12_areTests_74 (by decide) ?_
          refine gz_icmp_eq (tgt := 109) dX12_areTests_76 (by decide) (fun c_76 => ?_) (fun c_76 => ?_)
          ·
            try simp only [mIn_0, lgc_lt, lgc_gt, lgc_le, lgc_ge, lgc_eq] at c_76
            try simp only [fl_lt, fl_le, fl_eq, fL_w, fL_lt, fL_le, tm1, tm10k, tm9, tm99, Int32.reduceToInt, Int64.reduceToInt, Int.not_lt, Int.not_le] at c_76
            refine gz_iconst (v := 1) dX12_areTests_109 (by decide) ?_
            refine gz_goto (tgt := 114) dX12_areTests_110 (by decide) ?_
            exact gz_zret rfl (by first | decide | exact nrb (by assumption) | exact nrb (Or.inl rfl) | exact nrb (Or.inr rfl)) dX12_areTests_114 (Nat.le_of_ble_eq_true rfl) (Nat.le_of_ble_eq_true rfl) (⟨_, rfl, Or.inl ⟨rfl, Prod.ext ((vA.2.2.2.2.1 (by omega)).1.trans (vB.2.2.2.2.1 (by omega)).1.symm) (Prod.ext hp0 hp1)⟩, rfl⟩)
          ·
            try simp only [mIn_0, lgc_lt, lgc_gt, lgc_le, lgc_ge, lgc_eq] at c_76
            try simp only [fl_lt, fl_le, fl_eq, fL_w, fL_lt, fL_le, tm1, tm10k, tm9, tm99, Int32.reduceToInt, Int64.reduceToInt, Int.not_lt, Int.not_le] at c_76
            refine gz_aload_n dX12_areTests_79 rfl rfl ?_
            refine mg_44 hS dX12_areTests_80 ?_
            refine gz_iload_n dX12_areTests_83 rfl rfl ?_
            refine m_iald 15 hS rfl (N := 880) rfl ((by exact vin_T (rfl : (x1).toInt = (x1).toInt) (by omega) (by omega))) dX12_areTests_84 ?_
            refine gz_aload_n dX12_areTests_85 rfl rfl ?_
            refine mg_38 hS dX12_areTests_86 ?_
            refine gz_iload_n dX12_areTests_89 rfl rfl ?_
            refine m_iald 13 hS rfl (N := 880) rfl ((by exact vin_T (rfl : (x1).toInt = (x1).toInt) (by omega) (by omega))) dX12_areTests_90 ?_
            refine gz_icmp_eq (tgt := 109) dX12_areTests_91 (by decide) (fun c_91 => ?_) (fun c_91 => ?_)
            ·
              try simp only [mIn_0, lgc_lt, lgc_gt, lgc_le, lgc_ge, lgc_eq] at c_91
              try simp only [fl_lt, fl_le, fl_eq, fL_w, fL_lt, fL_le, tm1, tm10k, tm9, tm99, Int32.reduceToInt, Int64.reduceToInt, Int.not_lt, Int.not_le] at c_91
              refine gz_iconst (v := 1) dX12_areTests_109 (by decide) ?_
              refine gz_goto (tgt := 114) dX12_areTests_110 (by decide) ?_
              exact gz_zret rfl (by first | decide | exact nrb (by assumption) | exact nrb (Or.inl rfl) | exact nrb (Or.inr rfl)) dX12_areTests_114 (Nat.le_of_ble_eq_true rfl) (Nat.le_of_ble_eq_true rfl) (⟨_, rfl, Or.inl ⟨rfl, hd_ns vA vB ek (fun z => by have y := hvL_ne (vA.2.2.2.2.2.1 z); omega)⟩, rfl⟩)
            ·
              try simp only [mIn_0, lgc_lt, lgc_gt, lgc_le, lgc_ge, lgc_eq] at c_91
              try simp only [fl_lt, fl_le, fl_eq, fL_w, fL_lt, fL_le, tm1, tm10k, tm9, tm99, Int32.reduceToInt, Int64.reduceToInt, Int.not_lt, Int.not_le] at c_91
              refine gz_aload_n dX12_areTests_94 rfl rfl ?_
              refine mg_47 hS dX12_areTests_95 ?_
              refine gz_iload_n dX12_areTests_98 rfl rfl ?_
              refine m_iald 16 hS rfl (N := 880) rfl ((by exact vin_T (rfl : (x1).toInt = (x1).toInt) (by omega) (by omega))) dX12_areTests_99 ?_
              refine gz_aload_n dX12_areTests_100 rfl rfl ?_
              refine mg_47 hS dX12_areTests_101 ?_
              refine gz_iload_n dX12_areTests_104 rfl rfl ?_
              refine m_iald 16 hS rfl (N := 880) rfl ((by exact vin_T (rfl : (x2).toInt = (x2).toInt) (by omega) (by omega))) dX12_areTests_105 ?_
              refine gz_icmp_ne (tgt := 113) dX12_areTests_106 (by decide) (fun c_106 => ?_) (fun c_106 => ?_)
              ·
                try simp only [mIn_0, lgc_lt, lgc_gt, lgc_le, lgc_ge, lgc_eq] at c_106
                try simp only [fl_lt, fl_le, fl_eq, fL_w, fL_lt, fL_le, tm1, tm10k, tm9, tm99, Int32.reduceToInt, Int64.reduceToInt, Int.not_lt, Int.not_le] at c_106
                refine gz_iconst (v := 0) dX12_areTests_113 (by decide) ?_
                exact gz_zret rfl (by first | decide | exact nrb (by assumption) | exact nrb (Or.inl rfl) | exact nrb (Or.inr rfl)) dX12_areTests_114 (Nat.le_of_ble_eq_true rfl) (Nat.le_of_ble_eq_true rfl) (⟨_, rfl, Or.inr ⟨rfl, tst_ne hA hB vA vB ek (by omega) (show ¬ (F 15 (Int32.toNatClampNeg x1)).toInt = (F 13 (Int32.toNatClampNeg x1)).toInt by omega) (show ¬ (F 16 (Int32.toNatClampNeg x1)).toInt = (F 16 (Int32.toNatClampNeg x2)).toInt by omega)⟩, rfl⟩)
              ·
                try simp only [mIn_0, lgc_lt, lgc_gt, lgc_le, lgc_ge, lgc_eq] at c_106
                try simp only [fl_lt, fl_le, fl_eq, fL_w, fL_lt, fL_le, tm1, tm10k, tm9, tm99, Int32.reduceToInt, Int64.reduceToInt, Int.not_lt, Int.not_le] at c_106
                refine gz_iconst (v := 1) dX12_areTests_109 (by decide) ?_
                refine gz_goto (tgt := 114) dX12_areTests_110 (by decide) ?_
                exact gz_zret rfl (by first | decide | exact nrb (by assumption) | exact nrb (Or.inl rfl) | exact nrb (Or.inr rfl)) dX12_areTests_114 (Nat.le_of_ble_eq_true rfl) (Nat.le_of_ble_eq_true rfl) (⟨_, rfl, Or.inl ⟨rfl, Prod.ext (tst_sg hA hB vA vB ek (show (F 16 (Int32.toNatClampNeg x1)).toInt = (F 16 (Int32.toNatClampNeg x2)).toInt by omega)) (Prod.ext hp0 hp1)⟩, rfl⟩)
        · exact absurd c_63 (by decide)
      ·
        refine gz_ev (w := .int 0) (congrArg Value.int hr2) ?_
        refine gz_if_ne (tgt := 68) dX12_areTests_63 (by decide) (fun c_63 => ?_) (fun c_63 => ?_)
        · exact absurd c_63 (by decide)
        ·
          try simp only [mIn_0, lgc_lt, lgc_gt, lgc_le, lgc_ge, lgc_eq] at c_63
          try simp only [fl_lt, fl_le, fl_eq, fL_w, fL_lt, fL_le, tm1, tm10k, tm9, tm99, Int32.reduceToInt, Int64.reduceToInt, Int.not_lt, Int.not_le] at c_63
          refine gz_iconst (v := 0) dX12_areTests_66 (by decide) ?_
          exact gz_zret rfl (by first | decide | exact nrb (by assumption) | exact nrb (Or.inl rfl) | exact nrb (Or.inr rfl)) dX12_areTests_67 (Nat.le_of_ble_eq_true rfl) (Nat.le_of_ble_eq_true rfl) (⟨_, rfl, Or.inr ⟨rfl, fun z => hp1 (by rw [z])⟩, rfl⟩)
  ·
    refine gz_ev (w := .int 0) (congrArg Value.int hr1) ?_
    refine gz_if_eq (tgt := 66) dX12_areTests_30 (by decide) (fun c_30 => ?_) (fun c_30 => ?_)
    ·
      try simp only [mIn_0, lgc_lt, lgc_gt, lgc_le, lgc_ge, lgc_eq] at c_30
      try simp only [fl_lt, fl_le, fl_eq, fL_w, fL_lt, fL_le, tm1, tm10k, tm9, tm99, Int32.reduceToInt, Int64.reduceToInt, Int.not_lt, Int.not_le] at c_30
      refine gz_iconst (v := 0) dX12_areTests_66 (by decide) ?_
      exact gz_zret rfl (by first | decide | exact nrb (by assumption) | exact nrb (Or.inl rfl) | exact nrb (Or.inr rfl)) dX12_areTests_67 (Nat.le_of_ble_eq_true rfl) (Nat.le_of_ble_eq_true rfl) (⟨_, rfl, Or.inr ⟨rfl, fun z => hp0 (by rw [z])⟩, rfl⟩)
    · exact absurd c_30 (by decide)

set_option maxHeartbeats 4000000 in
set_option maxRecDepth 100000 in
theorem k_X12_isAloneE {l : Launch} {D : va_G} {cy : Nat → ClassId} {b : Nat} {f : gMem} {m : Nat} {a : Nat → Nat} {f0 : gMem} {n : Nat → Int32} {z : Nat → Int64} {F : Nat → Nat → Int32} {G : Nat → Nat → Int64}  {x1 x2 : Int32} {a_ : Hd} (hS : mS cy m a f0 n z F G f) (bA : rAll F) (ha : 0 ≤ x1.toInt ∧ x1.toInt < 880) (hA : hdM F x1.toInt.toNat a_) (vA : hvH a_) (sm : a_.1 = 9) : gC l D cy b yX12_isAlone cX12_isAlone 4 (some .boolean) 0 0 0 [.ref m, .int x1, .int x2] f (pI fun r f2 => ((r = 1 ∧ alH a_ x2.toInt) ∨ (r = 0 ∧ ¬ alH a_ x2.toInt)) ∧ f2 = f) := by
  have q1 : ((F 14 (Int32.toNatClampNeg x1)) - (F 13 (Int32.toNatClampNeg x1))).toInt = (F 14 (Int32.toNatClampNeg x1)).toInt - (F 13 (Int32.toNatClampNeg x1)).toInt := T_sub rfl rfl (by have qA := all_ok bA ha; omega)
  obtain ⟨VA, qA, wA1, wA2⟩ := hdM_sp hA
  have ecx1 : Int32.toNatClampNeg x1 = x1.toInt.toNat := rfl
  rw [← ecx1] at qA
  have hlv := vA.2.2.2.2.2.1 (by omega)
  obtain ⟨z0, Lz, eLz⟩ : ∃ z0 Lz, a_.2.2.2.1 = z0 :: Lz := by
    cases hq : a_.2.2.2.1 with
    | nil => rw [hq] at hlv; exact (show False from hlv).elim
    | cons z0 Lz => exact ⟨z0, Lz, rfl⟩
  have wZ := wA1
  rw [eLz] at wZ hlv
  have hv0 := hlv.2.1
  have eg0 : a_.2.2.2.1.getD 0 (0, 0, 0) = z0 := by rw [eLz]; rfl
  have wA3 : a_.2.2.2.1.length = 1 → z0.2.1 < 0 → z0.2.2 = x2.toInt → alH a_ x2.toInt := fun u1 u2 u3 => ⟨u1, by rw [eg0]; have y := hv0.1; omega, by rw [eg0]; exact u3⟩
  have wA4 : alH a_ x2.toInt → a_.2.2.2.1.length = 1 ∧ z0.2.1 = -1 ∧ z0.2.2 = x2.toInt := fun u => by unfold alH at u; rw [eg0] at u; exact u
  refine gC_of (by decide) (Nat.le_of_ble_eq_true rfl) ?_
  show gG l _ _ _ D cy b cX12_isAlone 4 _ RX12 "isAlone" 0 0 f 0 [(0, .ref m), (1, .int x1), (2, .int x2)] []
  refine gz_bipush (v := 40) dX12_isAlone_0 (by decide) ?_
  refine gz_iload_n dX12_isAlone_2 rfl rfl ?_
  refine gz_bipush (v := 40) dX12_isAlone_3 (by decide) ?_
  refine gz_idiv dX12_isAlone_5 (by decide) ?_
  refine gz_imul dX12_isAlone_6 ?_
  refine gz_aload_n dX12_isAlone_7 rfl rfl ?_
  refine mg_38 hS dX12_isAlone_8 ?_
  refine gz_iload_n dX12_isAlone_11 rfl rfl ?_
  refine m_iald 13 hS rfl (N := 880) rfl ((by exact vin_T (rfl : (x1).toInt = (x1).toInt) (by omega) (by omega))) dX12_isAlone_12 ?_
  refine gz_iadd dX12_isAlone_13 ?_
  obtain ⟨pa, hpa⟩ : ∃ v_ : Int32, v_ = ((40 * (x1 / 40)) + ((F 13) (Int32.toNatClampNeg x1))) := ⟨_, rfl⟩
  refine gz_ev (w := .int pa) (congrArg Value.int hpa.symm) ?_
  have qpa : pa.toInt = 40 * (x1.toInt / 40) + (VA : Int) := by rw [hpa]; have q := (T_add (T_mul (show (40 : Int32).toInt = 40 from rfl) (T_div (rfl : (x1).toInt = (x1).toInt) (show (40 : Int32).toInt = 40 from rfl) (by omega) (by omega)) (by omega)) (rfl : (((F 13) (Int32.toNatClampNeg x1))).toInt = (((F 13) (Int32.toNatClampNeg x1))).toInt) (by omega)); omega
  have epa : Int32.toNatClampNeg pa = 40 * (x1.toInt.toNat / 40) + VA := by rw [clN]; omega
  rw [← epa] at wZ
  obtain ⟨wz1, wz2, wz3, -⟩ := id wZ
  refine gz_istore_n (lv' := [(3, .int pa), (0, .ref m), (1, .int x1), (2, .int x2)]) dX12_isAlone_14 rfl (by decide) rfl ?_
  refine gz_aload_n dX12_isAlone_15 rfl rfl ?_
  refine mg_41 hS dX12_isAlone_16 ?_
  refine gz_iload_n dX12_isAlone_19 rfl rfl ?_
  refine m_iald 14 hS rfl (N := 880) rfl ((by exact vin_T (rfl : (x1).toInt = (x1).toInt) (by omega) (by omega))) dX12_isAlone_20 ?_
  refine gz_aload_n dX12_isAlone_21 rfl rfl ?_
  refine mg_38 hS dX12_isAlone_22 ?_
  refine gz_iload_n dX12_isAlone_25 rfl rfl ?_
  refine m_iald 13 hS rfl (N := 880) rfl ((by exact vin_T (rfl : (x1).toInt = (x1).toInt) (by omega) (by omega))) dX12_isAlone_26 ?_
  refine gz_isub dX12_isAlone_27 ?_
  refine gz_iconst (v := 1) dX12_isAlone_28 (by decide) ?_
  refine gz_icmp_ne (tgt := 55) dX12_isAlone_29 (by decide) (fun c_29 => ?_) (fun c_29 => ?_)
  ·
    try simp only [mIn_0, lgc_lt, lgc_gt, lgc_le, lgc_ge, lgc_eq] at c_29
    try simp only [fl_lt, fl_le, fl_eq, fL_w, fL_lt, fL_le, tm1, tm10k, tm9, tm99, Int32.reduceToInt, Int64.reduceToInt, Int.not_lt, Int.not_le] at c_29
    try have u_29t1 := (T_sub (rfl : (((F 14) (Int32.toNatClampNeg x1))).toInt = (((F 14) (Int32.toNatClampNeg x1))).toInt) (rfl : (((F 13) (Int32.toNatClampNeg x1))).toInt = (((F 13) (Int32.toNatClampNeg x1))).toInt) (by omega))
    refine gz_iconst (v := 0) dX12_isAlone_55 (by decide) ?_
    exact gz_zret rfl (by first | decide | exact nrb (by assumption) | exact nrb (Or.inl rfl) | exact nrb (Or.inr rfl)) dX12_isAlone_56 (Nat.le_of_ble_eq_true rfl) (Nat.le_of_ble_eq_true rfl) (⟨_, rfl, Or.inr ⟨rfl, fun z => by have y := wA4 z; omega⟩, rfl⟩)
  ·
    try simp only [mIn_0, lgc_lt, lgc_gt, lgc_le, lgc_ge, lgc_eq] at c_29
    try simp only [fl_lt, fl_le, fl_eq, fL_w, fL_lt, fL_le, tm1, tm10k, tm9, tm99, Int32.reduceToInt, Int64.reduceToInt, Int.not_lt, Int.not_le] at c_29
    try have u_29t1 := (T_sub (rfl : (((F 14) (Int32.toNatClampNeg x1))).toInt = (((F 14) (Int32.toNatClampNeg x1))).toInt) (rfl : (((F 13) (Int32.toNatClampNeg x1))).toInt = (((F 13) (Int32.toNatClampNeg x1))).toInt) (by omega))
    refine gz_aload_n dX12_isAlone_32 rfl rfl ?_
    refine mg_56 hS dX12_isAlone_33 ?_
    refine gz_iload_n dX12_isAlone_36 rfl rfl ?_
    refine m_iald 19 hS rfl (N := 880) rfl ((by exact vin_T (rfl : pa.toInt = pa.toInt) (by omega) (by omega))) dX12_isAlone_37 ?_
    refine gz_if_ge (tgt := 55) dX12_isAlone_38 (by decide) (fun c_38 => ?_) (fun c_38 => ?_)
    ·
      try simp only [mIn_0, lgc_lt, lgc_gt, lgc_le, lgc_ge, lgc_eq] at c_38
      try simp only [fl_lt, fl_le, fl_eq, fL_w, fL_lt, fL_le, tm1, tm10k, tm9, tm99, Int32.reduceToInt, Int64.reduceToInt, Int.not_lt, Int.not_le] at c_38
      refine gz_iconst (v := 0) dX12_isAlone_55 (by decide) ?_
      exact gz_zret rfl (by first | decide | exact nrb (by assumption) | exact nrb (Or.inl rfl) | exact nrb (Or.inr rfl)) dX12_isAlone_56 (Nat.le_of_ble_eq_true rfl) (Nat.le_of_ble_eq_true rfl) (⟨_, rfl, Or.inr ⟨rfl, fun z => by have y := wA4 z; omega⟩, rfl⟩)
    ·
      try simp only [mIn_0, lgc_lt, lgc_gt, lgc_le, lgc_ge, lgc_eq] at c_38
      try simp only [fl_lt, fl_le, fl_eq, fL_w, fL_lt, fL_le, tm1, tm10k, tm9, tm99, Int32.reduceToInt, Int64.reduceToInt, Int.not_lt, Int.not_le] at c_38
      refine gz_aload_n dX12_isAlone_41 rfl rfl ?_
      refine mg_59 hS dX12_isAlone_42 ?_
      refine gz_iload_n dX12_isAlone_45 rfl rfl ?_
      refine m_iald 20 hS rfl (N := 880) rfl ((by exact vin_T (rfl : pa.toInt = pa.toInt) (by omega) (by omega))) dX12_isAlone_46 ?_
      refine gz_iload_n dX12_isAlone_47 rfl rfl ?_
      refine gz_icmp_ne (tgt := 55) dX12_isAlone_48 (by decide) (fun c_48 => ?_) (fun c_48 => ?_)
      ·
        try simp only [mIn_0, lgc_lt, lgc_gt, lgc_le, lgc_ge, lgc_eq] at c_48
        try simp only [fl_lt, fl_le, fl_eq, fL_w, fL_lt, fL_le, tm1, tm10k, tm9, tm99, Int32.reduceToInt, Int64.reduceToInt, Int.not_lt, Int.not_le] at c_48
        refine gz_iconst (v := 0) dX12_isAlone_55 (by decide) ?_
        exact gz_zret rfl (by first | decide | exact nrb (by assumption) | exact nrb (Or.inl rfl) | exact nrb (Or.inr rfl)) dX12_isAlone_56 (Nat.le_of_ble_eq_true rfl) (Nat.le_of_ble_eq_true rfl) (⟨_, rfl, Or.inr ⟨rfl, fun z => by have y := wA4 z; omega⟩, rfl⟩)
      ·
        try simp only [mIn_0, lgc_lt, lgc_gt, lgc_le, lgc_ge, lgc_eq] at c_48
        try simp only [fl_lt, fl_le, fl_eq, fL_w, fL_lt, fL_le, tm1, tm10k, tm9, tm99, Int32.reduceToInt, Int64.reduceToInt, Int.not_lt, Int.not_le] at c_48
        refine gz_iconst (v := 1) dX12_isAlone_51 (by decide) ?_
        refine gz_goto (tgt := 56) dX12_isAlone_52 (by decide) ?_
        exact gz_zret rfl (by first | decide | exact nrb (by assumption) | exact nrb (Or.inl rfl) | exact nrb (Or.inr rfl)) dX12_isAlone_56 (Nat.le_of_ble_eq_true rfl) (Nat.le_of_ble_eq_true rfl) (⟨_, rfl, Or.inl ⟨rfl, wA3 (by omega) (by omega) (by omega)⟩, rfl⟩)
