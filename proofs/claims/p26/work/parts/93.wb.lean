/-- class and WORLDS -/
def eE (sz ah gl : Int32) (weg stg : Nat → Int32) (E : We) : Prop := ((sz.toInt = (E.2.2.1 : Int) ∧ 1 ≤ E.2.2.1 ∧ E.2.2.1 ≤ 3) ∧ (ah.toInt = (E.2.2.2.2.2 : Int) ∧ E.2.2.2.2.2 ≤ 4) ∧ gl.toInt = E.2.2.2.2.1 ∧ ((∀ y i : Nat, y < 3 → i < 6 → stg (6 * y + i) = E.1 y i) ∧ eB E) ∧ (∀ x : Int32, 0 ≤ x.toInt ∧ x.toInt ≤ 2 → wgoF weg x = E.2.1 x.toInt.toNat) ∧ ∀ x : Int32, 0 ≤ x.toInt ∧ x.toInt ≤ 4 → pwrF weg sz x = E.2.2.2.1 x.toInt.toNat)
/-- the scenes up to a step stay -/
def kpS (P Q : Nat → Nat) (k : Nat) (f f2 : gMem) : Prop := ∀ j, j ≤ k → f2 (P j) = f (P j) ∧ f2 (Q j) = f (Q j)
theorem kpS_rf {P Q : Nat → Nat} {k : Nat} {f : gMem} : kpS P Q k f f := fun _ _ => ⟨rfl, rfl⟩
theorem kpS_tr {P Q : Nat → Nat} {k : Nat} {f f2 f3 : gMem} (h : kpS P Q k f f2) (h2 : kpS P Q k f2 f3) : kpS P Q k f f3 := fun j hj => ⟨(h2 j hj).1.trans (h j hj).1, (h2 j hj).2.trans (h j hj).2⟩
theorem kpS_mo {P Q : Nat → Nat} {k m : Nat} {f f2 : gMem} (h : kpS P Q k f f2) (hm : m ≤ k) : kpS P Q m f f2 := fun j hj => h j (by omega)
theorem kpS_go {cy : Nat → ClassId} {P Q : Nat → Nat} {k j : Nat} {f f2 : gMem} (hj : j < 5) (hk : k < j) (hPQ : ∀ i j : Nat, i < 5 → j < 5 → i ≠ j → P i ≠ P j ∧ Q i ≠ Q j) (hF : pF cy P Q f) (hr : fr [P j, Q j] f f2) : kpS P Q k f f2 := fun i hi => by
  obtain ⟨da, t, g1, g2⟩ := hF i (by omega)
  obtain ⟨db, u, g3, g4⟩ := hF j hj
  have z := hPQ i j (by omega) hj (by omega)
  exact ⟨(hr _ _ g1 (by simp only [List.mem_cons, List.not_mem_nil, or_false, not_or]; exact ⟨z.1, cne g1 g4 (by simp)⟩)).trans g1.symm, (hr _ _ g2 (by simp only [List.mem_cons, List.not_mem_nil, or_false, not_or]; exact ⟨cne g2 g3 (by simp), z.2⟩)).trans g2.symm⟩
/-- a step's scene -/
def scA (cy : Nat → ClassId) (P Q : Nat → Nat) (k : Nat) (S : Sn) (f : gMem) : Prop := ∃ (da : Int32) (t : Nat → Int32), f (P k) = some (.inr (7, [.ref (Q k), .int da])) ∧ f (Q k) = some (.inl (cy 0, 6, .inl (t))) ∧ sCn S da t
/-- a scene laid over another -/
theorem cpyL_at {db : Int32} {u : Nat → Int32} : ∀ (k : Nat) (i : Int32) (t : Nat → Int32) (da : Int32), 0 ≤ i.toInt ∧ i.toInt ≤ 6 → 6 - i.toInt < (k : Int) → (cpyL db u k i t da).2 = db ∧ ∀ j, (cpyL db u k i t da).1 j = if i.toInt ≤ (j : Int) ∧ j < 6 then u j else t j := by
  have e6 : (6 : Int32).toInt = 6 := rfl
  intro k
  induction k with
  | zero => intro i t da h1 h2; omega
  | succ k ih =>
    intro i t da h1 h2
    unfold cpyL
    by_cases c : 6 ≤ i
    · rw [if_pos c]
      rw [fl_le, e6] at c
      exact ⟨rfl, fun j => by rw [if_neg (by omega)]⟩
    · rw [if_neg c]
      rw [fl_le, e6] at c
      have hx := T_add (rfl : i.toInt = i.toInt) (show (1 : Int32).toInt = 1 from rfl) (by omega)
      obtain ⟨q1, q2⟩ := ih (i + 1) (upd t (Int32.toNatClampNeg i) (u (Int32.toNatClampNeg i))) da (by omega) (by omega)
      refine ⟨q1, fun j => ?_⟩
      rw [q2, updE, clN]
      by_cases cj : j = i.toInt.toNat
      · rw [if_neg (by omega), if_pos cj, if_pos (by omega), cj]
      · rw [if_neg cj]
        by_cases c2 : i.toInt ≤ (j : Int) ∧ j < 6
        · rw [if_pos c2, if_pos (by omega)]
        · rw [if_neg c2, if_neg (by omega)]
theorem addTh_at {t : Nat → Int32} {i x : Int32} (hi : 0 ≤ i.toInt ∧ i.toInt ≤ 5) : addTh t i x = upd t i.toInt.toNat (t i.toInt.toNat + x) := by
  have e0 : (0 : Int32).toInt = 0 := rfl
  have e6 : (6 : Int32).toInt = 6 := rfl
  unfold addTh
  rw [if_neg (by rw [fl_lt, e0]; omega), if_neg (by rw [fl_le, e6]; omega), clN]
theorem bet_S {n1 : Nat} {g hh : Nat → Int32} {s v wd : Int32} {T : List Hd} {w : Nat} (hs : 0 ≤ s.toInt ∧ 13 * s.toInt ≤ n1 ∧ n1 ≤ 520) (hc : hcT T s v g hh) (hw : wd.toInt = (w : Int)) (hlt : w < T.length) {y u : Int64} : betF n1 g s wd y u = btT (sdT T w) y u := by
  have q := (fk_S (n1 := n1) hs hc hw hlt).2.2.1
  unfold betF btT
  by_cases c : sdT T w = 0
  · rw [if_pos c, if_pos (Int32.toInt_inj.mp (by rw [q, c]; rfl))]
  · rw [if_neg c, if_neg (fun z => c (by rw [← q, z]; rfl))]

set_option maxHeartbeats 4000000 in
set_option maxRecDepth 100000 in
theorem l_X10_goE {l : Launch} {D : va_G} {cy : Nat → ClassId} {b : Nat} {f : gMem} {wo we stp pa ba td p : Nat} {sz ah go : Int32} {stg : Nat → Int32} {pg : Nat → Option Nat} {a1 b1 a2 b2 : Nat} {st wy da1 : Int32} {u1 : Nat → Int32} (hne : b1 ≠ b2 ∧ a1 ≠ a2 ∧ stp ≠ b2) (hwy : 0 ≤ wy.toInt ∧ wy.toInt ≤ 2) : ∀ (k : Nat) (i da2 : Int32) (u2 : Nat → Int32) (fm : gMem), fr [a2, b2] f fm → (fm wo = some (.inr (10, [.int sz, .ref we, .ref stp, .ref pa, .ref ba, .ref td, .ref p, .int ah, .int go]))) → (fm stp = some (.inl (cy 0, 18, .inl (stg)))) → (fm pa = some (.inl (cy 6, 5, .inr (.inr (.inr (.inr (pg))))))) → (fm a1 = some (.inr (7, [.ref b1, .int da1]))) → (fm b1 = some (.inl (cy 0, 6, .inl (u1)))) → (fm a2 = some (.inr (7, [.ref b2, .int da2]))) → (fm b2 = some (.inl (cy 0, 6, .inl (u2)))) → (da2 = da1 + 1) → (∀ jj : Nat, jj < 6 → u2 jj = if (jj : Int) < i.toInt then u1 jj + stg (6 * wy.toInt.toNat + jj) else u1 jj) → (0 ≤ i.toInt ∧ i.toInt ≤ 6 ∧ i.toInt + (k : Int) = 7) → gG l (gRm 2 0 0) (gQf D b (pV fun f2 => ∃ (d2 : Int32) (t2 : Nat → Int32), f2 a2 = some (.inr (7, [.ref b2, .int d2])) ∧ f2 b2 = some (.inl (cy 0, 6, .inl (t2))) ∧ (d2 = da1 + 1 ∧ ∀ jj : Nat, jj < 6 → t2 jj = u1 jj + stg (6 * wy.toInt.toNat + jj)) ∧ fr [a2, b2] f f2) 0 0) gTt D cy b cX10_go 6 none RX10 "go" (0) (0) fm 30 [(4, .int i), (3, .ref a2), (0, .ref wo), (1, .int st), (2, .int wy)] [] := by
  intro k
  induction k with
  | zero =>
    intro i da2 u2 fm hfr hwo hst hpa ha1 hb1 ha2 hb2 hd2 hcu hk
    exfalso; omega
  | succ k ih =>
    intro i da2 u2 fm hfr hwo hst hpa ha1 hb1 ha2 hb2 hd2 hcu hk
    refine gz_iload dX10_go_30 rfl ?_
    refine gz_bipush (v := 6) dX10_go_32 (by decide) ?_
    refine gz_icmp_ge (tgt := 80) dX10_go_34 (by decide) (fun c_34 => ?_) (fun c_34 => ?_)
    ·
      exact gz_vret rfl dX10_go_80 (Nat.le_of_ble_eq_true rfl) (Nat.le_of_ble_eq_true rfl) (⟨rfl, _, _, ha2, hb2, ⟨hd2, fun jj hj => by have e6 : (6 : Int32).toInt = 6 := rfl; have q34 := c_34; simp only [fl_le] at q34; rw [hcu jj hj, if_pos (by omega)]⟩, hfr⟩)
    ·
      refine gz_iload_n dX10_go_37 rfl rfl ?_
      refine gz_bipush (v := 6) dX10_go_38 (by decide) ?_
      refine gz_imul dX10_go_40 ?_
      refine gz_iload dX10_go_41 rfl ?_
      refine gz_iadd dX10_go_43 ?_
      refine gz_istore (lv' := [(5, .int ((wy * 6) + i)), (4, .int i), (3, .ref a2), (0, .ref wo), (1, .int st), (2, .int wy)]) dX10_go_44 (by decide) rfl ?_
      refine gz_iload dX10_go_46 rfl ?_
      refine gz_if_lt (tgt := 74) dX10_go_48 (by decide) (fun c_48 => ?_) (fun c_48 => ?_)
      ·
        refine gz_iinc (v := (i + 1)) (lv' := [(4, .int (i + 1)), (5, .int ((wy * 6) + i)), (3, .ref a2), (0, .ref wo), (1, .int st), (2, .int wy)]) dX10_go_74 rfl rfl (by decide) rfl ?_
        refine gz_goto (tgt := 30) dX10_go_77 (by decide) ?_
        refine gz_sub (lv' := [(4, .int (i + 1)), (3, .ref a2), (0, .ref wo), (1, .int st), (2, .int wy)]) (by simp [List.lookup]) ?_
        exact ih (i + 1) da2 u2 _ hfr hwo hst hpa ha1 hb1 ha2 hb2 (hd2) (by exfalso; have e6 : (6 : Int32).toInt = 6 := rfl; have e1 : (1 : Int32).toInt = 1 := rfl; have q34 := c_34; simp only [fl_le] at q34; have q1 := T_mul (rfl : wy.toInt = wy.toInt) e6 (by omega); have q2 := T_add q1 (rfl : i.toInt = i.toInt) (by omega); have hx := T_add (rfl : i.toInt = i.toInt) e1 (by omega); have e0 : (0 : Int32).toInt = 0 := rfl; have e18 : (18 : Int32).toInt = 18 := rfl; have qq := c_48; simp only [fl_lt, fl_le] at qq; omega) (by have e6 : (6 : Int32).toInt = 6 := rfl; have e1 : (1 : Int32).toInt = 1 := rfl; have q34 := c_34; simp only [fl_le] at q34; have q1 := T_mul (rfl : wy.toInt = wy.toInt) e6 (by omega); have q2 := T_add q1 (rfl : i.toInt = i.toInt) (by omega); have hx := T_add (rfl : i.toInt = i.toInt) e1 (by omega); omega)
      ·
        refine gz_iload dX10_go_51 rfl ?_
        refine gz_aload_n dX10_go_53 rfl rfl ?_
        refine sgX10_19 hwo rfl dX10_go_54 ?_
        refine gz_alen0 (v := 18) hst (by decide) dX10_go_57 ?_
        refine gz_icmp_ge (tgt := 74) dX10_go_58 (by decide) (fun c_58 => ?_) (fun c_58 => ?_)
        ·
          refine gz_iinc (v := (i + 1)) (lv' := [(4, .int (i + 1)), (5, .int ((wy * 6) + i)), (3, .ref a2), (0, .ref wo), (1, .int st), (2, .int wy)]) dX10_go_74 rfl rfl (by decide) rfl ?_
          refine gz_goto (tgt := 30) dX10_go_77 (by decide) ?_
          refine gz_sub (lv' := [(4, .int (i + 1)), (3, .ref a2), (0, .ref wo), (1, .int st), (2, .int wy)]) (by simp [List.lookup]) ?_
          exact ih (i + 1) da2 u2 _ hfr hwo hst hpa ha1 hb1 ha2 hb2 (hd2) (by exfalso; have e6 : (6 : Int32).toInt = 6 := rfl; have e1 : (1 : Int32).toInt = 1 := rfl; have q34 := c_34; simp only [fl_le] at q34; have q1 := T_mul (rfl : wy.toInt = wy.toInt) e6 (by omega); have q2 := T_add q1 (rfl : i.toInt = i.toInt) (by omega); have hx := T_add (rfl : i.toInt = i.toInt) e1 (by omega); have e0 : (0 : Int32).toInt = 0 := rfl; have e18 : (18 : Int32).toInt = 18 := rfl; have qq := c_58; simp only [fl_lt, fl_le] at qq; omega) (by have e6 : (6 : Int32).toInt = 6 := rfl; have e1 : (1 : Int32).toInt = 1 := rfl; have q34 := c_34; simp only [fl_le] at q34; have q1 := T_mul (rfl : wy.toInt = wy.toInt) e6 (by omega); have q2 := T_add q1 (rfl : i.toInt = i.toInt) (by omega); have hx := T_add (rfl : i.toInt = i.toInt) e1 (by omega); omega)
        ·
          refine gz_aload_n dX10_go_61 rfl rfl ?_
          refine gz_iload dX10_go_62 rfl ?_
          refine gz_aload_n dX10_go_64 rfl rfl ?_
          refine sgX10_19 hwo rfl dX10_go_65 ?_
          refine gz_iload dX10_go_68 rfl ?_
          refine gz_iald hst ((by have e13 : (13 : Int32).toInt = 13 := rfl; have e0 : (0 : Int32).toInt = 0 := rfl; have e2 : (2 : Int32).toInt = 2 := rfl; have e1 : (1 : Int32).toInt = 1 := rfl; have e6 : (6 : Int32).toInt = 6 := rfl; have em2 : (-2 : Int32).toInt = -2 := rfl; have e3 : (3 : Int32).toInt = 3 := rfl; have e6 : (6 : Int32).toInt = 6 := rfl; have e4 : (4 : Int32).toInt = 4 := rfl; have e18 : (18 : Int32).toInt = 18 := rfl; simp only [fl_lt, fl_le] at c_48 c_58; exact vin_T (rfl : ((wy * 6) + i).toInt = _) (by omega) (by omega))) dX10_go_70 ?_
          refine scX10_73 (k_X7_addThing (i := i) (x := (stg (Int32.toNatClampNeg ((wy * 6) + i)))) ha2 hb2) ha2 ⟨(Nat.le_of_ble_eq_true rfl), (Nat.le_of_ble_eq_true rfl)⟩ ⟨(Nat.le_of_ble_eq_true rfl), (Nat.le_of_ble_eq_true rfl)⟩ rfl rfl (Nat.le_of_ble_eq_true rfl) dX10_go_71 ?_
          rintro f1 ⟨hb2_1, hr1⟩
          have hwo_1 : f1 wo = some (.inr (10, [.int sz, .ref we, .ref stp, .ref pa, .ref ba, .ref td, .ref p, .int ah, .int go])) := hr1 _ _ hwo (by simp only [List.mem_cons, List.not_mem_nil, or_false, not_or]; exact cne hwo hb2 (by simp))
          have hst_1 : f1 stp = some (.inl (cy 0, 18, .inl (stg))) := hr1 _ _ hst (by simp only [List.mem_cons, List.not_mem_nil, or_false, not_or]; exact hne.2.2)
          have hpa_1 : f1 pa = some (.inl (cy 6, 5, .inr (.inr (.inr (.inr (pg)))))) := hr1 _ _ hpa (by simp only [List.mem_cons, List.not_mem_nil, or_false, not_or]; exact cne hpa hb2 (by simp))
          have ha1_1 : f1 a1 = some (.inr (7, [.ref b1, .int da1])) := hr1 _ _ ha1 (by simp only [List.mem_cons, List.not_mem_nil, or_false, not_or]; exact cne ha1 hb2 (by simp))
          have hb1_1 : f1 b1 = some (.inl (cy 0, 6, .inl (u1))) := hr1 _ _ hb1 (by simp only [List.mem_cons, List.not_mem_nil, or_false, not_or]; exact hne.1)
          have ha2_1 : f1 a2 = some (.inr (7, [.ref b2, .int da2])) := hr1 _ _ ha2 (by simp only [List.mem_cons, List.not_mem_nil, or_false, not_or]; exact cne ha2 hb2 (by simp))
          refine gz_iinc (v := (i + 1)) (lv' := [(4, .int (i + 1)), (5, .int ((wy * 6) + i)), (3, .ref a2), (0, .ref wo), (1, .int st), (2, .int wy)]) dX10_go_74 rfl rfl (by decide) rfl ?_
          refine gz_goto (tgt := 30) dX10_go_77 (by decide) ?_
          refine gz_sub (lv' := [(4, .int (i + 1)), (3, .ref a2), (0, .ref wo), (1, .int st), (2, .int wy)]) (by simp [List.lookup]) ?_
          exact ih (i + 1) da2 (addTh u2 i (stg (Int32.toNatClampNeg ((wy * 6) + i)))) _ (fr_tr hfr (fr_mo hr1 (by simp))) hwo_1 hst_1 hpa_1 ha1_1 hb1_1 ha2_1 hb2_1 (hd2) (by have e6 : (6 : Int32).toInt = 6 := rfl; have e1 : (1 : Int32).toInt = 1 := rfl; have q34 := c_34; simp only [fl_le] at q34; have q1 := T_mul (rfl : wy.toInt = wy.toInt) e6 (by omega); have q2 := T_add q1 (rfl : i.toInt = i.toInt) (by omega); have hx := T_add (rfl : i.toInt = i.toInt) e1 (by omega); intro jj hj; rw [hx, addTh_at (by omega), updE, show Int32.toNatClampNeg ((wy * 6) + i) = 6 * wy.toInt.toNat + i.toInt.toNat by rw [clN]; omega]; by_cases z : jj = i.toInt.toNat; (rw [if_pos z, if_pos (by omega), hcu _ (by omega), if_neg (by omega), z]); (rw [if_neg z, hcu jj hj]; by_cases z2 : (jj : Int) < i.toInt; (rw [if_pos z2, if_pos (by omega)]); (rw [if_neg z2, if_neg (by omega)]))) (by have e6 : (6 : Int32).toInt = 6 := rfl; have e1 : (1 : Int32).toInt = 1 := rfl; have q34 := c_34; simp only [fl_le] at q34; have q1 := T_mul (rfl : wy.toInt = wy.toInt) e6 (by omega); have q2 := T_add q1 (rfl : i.toInt = i.toInt) (by omega); have hx := T_add (rfl : i.toInt = i.toInt) e1 (by omega); omega)

set_option maxHeartbeats 4000000 in
set_option maxRecDepth 100000 in
theorem k_X10_goE {l : Launch} {D : va_G} {cy : Nat → ClassId} {b : Nat} {f : gMem} {wo we stp pa ba td p : Nat} {sz ah go : Int32} {stg : Nat → Int32} {pg : Nat → Option Nat} {a1 b1 a2 b2 : Nat} {st wy da1 da2 : Int32} {u1 u2 : Nat → Int32} (hwo : f wo = some (.inr (10, [.int sz, .ref we, .ref stp, .ref pa, .ref ba, .ref td, .ref p, .int ah, .int go]))) (hst : f stp = some (.inl (cy 0, 18, .inl (stg)))) (hpa : f pa = some (.inl (cy 6, 5, .inr (.inr (.inr (.inr (pg))))))) (ha1 : f a1 = some (.inr (7, [.ref b1, .int da1]))) (hb1 : f b1 = some (.inl (cy 0, 6, .inl (u1)))) (ha2 : f a2 = some (.inr (7, [.ref b2, .int da2]))) (hb2 : f b2 = some (.inl (cy 0, 6, .inl (u2)))) (hne : b1 ≠ b2 ∧ a1 ≠ a2 ∧ stp ≠ b2) (g1 : pg (scI st) = some a1) (g2 : pg (scI (st + 1)) = some a2) (hwy : 0 ≤ wy.toInt ∧ wy.toInt ≤ 2) : gC l D cy b yX10_go cX10_go 6 none 2 0 0 [.ref wo, .int st, .int wy] f (pV fun f2 => ∃ (d2 : Int32) (t2 : Nat → Int32), f2 a2 = some (.inr (7, [.ref b2, .int d2])) ∧ f2 b2 = some (.inl (cy 0, 6, .inl (t2))) ∧ (d2 = da1 + 1 ∧ ∀ jj : Nat, jj < 6 → t2 jj = u1 jj + stg (6 * wy.toInt.toNat + jj)) ∧ fr [a2, b2] f f2) := by
  refine gC_of (by decide) (Nat.le_of_ble_eq_true rfl) ?_
  show gG l _ _ _ D cy b cX10_go 6 _ RX10 "go" 0 0 f 0 [(0, .ref wo), (1, .int st), (2, .int wy)] []
  refine gz_aload_n dX10_go_0 rfl rfl ?_
  refine gz_iload_n dX10_go_1 rfl rfl ?_
  refine gz_iconst (v := 1) dX10_go_2 (by decide) ?_
  refine gz_iadd dX10_go_3 ?_
  refine scX10_66 (k_X10_sceneAt (st := (st + 1)) hwo hpa) hwo ⟨(Nat.le_of_ble_eq_true rfl), (Nat.le_of_ble_eq_true rfl)⟩ ⟨(Nat.le_of_ble_eq_true rfl), (Nat.le_of_ble_eq_true rfl)⟩ rfl rfl (Nat.le_of_ble_eq_true rfl) dX10_go_4 ?_
  rintro u9 f9 ⟨rfl, rfl⟩
  refine gz_ev (w := .ref a2) (by rw [g2]; rfl) ?_
  refine gz_astore_n (lv' := [(3, .ref a2), (0, .ref wo), (1, .int st), (2, .int wy)]) dX10_go_7 rfl (by decide) rfl ?_
  refine gz_aload_n dX10_go_8 rfl rfl ?_
  refine gz_aload_n dX10_go_9 rfl rfl ?_
  refine gz_iload_n dX10_go_10 rfl rfl ?_
  refine scX10_66 (k_X10_sceneAt (st := st) hwo hpa) hwo ⟨(Nat.le_of_ble_eq_true rfl), (Nat.le_of_ble_eq_true rfl)⟩ ⟨(Nat.le_of_ble_eq_true rfl), (Nat.le_of_ble_eq_true rfl)⟩ rfl rfl (Nat.le_of_ble_eq_true rfl) dX10_go_11 ?_
  rintro u9 f9 ⟨rfl, rfl⟩
  refine gz_ev (w := .ref a1) (by rw [g1]; rfl) ?_
  obtain ⟨x1, hx1⟩ : ∃ x0, (cpyF da1 u1 u2 da2) = x0 := ⟨_, rfl⟩
  refine scX10_59 (k_X7_copyFrom ha2 hb2 ha1 hb1 ⟨Ne.symm hne.1, Ne.symm hne.2.1⟩) ha2 ⟨(Nat.le_of_ble_eq_true rfl), (Nat.le_of_ble_eq_true rfl)⟩ ⟨(Nat.le_of_ble_eq_true rfl), (Nat.le_of_ble_eq_true rfl)⟩ rfl rfl (Nat.le_of_ble_eq_true rfl) dX10_go_14 ?_
  rintro f1 ⟨hb2_1, ha2_1, hr1⟩; rw [hx1] at hb2_1 ha2_1
  have hwo_1 : f1 wo = some (.inr (10, [.int sz, .ref we, .ref stp, .ref pa, .ref ba, .ref td, .ref p, .int ah, .int go])) := hr1 _ _ hwo (by simp only [List.mem_cons, List.not_mem_nil, or_false, not_or]; exact ⟨cne hwo hb2 (by simp), cne hwo ha2 (by simp)⟩)
  have hst_1 : f1 stp = some (.inl (cy 0, 18, .inl (stg))) := hr1 _ _ hst (by simp only [List.mem_cons, List.not_mem_nil, or_false, not_or]; exact ⟨hne.2.2, cne hst ha2 (by simp)⟩)
  have hpa_1 : f1 pa = some (.inl (cy 6, 5, .inr (.inr (.inr (.inr (pg)))))) := hr1 _ _ hpa (by simp only [List.mem_cons, List.not_mem_nil, or_false, not_or]; exact ⟨cne hpa hb2 (by simp), cne hpa ha2 (by simp)⟩)
  have ha1_1 : f1 a1 = some (.inr (7, [.ref b1, .int da1])) := hr1 _ _ ha1 (by simp only [List.mem_cons, List.not_mem_nil, or_false, not_or]; exact ⟨cne ha1 hb2 (by simp), hne.2.1⟩)
  have hb1_1 : f1 b1 = some (.inl (cy 0, 6, .inl (u1))) := hr1 _ _ hb1 (by simp only [List.mem_cons, List.not_mem_nil, or_false, not_or]; exact ⟨hne.1, cne hb1 ha2 (by simp)⟩)
  refine gz_aload_n dX10_go_17 rfl rfl ?_
  refine gz_dup dX10_go_18 rfl ?_
  refine sgX10_70 ha2_1 rfl dX10_go_19 ?_
  refine gz_iconst (v := 1) dX10_go_22 (by decide) ?_
  refine gz_iadd dX10_go_23 ?_
  refine spX10_70 ha2_1  (Nat.le_of_ble_eq_true rfl) dX10_go_24 ?_
  obtain ⟨f2, hf2⟩ : ∃ gg : gMem, gg = va_up f1 a2 (some (.inr (7, [.ref b2, .int (x1.2 + 1)]))) := ⟨_, rfl⟩
  refine gz_eq (f2 := f2) hf2.symm rfl rfl rfl ?_
  have hwo_2 : f2 wo = some (.inr (10, [.int sz, .ref we, .ref stp, .ref pa, .ref ba, .ref td, .ref p, .int ah, .int go])) := by rw [hf2, va_up_ne _ _ (cne hwo_1 ha2_1 (by simp))]; exact hwo_1
  have hst_2 : f2 stp = some (.inl (cy 0, 18, .inl (stg))) := by rw [hf2, va_up_ne _ _ (cne hst_1 ha2_1 (by simp))]; exact hst_1
  have hpa_2 : f2 pa = some (.inl (cy 6, 5, .inr (.inr (.inr (.inr (pg)))))) := by rw [hf2, va_up_ne _ _ (cne hpa_1 ha2_1 (by simp))]; exact hpa_1
  have ha1_2 : f2 a1 = some (.inr (7, [.ref b1, .int da1])) := by rw [hf2, va_up_ne _ _ (hne.2.1)]; exact ha1_1
  have hb1_2 : f2 b1 = some (.inl (cy 0, 6, .inl (u1))) := by rw [hf2, va_up_ne _ _ (cne hb1_1 ha2_1 (by simp))]; exact hb1_1
  have hb2_2 : f2 b2 = some (.inl (cy 0, 6, .inl (x1.1))) := by rw [hf2, va_up_ne _ _ (cne hb2_1 ha2_1 (by simp))]; exact hb2_1
  have ha2_2 : f2 a2 = some (.inr (7, [.ref b2, .int (x1.2 + 1)])) := by rw [hf2]; exact va_up_self _ _ _
  refine gz_iconst (v := 0) dX10_go_27 (by decide) ?_
  refine gz_istore (lv' := [(4, .int 0), (3, .ref a2), (0, .ref wo), (1, .int st), (2, .int wy)]) dX10_go_28 (by decide) rfl ?_
  refine gz_sub (lv' := [(4, .int 0), (3, .ref a2), (0, .ref wo), (1, .int st), (2, .int wy)]) (by simp [List.lookup]) ?_
  exact l_X10_goE hne hwy 7 0 (x1.2 + 1) x1.1 _ (by rw [hf2]; exact fr_up (fr_tr fr_rf (fr_mo hr1 (by simp))) (by simp)) hwo_2 hst_2 hpa_2 ha1_2 hb1_2 ha2_2 hb2_2 (by first | (have qc := cpyL_at (db := da1) (u := u1) 7 0 u2 da2 ⟨by decide, by decide⟩ (by decide); have qd : (cpyF da1 u1 u2 da2).2 = da1 := qc.1; subst_vars; rw [qd]) | (have qc := cpyL_at (db := da1) (u := u1) 7 0 u2 da2 ⟨by decide, by decide⟩ (by decide); have qd : (cpyF da1 u1 u2 da2).2 = da1 := qc.1; simp_all)) (by intro jj hj; have qc := cpyL_at (db := da1) (u := u1) 7 0 u2 da2 ⟨by decide, by decide⟩ (by decide); have qd : (cpyF da1 u1 u2 da2).1 jj = _ := qc.2 jj; subst_vars; rw [qd, if_pos ⟨by have e0 : (0 : Int32).toInt = 0 := rfl; omega, hj⟩, if_neg (by have e0 : (0 : Int32).toInt = 0 := rfl; omega)]) (⟨by decide, by decide, by decide⟩)

def vPE (l : Launch) (D : va_G) (cy : Nat → ClassId) (b wo we stp pa ba td p c1 c2 n1 n2 : Nat) (sz ah gl s v : Int32) (weg stg g h : Nat → Int32) (pg : Nat → Option Nat) (P Q : Nat → Nat) (T : List Hd) (E : We) (k : Nat) : Prop := ∀ (wd fa st : Int32) (wN : Nat) (fN : Int) (d : Nat) (S : Sn) (f : gMem), (f wo = some (.inr (10, [.int sz, .ref we, .ref stp, .ref pa, .ref ba, .ref td, .ref p, .int ah, .int gl]))) → (f we = some (.inl (cy 0, 3, .inl (weg)))) → (f stp = some (.inl (cy 0, 18, .inl (stg)))) → (f pa = some (.inl (cy 6, 5, .inr (.inr (.inr (.inr (pg))))))) → (f p = some (.inr (2, [.ref c1, .ref c2, .int s, .int v]))) → (f c1 = some (.inl (cy 0, n1, .inl (g)))) → (f c2 = some (.inl (cy 0, n2, .inl (h)))) → (pF cy P Q f) → (wd.toInt = (wN : Int) ∧ wN < T.length) → (fa.toInt = fN ∧ -1000000 ≤ fN ∧ fN ≤ 1000000) → (st.toInt = (d : Int) ∧ d ≤ E.2.2.2.2.2) → (sOk d S) → (scA cy P Q d S f) → (41 * (4 - d) + (T.length - wN) < k) → gC l D cy b yX10_value cX10_value 8 (some .long) (4 + 2 * k) 0 0 [.ref wo, .int wd, .int fa, .int st] f (pL fun r f2 => r = vl T E wN fN d S ∧ pF cy P Q f2 ∧ fr (scL P Q) f f2 ∧ kpS P Q d f f2)

set_option maxHeartbeats 4000000 in
set_option maxRecDepth 100000 in
theorem k_X10_deedValueE {l : Launch} {D : va_G} {cy : Nat → ClassId} {b : Nat} {f : gMem} {wo we stp pa ba td p c1 c2 n1 n2 : Nat} {sz ah gl s v : Int32} {weg stg g h : Nat → Int32} {pg : Nat → Option Nat} {P Q : Nat → Nat} {wd fa st : Int32} {T : List Hd} {E : We} {fN : Int} {wN d k : Nat} {S : Sn} (hwo : f wo = some (.inr (10, [.int sz, .ref we, .ref stp, .ref pa, .ref ba, .ref td, .ref p, .int ah, .int gl]))) (hwe : f we = some (.inl (cy 0, 3, .inl (weg)))) (hst : f stp = some (.inl (cy 0, 18, .inl (stg)))) (hpa : f pa = some (.inl (cy 6, 5, .inr (.inr (.inr (.inr (pg))))))) (hp : f p = some (.inr (2, [.ref c1, .ref c2, .int s, .int v]))) (h1 : f c1 = some (.inl (cy 0, n1, .inl (g)))) (h2 : f c2 = some (.inl (cy 0, n2, .inl (h)))) (hs : 0 ≤ s.toInt ∧ 13 * s.toInt ≤ n1 ∧ n1 ≤ 520) (hv : 0 ≤ v.toInt ∧ 2 * v.toInt ≤ n2 ∧ n2 ≤ 80) (hI : fI g s.toInt) (hz : sz.toInt ≤ 3) (ha : ah.toInt ≤ 4) (hpg : ∀ ii : Nat, ii < 5 → pg ii = some (P ii)) (hPQ : ∀ ii jj : Nat, ii < 5 → jj < 5 → ii ≠ jj → P ii ≠ P jj ∧ Q ii ≠ Q jj) (hD : ∀ xx : Nat, xx ∈ [wo, we, stp, pa, p, c1, c2] → xx ∉ scL P Q) (hcT_ : hcT T s v g h) (hE : eE sz ah gl weg stg E) (hF : pF cy P Q f) (hwN : wd.toInt = (wN : Int) ∧ wN < T.length) (hfN : fa.toInt = fN ∧ -1000000 ≤ fN ∧ fN ≤ 1000000) (hd : st.toInt = (d : Int) ∧ d ≤ E.2.2.2.2.2) (hS0 : sOk d S) (hSc : scA cy P Q d S f) (hk2 : 2 ≤ (grH T wN).1) (hk : 41 * (4 - d) + (T.length - wN) ≤ k) (VP : vPE l D cy b wo we stp pa ba td p c1 c2 n1 n2 sz ah gl s v weg stg g h pg P Q T E k) : gC l D cy b yX10_deedValue cX10_deedValue 5 (some .long) (4 + 2 * k + 1) 0 0 [.ref wo, .int wd, .int fa, .int st] f (pL fun r f2 => r = vl T E (nxT T S wN) (psT S (grH T wN) fN) d S ∧ pF cy P Q f2 ∧ fr (scL P Q) f f2 ∧ kpS P Q d f f2) := by
  refine gC_of (by decide) (Nat.le_of_ble_eq_true rfl) ?_
  have hsc : scI st = d := by rw [scI_eq (by omega) (by have z9 := hE.2.1.2; omega), hd.1]; rfl
  have hscd : scI st ≤ d := by omega
  obtain ⟨da, t, hP0, hQ0, hSn⟩ := hSc
  rw [← hsc] at hP0 hQ0
  obtain ⟨⟨hok, hvT_, h4, hoT⟩, esT, hG, _⟩ := hc_lk (n1 := n1) hcT_
  have hnx := nxt_S (n1 := n1) hs hSn hcT_ hwN.1 hwN.2 hk2
  have hnl := nx_lk (S := S) hok hvT_ hwN.2 hk2
  show gG l _ _ _ D cy b cX10_deedValue 5 _ RX10 "deedValue" 0 0 f 0 [(0, .ref wo), (1, .int wd), (2, .int fa), (3, .int st)] []
  refine gz_aload_n dX10_deedValue_0 rfl rfl ?_
  refine gz_iload_n dX10_deedValue_1 rfl rfl ?_
  refine scX10_66 (k_X10_sceneAt (st := st) hwo hpa) hwo ⟨(by simp only [gRm]; omega), (by simp only [gRm]; omega)⟩ ⟨(Nat.le_of_ble_eq_true rfl), (Nat.le_of_ble_eq_true rfl)⟩ rfl rfl (Nat.le_of_ble_eq_true rfl) dX10_deedValue_2 ?_
  rintro u9 f9 ⟨z9, y9⟩; rw [z9, y9]
  refine gz_ev (w := .ref (P (scI st))) (by rw [hpg _ (scI_lt st)]; rfl) ?_
  refine gz_astore (lv' := [(4, .ref (P (scI st))), (0, .ref wo), (1, .int wd), (2, .int fa), (3, .int st)]) dX10_deedValue_5 (by decide) rfl ?_
  refine gz_aload_n dX10_deedValue_7 rfl rfl ?_
  refine gz_aload_n dX10_deedValue_8 rfl rfl ?_
  refine sgX10_37 hwo rfl dX10_deedValue_9 ?_
  refine gz_iload_n dX10_deedValue_12 rfl rfl ?_
  refine gz_aload dX10_deedValue_13 rfl ?_
  refine scX10_113 (k_X2_nextDeed (w := wd) hp h1 hP0 hs) hp ⟨(by simp only [gRm]; omega), (by simp only [gRm]; omega)⟩ ⟨(Nat.le_of_ble_eq_true rfl), (Nat.le_of_ble_eq_true rfl)⟩ rfl rfl (Nat.le_of_ble_eq_true rfl) dX10_deedValue_15 ?_
  intro v9 f9 z9; rw [z9.1, z9.2]
  refine gz_aload_n dX10_deedValue_18 rfl rfl ?_
  refine sgX10_37 hwo rfl dX10_deedValue_19 ?_
  refine gz_iload_n dX10_deedValue_22 rfl rfl ?_
  refine gz_iload_n dX10_deedValue_23 rfl rfl ?_
  refine gz_aload dX10_deedValue_24 rfl ?_
  refine scX10_117 (k_X2_passed (w := wd) (x := fa) hp h1 h2 hP0 hQ0 hs hv) hp ⟨(by simp only [gRm]; omega), (by simp only [gRm]; omega)⟩ ⟨(Nat.le_of_ble_eq_true rfl), (Nat.le_of_ble_eq_true rfl)⟩ rfl rfl (Nat.le_of_ble_eq_true rfl) dX10_deedValue_26 ?_
  intro v9 f9 z9; rw [z9.1, z9.2]
  refine gz_iload_n dX10_deedValue_29 rfl rfl ?_
  refine scX10_83 (VP (nxtF n1 g s da wd) (pasF n1 n2 g h s v t da wd fa) st (nxT T S wN) (psT S (grH T wN) fN) d S _ hwo hwe hst hpa hp h1 h2 hF ⟨hnx, hnl.2⟩ ⟨pas_S hs hv hSn hcT_ hwN.1 hwN.2 hfN.1 hfN.2, psT_b hfN.2⟩ hd hS0 ⟨_, _, (by rw [← hsc]; exact hP0), (by rw [← hsc]; exact hQ0), hSn⟩ (by omega)) hwo ⟨(by simp only [gRm]; omega), (by simp only [gRm]; omega)⟩ ⟨(Nat.le_of_ble_eq_true rfl), (Nat.le_of_ble_eq_true rfl)⟩ rfl rfl (Nat.le_of_ble_eq_true rfl) dX10_deedValue_30 ?_
  rintro r1 f1 ⟨he1, hF1, hr1, hk1⟩
  have hwo_1 : f1 wo = some (.inr (10, [.int sz, .ref we, .ref stp, .ref pa, .ref ba, .ref td, .ref p, .int ah, .int gl])) := hr1 _ _ hwo (hD _ (by simp))
  have hwe_1 : f1 we = some (.inl (cy 0, 3, .inl (weg))) := hr1 _ _ hwe (hD _ (by simp))
  have hst_1 : f1 stp = some (.inl (cy 0, 18, .inl (stg))) := hr1 _ _ hst (hD _ (by simp))
  have hpa_1 : f1 pa = some (.inl (cy 6, 5, .inr (.inr (.inr (.inr (pg)))))) := hr1 _ _ hpa (hD _ (by simp))
  have hp_1 : f1 p = some (.inr (2, [.ref c1, .ref c2, .int s, .int v])) := hr1 _ _ hp (hD _ (by simp))
  have h1_1 : f1 c1 = some (.inl (cy 0, n1, .inl (g))) := hr1 _ _ h1 (hD _ (by simp))
  have h2_1 : f1 c2 = some (.inl (cy 0, n2, .inl (h))) := hr1 _ _ h2 (hD _ (by simp))
  have hP0_1 : f1 (P (scI st)) = some (.inr (7, [.ref (Q (scI st)), .int da])) := ((hk1 _ hscd).1).trans hP0
  have hQ0_1 : f1 (Q (scI st)) = some (.inl (cy 0, 6, .inl (t))) := ((hk1 _ hscd).2).trans hQ0
  exact gz_lret rfl dX10_deedValue_33 (Nat.le_of_ble_eq_true rfl) (Nat.le_of_ble_eq_true rfl) (⟨_, rfl, he1, hF1, (fr_tr fr_rf (fr_mo hr1 (by simp))), (kpS_tr kpS_rf hk1)⟩)

set_option maxHeartbeats 4000000 in
set_option maxRecDepth 100000 in
theorem l_X10_waitingE {l : Launch} {D : va_G} {cy : Nat → ClassId} {b : Nat} {f : gMem} {wo we stp pa ba td p c1 c2 n1 n2 : Nat} {sz ah gl s v : Int32} {weg stg g h : Nat → Int32} {pg : Nat → Option Nat} {P Q : Nat → Nat} {wd fa st : Int32}  {T : List Hd} {E : We} {fN : Int} {wN d k0 : Nat} {S : Sn} {da : Int32} {t : Nat → Int32} (hs : 0 ≤ s.toInt ∧ 13 * s.toInt ≤ n1 ∧ n1 ≤ 520) (hv : 0 ≤ v.toInt ∧ 2 * v.toInt ≤ n2 ∧ n2 ≤ 80) (hI : fI g s.toInt) (hz : sz.toInt ≤ 3) (ha : ah.toInt ≤ 4) (hpg : ∀ ii : Nat, ii < 5 → pg ii = some (P ii)) (hPQ : ∀ ii jj : Nat, ii < 5 → jj < 5 → ii ≠ jj → P ii ≠ P jj ∧ Q ii ≠ Q jj) (hD : ∀ xx : Nat, xx ∈ [wo, we, stp, pa, p, c1, c2] → xx ∉ scL P Q) (hcT_ : hcT T s v g h) (hE : eE sz ah gl weg stg E) (hwN : wd.toInt = (wN : Int) ∧ wN < T.length) (hfN : fa.toInt = fN ∧ -1000000 ≤ fN ∧ fN ≤ 1000000) (hd : st.toInt = (d : Int) ∧ d ≤ E.2.2.2.2.2) (hS0 : sOk d S) (hk0 : 41 * (4 - d) + (T.length - wN) ≤ k0) (VP : vPE l D cy b wo we stp pa ba td p c1 c2 n1 n2 sz ah gl s v weg stg g h pg P Q T E k0) (hdD : d < E.2.2.2.2.2) (hSn : sCn S da t) (hsc : scI st = d) (hscd : scI st ≤ d) : ∀ (k : Nat) (i : Int32) (al : Int64) (fm : gMem), fr (scL P Q) f fm → (fm wo = some (.inr (10, [.int sz, .ref we, .ref stp, .ref pa, .ref ba, .ref td, .ref p, .int ah, .int gl]))) → (fm we = some (.inl (cy 0, 3, .inl (weg)))) → (fm stp = some (.inl (cy 0, 18, .inl (stg)))) → (fm pa = some (.inl (cy 6, 5, .inr (.inr (.inr (.inr (pg))))))) → (fm p = some (.inr (2, [.ref c1, .ref c2, .int s, .int v]))) → (fm c1 = some (.inl (cy 0, n1, .inl (g)))) → (fm c2 = some (.inl (cy 0, n2, .inl (h)))) → (fm (P (scI st)) = some (.inr (7, [.ref (Q (scI st)), .int da]))) → (fm (Q (scI st)) = some (.inl (cy 0, 6, .inl (t)))) → (pF cy P Q fm) → (kpS P Q d f fm) → (al = foW E.2.2.2.2.1 E.2.1 (fun y => vl T E wN fN (d + 1) (goS E S y)) i.toInt.toNat) → (0 ≤ i.toInt ∧ i.toInt ≤ sz.toInt ∧ sz.toInt - i.toInt < (k : Int)) → gG l (gRm (4 + 2 * k0 + 1) 0 0) (gQf D b (pL fun r f2 => r = wl T E wN fN d S ∧ pF cy P Q f2 ∧ fr (scL P Q) f f2 ∧ kpS P Q d f f2) 0 0) gTt D cy b cX10_waiting 9 (some .long) RX10 "waiting" (0) (0) fm 16 [(6, .int i), (4, .long al), (0, .ref wo), (1, .int wd), (2, .int fa), (3, .int st)] [] := by
  intro k
  induction k with
  | zero =>
    intro i al fm hfr hwo hwe hst hpa hp h1 h2 hP0 hQ0 hF hkp hal hk
    exfalso; omega
  | succ k ih =>
    intro i al fm hfr hwo hwe hst hpa hp h1 h2 hP0 hQ0 hF hkp hal hk
    have hzz := hE.1; have hDD := hE.2.1
    refine gz_iload dX10_waiting_16 rfl ?_
    refine gz_aload_n dX10_waiting_18 rfl rfl ?_
    refine sgX10_9 hwo rfl dX10_waiting_19 ?_
    refine gz_icmp_ge (tgt := 112) dX10_waiting_22 (by decide) (fun c_22 => ?_) (fun c_22 => ?_)
    ·
      refine gz_lload dX10_waiting_112 rfl ?_
      exact gz_lret rfl dX10_waiting_114 (Nat.zero_le _) (Nat.zero_le _) (⟨_, rfl, (by unfold wl; rw [if_pos hdD, hal, show i.toInt.toNat = E.2.2.1 by have q22 := c_22; simp only [fl_le] at q22; have z9 := hE.1.1; omega]), hF, hfr, hkp⟩)
    ·
      refine gz_aload_n dX10_waiting_25 rfl rfl ?_
      refine gz_iload_n dX10_waiting_26 rfl rfl ?_
      refine gz_iload dX10_waiting_27 rfl ?_
      have hs1 : (st + 1).toInt = st.toInt + 1 := by have e1 : (1 : Int32).toInt = 1 := rfl; exact T_add (rfl : st.toInt = st.toInt) e1 (by omega)
      have hsc1 : scI (st + 1) = d + 1 := by rw [scI_eq (by omega) (by omega), hs1, hd.1]; rfl
      have hsn : scI st ≠ scI (st + 1) := by rw [hsc, hsc1]; omega
      obtain ⟨dau1, tu1, hPu1, hQu1⟩ := hF (scI (st + 1)) (scI_lt (st + 1))
      have hz1 := hPQ _ _ (scI_lt st) (scI_lt (st + 1)) hsn
      have hiw : 0 ≤ i.toInt ∧ i.toInt ≤ 2 := by have q22 := c_22; simp only [fl_le] at q22; omega
      refine scX10_126 (k_X10_goE (st := st) (wy := i) hwo hst hpa hP0 hQ0 hPu1 hQu1 ⟨hz1.2, hz1.1, (fun q => hD stp (by simp) (q ▸ (scL_in (scI_lt (st + 1))).2))⟩ (hpg _ (scI_lt st)) (hpg _ (scI_lt (st + 1))) hiw) hwo ⟨(by simp only [gRm]; omega), (by simp only [gRm]; omega)⟩ ⟨(Nat.zero_le _), (Nat.zero_le _)⟩ rfl rfl (Nat.le_of_ble_eq_true rfl) dX10_waiting_29 ?_
      rintro f1 ⟨d1, t1, hga, hgb, hgc, hgr1⟩
      have hF1 := pF_up (scI_lt (st + 1)) hPQ hF hga hgb hgr1
      have hr1 := fr_mo hgr1 (scL_sub (P := P) (Q := Q) (scI_lt (st + 1)))
      have hk1 := kpS_go (k := d) (scI_lt (st + 1)) (by omega) hPQ hF hgr1
      have hSc1 : scA cy P Q (d + 1) (goS E S i.toInt.toNat) f1 := by rw [hsc1] at hga hgb; exact ⟨_, _, hga, hgb, by rw [hgc.1]; show (da + 1).toInt = S.1 + 1; exact T_add hSn.1 (show (1 : Int32).toInt = 1 from rfl) (by have z9 := hE.2.1.2; have z8 := hS0.1; omega), fun j hj => by rw [hgc.2 j hj, hE.2.2.2.1.1 _ _ (by omega) hj]; show _ = S.2 j + (E.1 i.toInt.toNat j).toInt; exact T_add (hSn.2 j hj) rfl (by have z9 := hE.2.1.2; have z8 := hS0.2 j hj; have z7 := hE.2.2.2.1.2 i.toInt.toNat j (by omega) hj; omega)⟩
      clear hsn hz1 hga hgb hgc hgr1
      have hwo_1 : f1 wo = some (.inr (10, [.int sz, .ref we, .ref stp, .ref pa, .ref ba, .ref td, .ref p, .int ah, .int gl])) := hr1 _ _ hwo (hD _ (by simp))
      have hwe_1 : f1 we = some (.inl (cy 0, 3, .inl (weg))) := hr1 _ _ hwe (hD _ (by simp))
      have hst_1 : f1 stp = some (.inl (cy 0, 18, .inl (stg))) := hr1 _ _ hst (hD _ (by simp))
      have hpa_1 : f1 pa = some (.inl (cy 6, 5, .inr (.inr (.inr (.inr (pg)))))) := hr1 _ _ hpa (hD _ (by simp))
      have hp_1 : f1 p = some (.inr (2, [.ref c1, .ref c2, .int s, .int v])) := hr1 _ _ hp (hD _ (by simp))
      have h1_1 : f1 c1 = some (.inl (cy 0, n1, .inl (g))) := hr1 _ _ h1 (hD _ (by simp))
      have h2_1 : f1 c2 = some (.inl (cy 0, n2, .inl (h))) := hr1 _ _ h2 (hD _ (by simp))
      have hP0_1 : f1 (P (scI st)) = some (.inr (7, [.ref (Q (scI st)), .int da])) := ((hk1 _ hscd).1).trans hP0
      have hQ0_1 : f1 (Q (scI st)) = some (.inl (cy 0, 6, .inl (t))) := ((hk1 _ hscd).2).trans hQ0
      refine gz_aload_n dX10_waiting_32 rfl rfl ?_
      refine gz_iload_n dX10_waiting_33 rfl rfl ?_
      refine gz_iload_n dX10_waiting_34 rfl rfl ?_
      refine gz_iload_n dX10_waiting_35 rfl rfl ?_
      refine gz_iconst (v := 1) dX10_waiting_36 (by decide) ?_
      refine gz_iadd dX10_waiting_37 ?_
      refine scX10_83 (VP wd fa (st + 1) wN fN (d + 1) (goS E S i.toInt.toNat) _ hwo_1 hwe_1 hst_1 hpa_1 hp_1 h1_1 h2_1 hF1 hwN hfN ⟨by rw [hs1, hd.1]; rfl, by omega⟩ (sOk_go hS0 hE.2.2.2.1.2 (by omega)) hSc1 (by omega)) hwo_1 ⟨(by simp only [gRm]; omega), (by simp only [gRm]; omega)⟩ ⟨(Nat.zero_le _), (Nat.zero_le _)⟩ rfl rfl (Nat.le_of_ble_eq_true rfl) dX10_waiting_38 ?_
      rintro r2 f2 ⟨he2, hF2, hr2, hkq2⟩
      have hk2 := kpS_mo hkq2 (Nat.le_succ d)
      have hwo_2 : f2 wo = some (.inr (10, [.int sz, .ref we, .ref stp, .ref pa, .ref ba, .ref td, .ref p, .int ah, .int gl])) := hr2 _ _ hwo_1 (hD _ (by simp))
      have hwe_2 : f2 we = some (.inl (cy 0, 3, .inl (weg))) := hr2 _ _ hwe_1 (hD _ (by simp))
      have hst_2 : f2 stp = some (.inl (cy 0, 18, .inl (stg))) := hr2 _ _ hst_1 (hD _ (by simp))
      have hpa_2 : f2 pa = some (.inl (cy 6, 5, .inr (.inr (.inr (.inr (pg)))))) := hr2 _ _ hpa_1 (hD _ (by simp))
      have hp_2 : f2 p = some (.inr (2, [.ref c1, .ref c2, .int s, .int v])) := hr2 _ _ hp_1 (hD _ (by simp))
      have h1_2 : f2 c1 = some (.inl (cy 0, n1, .inl (g))) := hr2 _ _ h1_1 (hD _ (by simp))
      have h2_2 : f2 c2 = some (.inl (cy 0, n2, .inl (h))) := hr2 _ _ h2_1 (hD _ (by simp))
      have hP0_2 : f2 (P (scI st)) = some (.inr (7, [.ref (Q (scI st)), .int da])) := ((hk2 _ hscd).1).trans hP0_1
      have hQ0_2 : f2 (Q (scI st)) = some (.inl (cy 0, 6, .inl (t))) := ((hk2 _ hscd).2).trans hQ0_1
      refine gz_lstore (lv' := [(7, .long r2), (6, .int i), (4, .long al), (0, .ref wo), (1, .int wd), (2, .int fa), (3, .int st)]) dX10_waiting_41 (by decide) rfl ?_
      refine gz_aload_n dX10_waiting_43 rfl rfl ?_
      refine sgX10_80 hwo_2 rfl dX10_waiting_44 ?_
      refine gz_if_ne (tgt := 67) dX10_waiting_47 (by decide) (fun c_47 => ?_) (fun c_47 => ?_)
      ·
        refine gz_iload dX10_waiting_67 rfl ?_
        refine gz_if_ne (tgt := 79) dX10_waiting_69 (by decide) (fun c_69 => ?_) (fun c_69 => ?_)
        ·
          refine gz_aload_n dX10_waiting_79 rfl rfl ?_
          refine sgX10_80 hwo_2 rfl dX10_waiting_80 ?_
          refine gz_iconst (v := 1) dX10_waiting_83 (by decide) ?_
          refine gz_icmp_ne (tgt := 97) dX10_waiting_84 (by decide) (fun c_84 => ?_) (fun c_84 => ?_)
          ·
            refine gz_lload dX10_waiting_97 rfl ?_
            refine gz_lload dX10_waiting_99 rfl ?_
            refine scX10_121 (by simp only [gRm]; omega) (by simp only [gRm]; omega) (Nat.zero_le _) (Nat.zero_le _) (Nat.le_of_ble_eq_true rfl) dX10_waiting_101 ?_
            refine gz_lstore (lv' := [(4, .long (if r2 < al then al else r2)), (7, .long r2), (6, .int i), (0, .ref wo), (1, .int wd), (2, .int fa), (3, .int st)]) dX10_waiting_104 (by decide) rfl ?_
            refine gz_iinc (v := (i + 1)) (lv' := [(6, .int (i + 1)), (4, .long (if r2 < al then al else r2)), (7, .long r2), (0, .ref wo), (1, .int wd), (2, .int fa), (3, .int st)]) dX10_waiting_106 rfl rfl (by decide) rfl ?_
            refine gz_goto (tgt := 16) dX10_waiting_109 (by decide) ?_
            refine gz_sub (lv' := [(6, .int (i + 1)), (4, .long (if r2 < al then al else r2)), (0, .ref wo), (1, .int wd), (2, .int fa), (3, .int st)]) (by simp [List.lookup]) ?_
            exact ih (i + 1) (if r2 < al then al else r2) _ (fr_tr (fr_tr hfr (fr_mo hr1 (by simp))) (fr_mo hr2 (by simp))) hwo_2 hwe_2 hst_2 hpa_2 hp_2 h1_2 h2_2 hP0_2 hQ0_2 (hF2) ((kpS_tr hkp (kpS_tr (kpS_tr kpS_rf hk1) hk2))) (by have e1 : (1 : Int32).toInt = 1 := rfl; have q22 := c_22; simp only [fl_le] at q22; have hx := T_add (rfl : i.toInt = i.toInt) e1 (by omega); have hmd := hE.2.2.1; rw [show (i + 1).toInt.toNat = i.toInt.toNat + 1 by omega]; exact (foW_up hal he2).2.2.2 (fun z => c_47 (Int32.toInt_inj.mp (by rw [hmd, z]; rfl))) (fun z => c_84 (Int32.toInt_inj.mp (by rw [hmd, z]; rfl))) (fun z => c_69 (Int32.toInt_inj.mp (by have e0 : (0 : Int32).toInt = 0 := rfl; omega)))) (by have e1 : (1 : Int32).toInt = 1 := rfl; have q22 := c_22; simp only [fl_le] at q22; have hx := T_add (rfl : i.toInt = i.toInt) e1 (by omega); exact ⟨by omega, by omega, by omega⟩)
          ·
            refine gz_lload dX10_waiting_87 rfl ?_
            refine gz_lload dX10_waiting_89 rfl ?_
            refine scX10_124 (by simp only [gRm]; omega) (by simp only [gRm]; omega) (Nat.zero_le _) (Nat.zero_le _) (Nat.le_of_ble_eq_true rfl) dX10_waiting_91 ?_
            refine gz_goto (tgt := 104) dX10_waiting_94 (by decide) ?_
            refine gz_lstore (lv' := [(4, .long (if r2 < al then r2 else al)), (7, .long r2), (6, .int i), (0, .ref wo), (1, .int wd), (2, .int fa), (3, .int st)]) dX10_waiting_104 (by decide) rfl ?_
            refine gz_iinc (v := (i + 1)) (lv' := [(6, .int (i + 1)), (4, .long (if r2 < al then r2 else al)), (7, .long r2), (0, .ref wo), (1, .int wd), (2, .int fa), (3, .int st)]) dX10_waiting_106 rfl rfl (by decide) rfl ?_
            refine gz_goto (tgt := 16) dX10_waiting_109 (by decide) ?_
            refine gz_sub (lv' := [(6, .int (i + 1)), (4, .long (if r2 < al then r2 else al)), (0, .ref wo), (1, .int wd), (2, .int fa), (3, .int st)]) (by simp [List.lookup]) ?_
            exact ih (i + 1) (if r2 < al then r2 else al) _ (fr_tr (fr_tr hfr (fr_mo hr1 (by simp))) (fr_mo hr2 (by simp))) hwo_2 hwe_2 hst_2 hpa_2 hp_2 h1_2 h2_2 hP0_2 hQ0_2 (hF2) ((kpS_tr hkp (kpS_tr (kpS_tr kpS_rf hk1) hk2))) (by have e1 : (1 : Int32).toInt = 1 := rfl; have q22 := c_22; simp only [fl_le] at q22; have hx := T_add (rfl : i.toInt = i.toInt) e1 (by omega); have hmd := hE.2.2.1; rw [show (i + 1).toInt.toNat = i.toInt.toNat + 1 by omega]; exact (foW_up hal he2).2.2.1 (by have q := congrArg Int32.toInt c_84; have e1_ : (1 : Int32).toInt = 1 := rfl; omega) (fun z => c_69 (Int32.toInt_inj.mp (by have e0 : (0 : Int32).toInt = 0 := rfl; omega)))) (by have e1 : (1 : Int32).toInt = 1 := rfl; have q22 := c_22; simp only [fl_le] at q22; have hx := T_add (rfl : i.toInt = i.toInt) e1 (by omega); exact ⟨by omega, by omega, by omega⟩)
        ·
          refine gz_lload dX10_waiting_72 rfl ?_
          refine gz_lstore (lv' := [(4, .long r2), (7, .long r2), (6, .int i), (0, .ref wo), (1, .int wd), (2, .int fa), (3, .int st)]) dX10_waiting_74 (by decide) rfl ?_
          refine gz_goto (tgt := 106) dX10_waiting_76 (by decide) ?_
          refine gz_iinc (v := (i + 1)) (lv' := [(6, .int (i + 1)), (4, .long r2), (7, .long r2), (0, .ref wo), (1, .int wd), (2, .int fa), (3, .int st)]) dX10_waiting_106 rfl rfl (by decide) rfl ?_
          refine gz_goto (tgt := 16) dX10_waiting_109 (by decide) ?_
          refine gz_sub (lv' := [(6, .int (i + 1)), (4, .long r2), (0, .ref wo), (1, .int wd), (2, .int fa), (3, .int st)]) (by simp [List.lookup]) ?_
          exact ih (i + 1) r2 _ (fr_tr (fr_tr hfr (fr_mo hr1 (by simp))) (fr_mo hr2 (by simp))) hwo_2 hwe_2 hst_2 hpa_2 hp_2 h1_2 h2_2 hP0_2 hQ0_2 (hF2) ((kpS_tr hkp (kpS_tr (kpS_tr kpS_rf hk1) hk2))) (by have e1 : (1 : Int32).toInt = 1 := rfl; have q22 := c_22; simp only [fl_le] at q22; have hx := T_add (rfl : i.toInt = i.toInt) e1 (by omega); have hmd := hE.2.2.1; rw [show (i + 1).toInt.toNat = i.toInt.toNat + 1 by omega]; exact (foW_up hal he2).2.1 (fun z => c_47 (Int32.toInt_inj.mp (by rw [hmd, z]; rfl))) (by have q := congrArg Int32.toInt c_69; have e0 : (0 : Int32).toInt = 0 := rfl; omega)) (by have e1 : (1 : Int32).toInt = 1 := rfl; have q22 := c_22; simp only [fl_le] at q22; have hx := T_add (rfl : i.toInt = i.toInt) e1 (by omega); exact ⟨by omega, by omega, by omega⟩)
      ·
        refine gz_lload dX10_waiting_50 rfl ?_
        refine gz_aload_n dX10_waiting_52 rfl rfl ?_
        refine gz_iload dX10_waiting_53 rfl ?_
        refine scX10_46 (k_X10_weightOf (x := i) hwo_2 hwe_2) hwo_2 ⟨(by simp only [gRm]; omega), (by simp only [gRm]; omega)⟩ ⟨(Nat.zero_le _), (Nat.zero_le _)⟩ rfl rfl (Nat.le_of_ble_eq_true rfl) dX10_waiting_55 ?_
        intro v9 f9 z9; rw [z9.1, z9.2]
        refine gz_lload dX10_waiting_58 rfl ?_
        refine gz_lmul dX10_waiting_60 ?_
        refine gz_ladd dX10_waiting_61 ?_
        refine gz_lstore (lv' := [(4, .long (al + ((wgoF weg i) * r2))), (7, .long r2), (6, .int i), (0, .ref wo), (1, .int wd), (2, .int fa), (3, .int st)]) dX10_waiting_62 (by decide) rfl ?_
        refine gz_goto (tgt := 106) dX10_waiting_64 (by decide) ?_
        refine gz_iinc (v := (i + 1)) (lv' := [(6, .int (i + 1)), (4, .long (al + ((wgoF weg i) * r2))), (7, .long r2), (0, .ref wo), (1, .int wd), (2, .int fa), (3, .int st)]) dX10_waiting_106 rfl rfl (by decide) rfl ?_
        refine gz_goto (tgt := 16) dX10_waiting_109 (by decide) ?_
        refine gz_sub (lv' := [(6, .int (i + 1)), (4, .long (al + ((wgoF weg i) * r2))), (0, .ref wo), (1, .int wd), (2, .int fa), (3, .int st)]) (by simp [List.lookup]) ?_
        exact ih (i + 1) (al + ((wgoF weg i) * r2)) _ (fr_tr (fr_tr hfr (fr_mo hr1 (by simp))) (fr_mo hr2 (by simp))) hwo_2 hwe_2 hst_2 hpa_2 hp_2 h1_2 h2_2 hP0_2 hQ0_2 (hF2) ((kpS_tr hkp (kpS_tr (kpS_tr kpS_rf hk1) hk2))) (by have e1 : (1 : Int32).toInt = 1 := rfl; have q22 := c_22; simp only [fl_le] at q22; have hx := T_add (rfl : i.toInt = i.toInt) e1 (by omega); have hmd := hE.2.2.1; rw [show (i + 1).toInt.toNat = i.toInt.toNat + 1 by omega]; rw [hE.2.2.2.2.1 i (by omega)]; exact (foW_up hal he2).1 (by have q := congrArg Int32.toInt c_47; have e0 : (0 : Int32).toInt = 0 := rfl; omega)) (by have e1 : (1 : Int32).toInt = 1 := rfl; have q22 := c_22; simp only [fl_le] at q22; have hx := T_add (rfl : i.toInt = i.toInt) e1 (by omega); exact ⟨by omega, by omega, by omega⟩)

set_option maxHeartbeats 4000000 in
set_option maxRecDepth 100000 in
theorem k_X10_waitingE {l : Launch} {D : va_G} {cy : Nat → ClassId} {b : Nat} {f : gMem} {wo we stp pa ba td p c1 c2 n1 n2 : Nat} {sz ah gl s v : Int32} {weg stg g h : Nat → Int32} {pg : Nat → Option Nat} {P Q : Nat → Nat} {wd fa st : Int32} {T : List Hd} {E : We} {fN : Int} {wN d k0 : Nat} {S : Sn} (hwo : f wo = some (.inr (10, [.int sz, .ref we, .ref stp, .ref pa, .ref ba, .ref td, .ref p, .int ah, .int gl]))) (hwe : f we = some (.inl (cy 0, 3, .inl (weg)))) (hst : f stp = some (.inl (cy 0, 18, .inl (stg)))) (hpa : f pa = some (.inl (cy 6, 5, .inr (.inr (.inr (.inr (pg))))))) (hp : f p = some (.inr (2, [.ref c1, .ref c2, .int s, .int v]))) (h1 : f c1 = some (.inl (cy 0, n1, .inl (g)))) (h2 : f c2 = some (.inl (cy 0, n2, .inl (h)))) (hs : 0 ≤ s.toInt ∧ 13 * s.toInt ≤ n1 ∧ n1 ≤ 520) (hv : 0 ≤ v.toInt ∧ 2 * v.toInt ≤ n2 ∧ n2 ≤ 80) (hI : fI g s.toInt) (hz : sz.toInt ≤ 3) (ha : ah.toInt ≤ 4) (hpg : ∀ ii : Nat, ii < 5 → pg ii = some (P ii)) (hPQ : ∀ ii jj : Nat, ii < 5 → jj < 5 → ii ≠ jj → P ii ≠ P jj ∧ Q ii ≠ Q jj) (hD : ∀ xx : Nat, xx ∈ [wo, we, stp, pa, p, c1, c2] → xx ∉ scL P Q) (hcT_ : hcT T s v g h) (hE : eE sz ah gl weg stg E) (hF : pF cy P Q f) (hwN : wd.toInt = (wN : Int) ∧ wN < T.length) (hfN : fa.toInt = fN ∧ -1000000 ≤ fN ∧ fN ≤ 1000000) (hd : st.toInt = (d : Int) ∧ d ≤ E.2.2.2.2.2) (hS0 : sOk d S) (hSc : scA cy P Q d S f) (hk0 : 41 * (4 - d) + (T.length - wN) ≤ k0) (VP : vPE l D cy b wo we stp pa ba td p c1 c2 n1 n2 sz ah gl s v weg stg g h pg P Q T E k0) : gC l D cy b yX10_waiting cX10_waiting 9 (some .long) (4 + 2 * k0 + 1) 0 0 [.ref wo, .int wd, .int fa, .int st] f (pL fun r f2 => r = wl T E wN fN d S ∧ pF cy P Q f2 ∧ fr (scL P Q) f f2 ∧ kpS P Q d f f2) := by
  refine gC_of (by decide) (Nat.le_of_ble_eq_true rfl) ?_
  have hsc : scI st = d := by rw [scI_eq (by omega) (by have z9 := hE.2.1.2; omega), hd.1]; rfl
  have hscd : scI st ≤ d := by omega
  obtain ⟨da, t, hP0, hQ0, hSn⟩ := hSc
  rw [← hsc] at hP0 hQ0
  have hDD := hE.2.1
  show gG l _ _ _ D cy b cX10_waiting 9 _ RX10 "waiting" 0 0 f 0 [(0, .ref wo), (1, .int wd), (2, .int fa), (3, .int st)] []
  refine gz_iload_n dX10_waiting_0 rfl rfl ?_
  refine gz_aload_n dX10_waiting_1 rfl rfl ?_
  refine sgX10_56 hwo rfl dX10_waiting_2 ?_
  refine gz_icmp_lt (tgt := 10) dX10_waiting_5 (by decide) (fun c_5 => ?_) (fun c_5 => ?_)
  ·
    refine gz_lconst (v := 0) dX10_waiting_10 (by decide) ?_
    refine gz_lstore (lv' := [(4, .long 0), (0, .ref wo), (1, .int wd), (2, .int fa), (3, .int st)]) dX10_waiting_11 (by decide) rfl ?_
    refine gz_iconst (v := 0) dX10_waiting_13 (by decide) ?_
    refine gz_istore (lv' := [(6, .int 0), (4, .long 0), (0, .ref wo), (1, .int wd), (2, .int fa), (3, .int st)]) dX10_waiting_14 (by decide) rfl ?_
    refine gz_sub (lv' := [(6, .int 0), (4, .long 0), (0, .ref wo), (1, .int wd), (2, .int fa), (3, .int st)]) (by simp [List.lookup]) ?_
    exact l_X10_waitingE hs hv hI hz ha hpg hPQ hD hcT_ hE hwN hfN hd hS0 hk0 VP (by have q5 := c_5; simp only [fl_lt] at q5; omega) hSn hsc hscd 4 0 0 _ fr_rf hwo hwe hst hpa hp h1 h2 hP0 hQ0 (hF) (kpS_rf) (rfl) (by have e0 : (0 : Int32).toInt = 0 := rfl; have z9 := hE.1; omega)
  ·
    refine gz_lconst (v := 0) dX10_waiting_8 (by decide) ?_
    exact gz_lret rfl dX10_waiting_9 (Nat.le_of_ble_eq_true rfl) (Nat.le_of_ble_eq_true rfl) (⟨_, rfl, (by unfold wl; rw [if_neg (by have q5 := c_5; simp only [fl_lt] at q5; omega)]), hF, fr_rf, kpS_rf⟩)

set_option maxHeartbeats 4000000 in
set_option maxRecDepth 100000 in
theorem k_X10_valueE {l : Launch} {D : va_G} {cy : Nat → ClassId} {b : Nat} {wo we stp pa ba td p c1 c2 n1 n2 : Nat} {sz ah gl s v : Int32} {weg stg g h : Nat → Int32} {pg : Nat → Option Nat} {P Q : Nat → Nat}  {T : List Hd} {E : We}  (hs : 0 ≤ s.toInt ∧ 13 * s.toInt ≤ n1 ∧ n1 ≤ 520) (hv : 0 ≤ v.toInt ∧ 2 * v.toInt ≤ n2 ∧ n2 ≤ 80) (hI : fI g s.toInt) (hz : sz.toInt ≤ 3) (ha : ah.toInt ≤ 4) (hpg : ∀ ii : Nat, ii < 5 → pg ii = some (P ii)) (hPQ : ∀ ii jj : Nat, ii < 5 → jj < 5 → ii ≠ jj → P ii ≠ P jj ∧ Q ii ≠ Q jj) (hD : ∀ xx : Nat, xx ∈ [wo, we, stp, pa, p, c1, c2] → xx ∉ scL P Q) (hcT_ : hcT T s v g h) (hE : eE sz ah gl weg stg E) : ∀ (k : Nat) (wd fa st : Int32) (wN : Nat) (fN : Int) (d : Nat) (S : Sn) (f : gMem), (f wo = some (.inr (10, [.int sz, .ref we, .ref stp, .ref pa, .ref ba, .ref td, .ref p, .int ah, .int gl]))) → (f we = some (.inl (cy 0, 3, .inl (weg)))) → (f stp = some (.inl (cy 0, 18, .inl (stg)))) → (f pa = some (.inl (cy 6, 5, .inr (.inr (.inr (.inr (pg))))))) → (f p = some (.inr (2, [.ref c1, .ref c2, .int s, .int v]))) → (f c1 = some (.inl (cy 0, n1, .inl (g)))) → (f c2 = some (.inl (cy 0, n2, .inl (h)))) → (pF cy P Q f) → (wd.toInt = (wN : Int) ∧ wN < T.length) → (fa.toInt = fN ∧ -1000000 ≤ fN ∧ fN ≤ 1000000) → (st.toInt = (d : Int) ∧ d ≤ E.2.2.2.2.2) → (sOk d S) → (scA cy P Q d S f) → (41 * (4 - d) + (T.length - wN) < k) → gC l D cy b yX10_value cX10_value 8 (some .long) (4 + 2 * k) 0 0 [.ref wo, .int wd, .int fa, .int st] f (pL fun r f2 => r = vl T E wN fN d S ∧ pF cy P Q f2 ∧ fr (scL P Q) f f2 ∧ kpS P Q d f f2) := by
  intro k
  induction k with
  | zero =>
    intro wd fa st wN fN d S f hwo hwe hst hpa hp h1 h2 hF hwN hfN hd hS0 hSc hk
    exfalso; omega
  | succ k ih =>
    intro wd fa st wN fN d S f hwo hwe hst hpa hp h1 h2 hF hwN hfN hd hS0 hSc hk
    have hsc : scI st = d := by rw [scI_eq (by omega) (by have z9 := hE.2.1.2; omega), hd.1]; rfl
    have hscd : scI st ≤ d := by omega
    obtain ⟨da, t, hP0, hQ0, hSn⟩ := hSc
    rw [← hsc] at hP0 hQ0
    obtain ⟨⟨hok, hvT_, h4, hoT⟩, esT, hG, _⟩ := hc_lk (n1 := n1) hcT_
    have hlp := lps_S (n1 := n1) (n2 := n2) hs hv hSn hcT_ hwN.1 hwN.2
    have hfk := (fk_S (n1 := n1) hs hcT_ hwN.1 hwN.2)
    have hkv := (gr_lk hok hvT_ hwN.2).1.1
    have hgr := gr_lk hok hvT_ hwN.2
    refine gC_of (by decide) (Nat.le_of_ble_eq_true rfl) ?_
    show gG l _ _ _ D cy b cX10_value 8 _ RX10 "value" 0 0 f 0 [(0, .ref wo), (1, .int wd), (2, .int fa), (3, .int st)] []
    refine gz_aload_n dX10_value_0 rfl rfl ?_
    refine gz_iload_n dX10_value_1 rfl rfl ?_
    refine scX10_66 (k_X10_sceneAt (st := st) hwo hpa) hwo ⟨(by simp only [gRm]; omega), (by simp only [gRm]; omega)⟩ ⟨(Nat.le_of_ble_eq_true rfl), (Nat.le_of_ble_eq_true rfl)⟩ rfl rfl (Nat.le_of_ble_eq_true rfl) dX10_value_2 ?_
    rintro u9 f9 ⟨z9, y9⟩; rw [z9, y9]
    refine gz_ev (w := .ref (P (scI st))) (by rw [hpg _ (scI_lt st)]; rfl) ?_
    refine gz_astore (lv' := [(4, .ref (P (scI st))), (0, .ref wo), (1, .int wd), (2, .int fa), (3, .int st)]) dX10_value_5 (by decide) rfl ?_
    refine gz_iload_n dX10_value_7 rfl rfl ?_
    refine gz_if_lt (tgt := 24) dX10_value_8 (by decide) (fun c_8 => ?_) (fun c_8 => ?_)
    · exfalso; have e0_ : (0 : Int32).toInt = 0 := rfl; simp only [fl_lt] at c_8; omega
    ·
      refine gz_aload_n dX10_value_11 rfl rfl ?_
      refine sgX10_37 hwo rfl dX10_value_12 ?_
      refine gz_iload_n dX10_value_15 rfl rfl ?_
      refine gz_aload dX10_value_16 rfl ?_
      refine scX10_87 (k_X2_lapsed (w := wd) hp h1 h2 hP0 hQ0 hs hv) hp ⟨(by simp only [gRm]; omega), (by simp only [gRm]; omega)⟩ ⟨(Nat.le_of_ble_eq_true rfl), (Nat.le_of_ble_eq_true rfl)⟩ rfl rfl (Nat.le_of_ble_eq_true rfl) dX10_value_18 ?_
      intro v9 f9 z9; rw [z9.1, z9.2]
      refine gz_if_eq (tgt := 26) dX10_value_21 (by decide) (fun c_21 => ?_) (fun c_21 => ?_)
      ·
        refine gz_aload_n dX10_value_26 rfl rfl ?_
        refine sgX10_37 hwo rfl dX10_value_27 ?_
        refine gz_iload_n dX10_value_30 rfl rfl ?_
        refine gz_iconst (v := 0) dX10_value_31 (by decide) ?_
        refine scX10_91 (k_X2_field (w := wd) (k := 0) hp h1 hs) hp ⟨(by simp only [gRm]; omega), (by simp only [gRm]; omega)⟩ ⟨(Nat.le_of_ble_eq_true rfl), (Nat.le_of_ble_eq_true rfl)⟩ rfl rfl (Nat.le_of_ble_eq_true rfl) dX10_value_32 ?_
        intro v9 f9 z9; rw [z9.1, z9.2]
        refine gz_istore (lv' := [(5, .int (fldF n1 g s wd 0)), (4, .ref (P (scI st))), (0, .ref wo), (1, .int wd), (2, .int fa), (3, .int st)]) dX10_value_35 (by decide) rfl ?_
        refine gz_iload dX10_value_37 rfl ?_
        by_cases hw_39_0 : (fldF n1 g s wd 0) = (-1)
        ·
          refine gz_ev (w := .int (-1)) (congrArg Value.int hw_39_0) ?_
          refine gz_tableIn (off := 49) (tgt := 88) dX10_value_39 (by decide) (by decide) rfl (by decide) ?_
          refine gz_lconst (v := 0) dX10_value_88 (by decide) ?_
          have hl0 : lpT T S wN = false := by rw [hlp] at c_21; exact b01.mp c_21
          have zk39_0 : (fldF n1 g s wd 0).toInt = -1 := by rw [hw_39_0]; rfl
          have hk_ := hfk.1
          exact gz_lret rfl dX10_value_89 (Nat.le_of_ble_eq_true rfl) (Nat.le_of_ble_eq_true rfl) (⟨_, rfl, (by exfalso; omega), hF, fr_rf, kpS_rf⟩)
        ·
          by_cases hw_39_1 : (fldF n1 g s wd 0) = 0
          ·
            refine gz_ev (w := .int 0) (congrArg Value.int hw_39_1) ?_
            refine gz_tableIn (off := 49) (tgt := 88) dX10_value_39 (by decide) (by decide) rfl (by decide) ?_
            refine gz_lconst (v := 0) dX10_value_88 (by decide) ?_
            have hl0 : lpT T S wN = false := by rw [hlp] at c_21; exact b01.mp c_21
            have zk39_0 : (fldF n1 g s wd 0).toInt ≠ -1 := fun e => hw_39_0 (Int32.toInt_inj.mp (e.trans rfl))
            have zk39_1 : (fldF n1 g s wd 0).toInt = 0 := by rw [hw_39_1]; rfl
            have hk_ := hfk.1
            exact gz_lret rfl dX10_value_89 (Nat.le_of_ble_eq_true rfl) (Nat.le_of_ble_eq_true rfl) (⟨_, rfl, (vl_0 hok hvT_ h4 hwN.2 hd.2 (Or.inr (by omega))).symm, hF, fr_rf, kpS_rf⟩)
          ·
            by_cases hw_39_2 : (fldF n1 g s wd 0) = 1
            ·
              refine gz_ev (w := .int 1) (congrArg Value.int hw_39_2) ?_
              refine gz_tableIn (off := 51) (tgt := 90) dX10_value_39 (by decide) (by decide) rfl (by decide) ?_
              refine gz_aload_n dX10_value_90 rfl rfl ?_
              refine sgX10_37 hwo rfl dX10_value_91 ?_
              refine gz_iload_n dX10_value_94 rfl rfl ?_
              refine gz_iload_n dX10_value_95 rfl rfl ?_
              refine scX10_94 (k_X2_held (w := wd) (x := fa) hp h1 hs) hp ⟨(by simp only [gRm]; omega), (by simp only [gRm]; omega)⟩ ⟨(Nat.le_of_ble_eq_true rfl), (Nat.le_of_ble_eq_true rfl)⟩ rfl rfl (Nat.le_of_ble_eq_true rfl) dX10_value_96 ?_
              intro v9 f9 z9; rw [z9.1, z9.2]
              refine gz_i2l dX10_value_99 ?_
              refine gz_aload_n dX10_value_100 rfl rfl ?_
              refine sgX10_80 hwo rfl dX10_value_101 ?_
              refine gz_if_ne (tgt := 120) dX10_value_104 (by decide) (fun c_104 => ?_) (fun c_104 => ?_)
              ·
                refine gz_lconst (v := 1) dX10_value_120 (by decide) ?_
                refine gz_lmul dX10_value_121 ?_
                have hl0 : lpT T S wN = false := by rw [hlp] at c_21; exact b01.mp c_21
                have zk39_0 : (fldF n1 g s wd 0).toInt ≠ -1 := fun e => hw_39_0 (Int32.toInt_inj.mp (e.trans rfl))
                have zk39_1 : (fldF n1 g s wd 0).toInt ≠ 0 := fun e => hw_39_1 (Int32.toInt_inj.mp (e.trans rfl))
                have zk39_2 : (fldF n1 g s wd 0).toInt = 1 := by rw [hw_39_2]; rfl
                have hk_ := hfk.1
                exact gz_lret rfl dX10_value_122 (Nat.le_of_ble_eq_true rfl) (Nat.le_of_ble_eq_true rfl) (⟨_, rfl, (by rw [vl_1 hok hvT_ h4 hwN.2 hd.2 hl0 (by omega), if_neg (fun z => c_104 (Int32.toInt_inj.mp (by rw [hE.2.2.1, z]; rfl))), ← hel_S (x := fa) hs hcT_ hwN.1 hwN.2 hfN.1, ← L_of rfl]), hF, fr_rf, kpS_rf⟩)
              ·
                refine gz_aload_n dX10_value_107 rfl rfl ?_
                refine gz_aload_n dX10_value_108 rfl rfl ?_
                refine sgX10_56 hwo rfl dX10_value_109 ?_
                refine gz_iload_n dX10_value_112 rfl rfl ?_
                refine gz_isub dX10_value_113 ?_
                refine scX10_97 (k_X10_power (x := (ah - st)) hwo hwe hz) hwo ⟨(by simp only [gRm]; omega), (by simp only [gRm]; omega)⟩ ⟨(Nat.le_of_ble_eq_true rfl), (Nat.le_of_ble_eq_true rfl)⟩ rfl rfl (Nat.le_of_ble_eq_true rfl) dX10_value_114 ?_
                intro v9 f9 z9; rw [z9.1, z9.2]
                refine gz_goto (tgt := 121) dX10_value_117 (by decide) ?_
                refine gz_lmul dX10_value_121 ?_
                have hl0 : lpT T S wN = false := by rw [hlp] at c_21; exact b01.mp c_21
                have zk39_0 : (fldF n1 g s wd 0).toInt ≠ -1 := fun e => hw_39_0 (Int32.toInt_inj.mp (e.trans rfl))
                have zk39_1 : (fldF n1 g s wd 0).toInt ≠ 0 := fun e => hw_39_1 (Int32.toInt_inj.mp (e.trans rfl))
                have zk39_2 : (fldF n1 g s wd 0).toInt = 1 := by rw [hw_39_2]; rfl
                have hk_ := hfk.1
                exact gz_lret rfl dX10_value_122 (Nat.le_of_ble_eq_true rfl) (Nat.le_of_ble_eq_true rfl) (⟨_, rfl, (by rw [vl_1 hok hvT_ h4 hwN.2 hd.2 hl0 (by omega), if_pos (by have q := congrArg Int32.toInt c_104; have e0 : (0 : Int32).toInt = 0 := rfl; have z9 := hE.2.2.1; omega), ← hel_S (x := fa) hs hcT_ hwN.1 hwN.2 hfN.1, ← L_of rfl, hE.2.2.2.2.2 (ah - st) (by rw [T_sub (rfl : ah.toInt = ah.toInt) (rfl : st.toInt = st.toInt) (by have z9 := hE.2.1; omega)]; have z9 := hE.2.1; omega), show (ah - st).toInt.toNat = E.2.2.2.2.2 - d by rw [T_sub (rfl : ah.toInt = ah.toInt) (rfl : st.toInt = st.toInt) (by have z9 := hE.2.1; omega)]; have z9 := hE.2.1; omega]), hF, fr_rf, kpS_rf⟩)
            ·
              by_cases hw_39_3 : (fldF n1 g s wd 0) = 2
              ·
                refine gz_ev (w := .int 2) (congrArg Value.int hw_39_3) ?_
                refine gz_tableIn (off := 225) (tgt := 264) dX10_value_39 (by decide) (by decide) rfl (by decide) ?_
                refine gz_aload_n dX10_value_264 rfl rfl ?_
                refine gz_iload_n dX10_value_265 rfl rfl ?_
                refine gz_iload_n dX10_value_266 rfl rfl ?_
                refine gz_iload_n dX10_value_267 rfl rfl ?_
                have zk39_0 : (fldF n1 g s wd 0).toInt ≠ -1 := fun e => hw_39_0 (Int32.toInt_inj.mp (e.trans rfl))
                have zk39_1 : (fldF n1 g s wd 0).toInt ≠ 0 := fun e => hw_39_1 (Int32.toInt_inj.mp (e.trans rfl))
                have zk39_2 : (fldF n1 g s wd 0).toInt ≠ 1 := fun e => hw_39_2 (Int32.toInt_inj.mp (e.trans rfl))
                have zk39_3 : (fldF n1 g s wd 0).toInt = 2 := by rw [hw_39_3]; rfl
                have hkq := hfk.1
                refine scX10_107 (k_X10_deedValueE (wd := wd) (fa := fa) (st := st) hwo hwe hst hpa hp h1 h2 hs hv hI hz ha hpg hPQ hD hcT_ hE hF hwN hfN hd hS0 ⟨_, _, (by rw [← hsc]; exact hP0), (by rw [← hsc]; exact hQ0), hSn⟩ (by omega) (by omega) ih) hwo ⟨(by simp only [gRm]; omega), (by simp only [gRm]; omega)⟩ ⟨(Nat.le_of_ble_eq_true rfl), (Nat.le_of_ble_eq_true rfl)⟩ rfl rfl (Nat.le_of_ble_eq_true rfl) dX10_value_268 ?_
                rintro r1 f1 ⟨he1, hF1, hr1, hk1⟩
                have hwo_1 : f1 wo = some (.inr (10, [.int sz, .ref we, .ref stp, .ref pa, .ref ba, .ref td, .ref p, .int ah, .int gl])) := hr1 _ _ hwo (hD _ (by simp))
                have hwe_1 : f1 we = some (.inl (cy 0, 3, .inl (weg))) := hr1 _ _ hwe (hD _ (by simp))
                have hst_1 : f1 stp = some (.inl (cy 0, 18, .inl (stg))) := hr1 _ _ hst (hD _ (by simp))
                have hpa_1 : f1 pa = some (.inl (cy 6, 5, .inr (.inr (.inr (.inr (pg)))))) := hr1 _ _ hpa (hD _ (by simp))
                have hp_1 : f1 p = some (.inr (2, [.ref c1, .ref c2, .int s, .int v])) := hr1 _ _ hp (hD _ (by simp))
                have h1_1 : f1 c1 = some (.inl (cy 0, n1, .inl (g))) := hr1 _ _ h1 (hD _ (by simp))
                have h2_1 : f1 c2 = some (.inl (cy 0, n2, .inl (h))) := hr1 _ _ h2 (hD _ (by simp))
                have hP0_1 : f1 (P (scI st)) = some (.inr (7, [.ref (Q (scI st)), .int da])) := ((hk1 _ hscd).1).trans hP0
                have hQ0_1 : f1 (Q (scI st)) = some (.inl (cy 0, 6, .inl (t))) := ((hk1 _ hscd).2).trans hQ0
                have hl0 : lpT T S wN = false := by rw [hlp] at c_21; exact b01.mp c_21
                have zk39_0 : (fldF n1 g s wd 0).toInt ≠ -1 := fun e => hw_39_0 (Int32.toInt_inj.mp (e.trans rfl))
                have zk39_1 : (fldF n1 g s wd 0).toInt ≠ 0 := fun e => hw_39_1 (Int32.toInt_inj.mp (e.trans rfl))
                have zk39_2 : (fldF n1 g s wd 0).toInt ≠ 1 := fun e => hw_39_2 (Int32.toInt_inj.mp (e.trans rfl))
                have zk39_3 : (fldF n1 g s wd 0).toInt = 2 := by rw [hw_39_3]; rfl
                have hk_ := hfk.1
                exact gz_lret rfl dX10_value_271 (Nat.le_of_ble_eq_true rfl) (Nat.le_of_ble_eq_true rfl) (⟨_, rfl, (by rw [vl_n hok hvT_ h4 hwN.2 hd.2 hl0 ⟨by omega, by omega, by omega, by omega⟩ (fun z => by omega), he1]), hF1, (fr_tr fr_rf (fr_mo hr1 (by simp))), (kpS_tr kpS_rf hk1)⟩)
              ·
                by_cases hw_39_4 : (fldF n1 g s wd 0) = 3
                ·
                  refine gz_ev (w := .int 3) (congrArg Value.int hw_39_4) ?_
                  refine gz_tableIn (off := 84) (tgt := 123) dX10_value_39 (by decide) (by decide) rfl (by decide) ?_
                  refine gz_aload_n dX10_value_123 rfl rfl ?_
                  refine gz_aload_n dX10_value_124 rfl rfl ?_
                  refine sgX10_37 hwo rfl dX10_value_125 ?_
                  refine gz_iload_n dX10_value_128 rfl rfl ?_
                  refine gz_iconst (v := 3) dX10_value_129 (by decide) ?_
                  refine scX10_91 (k_X2_field (w := wd) (k := 3) hp h1 hs) hp ⟨(by simp only [gRm]; omega), (by simp only [gRm]; omega)⟩ ⟨(Nat.le_of_ble_eq_true rfl), (Nat.le_of_ble_eq_true rfl)⟩ rfl rfl (Nat.le_of_ble_eq_true rfl) dX10_value_130 ?_
                  intro v9 f9 z9; rw [z9.1, z9.2]
                  refine gz_iload_n dX10_value_133 rfl rfl ?_
                  refine gz_iload_n dX10_value_134 rfl rfl ?_
                  have zk39_0 : (fldF n1 g s wd 0).toInt ≠ -1 := fun e => hw_39_0 (Int32.toInt_inj.mp (e.trans rfl))
                  have zk39_1 : (fldF n1 g s wd 0).toInt ≠ 0 := fun e => hw_39_1 (Int32.toInt_inj.mp (e.trans rfl))
                  have zk39_2 : (fldF n1 g s wd 0).toInt ≠ 1 := fun e => hw_39_2 (Int32.toInt_inj.mp (e.trans rfl))
                  have zk39_3 : (fldF n1 g s wd 0).toInt ≠ 2 := fun e => hw_39_3 (Int32.toInt_inj.mp (e.trans rfl))
                  have zk39_4 : (fldF n1 g s wd 0).toInt = 3 := by rw [hw_39_4]; rfl
                  have hkq := hfk.1
                  refine scX10_83 (ih (fldF n1 g s wd 3) fa st (wN + 1) fN d S _ hwo hwe hst hpa hp h1 h2 hF ⟨hfk.2.2.2.2.1 (by omega), hgr.2.1 (by omega)⟩ hfN hd hS0 ⟨_, _, (by rw [← hsc]; exact hP0), (by rw [← hsc]; exact hQ0), hSn⟩ (by have q2 := hgr.2.2; omega)) hwo ⟨(by simp only [gRm]; omega), (by simp only [gRm]; omega)⟩ ⟨(Nat.le_of_ble_eq_true rfl), (Nat.le_of_ble_eq_true rfl)⟩ rfl rfl (Nat.le_of_ble_eq_true rfl) dX10_value_135 ?_
                  rintro r2 f2 ⟨he2, hF2, hr2, hk2⟩
                  have hwo_2 : f2 wo = some (.inr (10, [.int sz, .ref we, .ref stp, .ref pa, .ref ba, .ref td, .ref p, .int ah, .int gl])) := hr2 _ _ hwo (hD _ (by simp))
                  have hwe_2 : f2 we = some (.inl (cy 0, 3, .inl (weg))) := hr2 _ _ hwe (hD _ (by simp))
                  have hst_2 : f2 stp = some (.inl (cy 0, 18, .inl (stg))) := hr2 _ _ hst (hD _ (by simp))
                  have hpa_2 : f2 pa = some (.inl (cy 6, 5, .inr (.inr (.inr (.inr (pg)))))) := hr2 _ _ hpa (hD _ (by simp))
                  have hp_2 : f2 p = some (.inr (2, [.ref c1, .ref c2, .int s, .int v])) := hr2 _ _ hp (hD _ (by simp))
                  have h1_2 : f2 c1 = some (.inl (cy 0, n1, .inl (g))) := hr2 _ _ h1 (hD _ (by simp))
                  have h2_2 : f2 c2 = some (.inl (cy 0, n2, .inl (h))) := hr2 _ _ h2 (hD _ (by simp))
                  have hP0_2 : f2 (P (scI st)) = some (.inr (7, [.ref (Q (scI st)), .int da])) := ((hk2 _ hscd).1).trans hP0
                  have hQ0_2 : f2 (Q (scI st)) = some (.inl (cy 0, 6, .inl (t))) := ((hk2 _ hscd).2).trans hQ0
                  refine gz_aload_n dX10_value_138 rfl rfl ?_
                  refine gz_aload_n dX10_value_139 rfl rfl ?_
                  refine sgX10_37 hwo_2 rfl dX10_value_140 ?_
                  refine gz_iload_n dX10_value_143 rfl rfl ?_
                  refine gz_iconst (v := 4) dX10_value_144 (by decide) ?_
                  refine scX10_91 (k_X2_field (w := wd) (k := 4) hp_2 h1_2 hs) hp_2 ⟨(by simp only [gRm]; omega), (by simp only [gRm]; omega)⟩ ⟨(Nat.le_of_ble_eq_true rfl), (Nat.le_of_ble_eq_true rfl)⟩ rfl rfl (Nat.le_of_ble_eq_true rfl) dX10_value_145 ?_
                  intro v9 f9 z9; rw [z9.1, z9.2]
                  refine gz_iload_n dX10_value_148 rfl rfl ?_
                  refine gz_iload_n dX10_value_149 rfl rfl ?_
                  have zk39_0 : (fldF n1 g s wd 0).toInt ≠ -1 := fun e => hw_39_0 (Int32.toInt_inj.mp (e.trans rfl))
                  have zk39_1 : (fldF n1 g s wd 0).toInt ≠ 0 := fun e => hw_39_1 (Int32.toInt_inj.mp (e.trans rfl))
                  have zk39_2 : (fldF n1 g s wd 0).toInt ≠ 1 := fun e => hw_39_2 (Int32.toInt_inj.mp (e.trans rfl))
                  have zk39_3 : (fldF n1 g s wd 0).toInt ≠ 2 := fun e => hw_39_3 (Int32.toInt_inj.mp (e.trans rfl))
                  have zk39_4 : (fldF n1 g s wd 0).toInt = 3 := by rw [hw_39_4]; rfl
                  have hkq := hfk.1
                  refine scX10_83 (ih (fldF n1 g s wd 4) fa st (grS T wN) fN d S _ hwo_2 hwe_2 hst_2 hpa_2 hp_2 h1_2 h2_2 hF2 ⟨hfk.2.2.2.2.2 (by omega), (hgr.2.2 (by omega)).2⟩ hfN hd hS0 ⟨_, _, (by rw [← hsc]; exact hP0_2), (by rw [← hsc]; exact hQ0_2), hSn⟩ (by have q2 := hgr.2.2; omega)) hwo_2 ⟨(by simp only [gRm]; omega), (by simp only [gRm]; omega)⟩ ⟨(Nat.le_of_ble_eq_true rfl), (Nat.le_of_ble_eq_true rfl)⟩ rfl rfl (Nat.le_of_ble_eq_true rfl) dX10_value_150 ?_
                  rintro r3 f3 ⟨he3, hF3, hr3, hk3⟩
                  have hwo_3 : f3 wo = some (.inr (10, [.int sz, .ref we, .ref stp, .ref pa, .ref ba, .ref td, .ref p, .int ah, .int gl])) := hr3 _ _ hwo_2 (hD _ (by simp))
                  have hwe_3 : f3 we = some (.inl (cy 0, 3, .inl (weg))) := hr3 _ _ hwe_2 (hD _ (by simp))
                  have hst_3 : f3 stp = some (.inl (cy 0, 18, .inl (stg))) := hr3 _ _ hst_2 (hD _ (by simp))
                  have hpa_3 : f3 pa = some (.inl (cy 6, 5, .inr (.inr (.inr (.inr (pg)))))) := hr3 _ _ hpa_2 (hD _ (by simp))
                  have hp_3 : f3 p = some (.inr (2, [.ref c1, .ref c2, .int s, .int v])) := hr3 _ _ hp_2 (hD _ (by simp))
                  have h1_3 : f3 c1 = some (.inl (cy 0, n1, .inl (g))) := hr3 _ _ h1_2 (hD _ (by simp))
                  have h2_3 : f3 c2 = some (.inl (cy 0, n2, .inl (h))) := hr3 _ _ h2_2 (hD _ (by simp))
                  have hP0_3 : f3 (P (scI st)) = some (.inr (7, [.ref (Q (scI st)), .int da])) := ((hk3 _ hscd).1).trans hP0_2
                  have hQ0_3 : f3 (Q (scI st)) = some (.inl (cy 0, 6, .inl (t))) := ((hk3 _ hscd).2).trans hQ0_2
                  refine gz_ladd dX10_value_153 ?_
                  have hl0 : lpT T S wN = false := by rw [hlp] at c_21; exact b01.mp c_21
                  have zk39_0 : (fldF n1 g s wd 0).toInt ≠ -1 := fun e => hw_39_0 (Int32.toInt_inj.mp (e.trans rfl))
                  have zk39_1 : (fldF n1 g s wd 0).toInt ≠ 0 := fun e => hw_39_1 (Int32.toInt_inj.mp (e.trans rfl))
                  have zk39_2 : (fldF n1 g s wd 0).toInt ≠ 1 := fun e => hw_39_2 (Int32.toInt_inj.mp (e.trans rfl))
                  have zk39_3 : (fldF n1 g s wd 0).toInt ≠ 2 := fun e => hw_39_3 (Int32.toInt_inj.mp (e.trans rfl))
                  have zk39_4 : (fldF n1 g s wd 0).toInt = 3 := by rw [hw_39_4]; rfl
                  have hk_ := hfk.1
                  exact gz_lret rfl dX10_value_154 (Nat.le_of_ble_eq_true rfl) (Nat.le_of_ble_eq_true rfl) (⟨_, rfl, (by rw [vl_3 hok hvT_ h4 hwN.2 hd.2 hl0 (by omega), he2, he3]), hF3, (fr_tr (fr_tr fr_rf (fr_mo hr2 (by simp))) (fr_mo hr3 (by simp))), (kpS_tr (kpS_tr kpS_rf hk2) hk3)⟩)
                ·
                  by_cases hw_39_5 : (fldF n1 g s wd 0) = 4
                  ·
                    refine gz_ev (w := .int 4) (congrArg Value.int hw_39_5) ?_
                    refine gz_tableIn (off := 116) (tgt := 155) dX10_value_39 (by decide) (by decide) rfl (by decide) ?_
                    refine gz_aload_n dX10_value_155 rfl rfl ?_
                    refine gz_iload_n dX10_value_156 rfl rfl ?_
                    refine gz_aload_n dX10_value_157 rfl rfl ?_
                    refine gz_aload_n dX10_value_158 rfl rfl ?_
                    refine sgX10_37 hwo rfl dX10_value_159 ?_
                    refine gz_iload_n dX10_value_162 rfl rfl ?_
                    refine gz_iconst (v := 3) dX10_value_163 (by decide) ?_
                    refine scX10_91 (k_X2_field (w := wd) (k := 3) hp h1 hs) hp ⟨(by simp only [gRm]; omega), (by simp only [gRm]; omega)⟩ ⟨(Nat.le_of_ble_eq_true rfl), (Nat.le_of_ble_eq_true rfl)⟩ rfl rfl (Nat.le_of_ble_eq_true rfl) dX10_value_164 ?_
                    intro v9 f9 z9; rw [z9.1, z9.2]
                    refine gz_iload_n dX10_value_167 rfl rfl ?_
                    refine gz_iload_n dX10_value_168 rfl rfl ?_
                    have zk39_0 : (fldF n1 g s wd 0).toInt ≠ -1 := fun e => hw_39_0 (Int32.toInt_inj.mp (e.trans rfl))
                    have zk39_1 : (fldF n1 g s wd 0).toInt ≠ 0 := fun e => hw_39_1 (Int32.toInt_inj.mp (e.trans rfl))
                    have zk39_2 : (fldF n1 g s wd 0).toInt ≠ 1 := fun e => hw_39_2 (Int32.toInt_inj.mp (e.trans rfl))
                    have zk39_3 : (fldF n1 g s wd 0).toInt ≠ 2 := fun e => hw_39_3 (Int32.toInt_inj.mp (e.trans rfl))
                    have zk39_4 : (fldF n1 g s wd 0).toInt ≠ 3 := fun e => hw_39_4 (Int32.toInt_inj.mp (e.trans rfl))
                    have zk39_5 : (fldF n1 g s wd 0).toInt = 4 := by rw [hw_39_5]; rfl
                    have hkq := hfk.1
                    refine scX10_83 (ih (fldF n1 g s wd 3) fa st (wN + 1) fN d S _ hwo hwe hst hpa hp h1 h2 hF ⟨hfk.2.2.2.2.1 (by omega), hgr.2.1 (by omega)⟩ hfN hd hS0 ⟨_, _, (by rw [← hsc]; exact hP0), (by rw [← hsc]; exact hQ0), hSn⟩ (by have q2 := hgr.2.2; omega)) hwo ⟨(by simp only [gRm]; omega), (by simp only [gRm]; omega)⟩ ⟨(Nat.le_of_ble_eq_true rfl), (Nat.le_of_ble_eq_true rfl)⟩ rfl rfl (Nat.le_of_ble_eq_true rfl) dX10_value_169 ?_
                    rintro r4 f4 ⟨he4, hF4, hr4, hk4⟩
                    have hwo_4 : f4 wo = some (.inr (10, [.int sz, .ref we, .ref stp, .ref pa, .ref ba, .ref td, .ref p, .int ah, .int gl])) := hr4 _ _ hwo (hD _ (by simp))
                    have hwe_4 : f4 we = some (.inl (cy 0, 3, .inl (weg))) := hr4 _ _ hwe (hD _ (by simp))
                    have hst_4 : f4 stp = some (.inl (cy 0, 18, .inl (stg))) := hr4 _ _ hst (hD _ (by simp))
                    have hpa_4 : f4 pa = some (.inl (cy 6, 5, .inr (.inr (.inr (.inr (pg)))))) := hr4 _ _ hpa (hD _ (by simp))
                    have hp_4 : f4 p = some (.inr (2, [.ref c1, .ref c2, .int s, .int v])) := hr4 _ _ hp (hD _ (by simp))
                    have h1_4 : f4 c1 = some (.inl (cy 0, n1, .inl (g))) := hr4 _ _ h1 (hD _ (by simp))
                    have h2_4 : f4 c2 = some (.inl (cy 0, n2, .inl (h))) := hr4 _ _ h2 (hD _ (by simp))
                    have hP0_4 : f4 (P (scI st)) = some (.inr (7, [.ref (Q (scI st)), .int da])) := ((hk4 _ hscd).1).trans hP0
                    have hQ0_4 : f4 (Q (scI st)) = some (.inl (cy 0, 6, .inl (t))) := ((hk4 _ hscd).2).trans hQ0
                    refine gz_aload_n dX10_value_172 rfl rfl ?_
                    refine gz_aload_n dX10_value_173 rfl rfl ?_
                    refine sgX10_37 hwo_4 rfl dX10_value_174 ?_
                    refine gz_iload_n dX10_value_177 rfl rfl ?_
                    refine gz_iconst (v := 4) dX10_value_178 (by decide) ?_
                    refine scX10_91 (k_X2_field (w := wd) (k := 4) hp_4 h1_4 hs) hp_4 ⟨(by simp only [gRm]; omega), (by simp only [gRm]; omega)⟩ ⟨(Nat.le_of_ble_eq_true rfl), (Nat.le_of_ble_eq_true rfl)⟩ rfl rfl (Nat.le_of_ble_eq_true rfl) dX10_value_179 ?_
                    intro v9 f9 z9; rw [z9.1, z9.2]
                    refine gz_iload_n dX10_value_182 rfl rfl ?_
                    refine gz_iload_n dX10_value_183 rfl rfl ?_
                    have zk39_0 : (fldF n1 g s wd 0).toInt ≠ -1 := fun e => hw_39_0 (Int32.toInt_inj.mp (e.trans rfl))
                    have zk39_1 : (fldF n1 g s wd 0).toInt ≠ 0 := fun e => hw_39_1 (Int32.toInt_inj.mp (e.trans rfl))
                    have zk39_2 : (fldF n1 g s wd 0).toInt ≠ 1 := fun e => hw_39_2 (Int32.toInt_inj.mp (e.trans rfl))
                    have zk39_3 : (fldF n1 g s wd 0).toInt ≠ 2 := fun e => hw_39_3 (Int32.toInt_inj.mp (e.trans rfl))
                    have zk39_4 : (fldF n1 g s wd 0).toInt ≠ 3 := fun e => hw_39_4 (Int32.toInt_inj.mp (e.trans rfl))
                    have zk39_5 : (fldF n1 g s wd 0).toInt = 4 := by rw [hw_39_5]; rfl
                    have hkq := hfk.1
                    refine scX10_83 (ih (fldF n1 g s wd 4) fa st (grS T wN) fN d S _ hwo_4 hwe_4 hst_4 hpa_4 hp_4 h1_4 h2_4 hF4 ⟨hfk.2.2.2.2.2 (by omega), (hgr.2.2 (by omega)).2⟩ hfN hd hS0 ⟨_, _, (by rw [← hsc]; exact hP0_4), (by rw [← hsc]; exact hQ0_4), hSn⟩ (by have q2 := hgr.2.2; omega)) hwo_4 ⟨(by simp only [gRm]; omega), (by simp only [gRm]; omega)⟩ ⟨(Nat.le_of_ble_eq_true rfl), (Nat.le_of_ble_eq_true rfl)⟩ rfl rfl (Nat.le_of_ble_eq_true rfl) dX10_value_184 ?_
                    rintro r5 f5 ⟨he5, hF5, hr5, hk5⟩
                    have hwo_5 : f5 wo = some (.inr (10, [.int sz, .ref we, .ref stp, .ref pa, .ref ba, .ref td, .ref p, .int ah, .int gl])) := hr5 _ _ hwo_4 (hD _ (by simp))
                    have hwe_5 : f5 we = some (.inl (cy 0, 3, .inl (weg))) := hr5 _ _ hwe_4 (hD _ (by simp))
                    have hst_5 : f5 stp = some (.inl (cy 0, 18, .inl (stg))) := hr5 _ _ hst_4 (hD _ (by simp))
                    have hpa_5 : f5 pa = some (.inl (cy 6, 5, .inr (.inr (.inr (.inr (pg)))))) := hr5 _ _ hpa_4 (hD _ (by simp))
                    have hp_5 : f5 p = some (.inr (2, [.ref c1, .ref c2, .int s, .int v])) := hr5 _ _ hp_4 (hD _ (by simp))
                    have h1_5 : f5 c1 = some (.inl (cy 0, n1, .inl (g))) := hr5 _ _ h1_4 (hD _ (by simp))
                    have h2_5 : f5 c2 = some (.inl (cy 0, n2, .inl (h))) := hr5 _ _ h2_4 (hD _ (by simp))
                    have hP0_5 : f5 (P (scI st)) = some (.inr (7, [.ref (Q (scI st)), .int da])) := ((hk5 _ hscd).1).trans hP0_4
                    have hQ0_5 : f5 (Q (scI st)) = some (.inl (cy 0, 6, .inl (t))) := ((hk5 _ hscd).2).trans hQ0_4
                    refine scX10_100 (k_X10_better (x := wd) (y := r4) (u := r5) hwo_5 hp_5 h1_5 hs) hwo_5 ⟨(by simp only [gRm]; omega), (by simp only [gRm]; omega)⟩ ⟨(Nat.le_of_ble_eq_true rfl), (Nat.le_of_ble_eq_true rfl)⟩ rfl rfl (Nat.le_of_ble_eq_true rfl) dX10_value_187 ?_
                    intro v9 f9 z9; rw [z9.1, z9.2]
                    have hl0 : lpT T S wN = false := by rw [hlp] at c_21; exact b01.mp c_21
                    have zk39_0 : (fldF n1 g s wd 0).toInt ≠ -1 := fun e => hw_39_0 (Int32.toInt_inj.mp (e.trans rfl))
                    have zk39_1 : (fldF n1 g s wd 0).toInt ≠ 0 := fun e => hw_39_1 (Int32.toInt_inj.mp (e.trans rfl))
                    have zk39_2 : (fldF n1 g s wd 0).toInt ≠ 1 := fun e => hw_39_2 (Int32.toInt_inj.mp (e.trans rfl))
                    have zk39_3 : (fldF n1 g s wd 0).toInt ≠ 2 := fun e => hw_39_3 (Int32.toInt_inj.mp (e.trans rfl))
                    have zk39_4 : (fldF n1 g s wd 0).toInt ≠ 3 := fun e => hw_39_4 (Int32.toInt_inj.mp (e.trans rfl))
                    have zk39_5 : (fldF n1 g s wd 0).toInt = 4 := by rw [hw_39_5]; rfl
                    have hk_ := hfk.1
                    exact gz_lret rfl dX10_value_190 (Nat.le_of_ble_eq_true rfl) (Nat.le_of_ble_eq_true rfl) (⟨_, rfl, (by rw [bet_S hs hcT_ hwN.1 hwN.2, vl_4 hok hvT_ h4 hwN.2 hd.2 hl0 (by omega), he4, he5]), hF5, (fr_tr (fr_tr fr_rf (fr_mo hr4 (by simp))) (fr_mo hr5 (by simp))), (kpS_tr (kpS_tr kpS_rf hk4) hk5)⟩)
                  ·
                    by_cases hw_39_6 : (fldF n1 g s wd 0) = 5
                    ·
                      refine gz_ev (w := .int 5) (congrArg Value.int hw_39_6) ?_
                      refine gz_tableIn (off := 225) (tgt := 264) dX10_value_39 (by decide) (by decide) rfl (by decide) ?_
                      refine gz_aload_n dX10_value_264 rfl rfl ?_
                      refine gz_iload_n dX10_value_265 rfl rfl ?_
                      refine gz_iload_n dX10_value_266 rfl rfl ?_
                      refine gz_iload_n dX10_value_267 rfl rfl ?_
                      have zk39_0 : (fldF n1 g s wd 0).toInt ≠ -1 := fun e => hw_39_0 (Int32.toInt_inj.mp (e.trans rfl))
                      have zk39_1 : (fldF n1 g s wd 0).toInt ≠ 0 := fun e => hw_39_1 (Int32.toInt_inj.mp (e.trans rfl))
                      have zk39_2 : (fldF n1 g s wd 0).toInt ≠ 1 := fun e => hw_39_2 (Int32.toInt_inj.mp (e.trans rfl))
                      have zk39_3 : (fldF n1 g s wd 0).toInt ≠ 2 := fun e => hw_39_3 (Int32.toInt_inj.mp (e.trans rfl))
                      have zk39_4 : (fldF n1 g s wd 0).toInt ≠ 3 := fun e => hw_39_4 (Int32.toInt_inj.mp (e.trans rfl))
                      have zk39_5 : (fldF n1 g s wd 0).toInt ≠ 4 := fun e => hw_39_5 (Int32.toInt_inj.mp (e.trans rfl))
                      have zk39_6 : (fldF n1 g s wd 0).toInt = 5 := by rw [hw_39_6]; rfl
                      have hkq := hfk.1
                      refine scX10_107 (k_X10_deedValueE (wd := wd) (fa := fa) (st := st) hwo hwe hst hpa hp h1 h2 hs hv hI hz ha hpg hPQ hD hcT_ hE hF hwN hfN hd hS0 ⟨_, _, (by rw [← hsc]; exact hP0), (by rw [← hsc]; exact hQ0), hSn⟩ (by omega) (by omega) ih) hwo ⟨(by simp only [gRm]; omega), (by simp only [gRm]; omega)⟩ ⟨(Nat.le_of_ble_eq_true rfl), (Nat.le_of_ble_eq_true rfl)⟩ rfl rfl (Nat.le_of_ble_eq_true rfl) dX10_value_268 ?_
                      rintro r6 f6 ⟨he6, hF6, hr6, hk6⟩
                      have hwo_6 : f6 wo = some (.inr (10, [.int sz, .ref we, .ref stp, .ref pa, .ref ba, .ref td, .ref p, .int ah, .int gl])) := hr6 _ _ hwo (hD _ (by simp))
                      have hwe_6 : f6 we = some (.inl (cy 0, 3, .inl (weg))) := hr6 _ _ hwe (hD _ (by simp))
                      have hst_6 : f6 stp = some (.inl (cy 0, 18, .inl (stg))) := hr6 _ _ hst (hD _ (by simp))
                      have hpa_6 : f6 pa = some (.inl (cy 6, 5, .inr (.inr (.inr (.inr (pg)))))) := hr6 _ _ hpa (hD _ (by simp))
                      have hp_6 : f6 p = some (.inr (2, [.ref c1, .ref c2, .int s, .int v])) := hr6 _ _ hp (hD _ (by simp))
                      have h1_6 : f6 c1 = some (.inl (cy 0, n1, .inl (g))) := hr6 _ _ h1 (hD _ (by simp))
                      have h2_6 : f6 c2 = some (.inl (cy 0, n2, .inl (h))) := hr6 _ _ h2 (hD _ (by simp))
                      have hP0_6 : f6 (P (scI st)) = some (.inr (7, [.ref (Q (scI st)), .int da])) := ((hk6 _ hscd).1).trans hP0
                      have hQ0_6 : f6 (Q (scI st)) = some (.inl (cy 0, 6, .inl (t))) := ((hk6 _ hscd).2).trans hQ0
                      have hl0 : lpT T S wN = false := by rw [hlp] at c_21; exact b01.mp c_21
                      have zk39_0 : (fldF n1 g s wd 0).toInt ≠ -1 := fun e => hw_39_0 (Int32.toInt_inj.mp (e.trans rfl))
                      have zk39_1 : (fldF n1 g s wd 0).toInt ≠ 0 := fun e => hw_39_1 (Int32.toInt_inj.mp (e.trans rfl))
                      have zk39_2 : (fldF n1 g s wd 0).toInt ≠ 1 := fun e => hw_39_2 (Int32.toInt_inj.mp (e.trans rfl))
                      have zk39_3 : (fldF n1 g s wd 0).toInt ≠ 2 := fun e => hw_39_3 (Int32.toInt_inj.mp (e.trans rfl))
                      have zk39_4 : (fldF n1 g s wd 0).toInt ≠ 3 := fun e => hw_39_4 (Int32.toInt_inj.mp (e.trans rfl))
                      have zk39_5 : (fldF n1 g s wd 0).toInt ≠ 4 := fun e => hw_39_5 (Int32.toInt_inj.mp (e.trans rfl))
                      have zk39_6 : (fldF n1 g s wd 0).toInt = 5 := by rw [hw_39_6]; rfl
                      have hk_ := hfk.1
                      exact gz_lret rfl dX10_value_271 (Nat.le_of_ble_eq_true rfl) (Nat.le_of_ble_eq_true rfl) (⟨_, rfl, (by rw [vl_n hok hvT_ h4 hwN.2 hd.2 hl0 ⟨by omega, by omega, by omega, by omega⟩ (fun z => by omega), he6]), hF6, (fr_tr fr_rf (fr_mo hr6 (by simp))), (kpS_tr kpS_rf hk6)⟩)
                    ·
                      by_cases hw_39_7 : (fldF n1 g s wd 0) = 6
                      ·
                        refine gz_ev (w := .int 6) (congrArg Value.int hw_39_7) ?_
                        refine gz_tableIn (off := 152) (tgt := 191) dX10_value_39 (by decide) (by decide) rfl (by decide) ?_
                        refine gz_aload_n dX10_value_191 rfl rfl ?_
                        refine sgX10_37 hwo rfl dX10_value_192 ?_
                        refine gz_iload_n dX10_value_195 rfl rfl ?_
                        refine gz_aload dX10_value_196 rfl ?_
                        refine scX10_104 (k_X2_holds (w := wd) hp h1 h2 hP0 hQ0 hs hv) hp ⟨(by simp only [gRm]; omega), (by simp only [gRm]; omega)⟩ ⟨(Nat.le_of_ble_eq_true rfl), (Nat.le_of_ble_eq_true rfl)⟩ rfl rfl (Nat.le_of_ble_eq_true rfl) dX10_value_198 ?_
                        intro v9 f9 z9; rw [z9.1, z9.2]
                        refine gz_if_eq (tgt := 214) dX10_value_201 (by decide) (fun c_201 => ?_) (fun c_201 => ?_)
                        ·
                          refine gz_aload_n dX10_value_214 rfl rfl ?_
                          refine gz_iload_n dX10_value_215 rfl rfl ?_
                          refine gz_iload_n dX10_value_216 rfl rfl ?_
                          refine gz_iload_n dX10_value_217 rfl rfl ?_
                          refine scX10_110 (k_X10_waitingE (wd := wd) (fa := fa) (st := st) hwo hwe hst hpa hp h1 h2 hs hv hI hz ha hpg hPQ hD hcT_ hE hF hwN hfN hd hS0 ⟨_, _, (by rw [← hsc]; exact hP0), (by rw [← hsc]; exact hQ0), hSn⟩ (by omega) ih) hwo ⟨(by simp only [gRm]; omega), (by simp only [gRm]; omega)⟩ ⟨(Nat.le_of_ble_eq_true rfl), (Nat.le_of_ble_eq_true rfl)⟩ rfl rfl (Nat.le_of_ble_eq_true rfl) dX10_value_218 ?_
                          rintro r7 f7 ⟨he7, hF7, hr7, hk7⟩
                          have hwo_7 : f7 wo = some (.inr (10, [.int sz, .ref we, .ref stp, .ref pa, .ref ba, .ref td, .ref p, .int ah, .int gl])) := hr7 _ _ hwo (hD _ (by simp))
                          have hwe_7 : f7 we = some (.inl (cy 0, 3, .inl (weg))) := hr7 _ _ hwe (hD _ (by simp))
                          have hst_7 : f7 stp = some (.inl (cy 0, 18, .inl (stg))) := hr7 _ _ hst (hD _ (by simp))
                          have hpa_7 : f7 pa = some (.inl (cy 6, 5, .inr (.inr (.inr (.inr (pg)))))) := hr7 _ _ hpa (hD _ (by simp))
                          have hp_7 : f7 p = some (.inr (2, [.ref c1, .ref c2, .int s, .int v])) := hr7 _ _ hp (hD _ (by simp))
                          have h1_7 : f7 c1 = some (.inl (cy 0, n1, .inl (g))) := hr7 _ _ h1 (hD _ (by simp))
                          have h2_7 : f7 c2 = some (.inl (cy 0, n2, .inl (h))) := hr7 _ _ h2 (hD _ (by simp))
                          have hP0_7 : f7 (P (scI st)) = some (.inr (7, [.ref (Q (scI st)), .int da])) := ((hk7 _ hscd).1).trans hP0
                          have hQ0_7 : f7 (Q (scI st)) = some (.inl (cy 0, 6, .inl (t))) := ((hk7 _ hscd).2).trans hQ0
                          have hl0 : lpT T S wN = false := by rw [hlp] at c_21; exact b01.mp c_21
                          have zk39_0 : (fldF n1 g s wd 0).toInt ≠ -1 := fun e => hw_39_0 (Int32.toInt_inj.mp (e.trans rfl))
                          have zk39_1 : (fldF n1 g s wd 0).toInt ≠ 0 := fun e => hw_39_1 (Int32.toInt_inj.mp (e.trans rfl))
                          have zk39_2 : (fldF n1 g s wd 0).toInt ≠ 1 := fun e => hw_39_2 (Int32.toInt_inj.mp (e.trans rfl))
                          have zk39_3 : (fldF n1 g s wd 0).toInt ≠ 2 := fun e => hw_39_3 (Int32.toInt_inj.mp (e.trans rfl))
                          have zk39_4 : (fldF n1 g s wd 0).toInt ≠ 3 := fun e => hw_39_4 (Int32.toInt_inj.mp (e.trans rfl))
                          have zk39_5 : (fldF n1 g s wd 0).toInt ≠ 4 := fun e => hw_39_5 (Int32.toInt_inj.mp (e.trans rfl))
                          have zk39_6 : (fldF n1 g s wd 0).toInt ≠ 5 := fun e => hw_39_6 (Int32.toInt_inj.mp (e.trans rfl))
                          have zk39_7 : (fldF n1 g s wd 0).toInt = 6 := by rw [hw_39_7]; rfl
                          have hk_ := hfk.1
                          have hh6 : hldF n1 n2 g h s v t da wd = if hlB S (grH T wN) = true then 1 else 0 := hld_S hs hv hSn hwN.1 (by omega) (hG wN (by omega)).1 (hG wN (by omega)).2.1 (by omega)
                          rw [hh6] at c_201
                          have hb0 : hlB S (grH T wN) = false := b01.mp c_201
                          exact gz_lret rfl dX10_value_221 (Nat.le_of_ble_eq_true rfl) (Nat.le_of_ble_eq_true rfl) (⟨_, rfl, (by rw [vl_w hok hvT_ h4 hwN.2 hd.2 hl0 (by omega) hb0, he7]), hF7, (fr_tr fr_rf (fr_mo hr7 (by simp))), (kpS_tr kpS_rf hk7)⟩)
                        ·
                          refine gz_aload_n dX10_value_204 rfl rfl ?_
                          refine gz_iload_n dX10_value_205 rfl rfl ?_
                          refine gz_iload_n dX10_value_206 rfl rfl ?_
                          refine gz_iload_n dX10_value_207 rfl rfl ?_
                          have zk39_0 : (fldF n1 g s wd 0).toInt ≠ -1 := fun e => hw_39_0 (Int32.toInt_inj.mp (e.trans rfl))
                          have zk39_1 : (fldF n1 g s wd 0).toInt ≠ 0 := fun e => hw_39_1 (Int32.toInt_inj.mp (e.trans rfl))
                          have zk39_2 : (fldF n1 g s wd 0).toInt ≠ 1 := fun e => hw_39_2 (Int32.toInt_inj.mp (e.trans rfl))
                          have zk39_3 : (fldF n1 g s wd 0).toInt ≠ 2 := fun e => hw_39_3 (Int32.toInt_inj.mp (e.trans rfl))
                          have zk39_4 : (fldF n1 g s wd 0).toInt ≠ 3 := fun e => hw_39_4 (Int32.toInt_inj.mp (e.trans rfl))
                          have zk39_5 : (fldF n1 g s wd 0).toInt ≠ 4 := fun e => hw_39_5 (Int32.toInt_inj.mp (e.trans rfl))
                          have zk39_6 : (fldF n1 g s wd 0).toInt ≠ 5 := fun e => hw_39_6 (Int32.toInt_inj.mp (e.trans rfl))
                          have zk39_7 : (fldF n1 g s wd 0).toInt = 6 := by rw [hw_39_7]; rfl
                          have hkq := hfk.1
                          refine scX10_107 (k_X10_deedValueE (wd := wd) (fa := fa) (st := st) hwo hwe hst hpa hp h1 h2 hs hv hI hz ha hpg hPQ hD hcT_ hE hF hwN hfN hd hS0 ⟨_, _, (by rw [← hsc]; exact hP0), (by rw [← hsc]; exact hQ0), hSn⟩ (by omega) (by omega) ih) hwo ⟨(by simp only [gRm]; omega), (by simp only [gRm]; omega)⟩ ⟨(Nat.le_of_ble_eq_true rfl), (Nat.le_of_ble_eq_true rfl)⟩ rfl rfl (Nat.le_of_ble_eq_true rfl) dX10_value_208 ?_
                          rintro r8 f8 ⟨he8, hF8, hr8, hk8⟩
                          have hwo_8 : f8 wo = some (.inr (10, [.int sz, .ref we, .ref stp, .ref pa, .ref ba, .ref td, .ref p, .int ah, .int gl])) := hr8 _ _ hwo (hD _ (by simp))
                          have hwe_8 : f8 we = some (.inl (cy 0, 3, .inl (weg))) := hr8 _ _ hwe (hD _ (by simp))
                          have hst_8 : f8 stp = some (.inl (cy 0, 18, .inl (stg))) := hr8 _ _ hst (hD _ (by simp))
                          have hpa_8 : f8 pa = some (.inl (cy 6, 5, .inr (.inr (.inr (.inr (pg)))))) := hr8 _ _ hpa (hD _ (by simp))
                          have hp_8 : f8 p = some (.inr (2, [.ref c1, .ref c2, .int s, .int v])) := hr8 _ _ hp (hD _ (by simp))
                          have h1_8 : f8 c1 = some (.inl (cy 0, n1, .inl (g))) := hr8 _ _ h1 (hD _ (by simp))
                          have h2_8 : f8 c2 = some (.inl (cy 0, n2, .inl (h))) := hr8 _ _ h2 (hD _ (by simp))
                          have hP0_8 : f8 (P (scI st)) = some (.inr (7, [.ref (Q (scI st)), .int da])) := ((hk8 _ hscd).1).trans hP0
                          have hQ0_8 : f8 (Q (scI st)) = some (.inl (cy 0, 6, .inl (t))) := ((hk8 _ hscd).2).trans hQ0
                          refine gz_goto (tgt := 221) dX10_value_211 (by decide) ?_
                          have hl0 : lpT T S wN = false := by rw [hlp] at c_21; exact b01.mp c_21
                          have zk39_0 : (fldF n1 g s wd 0).toInt ≠ -1 := fun e => hw_39_0 (Int32.toInt_inj.mp (e.trans rfl))
                          have zk39_1 : (fldF n1 g s wd 0).toInt ≠ 0 := fun e => hw_39_1 (Int32.toInt_inj.mp (e.trans rfl))
                          have zk39_2 : (fldF n1 g s wd 0).toInt ≠ 1 := fun e => hw_39_2 (Int32.toInt_inj.mp (e.trans rfl))
                          have zk39_3 : (fldF n1 g s wd 0).toInt ≠ 2 := fun e => hw_39_3 (Int32.toInt_inj.mp (e.trans rfl))
                          have zk39_4 : (fldF n1 g s wd 0).toInt ≠ 3 := fun e => hw_39_4 (Int32.toInt_inj.mp (e.trans rfl))
                          have zk39_5 : (fldF n1 g s wd 0).toInt ≠ 4 := fun e => hw_39_5 (Int32.toInt_inj.mp (e.trans rfl))
                          have zk39_6 : (fldF n1 g s wd 0).toInt ≠ 5 := fun e => hw_39_6 (Int32.toInt_inj.mp (e.trans rfl))
                          have zk39_7 : (fldF n1 g s wd 0).toInt = 6 := by rw [hw_39_7]; rfl
                          have hk_ := hfk.1
                          have hh6 : hldF n1 n2 g h s v t da wd = if hlB S (grH T wN) = true then 1 else 0 := hld_S hs hv hSn hwN.1 (by omega) (hG wN (by omega)).1 (hG wN (by omega)).2.1 (by omega)
                          rw [hh6] at c_201
                          have hb1 : hlB S (grH T wN) = true := by cases hb : hlB S (grH T wN); (exact absurd (b01.mpr hb) c_201); rfl
                          exact gz_lret rfl dX10_value_221 (Nat.le_of_ble_eq_true rfl) (Nat.le_of_ble_eq_true rfl) (⟨_, rfl, (by rw [vl_n hok hvT_ h4 hwN.2 hd.2 hl0 ⟨by omega, by omega, by omega, by omega⟩ (fun _ => hb1), he8]), hF8, (fr_tr fr_rf (fr_mo hr8 (by simp))), (kpS_tr kpS_rf hk8)⟩)
                      ·
                        by_cases hw_39_8 : (fldF n1 g s wd 0) = 7
                        ·
                          refine gz_ev (w := .int 7) (congrArg Value.int hw_39_8) ?_
                          refine gz_tableIn (off := 183) (tgt := 222) dX10_value_39 (by decide) (by decide) rfl (by decide) ?_
                          refine gz_aload_n dX10_value_222 rfl rfl ?_
                          refine gz_iload_n dX10_value_223 rfl rfl ?_
                          refine gz_iload_n dX10_value_224 rfl rfl ?_
                          refine gz_iload_n dX10_value_225 rfl rfl ?_
                          refine scX10_110 (k_X10_waitingE (wd := wd) (fa := fa) (st := st) hwo hwe hst hpa hp h1 h2 hs hv hI hz ha hpg hPQ hD hcT_ hE hF hwN hfN hd hS0 ⟨_, _, (by rw [← hsc]; exact hP0), (by rw [← hsc]; exact hQ0), hSn⟩ (by omega) ih) hwo ⟨(by simp only [gRm]; omega), (by simp only [gRm]; omega)⟩ ⟨(Nat.le_of_ble_eq_true rfl), (Nat.le_of_ble_eq_true rfl)⟩ rfl rfl (Nat.le_of_ble_eq_true rfl) dX10_value_226 ?_
                          rintro r9 f9 ⟨he9, hF9, hr9, hk9⟩
                          have hwo_9 : f9 wo = some (.inr (10, [.int sz, .ref we, .ref stp, .ref pa, .ref ba, .ref td, .ref p, .int ah, .int gl])) := hr9 _ _ hwo (hD _ (by simp))
                          have hwe_9 : f9 we = some (.inl (cy 0, 3, .inl (weg))) := hr9 _ _ hwe (hD _ (by simp))
                          have hst_9 : f9 stp = some (.inl (cy 0, 18, .inl (stg))) := hr9 _ _ hst (hD _ (by simp))
                          have hpa_9 : f9 pa = some (.inl (cy 6, 5, .inr (.inr (.inr (.inr (pg)))))) := hr9 _ _ hpa (hD _ (by simp))
                          have hp_9 : f9 p = some (.inr (2, [.ref c1, .ref c2, .int s, .int v])) := hr9 _ _ hp (hD _ (by simp))
                          have h1_9 : f9 c1 = some (.inl (cy 0, n1, .inl (g))) := hr9 _ _ h1 (hD _ (by simp))
                          have h2_9 : f9 c2 = some (.inl (cy 0, n2, .inl (h))) := hr9 _ _ h2 (hD _ (by simp))
                          have hP0_9 : f9 (P (scI st)) = some (.inr (7, [.ref (Q (scI st)), .int da])) := ((hk9 _ hscd).1).trans hP0
                          have hQ0_9 : f9 (Q (scI st)) = some (.inl (cy 0, 6, .inl (t))) := ((hk9 _ hscd).2).trans hQ0
                          refine gz_lstore (lv' := [(6, .long r9), (5, .int (fldF n1 g s wd 0)), (4, .ref (P (scI st))), (0, .ref wo), (1, .int wd), (2, .int fa), (3, .int st)]) dX10_value_229 (by decide) rfl ?_
                          refine gz_aload_n dX10_value_231 rfl rfl ?_
                          refine sgX10_37 hwo_9 rfl dX10_value_232 ?_
                          refine gz_iload_n dX10_value_235 rfl rfl ?_
                          refine gz_aload dX10_value_236 rfl ?_
                          refine scX10_104 (k_X2_holds (w := wd) hp_9 h1_9 h2_9 hP0_9 hQ0_9 hs hv) hp_9 ⟨(by simp only [gRm]; omega), (by simp only [gRm]; omega)⟩ ⟨(Nat.le_of_ble_eq_true rfl), (Nat.le_of_ble_eq_true rfl)⟩ rfl rfl (Nat.le_of_ble_eq_true rfl) dX10_value_238 ?_
                          intro v9 f9 z9; rw [z9.1, z9.2]
                          refine gz_if_eq (tgt := 261) dX10_value_241 (by decide) (fun c_241 => ?_) (fun c_241 => ?_)
                          ·
                            refine gz_lload dX10_value_261 rfl ?_
                            have hl0 : lpT T S wN = false := by rw [hlp] at c_21; exact b01.mp c_21
                            have zk39_0 : (fldF n1 g s wd 0).toInt ≠ -1 := fun e => hw_39_0 (Int32.toInt_inj.mp (e.trans rfl))
                            have zk39_1 : (fldF n1 g s wd 0).toInt ≠ 0 := fun e => hw_39_1 (Int32.toInt_inj.mp (e.trans rfl))
                            have zk39_2 : (fldF n1 g s wd 0).toInt ≠ 1 := fun e => hw_39_2 (Int32.toInt_inj.mp (e.trans rfl))
                            have zk39_3 : (fldF n1 g s wd 0).toInt ≠ 2 := fun e => hw_39_3 (Int32.toInt_inj.mp (e.trans rfl))
                            have zk39_4 : (fldF n1 g s wd 0).toInt ≠ 3 := fun e => hw_39_4 (Int32.toInt_inj.mp (e.trans rfl))
                            have zk39_5 : (fldF n1 g s wd 0).toInt ≠ 4 := fun e => hw_39_5 (Int32.toInt_inj.mp (e.trans rfl))
                            have zk39_6 : (fldF n1 g s wd 0).toInt ≠ 5 := fun e => hw_39_6 (Int32.toInt_inj.mp (e.trans rfl))
                            have zk39_7 : (fldF n1 g s wd 0).toInt ≠ 6 := fun e => hw_39_7 (Int32.toInt_inj.mp (e.trans rfl))
                            have zk39_8 : (fldF n1 g s wd 0).toInt = 7 := by rw [hw_39_8]; rfl
                            have hk_ := hfk.1
                            have hh6 : hldF n1 n2 g h s v t da wd = if hlB S (grH T wN) = true then 1 else 0 := hld_S hs hv hSn hwN.1 (by omega) (hG wN (by omega)).1 (hG wN (by omega)).2.1 (by omega)
                            rw [hh6] at c_241
                            have hb0 : hlB S (grH T wN) = false := b01.mp c_241
                            exact gz_lret rfl dX10_value_263 (Nat.le_of_ble_eq_true rfl) (Nat.le_of_ble_eq_true rfl) (⟨_, rfl, (by rw [vl_w hok hvT_ h4 hwN.2 hd.2 hl0 (by omega) hb0, he9]), hF9, (fr_tr fr_rf (fr_mo hr9 (by simp))), (kpS_tr kpS_rf hk9)⟩)
                          ·
                            refine gz_aload_n dX10_value_244 rfl rfl ?_
                            refine gz_iload_n dX10_value_245 rfl rfl ?_
                            refine gz_lload dX10_value_246 rfl ?_
                            refine gz_aload_n dX10_value_248 rfl rfl ?_
                            refine gz_iload_n dX10_value_249 rfl rfl ?_
                            refine gz_iload_n dX10_value_250 rfl rfl ?_
                            refine gz_iload_n dX10_value_251 rfl rfl ?_
                            have zk39_0 : (fldF n1 g s wd 0).toInt ≠ -1 := fun e => hw_39_0 (Int32.toInt_inj.mp (e.trans rfl))
                            have zk39_1 : (fldF n1 g s wd 0).toInt ≠ 0 := fun e => hw_39_1 (Int32.toInt_inj.mp (e.trans rfl))
                            have zk39_2 : (fldF n1 g s wd 0).toInt ≠ 1 := fun e => hw_39_2 (Int32.toInt_inj.mp (e.trans rfl))
                            have zk39_3 : (fldF n1 g s wd 0).toInt ≠ 2 := fun e => hw_39_3 (Int32.toInt_inj.mp (e.trans rfl))
                            have zk39_4 : (fldF n1 g s wd 0).toInt ≠ 3 := fun e => hw_39_4 (Int32.toInt_inj.mp (e.trans rfl))
                            have zk39_5 : (fldF n1 g s wd 0).toInt ≠ 4 := fun e => hw_39_5 (Int32.toInt_inj.mp (e.trans rfl))
                            have zk39_6 : (fldF n1 g s wd 0).toInt ≠ 5 := fun e => hw_39_6 (Int32.toInt_inj.mp (e.trans rfl))
                            have zk39_7 : (fldF n1 g s wd 0).toInt ≠ 6 := fun e => hw_39_7 (Int32.toInt_inj.mp (e.trans rfl))
                            have zk39_8 : (fldF n1 g s wd 0).toInt = 7 := by rw [hw_39_8]; rfl
                            have hkq := hfk.1
                            refine scX10_107 (k_X10_deedValueE (wd := wd) (fa := fa) (st := st) hwo_9 hwe_9 hst_9 hpa_9 hp_9 h1_9 h2_9 hs hv hI hz ha hpg hPQ hD hcT_ hE hF9 hwN hfN hd hS0 ⟨_, _, (by rw [← hsc]; exact hP0_9), (by rw [← hsc]; exact hQ0_9), hSn⟩ (by omega) (by omega) ih) hwo_9 ⟨(by simp only [gRm]; omega), (by simp only [gRm]; omega)⟩ ⟨(Nat.le_of_ble_eq_true rfl), (Nat.le_of_ble_eq_true rfl)⟩ rfl rfl (Nat.le_of_ble_eq_true rfl) dX10_value_252 ?_
                            rintro r10 f10 ⟨he10, hF10, hr10, hk10⟩
                            have hwo_10 : f10 wo = some (.inr (10, [.int sz, .ref we, .ref stp, .ref pa, .ref ba, .ref td, .ref p, .int ah, .int gl])) := hr10 _ _ hwo_9 (hD _ (by simp))
                            have hwe_10 : f10 we = some (.inl (cy 0, 3, .inl (weg))) := hr10 _ _ hwe_9 (hD _ (by simp))
                            have hst_10 : f10 stp = some (.inl (cy 0, 18, .inl (stg))) := hr10 _ _ hst_9 (hD _ (by simp))
                            have hpa_10 : f10 pa = some (.inl (cy 6, 5, .inr (.inr (.inr (.inr (pg)))))) := hr10 _ _ hpa_9 (hD _ (by simp))
                            have hp_10 : f10 p = some (.inr (2, [.ref c1, .ref c2, .int s, .int v])) := hr10 _ _ hp_9 (hD _ (by simp))
                            have h1_10 : f10 c1 = some (.inl (cy 0, n1, .inl (g))) := hr10 _ _ h1_9 (hD _ (by simp))
                            have h2_10 : f10 c2 = some (.inl (cy 0, n2, .inl (h))) := hr10 _ _ h2_9 (hD _ (by simp))
                            have hP0_10 : f10 (P (scI st)) = some (.inr (7, [.ref (Q (scI st)), .int da])) := ((hk10 _ hscd).1).trans hP0_9
                            have hQ0_10 : f10 (Q (scI st)) = some (.inl (cy 0, 6, .inl (t))) := ((hk10 _ hscd).2).trans hQ0_9
                            refine scX10_100 (k_X10_better (x := wd) (y := r9) (u := r10) hwo_10 hp_10 h1_10 hs) hwo_10 ⟨(by simp only [gRm]; omega), (by simp only [gRm]; omega)⟩ ⟨(Nat.le_of_ble_eq_true rfl), (Nat.le_of_ble_eq_true rfl)⟩ rfl rfl (Nat.le_of_ble_eq_true rfl) dX10_value_255 ?_
                            intro v9 f9 z9; rw [z9.1, z9.2]
                            refine gz_goto (tgt := 263) dX10_value_258 (by decide) ?_
                            have hl0 : lpT T S wN = false := by rw [hlp] at c_21; exact b01.mp c_21
                            have zk39_0 : (fldF n1 g s wd 0).toInt ≠ -1 := fun e => hw_39_0 (Int32.toInt_inj.mp (e.trans rfl))
                            have zk39_1 : (fldF n1 g s wd 0).toInt ≠ 0 := fun e => hw_39_1 (Int32.toInt_inj.mp (e.trans rfl))
                            have zk39_2 : (fldF n1 g s wd 0).toInt ≠ 1 := fun e => hw_39_2 (Int32.toInt_inj.mp (e.trans rfl))
                            have zk39_3 : (fldF n1 g s wd 0).toInt ≠ 2 := fun e => hw_39_3 (Int32.toInt_inj.mp (e.trans rfl))
                            have zk39_4 : (fldF n1 g s wd 0).toInt ≠ 3 := fun e => hw_39_4 (Int32.toInt_inj.mp (e.trans rfl))
                            have zk39_5 : (fldF n1 g s wd 0).toInt ≠ 4 := fun e => hw_39_5 (Int32.toInt_inj.mp (e.trans rfl))
                            have zk39_6 : (fldF n1 g s wd 0).toInt ≠ 5 := fun e => hw_39_6 (Int32.toInt_inj.mp (e.trans rfl))
                            have zk39_7 : (fldF n1 g s wd 0).toInt ≠ 6 := fun e => hw_39_7 (Int32.toInt_inj.mp (e.trans rfl))
                            have zk39_8 : (fldF n1 g s wd 0).toInt = 7 := by rw [hw_39_8]; rfl
                            have hk_ := hfk.1
                            have hh6 : hldF n1 n2 g h s v t da wd = if hlB S (grH T wN) = true then 1 else 0 := hld_S hs hv hSn hwN.1 (by omega) (hG wN (by omega)).1 (hG wN (by omega)).2.1 (by omega)
                            rw [hh6] at c_241
                            have hb1 : hlB S (grH T wN) = true := by cases hb : hlB S (grH T wN); (exact absurd (b01.mpr hb) c_241); rfl
                            exact gz_lret rfl dX10_value_263 (Nat.le_of_ble_eq_true rfl) (Nat.le_of_ble_eq_true rfl) (⟨_, rfl, (by rw [bet_S hs hcT_ hwN.1 hwN.2, vl_7 hok hvT_ h4 hwN.2 hd.2 hl0 (by omega) hb1, he9, he10]), hF10, (fr_tr (fr_tr fr_rf (fr_mo hr9 (by simp))) (fr_mo hr10 (by simp))), (kpS_tr (kpS_tr kpS_rf hk9) hk10)⟩)
                        ·
                          refine gz_tableOut (tgt := 264) dX10_value_39 (by have g0 : (fldF n1 g s wd 0).toInt ≠ -1 := fun e => hw_39_0 (Int32.toInt_inj.mp (e.trans rfl)); have g1 : (fldF n1 g s wd 0).toInt ≠ 0 := fun e => hw_39_1 (Int32.toInt_inj.mp (e.trans rfl)); have g2 : (fldF n1 g s wd 0).toInt ≠ 1 := fun e => hw_39_2 (Int32.toInt_inj.mp (e.trans rfl)); have g3 : (fldF n1 g s wd 0).toInt ≠ 2 := fun e => hw_39_3 (Int32.toInt_inj.mp (e.trans rfl)); have g4 : (fldF n1 g s wd 0).toInt ≠ 3 := fun e => hw_39_4 (Int32.toInt_inj.mp (e.trans rfl)); have g5 : (fldF n1 g s wd 0).toInt ≠ 4 := fun e => hw_39_5 (Int32.toInt_inj.mp (e.trans rfl)); have g6 : (fldF n1 g s wd 0).toInt ≠ 5 := fun e => hw_39_6 (Int32.toInt_inj.mp (e.trans rfl)); have g7 : (fldF n1 g s wd 0).toInt ≠ 6 := fun e => hw_39_7 (Int32.toInt_inj.mp (e.trans rfl)); have g8 : (fldF n1 g s wd 0).toInt ≠ 7 := fun e => hw_39_8 (Int32.toInt_inj.mp (e.trans rfl)); omega) (by decide) ?_
                          refine gz_aload_n dX10_value_264 rfl rfl ?_
                          refine gz_iload_n dX10_value_265 rfl rfl ?_
                          refine gz_iload_n dX10_value_266 rfl rfl ?_
                          refine gz_iload_n dX10_value_267 rfl rfl ?_
                          have zk39_0 : (fldF n1 g s wd 0).toInt ≠ -1 := fun e => hw_39_0 (Int32.toInt_inj.mp (e.trans rfl))
                          have zk39_1 : (fldF n1 g s wd 0).toInt ≠ 0 := fun e => hw_39_1 (Int32.toInt_inj.mp (e.trans rfl))
                          have zk39_2 : (fldF n1 g s wd 0).toInt ≠ 1 := fun e => hw_39_2 (Int32.toInt_inj.mp (e.trans rfl))
                          have zk39_3 : (fldF n1 g s wd 0).toInt ≠ 2 := fun e => hw_39_3 (Int32.toInt_inj.mp (e.trans rfl))
                          have zk39_4 : (fldF n1 g s wd 0).toInt ≠ 3 := fun e => hw_39_4 (Int32.toInt_inj.mp (e.trans rfl))
                          have zk39_5 : (fldF n1 g s wd 0).toInt ≠ 4 := fun e => hw_39_5 (Int32.toInt_inj.mp (e.trans rfl))
                          have zk39_6 : (fldF n1 g s wd 0).toInt ≠ 5 := fun e => hw_39_6 (Int32.toInt_inj.mp (e.trans rfl))
                          have zk39_7 : (fldF n1 g s wd 0).toInt ≠ 6 := fun e => hw_39_7 (Int32.toInt_inj.mp (e.trans rfl))
                          have zk39_8 : (fldF n1 g s wd 0).toInt ≠ 7 := fun e => hw_39_8 (Int32.toInt_inj.mp (e.trans rfl))
                          have hkq := hfk.1
                          refine scX10_107 (k_X10_deedValueE (wd := wd) (fa := fa) (st := st) hwo hwe hst hpa hp h1 h2 hs hv hI hz ha hpg hPQ hD hcT_ hE hF hwN hfN hd hS0 ⟨_, _, (by rw [← hsc]; exact hP0), (by rw [← hsc]; exact hQ0), hSn⟩ (by omega) (by omega) ih) hwo ⟨(by simp only [gRm]; omega), (by simp only [gRm]; omega)⟩ ⟨(Nat.le_of_ble_eq_true rfl), (Nat.le_of_ble_eq_true rfl)⟩ rfl rfl (Nat.le_of_ble_eq_true rfl) dX10_value_268 ?_
                          rintro r11 f11 ⟨he11, hF11, hr11, hk11⟩
                          have hwo_11 : f11 wo = some (.inr (10, [.int sz, .ref we, .ref stp, .ref pa, .ref ba, .ref td, .ref p, .int ah, .int gl])) := hr11 _ _ hwo (hD _ (by simp))
                          have hwe_11 : f11 we = some (.inl (cy 0, 3, .inl (weg))) := hr11 _ _ hwe (hD _ (by simp))
                          have hst_11 : f11 stp = some (.inl (cy 0, 18, .inl (stg))) := hr11 _ _ hst (hD _ (by simp))
                          have hpa_11 : f11 pa = some (.inl (cy 6, 5, .inr (.inr (.inr (.inr (pg)))))) := hr11 _ _ hpa (hD _ (by simp))
                          have hp_11 : f11 p = some (.inr (2, [.ref c1, .ref c2, .int s, .int v])) := hr11 _ _ hp (hD _ (by simp))
                          have h1_11 : f11 c1 = some (.inl (cy 0, n1, .inl (g))) := hr11 _ _ h1 (hD _ (by simp))
                          have h2_11 : f11 c2 = some (.inl (cy 0, n2, .inl (h))) := hr11 _ _ h2 (hD _ (by simp))
                          have hP0_11 : f11 (P (scI st)) = some (.inr (7, [.ref (Q (scI st)), .int da])) := ((hk11 _ hscd).1).trans hP0
                          have hQ0_11 : f11 (Q (scI st)) = some (.inl (cy 0, 6, .inl (t))) := ((hk11 _ hscd).2).trans hQ0
                          have hl0 : lpT T S wN = false := by rw [hlp] at c_21; exact b01.mp c_21
                          have zk39_0 : (fldF n1 g s wd 0).toInt ≠ -1 := fun e => hw_39_0 (Int32.toInt_inj.mp (e.trans rfl))
                          have zk39_1 : (fldF n1 g s wd 0).toInt ≠ 0 := fun e => hw_39_1 (Int32.toInt_inj.mp (e.trans rfl))
                          have zk39_2 : (fldF n1 g s wd 0).toInt ≠ 1 := fun e => hw_39_2 (Int32.toInt_inj.mp (e.trans rfl))
                          have zk39_3 : (fldF n1 g s wd 0).toInt ≠ 2 := fun e => hw_39_3 (Int32.toInt_inj.mp (e.trans rfl))
                          have zk39_4 : (fldF n1 g s wd 0).toInt ≠ 3 := fun e => hw_39_4 (Int32.toInt_inj.mp (e.trans rfl))
                          have zk39_5 : (fldF n1 g s wd 0).toInt ≠ 4 := fun e => hw_39_5 (Int32.toInt_inj.mp (e.trans rfl))
                          have zk39_6 : (fldF n1 g s wd 0).toInt ≠ 5 := fun e => hw_39_6 (Int32.toInt_inj.mp (e.trans rfl))
                          have zk39_7 : (fldF n1 g s wd 0).toInt ≠ 6 := fun e => hw_39_7 (Int32.toInt_inj.mp (e.trans rfl))
                          have zk39_8 : (fldF n1 g s wd 0).toInt ≠ 7 := fun e => hw_39_8 (Int32.toInt_inj.mp (e.trans rfl))
                          have hk_ := hfk.1
                          exact gz_lret rfl dX10_value_271 (Nat.le_of_ble_eq_true rfl) (Nat.le_of_ble_eq_true rfl) (⟨_, rfl, (by rw [vl_n hok hvT_ h4 hwN.2 hd.2 hl0 ⟨by omega, by omega, by omega, by omega⟩ (fun z => by omega), he11]), hF11, (fr_tr fr_rf (fr_mo hr11 (by simp))), (kpS_tr kpS_rf hk11)⟩)
      ·
        refine gz_lconst (v := 0) dX10_value_24 (by decide) ?_
        have hl1 : lpT T S wN = true := by rw [hlp] at c_21; cases hb : lpT T S wN; (exact absurd (b01.mpr hb) c_21); rfl
        exact gz_lret rfl dX10_value_25 (Nat.le_of_ble_eq_true rfl) (Nat.le_of_ble_eq_true rfl) (⟨_, rfl, (vl_0 hok hvT_ h4 hwN.2 hd.2 (Or.inl hl1)).symm, hF, fr_rf, kpS_rf⟩)
