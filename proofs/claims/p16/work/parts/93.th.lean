/-! choices -/
def chT (T : List Hd) (a b : Int) (w : Nat) : Int := if sdT T w = 0 then a else b
/-- whether the HOUSE hs may choose (kd 4) or take (kd 7) the k-th -/
def chB (T : List Hd) (S : Sn) (a b kd k hs : Int) (Q : List Sd) : Bool := decide (0 ≤ k) && (decide (k < (Q.length : Int)) && (decide ((grH T (Q.getD k.toNat (0, 0)).1).1 = kd) && (decide (chT T a b (Q.getD k.toNat (0, 0)).1 = hs) && (!(lpT T S (Q.getD k.toNat (0, 0)).1) && (decide (kd ≠ 7) || hlB S (grH T (Q.getD k.toNat (0, 0)).1))))))
theorem chB_st {T : List Hd} {S : Sn} {a b kd k hs : Int} {Q : List Sd} : chB T S a b kd k hs Q = true ↔ 0 ≤ k ∧ k < (Q.length : Int) ∧ (grH T (Q.getD k.toNat (0, 0)).1).1 = kd ∧ chT T a b (Q.getD k.toNat (0, 0)).1 = hs ∧ lpT T S (Q.getD k.toNat (0, 0)).1 = false ∧ (kd ≠ 7 ∨ hlB S (grH T (Q.getD k.toNat (0, 0)).1) = true) := by
  unfold chB
  rw [Bool.and_eq_true, Bool.and_eq_true, Bool.and_eq_true, Bool.and_eq_true, Bool.and_eq_true, Bool.or_eq_true, Bool.not_eq_true', decide_eq_true_eq, decide_eq_true_eq, decide_eq_true_eq, decide_eq_true_eq, decide_eq_true_eq]
/-- which DEED: the first (0), the second -/
def chC (T : List Hd) (w : Nat) (wh : Int) : Nat := if wh = 0 then w + 1 else grS T w
def dcZ (T : List Hd) (S : Sn) (l a b kd k hs wh : Int) (Z : Ls) : Ls := if chB T S a b kd k hs Z.2.2.1 = true then dpE T S l a b k.toNat (chC T (Z.2.2.1.getD k.toNat (0, 0)).1 wh) Z else Z
def dcR (T : List Hd) (S : Sn) (l a b kd k hs wh : Int) (Z : Ls) : Int := if chB T S a b kd k hs Z.2.2.1 = true then ((dcZ T S l a b kd k hs wh Z).1.length : Int) - (Z.1.length : Int) else -1
theorem dc_y {T : List Hd} {S : Sn} {l a b kd k hs wh : Int} {Z : Ls} (h : chB T S a b kd k hs Z.2.2.1 = true) : dcZ T S l a b kd k hs wh Z = dpE T S l a b k.toNat (chC T (Z.2.2.1.getD k.toNat (0, 0)).1 wh) Z ∧ dcR T S l a b kd k hs wh Z = ((dpE T S l a b k.toNat (chC T (Z.2.2.1.getD k.toNat (0, 0)).1 wh) Z).1.length : Int) - (Z.1.length : Int) := by
  have e : dcZ T S l a b kd k hs wh Z = dpE T S l a b k.toNat (chC T (Z.2.2.1.getD k.toNat (0, 0)).1 wh) Z := by unfold dcZ; rw [if_pos h]
  refine ⟨e, ?_⟩
  unfold dcR
  rw [if_pos h, e]
theorem dc_n {T : List Hd} {S : Sn} {l a b kd k hs wh : Int} {Z : Ls} (h : ¬ chB T S a b kd k hs Z.2.2.1 = true) : dcZ T S l a b kd k hs wh Z = Z ∧ dcR T S l a b kd k hs wh Z = -1 := by
  unfold dcZ dcR
  rw [if_neg h, if_neg h]
  exact ⟨rfl, rfl⟩
theorem cho_S {n1 : Nat} {g hh : Nat → Int32} {s v wd ho1 ho2 : Int32} {T : List Hd} {w : Nat} (hs : 0 ≤ s.toInt ∧ 13 * s.toInt ≤ n1 ∧ n1 ≤ 520) (hc : hcT T s v g hh) (hw : wd.toInt = (w : Int)) (hlt : w < T.length) : (choF n1 g s ho1 ho2 wd).toInt = chT T ho1.toInt ho2.toInt w := by
  have q := (fk_S (n1 := n1) hs hc hw hlt).2.2.1
  unfold choF chT
  by_cases c : sdT T w = 0
  · rw [if_pos c, if_pos (Int32.toInt_inj.mp (by rw [q, c]; rfl))]
  · rw [if_neg c, if_neg (show ¬ fldF n1 g s wd 10 = 0 from fun z => c (by rw [← q, z]; rfl))]

set_option maxHeartbeats 4000000 in
set_option maxRecDepth 100000 in
theorem k_X1_decideE {l : Launch} {D : va_G} {cy : Nat → ClassId} {b : Nat} {f : gMem} {co lv sc th lg en ne ge re gv tk am lf p so fc c1 c2 n1 n2 : Nat} {csz da sz lo gi nu ho1 ho2 fs_ s v : Int32} {ga : Int64} {eg sg fg g h t : Nat → Int32} {nb kx hx_ kd wh y2 : Int32} {lvg : Nat → Option Nat} {T : List Hd} {S : Sn} {Z : Ls} (hco : f co = some (.inr (1, [.ref lv, .ref sc, .ref lg, .int csz]))) (hlv : f lv = some (.inl (cy 5, 40, .inr (.inr (.inr (.inr (lvg))))))) (hlf : f lf = some (.inr (5, [.ref p, .int nu, .int ho1, .int ho2, .ref so, .ref fc, .int fs_, .long ga]))) (hso : f so = some (.inl (cy 0, 40, .inl (sg)))) (hfc : f fc = some (.inl (cy 0, 40, .inl (fg)))) (hp : f p = some (.inr (2, [.ref c1, .ref c2, .int s, .int v]))) (h1 : f c1 = some (.inl (cy 0, n1, .inl (g)))) (h2 : f c2 = some (.inl (cy 0, n2, .inl (h)))) (hsc : f sc = some (.inr (7, [.ref th, .int da]))) (hth : f th = some (.inl (cy 0, 6, .inl (t)))) (hlg : f lg = some (.inr (4, [.ref en, .int sz, .int lo, .ref ge, .ref re, .ref gv, .ref tk, .ref am, .int gi]))) (hen : f en = some (.inl (cy 0, ne, .inl (eg)))) (hs : 0 ≤ s.toInt ∧ 13 * s.toInt ≤ n1 ∧ n1 ≤ 520) (hv : 0 ≤ v.toInt ∧ 2 * v.toInt ≤ n2 ∧ n2 ≤ 80) (hne : so ≠ fc ∧ so ≠ c1 ∧ so ≠ c2 ∧ so ≠ th ∧ fc ≠ c1 ∧ fc ≠ c2 ∧ fc ≠ th) (hcT_ : hcT T s v g h) (hSn : sCn S da t) (hl : 0 ≤ sz.toInt ∧ sz.toInt ≤ 2000 ∧ 6 * sz.toInt ≤ ne ∧ ne ≤ 24000) (hen2 : en ≠ so ∧ en ≠ fc ∧ en ≠ c1 ∧ en ≠ c2 ∧ en ≠ th) (hA : lifeF csz lvg nb = some lf) (hZ : CSt sz lo eg fs_ ga sg fg Z) (hQ : okQ T Z.2.2.1) (hk4w : ¬ wh.toInt = 0 → (grH T (Z.2.2.1.getD kx.toInt.toNat (0, 0)).1).1 = kd.toInt → chB T S ho1.toInt ho2.toInt kd.toInt kx.toInt hx_.toInt Z.2.2.1 = true → (grH T (Z.2.2.1.getD kx.toInt.toNat (0, 0)).1).1 = 4) : gU l D cy b yX1_decide cX1_decide 10 (some .int) 20 (24000 - ne) (2 * (24000 - ne)) [.ref co, .int nb, .int kx, .int hx_, .int kd, .int wh] f gTt (fun kk nn r f2 => ∃ (r2 : Int32) (e2 m2 : Nat) (g2 : Nat → Int32) (s2 l2 z2 : Int32) (a2 : Int64) (x2 y2 : Nat → Int32), r = some (.int r2) ∧ f2 lg = some (.inr (4, [.ref e2, .int s2, .int l2, .ref ge, .ref re, .ref gv, .ref tk, .ref am, .int gi])) ∧ f2 e2 = some (.inl (cy 0, m2, .inl (g2))) ∧ f2 lf = some (.inr (5, [.ref p, .int nu, .int ho1, .int ho2, .ref so, .ref fc, .int z2, .long a2])) ∧ f2 so = some (.inl (cy 0, 40, .inl (x2))) ∧ f2 fc = some (.inl (cy 0, 40, .inl (y2))) ∧ (0 ≤ s2.toInt ∧ s2.toInt ≤ 2000 ∧ 6 * s2.toInt ≤ m2 ∧ m2 ≤ 24000) ∧ (kk + ne ≤ m2 ∧ nn + 2 * ne ≤ 2 * m2) ∧ (e2 = en ∨ f e2 = none) ∧ CSt s2 l2 g2 z2 a2 x2 y2 (dcZ T S nu.toInt ho1.toInt ho2.toInt kd.toInt kx.toInt hx_.toInt wh.toInt Z) ∧ r2.toInt = dcR T S nu.toInt ho1.toInt ho2.toInt kd.toInt kx.toInt hx_.toInt wh.toInt Z ∧ fr [lg, en, lf, so, fc] f f2) := by
  refine gU_of (by decide) (Nat.le_of_ble_eq_true rfl) ?_
  show gG l _ _ _ D cy b cX1_decide 10 _ RX1 "decide" 0 0 f 0 [(0, .ref co), (1, .int nb), (2, .int kx), (3, .int hx_), (4, .int kd), (5, .int wh)] []
  refine gz_aload_n dX1_decide_0 rfl rfl ?_
  refine gz_iload_n dX1_decide_1 rfl rfl ?_
  refine scX1_114 (k_X1_lifeAt (nb := nb) hco hlv) hco ⟨(Nat.le_of_ble_eq_true rfl), (Nat.le_of_ble_eq_true rfl)⟩ ⟨(by simp only [gRm]; omega), (by simp only [gRm]; omega)⟩ rfl rfl (Nat.le_of_ble_eq_true rfl) dX1_decide_2 ?_
  rintro u9 f9 ⟨rfl, rfl⟩
  refine gz_ev (w := .ref lf) (by rw [hA]; rfl) ?_
  refine gz_astore (lv' := [(6, .ref lf), (0, .ref co), (1, .int nb), (2, .int kx), (3, .int hx_), (4, .int kd), (5, .int wh)]) dX1_decide_5 (by decide) rfl ?_
  refine gz_aload dX1_decide_7 rfl ?_
  refine gz_ifnonnull (tgt := 14) dX1_decide_9 (by decide) ?_
  refine gz_aload dX1_decide_14 rfl ?_
  refine sgX1_39 hlf rfl dX1_decide_16 ?_
  refine gz_astore (lv' := [(7, .ref p), (6, .ref lf), (0, .ref co), (1, .int nb), (2, .int kx), (3, .int hx_), (4, .int kd), (5, .int wh)]) dX1_decide_19 (by decide) rfl ?_
  refine gz_aload dX1_decide_21 rfl ?_
  refine gz_iload_n dX1_decide_23 rfl rfl ?_
  refine scX1_96 (k_X5_wordAt (k := kx) hlf hso) hlf ⟨(Nat.le_of_ble_eq_true rfl), (Nat.le_of_ble_eq_true rfl)⟩ ⟨(by simp only [gRm]; omega), (by simp only [gRm]; omega)⟩ rfl rfl (Nat.le_of_ble_eq_true rfl) dX1_decide_24 ?_
  intro v9 f9 z9; rw [z9.1, z9.2]
  refine gz_istore (lv' := [(8, .int (wdAF sg fs_ kx)), (7, .ref p), (6, .ref lf), (0, .ref co), (1, .int nb), (2, .int kx), (3, .int hx_), (4, .int kd), (5, .int wh)]) dX1_decide_27 (by decide) rfl ?_
  refine gz_iload dX1_decide_29 rfl ?_
  refine gz_iconst (v := (-1)) dX1_decide_31 (by decide) ?_
  refine gz_icmp_eq (tgt := 59) dX1_decide_32 (by decide) (fun c_32 => ?_) (fun c_32 => ?_)
  ·
    refine gz_iconst (v := (-1)) dX1_decide_59 (by decide) ?_
    have hcn : ¬ chB T S ho1.toInt ho2.toInt kd.toInt kx.toInt hx_.toInt Z.2.2.1 = true := fun z => by
      have h9 := chB_st.mp z
      have q9 := wdA_S hZ.2 (show kx.toInt = (kx.toInt.toNat : Int) by omega) (by omega)
      rw [c_32] at q9
      have q8 := q9.1
      have e9 : (-1 : Int32).toInt = -1 := rfl
      omega
    obtain ⟨dz1, dz2⟩ := dc_n (l := nu.toInt) (wh := wh.toInt) hcn
    exact gz_iretU rfl dX1_decide_60 (by omega) (by omega) (⟨_, _, _, _, _, _, _, _, _, _, rfl, hlg, hen, hlf, hso, hfc, hl, ⟨by omega, by omega⟩, (Or.inl rfl), (by rw [dz1]; exact hZ), (by rw [dz2]; rfl), fr_rf⟩)
  ·
    refine gz_aload dX1_decide_35 rfl ?_
    refine gz_iload dX1_decide_37 rfl ?_
    refine gz_iconst (v := 0) dX1_decide_39 (by decide) ?_
    have hin : 0 ≤ kx.toInt ∧ kx.toInt < (Z.2.2.1.length : Int) := Classical.byContradiction (fun z => c_32 (wdA_N hZ.2 z).1)
    have hkl : kx.toInt.toNat < Z.2.2.1.length := by omega
    have hkn : kx.toInt = (kx.toInt.toNat : Int) := by omega
    obtain ⟨wq1, wq2⟩ := wdA_S hZ.2 hkn hkl
    have hsd := hQ.2 _ (gtD_mem (d := (0, 0)) hkl)
    have hfk := (fk_S (n1 := n1) hs hcT_ wq1 hsd.1).1
    have hlp := lps_S (n1 := n1) (n2 := n2) hs hv hSn hcT_ wq1 hsd.1
    have hcq := cho_S (n1 := n1) (ho1 := ho1) (ho2 := ho2) hs hcT_ wq1 hsd.1
    obtain ⟨⟨hok, hvT_, h4, hoT⟩, esT, hG, _⟩ := hc_lk (n1 := n1) hcT_
    have hch := st_ch hok hvT_ hsd
    have hh7 : (grH T (Z.2.2.1.getD kx.toInt.toNat (0, 0)).1).1 = 7 → hldF n1 n2 g h s v t da (wdAF sg fs_ kx) = if hlB S (grH T (Z.2.2.1.getD kx.toInt.toNat (0, 0)).1) = true then 1 else 0 := fun z => hld_S hs hv hSn wq1 (by have := hsd.1; omega) (hG _ (by have := hsd.1; omega)).1 (hG _ (by have := hsd.1; omega)).2.1 (by omega)
    refine scX1_49 (k_X2_field (w := (wdAF sg fs_ kx)) (k := 0) hp h1 hs) hp ⟨(Nat.le_of_ble_eq_true rfl), (Nat.le_of_ble_eq_true rfl)⟩ ⟨(by simp only [gRm]; omega), (by simp only [gRm]; omega)⟩ rfl rfl (Nat.le_of_ble_eq_true rfl) dX1_decide_40 ?_
    intro v9 f9 z9; rw [z9.1, z9.2]
    refine gz_iload dX1_decide_43 rfl ?_
    refine gz_icmp_ne (tgt := 59) dX1_decide_45 (by decide) (fun c_45 => ?_) (fun c_45 => ?_)
    ·
      refine gz_iconst (v := (-1)) dX1_decide_59 (by decide) ?_
      have hcn : ¬ chB T S ho1.toInt ho2.toInt kd.toInt kx.toInt hx_.toInt Z.2.2.1 = true := fun z => by
        have h9 := chB_st.mp z
        exact c_45 (Int32.toInt_inj.mp (by rw [hfk]; exact h9.2.2.1))
      obtain ⟨dz1, dz2⟩ := dc_n (l := nu.toInt) (wh := wh.toInt) hcn
      exact gz_iretU rfl dX1_decide_60 (by omega) (by omega) (⟨_, _, _, _, _, _, _, _, _, _, rfl, hlg, hen, hlf, hso, hfc, hl, ⟨by omega, by omega⟩, (Or.inl rfl), (by rw [dz1]; exact hZ), (by rw [dz2]; rfl), fr_rf⟩)
    ·
      refine gz_aload dX1_decide_48 rfl ?_
      refine gz_iload dX1_decide_50 rfl ?_
      refine scX1_118 (k_X5_chooser (x := (wdAF sg fs_ kx)) hlf hp h1 hs) hlf ⟨(Nat.le_of_ble_eq_true rfl), (Nat.le_of_ble_eq_true rfl)⟩ ⟨(by simp only [gRm]; omega), (by simp only [gRm]; omega)⟩ rfl rfl (Nat.le_of_ble_eq_true rfl) dX1_decide_52 ?_
      intro v9 f9 z9; rw [z9.1, z9.2]
      refine gz_iload_n dX1_decide_55 rfl rfl ?_
      refine gz_icmp_eq (tgt := 61) dX1_decide_56 (by decide) (fun c_56 => ?_) (fun c_56 => ?_)
      ·
        refine gz_aload dX1_decide_61 rfl ?_
        refine gz_iload dX1_decide_63 rfl ?_
        refine gz_aload_n dX1_decide_65 rfl rfl ?_
        refine sgX1_17 hco rfl dX1_decide_66 ?_
        refine scX1_43 (k_X2_lapsed (w := (wdAF sg fs_ kx)) hp h1 h2 hsc hth hs hv) hp ⟨(Nat.le_of_ble_eq_true rfl), (Nat.le_of_ble_eq_true rfl)⟩ ⟨(by simp only [gRm]; omega), (by simp only [gRm]; omega)⟩ rfl rfl (Nat.le_of_ble_eq_true rfl) dX1_decide_69 ?_
        intro v9 f9 z9; rw [z9.1, z9.2]
        refine gz_if_ne (tgt := 96) dX1_decide_72 (by decide) (fun c_72 => ?_) (fun c_72 => ?_)
        ·
          refine gz_iconst (v := (-1)) dX1_decide_96 (by decide) ?_
          have hcn : ¬ chB T S ho1.toInt ho2.toInt kd.toInt kx.toInt hx_.toInt Z.2.2.1 = true := fun z => by
            have h9 := chB_st.mp z
            rw [hlp] at c_72; exact c_72 (b01.mpr h9.2.2.2.2.1)
          obtain ⟨dz1, dz2⟩ := dc_n (l := nu.toInt) (wh := wh.toInt) hcn
          exact gz_iretU rfl dX1_decide_97 (by omega) (by omega) (⟨_, _, _, _, _, _, _, _, _, _, rfl, hlg, hen, hlf, hso, hfc, hl, ⟨by omega, by omega⟩, (Or.inl rfl), (by rw [dz1]; exact hZ), (by rw [dz2]; rfl), fr_rf⟩)
        ·
          refine gz_iload dX1_decide_75 rfl ?_
          refine gz_bipush (v := 7) dX1_decide_77 (by decide) ?_
          refine gz_icmp_ne (tgt := 98) dX1_decide_79 (by decide) (fun c_79 => ?_) (fun c_79 => ?_)
          ·
            refine gz_aload_n dX1_decide_98 rfl rfl ?_
            refine sgX1_21 hco rfl dX1_decide_99 ?_
            refine scX1_121 (k_X4_size hlg) hlg ⟨(Nat.le_of_ble_eq_true rfl), (Nat.le_of_ble_eq_true rfl)⟩ ⟨(by simp only [gRm]; omega), (by simp only [gRm]; omega)⟩ rfl rfl (Nat.le_of_ble_eq_true rfl) dX1_decide_102 ?_
            intro v9 f9 z9; rw [z9.1, z9.2]
            refine gz_istore (lv' := [(9, .int sz), (8, .int (wdAF sg fs_ kx)), (7, .ref p), (6, .ref lf), (0, .ref co), (1, .int nb), (2, .int kx), (3, .int hx_), (4, .int kd), (5, .int wh)]) dX1_decide_105 (by decide) rfl ?_
            refine gz_aload_n dX1_decide_107 rfl rfl ?_
            refine gz_aload dX1_decide_108 rfl ?_
            refine gz_iload_n dX1_decide_110 rfl rfl ?_
            refine gz_iload dX1_decide_111 rfl ?_
            refine gz_if_ne (tgt := 120) dX1_decide_113 (by decide) (fun c_113 => ?_) (fun c_113 => ?_)
            ·
              refine gz_iconst (v := 4) dX1_decide_120 (by decide) ?_
              have hl0 : lpT T S (Z.2.2.1.getD kx.toInt.toNat (0, 0)).1 = false := by rw [hlp] at c_72; exact b01.mp c_72
              have hk45 : (fldF n1 g s (wdAF sg fs_ kx) 0) = kd := c_45
              have hc55 : (choF n1 g s ho1 ho2 (wdAF sg fs_ kx)) = hx_ := c_56
              have hkd : (grH T (Z.2.2.1.getD kx.toInt.toNat (0, 0)).1).1 = kd.toInt := by rw [← hfk, hk45]
              have h7 : kd.toInt ≠ 7 := fun e => c_79 (Int32.toInt_inj.mp (e.trans rfl))
              have hcb : chB T S ho1.toInt ho2.toInt kd.toInt kx.toInt hx_.toInt Z.2.2.1 = true := chB_st.mpr ⟨hin.1, hin.2, hkd, by rw [← hcq, hc55], hl0, Or.inl h7⟩
              obtain ⟨dz1, dz2⟩ := dc_y (l := nu.toInt) (wh := wh.toInt) hcb
              have hwh : ¬ wh.toInt = 0 := fun e => c_113 (Int32.toInt_inj.mp (e.trans rfl))
              have hk4 : (grH T (Z.2.2.1.getD kx.toInt.toNat (0, 0)).1).1 = 4 := hk4w hwh hkd hcb
              have hfd : (fldF n1 g s (wdAF sg fs_ kx) 4).toInt = ((chC T (Z.2.2.1.getD kx.toInt.toNat (0, 0)).1 wh.toInt : Nat) : Int) ∧ chC T (Z.2.2.1.getD kx.toInt.toNat (0, 0)).1 wh.toInt < T.length := by unfold chC; rw [if_neg hwh]; exact ⟨(fk_S hs hcT_ wq1 hsd.1).2.2.2.2.2 (by omega), hch.2 hk4⟩
              refine suX1_104 (k_X1_enterE (k0 := kx) (fd := 4) (kN := kx.toInt.toNat) (cN := chC T (Z.2.2.1.getD kx.toInt.toNat (0, 0)).1 wh.toInt) (Z := Z) hco hlf hso hfc hp h1 h2 hsc hth hlg hen hs hv hne hcT_ hSn hl hen2 ⟨hkn, hkl⟩ hQ hfd hZ) hco ⟨(Nat.le_of_ble_eq_true rfl), (Nat.le_of_ble_eq_true rfl)⟩ ⟨(by simp only [gRm]; omega), (by simp only [gRm]; omega)⟩ rfl rfl (Nat.le_of_ble_eq_true rfl) dX1_decide_121 ?_
              rintro kk_1 nn_1 r_1 f1 ⟨e_1, m_1, g_1, s_1, l_1, z_1, a_1, x_1, y_1, rfl, hlg_1, he_1, hlf_1, hso_1, hfc_1, hl_1, hu_1, hc_1, hst_1, hr1⟩
              refine gz_eq (st2 := []) rfl rfl rfl rfl ?_
              have hco_1 : f1 co = some (.inr (1, [.ref lv, .ref sc, .ref lg, .int csz])) := hr1 _ _ hco (by simp only [List.mem_cons, List.not_mem_nil, or_false, not_or]; exact ⟨cne hco hlg (by simp), cne hco hen (by simp), cne hco hlf (by simp), cne hco hso (by simp), cne hco hfc (by simp)⟩)
              have hlv_1 : f1 lv = some (.inl (cy 5, 40, .inr (.inr (.inr (.inr (lvg)))))) := hr1 _ _ hlv (by simp only [List.mem_cons, List.not_mem_nil, or_false, not_or]; exact ⟨cne hlv hlg (by simp), cne hlv hen (by simp), cne hlv hlf (by simp), cne hlv hso (by simp), cne hlv hfc (by simp)⟩)
              have hp_1 : f1 p = some (.inr (2, [.ref c1, .ref c2, .int s, .int v])) := hr1 _ _ hp (by simp only [List.mem_cons, List.not_mem_nil, or_false, not_or]; exact ⟨cne hp hlg (by simp), cne hp hen (by simp), cne hp hlf (by simp), cne hp hso (by simp), cne hp hfc (by simp)⟩)
              have h1_1 : f1 c1 = some (.inl (cy 0, n1, .inl (g))) := hr1 _ _ h1 (by simp only [List.mem_cons, List.not_mem_nil, or_false, not_or]; exact ⟨cne h1 hlg (by simp), Ne.symm (hen2.2.2.1), cne h1 hlf (by simp), Ne.symm (hne.2.1), Ne.symm (hne.2.2.2.2.1)⟩)
              have h2_1 : f1 c2 = some (.inl (cy 0, n2, .inl (h))) := hr1 _ _ h2 (by simp only [List.mem_cons, List.not_mem_nil, or_false, not_or]; exact ⟨cne h2 hlg (by simp), Ne.symm (hen2.2.2.2.1), cne h2 hlf (by simp), Ne.symm (hne.2.2.1), Ne.symm (hne.2.2.2.2.2.1)⟩)
              have hsc_1 : f1 sc = some (.inr (7, [.ref th, .int da])) := hr1 _ _ hsc (by simp only [List.mem_cons, List.not_mem_nil, or_false, not_or]; exact ⟨cne hsc hlg (by simp), cne hsc hen (by simp), cne hsc hlf (by simp), cne hsc hso (by simp), cne hsc hfc (by simp)⟩)
              have hth_1 : f1 th = some (.inl (cy 0, 6, .inl (t))) := hr1 _ _ hth (by simp only [List.mem_cons, List.not_mem_nil, or_false, not_or]; exact ⟨cne hth hlg (by simp), Ne.symm (hen2.2.2.2.2), cne hth hlf (by simp), Ne.symm (hne.2.2.2.1), Ne.symm (hne.2.2.2.2.2.2)⟩)
              refine gz_aload_n dX1_decide_124 rfl rfl ?_
              refine sgX1_21 hco_1 rfl dX1_decide_125 ?_
              refine scX1_121 (k_X4_size hlg_1) hlg_1 ⟨(Nat.le_of_ble_eq_true rfl), (Nat.le_of_ble_eq_true rfl)⟩ ⟨(by simp only [gRm]; omega), (by simp only [gRm]; omega)⟩ rfl rfl (Nat.le_of_ble_eq_true rfl) dX1_decide_128 ?_
              intro v9 f9 z9; rw [z9.1, z9.2]
              refine gz_iload dX1_decide_131 rfl ?_
              refine gz_isub dX1_decide_133 ?_
              have hst9 := hst_1
              rw [← dz1] at hst9
              have hrr : (s_1 - sz).toInt = dcR T S nu.toInt ho1.toInt ho2.toInt kd.toInt kx.toInt hx_.toInt wh.toInt Z := by rw [T_sub hst9.1.1.1 hZ.1.1.1 (by have a9 := hst9.1.1.2; have b9 := hZ.1.1.2; omega), dz2, dz1]
              exact gz_iretU rfl dX1_decide_134 (by omega) (by omega) (⟨_, _, _, _, _, _, _, _, _, _, rfl, hlg_1, he_1, hlf_1, hso_1, hfc_1, hl_1, ⟨by omega, by omega⟩, hc_1, hst9, hrr, (fr_tr fr_rf (fr_mo hr1 (by simp)))⟩)
            ·
              refine gz_iconst (v := 3) dX1_decide_116 (by decide) ?_
              refine gz_goto (tgt := 121) dX1_decide_117 (by decide) ?_
              have hl0 : lpT T S (Z.2.2.1.getD kx.toInt.toNat (0, 0)).1 = false := by rw [hlp] at c_72; exact b01.mp c_72
              have hk45 : (fldF n1 g s (wdAF sg fs_ kx) 0) = kd := c_45
              have hc55 : (choF n1 g s ho1 ho2 (wdAF sg fs_ kx)) = hx_ := c_56
              have hkd : (grH T (Z.2.2.1.getD kx.toInt.toNat (0, 0)).1).1 = kd.toInt := by rw [← hfk, hk45]
              have h7 : kd.toInt ≠ 7 := fun e => c_79 (Int32.toInt_inj.mp (e.trans rfl))
              have hcb : chB T S ho1.toInt ho2.toInt kd.toInt kx.toInt hx_.toInt Z.2.2.1 = true := chB_st.mpr ⟨hin.1, hin.2, hkd, by rw [← hcq, hc55], hl0, Or.inl h7⟩
              obtain ⟨dz1, dz2⟩ := dc_y (l := nu.toInt) (wh := wh.toInt) hcb
              have hwh : wh.toInt = 0 := by rw [c_113]; rfl
              have hfd : (fldF n1 g s (wdAF sg fs_ kx) 3).toInt = ((chC T (Z.2.2.1.getD kx.toInt.toNat (0, 0)).1 wh.toInt : Nat) : Int) ∧ chC T (Z.2.2.1.getD kx.toInt.toNat (0, 0)).1 wh.toInt < T.length := by unfold chC; rw [if_pos hwh]; exact ⟨by rw [(fk_S hs hcT_ wq1 hsd.1).2.2.2.2.1 (by have := hsd.2.1; omega)]; omega, hch.1⟩
              refine suX1_104 (k_X1_enterE (k0 := kx) (fd := 3) (kN := kx.toInt.toNat) (cN := chC T (Z.2.2.1.getD kx.toInt.toNat (0, 0)).1 wh.toInt) (Z := Z) hco hlf hso hfc hp h1 h2 hsc hth hlg hen hs hv hne hcT_ hSn hl hen2 ⟨hkn, hkl⟩ hQ hfd hZ) hco ⟨(Nat.le_of_ble_eq_true rfl), (Nat.le_of_ble_eq_true rfl)⟩ ⟨(by simp only [gRm]; omega), (by simp only [gRm]; omega)⟩ rfl rfl (Nat.le_of_ble_eq_true rfl) dX1_decide_121 ?_
              rintro kk_2 nn_2 r_2 f2 ⟨e_2, m_2, g_2, s_2, l_2, z_2, a_2, x_2, y_2, rfl, hlg_2, he_2, hlf_2, hso_2, hfc_2, hl_2, hu_2, hc_2, hst_2, hr2⟩
              refine gz_eq (st2 := []) rfl rfl rfl rfl ?_
              have hco_2 : f2 co = some (.inr (1, [.ref lv, .ref sc, .ref lg, .int csz])) := hr2 _ _ hco (by simp only [List.mem_cons, List.not_mem_nil, or_false, not_or]; exact ⟨cne hco hlg (by simp), cne hco hen (by simp), cne hco hlf (by simp), cne hco hso (by simp), cne hco hfc (by simp)⟩)
              have hlv_2 : f2 lv = some (.inl (cy 5, 40, .inr (.inr (.inr (.inr (lvg)))))) := hr2 _ _ hlv (by simp only [List.mem_cons, List.not_mem_nil, or_false, not_or]; exact ⟨cne hlv hlg (by simp), cne hlv hen (by simp), cne hlv hlf (by simp), cne hlv hso (by simp), cne hlv hfc (by simp)⟩)
              have hp_2 : f2 p = some (.inr (2, [.ref c1, .ref c2, .int s, .int v])) := hr2 _ _ hp (by simp only [List.mem_cons, List.not_mem_nil, or_false, not_or]; exact ⟨cne hp hlg (by simp), cne hp hen (by simp), cne hp hlf (by simp), cne hp hso (by simp), cne hp hfc (by simp)⟩)
              have h1_2 : f2 c1 = some (.inl (cy 0, n1, .inl (g))) := hr2 _ _ h1 (by simp only [List.mem_cons, List.not_mem_nil, or_false, not_or]; exact ⟨cne h1 hlg (by simp), Ne.symm (hen2.2.2.1), cne h1 hlf (by simp), Ne.symm (hne.2.1), Ne.symm (hne.2.2.2.2.1)⟩)
              have h2_2 : f2 c2 = some (.inl (cy 0, n2, .inl (h))) := hr2 _ _ h2 (by simp only [List.mem_cons, List.not_mem_nil, or_false, not_or]; exact ⟨cne h2 hlg (by simp), Ne.symm (hen2.2.2.2.1), cne h2 hlf (by simp), Ne.symm (hne.2.2.1), Ne.symm (hne.2.2.2.2.2.1)⟩)
              have hsc_2 : f2 sc = some (.inr (7, [.ref th, .int da])) := hr2 _ _ hsc (by simp only [List.mem_cons, List.not_mem_nil, or_false, not_or]; exact ⟨cne hsc hlg (by simp), cne hsc hen (by simp), cne hsc hlf (by simp), cne hsc hso (by simp), cne hsc hfc (by simp)⟩)
              have hth_2 : f2 th = some (.inl (cy 0, 6, .inl (t))) := hr2 _ _ hth (by simp only [List.mem_cons, List.not_mem_nil, or_false, not_or]; exact ⟨cne hth hlg (by simp), Ne.symm (hen2.2.2.2.2), cne hth hlf (by simp), Ne.symm (hne.2.2.2.1), Ne.symm (hne.2.2.2.2.2.2)⟩)
              refine gz_aload_n dX1_decide_124 rfl rfl ?_
              refine sgX1_21 hco_2 rfl dX1_decide_125 ?_
              refine scX1_121 (k_X4_size hlg_2) hlg_2 ⟨(Nat.le_of_ble_eq_true rfl), (Nat.le_of_ble_eq_true rfl)⟩ ⟨(by simp only [gRm]; omega), (by simp only [gRm]; omega)⟩ rfl rfl (Nat.le_of_ble_eq_true rfl) dX1_decide_128 ?_
              intro v9 f9 z9; rw [z9.1, z9.2]
              refine gz_iload dX1_decide_131 rfl ?_
              refine gz_isub dX1_decide_133 ?_
              have hst9 := hst_2
              rw [← dz1] at hst9
              have hrr : (s_2 - sz).toInt = dcR T S nu.toInt ho1.toInt ho2.toInt kd.toInt kx.toInt hx_.toInt wh.toInt Z := by rw [T_sub hst9.1.1.1 hZ.1.1.1 (by have a9 := hst9.1.1.2; have b9 := hZ.1.1.2; omega), dz2, dz1]
              exact gz_iretU rfl dX1_decide_134 (by omega) (by omega) (⟨_, _, _, _, _, _, _, _, _, _, rfl, hlg_2, he_2, hlf_2, hso_2, hfc_2, hl_2, ⟨by omega, by omega⟩, hc_2, hst9, hrr, (fr_tr fr_rf (fr_mo hr2 (by simp)))⟩)
          ·
            refine gz_aload dX1_decide_82 rfl ?_
            refine gz_iload dX1_decide_84 rfl ?_
            refine gz_aload_n dX1_decide_86 rfl rfl ?_
            refine sgX1_17 hco rfl dX1_decide_87 ?_
            refine scX1_70 (k_X2_holds (w := (wdAF sg fs_ kx)) hp h1 h2 hsc hth hs hv) hp ⟨(Nat.le_of_ble_eq_true rfl), (Nat.le_of_ble_eq_true rfl)⟩ ⟨(by simp only [gRm]; omega), (by simp only [gRm]; omega)⟩ rfl rfl (Nat.le_of_ble_eq_true rfl) dX1_decide_90 ?_
            intro v9 f9 z9; rw [z9.1, z9.2]
            refine gz_if_ne (tgt := 98) dX1_decide_93 (by decide) (fun c_93 => ?_) (fun c_93 => ?_)
            ·
              refine gz_aload_n dX1_decide_98 rfl rfl ?_
              refine sgX1_21 hco rfl dX1_decide_99 ?_
              refine scX1_121 (k_X4_size hlg) hlg ⟨(Nat.le_of_ble_eq_true rfl), (Nat.le_of_ble_eq_true rfl)⟩ ⟨(by simp only [gRm]; omega), (by simp only [gRm]; omega)⟩ rfl rfl (Nat.le_of_ble_eq_true rfl) dX1_decide_102 ?_
              intro v9 f9 z9; rw [z9.1, z9.2]
              refine gz_istore (lv' := [(9, .int sz), (8, .int (wdAF sg fs_ kx)), (7, .ref p), (6, .ref lf), (0, .ref co), (1, .int nb), (2, .int kx), (3, .int hx_), (4, .int kd), (5, .int wh)]) dX1_decide_105 (by decide) rfl ?_
              refine gz_aload_n dX1_decide_107 rfl rfl ?_
              refine gz_aload dX1_decide_108 rfl ?_
              refine gz_iload_n dX1_decide_110 rfl rfl ?_
              refine gz_iload dX1_decide_111 rfl ?_
              refine gz_if_ne (tgt := 120) dX1_decide_113 (by decide) (fun c_113 => ?_) (fun c_113 => ?_)
              ·
                refine gz_iconst (v := 4) dX1_decide_120 (by decide) ?_
                have hl0 : lpT T S (Z.2.2.1.getD kx.toInt.toNat (0, 0)).1 = false := by rw [hlp] at c_72; exact b01.mp c_72
                have hk45 : (fldF n1 g s (wdAF sg fs_ kx) 0) = kd := c_45
                have hc55 : (choF n1 g s ho1 ho2 (wdAF sg fs_ kx)) = hx_ := c_56
                have hkd : (grH T (Z.2.2.1.getD kx.toInt.toNat (0, 0)).1).1 = kd.toInt := by rw [← hfk, hk45]
                have h7 : kd.toInt = 7 := by rw [c_79]; rfl
                have hb7 : hlB S (grH T (Z.2.2.1.getD kx.toInt.toNat (0, 0)).1) = true := by have q9 := hh7 (by omega); rw [q9] at c_93; cases hb : hlB S (grH T (Z.2.2.1.getD kx.toInt.toNat (0, 0)).1); (exact absurd (b01.mpr hb) c_93); rfl
                have hcb : chB T S ho1.toInt ho2.toInt kd.toInt kx.toInt hx_.toInt Z.2.2.1 = true := chB_st.mpr ⟨hin.1, hin.2, hkd, by rw [← hcq, hc55], hl0, Or.inr hb7⟩
                obtain ⟨dz1, dz2⟩ := dc_y (l := nu.toInt) (wh := wh.toInt) hcb
                have hwh : ¬ wh.toInt = 0 := fun e => c_113 (Int32.toInt_inj.mp (e.trans rfl))
                have hk4 : (grH T (Z.2.2.1.getD kx.toInt.toNat (0, 0)).1).1 = 4 := hk4w hwh hkd hcb
                have hfd : (fldF n1 g s (wdAF sg fs_ kx) 4).toInt = ((chC T (Z.2.2.1.getD kx.toInt.toNat (0, 0)).1 wh.toInt : Nat) : Int) ∧ chC T (Z.2.2.1.getD kx.toInt.toNat (0, 0)).1 wh.toInt < T.length := by unfold chC; rw [if_neg hwh]; exact ⟨(fk_S hs hcT_ wq1 hsd.1).2.2.2.2.2 (by omega), hch.2 hk4⟩
                refine suX1_104 (k_X1_enterE (k0 := kx) (fd := 4) (kN := kx.toInt.toNat) (cN := chC T (Z.2.2.1.getD kx.toInt.toNat (0, 0)).1 wh.toInt) (Z := Z) hco hlf hso hfc hp h1 h2 hsc hth hlg hen hs hv hne hcT_ hSn hl hen2 ⟨hkn, hkl⟩ hQ hfd hZ) hco ⟨(Nat.le_of_ble_eq_true rfl), (Nat.le_of_ble_eq_true rfl)⟩ ⟨(by simp only [gRm]; omega), (by simp only [gRm]; omega)⟩ rfl rfl (Nat.le_of_ble_eq_true rfl) dX1_decide_121 ?_
                rintro kk_3 nn_3 r_3 f3 ⟨e_3, m_3, g_3, s_3, l_3, z_3, a_3, x_3, y_3, rfl, hlg_3, he_3, hlf_3, hso_3, hfc_3, hl_3, hu_3, hc_3, hst_3, hr3⟩
                refine gz_eq (st2 := []) rfl rfl rfl rfl ?_
                have hco_3 : f3 co = some (.inr (1, [.ref lv, .ref sc, .ref lg, .int csz])) := hr3 _ _ hco (by simp only [List.mem_cons, List.not_mem_nil, or_false, not_or]; exact ⟨cne hco hlg (by simp), cne hco hen (by simp), cne hco hlf (by simp), cne hco hso (by simp), cne hco hfc (by simp)⟩)
                have hlv_3 : f3 lv = some (.inl (cy 5, 40, .inr (.inr (.inr (.inr (lvg)))))) := hr3 _ _ hlv (by simp only [List.mem_cons, List.not_mem_nil, or_false, not_or]; exact ⟨cne hlv hlg (by simp), cne hlv hen (by simp), cne hlv hlf (by simp), cne hlv hso (by simp), cne hlv hfc (by simp)⟩)
                have hp_3 : f3 p = some (.inr (2, [.ref c1, .ref c2, .int s, .int v])) := hr3 _ _ hp (by simp only [List.mem_cons, List.not_mem_nil, or_false, not_or]; exact ⟨cne hp hlg (by simp), cne hp hen (by simp), cne hp hlf (by simp), cne hp hso (by simp), cne hp hfc (by simp)⟩)
                have h1_3 : f3 c1 = some (.inl (cy 0, n1, .inl (g))) := hr3 _ _ h1 (by simp only [List.mem_cons, List.not_mem_nil, or_false, not_or]; exact ⟨cne h1 hlg (by simp), Ne.symm (hen2.2.2.1), cne h1 hlf (by simp), Ne.symm (hne.2.1), Ne.symm (hne.2.2.2.2.1)⟩)
                have h2_3 : f3 c2 = some (.inl (cy 0, n2, .inl (h))) := hr3 _ _ h2 (by simp only [List.mem_cons, List.not_mem_nil, or_false, not_or]; exact ⟨cne h2 hlg (by simp), Ne.symm (hen2.2.2.2.1), cne h2 hlf (by simp), Ne.symm (hne.2.2.1), Ne.symm (hne.2.2.2.2.2.1)⟩)
                have hsc_3 : f3 sc = some (.inr (7, [.ref th, .int da])) := hr3 _ _ hsc (by simp only [List.mem_cons, List.not_mem_nil, or_false, not_or]; exact ⟨cne hsc hlg (by simp), cne hsc hen (by simp), cne hsc hlf (by simp), cne hsc hso (by simp), cne hsc hfc (by simp)⟩)
                have hth_3 : f3 th = some (.inl (cy 0, 6, .inl (t))) := hr3 _ _ hth (by simp only [List.mem_cons, List.not_mem_nil, or_false, not_or]; exact ⟨cne hth hlg (by simp), Ne.symm (hen2.2.2.2.2), cne hth hlf (by simp), Ne.symm (hne.2.2.2.1), Ne.symm (hne.2.2.2.2.2.2)⟩)
                refine gz_aload_n dX1_decide_124 rfl rfl ?_
                refine sgX1_21 hco_3 rfl dX1_decide_125 ?_
                refine scX1_121 (k_X4_size hlg_3) hlg_3 ⟨(Nat.le_of_ble_eq_true rfl), (Nat.le_of_ble_eq_true rfl)⟩ ⟨(by simp only [gRm]; omega), (by simp only [gRm]; omega)⟩ rfl rfl (Nat.le_of_ble_eq_true rfl) dX1_decide_128 ?_
                intro v9 f9 z9; rw [z9.1, z9.2]
                refine gz_iload dX1_decide_131 rfl ?_
                refine gz_isub dX1_decide_133 ?_
                have hst9 := hst_3
                rw [← dz1] at hst9
                have hrr : (s_3 - sz).toInt = dcR T S nu.toInt ho1.toInt ho2.toInt kd.toInt kx.toInt hx_.toInt wh.toInt Z := by rw [T_sub hst9.1.1.1 hZ.1.1.1 (by have a9 := hst9.1.1.2; have b9 := hZ.1.1.2; omega), dz2, dz1]
                exact gz_iretU rfl dX1_decide_134 (by omega) (by omega) (⟨_, _, _, _, _, _, _, _, _, _, rfl, hlg_3, he_3, hlf_3, hso_3, hfc_3, hl_3, ⟨by omega, by omega⟩, hc_3, hst9, hrr, (fr_tr fr_rf (fr_mo hr3 (by simp)))⟩)
              ·
                refine gz_iconst (v := 3) dX1_decide_116 (by decide) ?_
                refine gz_goto (tgt := 121) dX1_decide_117 (by decide) ?_
                have hl0 : lpT T S (Z.2.2.1.getD kx.toInt.toNat (0, 0)).1 = false := by rw [hlp] at c_72; exact b01.mp c_72
                have hk45 : (fldF n1 g s (wdAF sg fs_ kx) 0) = kd := c_45
                have hc55 : (choF n1 g s ho1 ho2 (wdAF sg fs_ kx)) = hx_ := c_56
                have hkd : (grH T (Z.2.2.1.getD kx.toInt.toNat (0, 0)).1).1 = kd.toInt := by rw [← hfk, hk45]
                have h7 : kd.toInt = 7 := by rw [c_79]; rfl
                have hb7 : hlB S (grH T (Z.2.2.1.getD kx.toInt.toNat (0, 0)).1) = true := by have q9 := hh7 (by omega); rw [q9] at c_93; cases hb : hlB S (grH T (Z.2.2.1.getD kx.toInt.toNat (0, 0)).1); (exact absurd (b01.mpr hb) c_93); rfl
                have hcb : chB T S ho1.toInt ho2.toInt kd.toInt kx.toInt hx_.toInt Z.2.2.1 = true := chB_st.mpr ⟨hin.1, hin.2, hkd, by rw [← hcq, hc55], hl0, Or.inr hb7⟩
                obtain ⟨dz1, dz2⟩ := dc_y (l := nu.toInt) (wh := wh.toInt) hcb
                have hwh : wh.toInt = 0 := by rw [c_113]; rfl
                have hfd : (fldF n1 g s (wdAF sg fs_ kx) 3).toInt = ((chC T (Z.2.2.1.getD kx.toInt.toNat (0, 0)).1 wh.toInt : Nat) : Int) ∧ chC T (Z.2.2.1.getD kx.toInt.toNat (0, 0)).1 wh.toInt < T.length := by unfold chC; rw [if_pos hwh]; exact ⟨by rw [(fk_S hs hcT_ wq1 hsd.1).2.2.2.2.1 (by have := hsd.2.1; omega)]; omega, hch.1⟩
                refine suX1_104 (k_X1_enterE (k0 := kx) (fd := 3) (kN := kx.toInt.toNat) (cN := chC T (Z.2.2.1.getD kx.toInt.toNat (0, 0)).1 wh.toInt) (Z := Z) hco hlf hso hfc hp h1 h2 hsc hth hlg hen hs hv hne hcT_ hSn hl hen2 ⟨hkn, hkl⟩ hQ hfd hZ) hco ⟨(Nat.le_of_ble_eq_true rfl), (Nat.le_of_ble_eq_true rfl)⟩ ⟨(by simp only [gRm]; omega), (by simp only [gRm]; omega)⟩ rfl rfl (Nat.le_of_ble_eq_true rfl) dX1_decide_121 ?_
                rintro kk_4 nn_4 r_4 f4 ⟨e_4, m_4, g_4, s_4, l_4, z_4, a_4, x_4, y_4, rfl, hlg_4, he_4, hlf_4, hso_4, hfc_4, hl_4, hu_4, hc_4, hst_4, hr4⟩
                refine gz_eq (st2 := []) rfl rfl rfl rfl ?_
                have hco_4 : f4 co = some (.inr (1, [.ref lv, .ref sc, .ref lg, .int csz])) := hr4 _ _ hco (by simp only [List.mem_cons, List.not_mem_nil, or_false, not_or]; exact ⟨cne hco hlg (by simp), cne hco hen (by simp), cne hco hlf (by simp), cne hco hso (by simp), cne hco hfc (by simp)⟩)
                have hlv_4 : f4 lv = some (.inl (cy 5, 40, .inr (.inr (.inr (.inr (lvg)))))) := hr4 _ _ hlv (by simp only [List.mem_cons, List.not_mem_nil, or_false, not_or]; exact ⟨cne hlv hlg (by simp), cne hlv hen (by simp), cne hlv hlf (by simp), cne hlv hso (by simp), cne hlv hfc (by simp)⟩)
                have hp_4 : f4 p = some (.inr (2, [.ref c1, .ref c2, .int s, .int v])) := hr4 _ _ hp (by simp only [List.mem_cons, List.not_mem_nil, or_false, not_or]; exact ⟨cne hp hlg (by simp), cne hp hen (by simp), cne hp hlf (by simp), cne hp hso (by simp), cne hp hfc (by simp)⟩)
                have h1_4 : f4 c1 = some (.inl (cy 0, n1, .inl (g))) := hr4 _ _ h1 (by simp only [List.mem_cons, List.not_mem_nil, or_false, not_or]; exact ⟨cne h1 hlg (by simp), Ne.symm (hen2.2.2.1), cne h1 hlf (by simp), Ne.symm (hne.2.1), Ne.symm (hne.2.2.2.2.1)⟩)
                have h2_4 : f4 c2 = some (.inl (cy 0, n2, .inl (h))) := hr4 _ _ h2 (by simp only [List.mem_cons, List.not_mem_nil, or_false, not_or]; exact ⟨cne h2 hlg (by simp), Ne.symm (hen2.2.2.2.1), cne h2 hlf (by simp), Ne.symm (hne.2.2.1), Ne.symm (hne.2.2.2.2.2.1)⟩)
                have hsc_4 : f4 sc = some (.inr (7, [.ref th, .int da])) := hr4 _ _ hsc (by simp only [List.mem_cons, List.not_mem_nil, or_false, not_or]; exact ⟨cne hsc hlg (by simp), cne hsc hen (by simp), cne hsc hlf (by simp), cne hsc hso (by simp), cne hsc hfc (by simp)⟩)
                have hth_4 : f4 th = some (.inl (cy 0, 6, .inl (t))) := hr4 _ _ hth (by simp only [List.mem_cons, List.not_mem_nil, or_false, not_or]; exact ⟨cne hth hlg (by simp), Ne.symm (hen2.2.2.2.2), cne hth hlf (by simp), Ne.symm (hne.2.2.2.1), Ne.symm (hne.2.2.2.2.2.2)⟩)
                refine gz_aload_n dX1_decide_124 rfl rfl ?_
                refine sgX1_21 hco_4 rfl dX1_decide_125 ?_
                refine scX1_121 (k_X4_size hlg_4) hlg_4 ⟨(Nat.le_of_ble_eq_true rfl), (Nat.le_of_ble_eq_true rfl)⟩ ⟨(by simp only [gRm]; omega), (by simp only [gRm]; omega)⟩ rfl rfl (Nat.le_of_ble_eq_true rfl) dX1_decide_128 ?_
                intro v9 f9 z9; rw [z9.1, z9.2]
                refine gz_iload dX1_decide_131 rfl ?_
                refine gz_isub dX1_decide_133 ?_
                have hst9 := hst_4
                rw [← dz1] at hst9
                have hrr : (s_4 - sz).toInt = dcR T S nu.toInt ho1.toInt ho2.toInt kd.toInt kx.toInt hx_.toInt wh.toInt Z := by rw [T_sub hst9.1.1.1 hZ.1.1.1 (by have a9 := hst9.1.1.2; have b9 := hZ.1.1.2; omega), dz2, dz1]
                exact gz_iretU rfl dX1_decide_134 (by omega) (by omega) (⟨_, _, _, _, _, _, _, _, _, _, rfl, hlg_4, he_4, hlf_4, hso_4, hfc_4, hl_4, ⟨by omega, by omega⟩, hc_4, hst9, hrr, (fr_tr fr_rf (fr_mo hr4 (by simp)))⟩)
            ·
              refine gz_iconst (v := (-1)) dX1_decide_96 (by decide) ?_
              have hcn : ¬ chB T S ho1.toInt ho2.toInt kd.toInt kx.toInt hx_.toInt Z.2.2.1 = true := fun z => by
                have h9 := chB_st.mp z
                have h7 : kd.toInt = 7 := by rw [c_79]; rfl
                have q9 := hh7 (by rw [h9.2.2.1]; exact h7)
                rw [q9] at c_93
                rcases h9.2.2.2.2.2 with y9 | y9
                · exact y9 h7
                · rw [b01.mp c_93] at y9; exact absurd y9 (by decide)
              obtain ⟨dz1, dz2⟩ := dc_n (l := nu.toInt) (wh := wh.toInt) hcn
              exact gz_iretU rfl dX1_decide_97 (by omega) (by omega) (⟨_, _, _, _, _, _, _, _, _, _, rfl, hlg, hen, hlf, hso, hfc, hl, ⟨by omega, by omega⟩, (Or.inl rfl), (by rw [dz1]; exact hZ), (by rw [dz2]; rfl), fr_rf⟩)
      ·
        refine gz_iconst (v := (-1)) dX1_decide_59 (by decide) ?_
        have hcn : ¬ chB T S ho1.toInt ho2.toInt kd.toInt kx.toInt hx_.toInt Z.2.2.1 = true := fun z => by
          have h9 := chB_st.mp z
          exact c_56 (Int32.toInt_inj.mp (by rw [hcq]; exact h9.2.2.2.1))
        obtain ⟨dz1, dz2⟩ := dc_n (l := nu.toInt) (wh := wh.toInt) hcn
        exact gz_iretU rfl dX1_decide_60 (by omega) (by omega) (⟨_, _, _, _, _, _, _, _, _, _, rfl, hlg, hen, hlf, hso, hfc, hl, ⟨by omega, by omega⟩, (Or.inl rfl), (by rw [dz1]; exact hZ), (by rw [dz2]; rfl), fr_rf⟩)

set_option maxHeartbeats 4000000 in
set_option maxRecDepth 100000 in
theorem k_X1_openE {l : Launch} {D : va_G} {cy : Nat → ClassId} {b : Nat} {f : gMem} {co lv sc th lg en ne ge re gv tk am p so fc c1 c2 n1 n2 : Nat} {csz da sz lo gi s v : Int32} {eg g h t : Nat → Int32} {q : Nat} {y1 y2 : Int32} {lvg : Nat → Option Nat} {T : List Hd} {S : Sn} {P : List Pm} {L : Int} (hco : f co = some (.inr (1, [.ref lv, .ref sc, .ref lg, .int csz]))) (hlv : f lv = some (.inl (cy 5, 40, .inr (.inr (.inr (.inr (lvg))))))) (hp : f p = some (.inr (2, [.ref c1, .ref c2, .int s, .int v]))) (h1 : f c1 = some (.inl (cy 0, n1, .inl (g)))) (h2 : f c2 = some (.inl (cy 0, n2, .inl (h)))) (hsc : f sc = some (.inr (7, [.ref th, .int da]))) (hth : f th = some (.inl (cy 0, 6, .inl (t)))) (hlg : f lg = some (.inr (4, [.ref en, .int sz, .int lo, .ref ge, .ref re, .ref gv, .ref tk, .ref am, .int gi]))) (hen : f en = some (.inl (cy 0, ne, .inl (eg)))) (hs : 0 ≤ s.toInt ∧ 13 * s.toInt ≤ n1 ∧ n1 ≤ 520) (hv : 0 ≤ v.toInt ∧ 2 * v.toInt ≤ n2 ∧ n2 ≤ 80) (hcT_ : hcT T s v g h) (hSn : sCn S da t) (hz : 0 ≤ csz.toInt ∧ csz.toInt < 40) (hl : 0 ≤ sz.toInt ∧ sz.toInt ≤ 2000 ∧ 6 * sz.toInt ≤ ne ∧ ne ≤ 24000) (hen3 : en ≠ c1 ∧ en ≠ c2 ∧ en ≠ th) (hLG : LGc sz lo eg P L) : gU l D cy b yX1_open cX1_open 5 (some .int) 19 (24000 - ne + 3) (2 * (24000 - ne) + 88) [.ref co, .ref p, .int y1, .int y2] f gTt (fun kk nn r f2 => ∃ (q so fc e2 m2 : Nat) (g2 : Nat → Int32) (s2 l2 z2 : Int32) (a2 : Int64) (x2 y3 : Nat → Int32), r = some (.int csz) ∧ f2 co = some (.inr (1, [.ref lv, .ref sc, .ref lg, .int (csz + 1)])) ∧ f2 lv = some (.inl (cy 5, 40, .inr (.inr (.inr (.inr (va_up lvg (Int32.toNatClampNeg csz) (some q))))))) ∧ f2 q = some (.inr (5, [.ref p, .int csz, .int y1, .int y2, .ref so, .ref fc, .int z2, .long a2])) ∧ f2 so = some (.inl (cy 0, 40, .inl (x2))) ∧ f2 fc = some (.inl (cy 0, 40, .inl (y3))) ∧ f2 lg = some (.inr (4, [.ref e2, .int s2, .int l2, .ref ge, .ref re, .ref gv, .ref tk, .ref am, .int gi])) ∧ f2 e2 = some (.inl (cy 0, m2, .inl (g2))) ∧ (0 ≤ s2.toInt ∧ s2.toInt ≤ 2000 ∧ 6 * s2.toInt ≤ m2 ∧ m2 ≤ 24000) ∧ (kk + ne ≤ m2 + 3 ∧ nn + 2 * ne ≤ 2 * m2 + 88) ∧ (e2 = en ∨ f e2 = none) ∧ (f q = none ∧ f so = none ∧ f fc = none ∧ so ≠ fc ∧ e2 ≠ so ∧ e2 ≠ fc) ∧ CSt s2 l2 g2 z2 a2 x2 y3 (apS csz.toInt S.1 y1.toInt y2.toInt (ev T S 0 1) (P, L, [], 0)) ∧ fr [co, lv, lg, en] f f2) := by
  refine gU_of (by decide) (Nat.le_of_ble_eq_true rfl) ?_
  show gG l _ _ _ D cy b cX1_open 5 _ RX1 "open" 0 0 f 0 [(0, .ref co), (1, .ref p), (2, .int y1), (3, .int y2)] []
  refine gz_aload_n dX1_open_0 rfl rfl ?_
  refine sgX1_25 hco rfl dX1_open_1 ?_
  refine gz_if_lt (tgt := 16) dX1_open_4 (by decide) (fun c_4 => ?_) (fun c_4 => ?_)
  · exfalso; have e0 : (0 : Int32).toInt = 0 := rfl; have e40 : (40 : Int32).toInt = 40 := rfl; simp only [fl_lt] at c_4; omega
  ·
    refine gz_aload_n dX1_open_7 rfl rfl ?_
    refine sgX1_25 hco rfl dX1_open_8 ?_
    refine gz_bipush (v := 40) dX1_open_11 (by decide) ?_
    refine gz_icmp_lt (tgt := 18) dX1_open_13 (by decide) (fun c_13 => ?_) (fun c_13 => ?_)
    ·
      refine snX1_9 (by simp only [gRm]; omega) (by simp only [gRm]; omega) dX1_open_18 (fun q1 hq1n => ?_)
      obtain ⟨f1, hf1⟩ : ∃ gg : gMem, gg = va_up f q1 (some (.inr (5, [.null, .int 0, .int 0, .int 0, .null, .null, .int 0, .long 0]))) := ⟨_, rfl⟩
      refine gz_eq (f2 := f1) hf1.symm rfl rfl rfl ?_
      have hco_1 : f1 co = some (.inr (1, [.ref lv, .ref sc, .ref lg, .int csz])) := by rw [hf1, va_up_ne _ _ (cnn hco hq1n)]; exact hco
      have hlv_1 : f1 lv = some (.inl (cy 5, 40, .inr (.inr (.inr (.inr (lvg)))))) := by rw [hf1, va_up_ne _ _ (cnn hlv hq1n)]; exact hlv
      have hp_1 : f1 p = some (.inr (2, [.ref c1, .ref c2, .int s, .int v])) := by rw [hf1, va_up_ne _ _ (cnn hp hq1n)]; exact hp
      have h1_1 : f1 c1 = some (.inl (cy 0, n1, .inl (g))) := by rw [hf1, va_up_ne _ _ (cnn h1 hq1n)]; exact h1
      have h2_1 : f1 c2 = some (.inl (cy 0, n2, .inl (h))) := by rw [hf1, va_up_ne _ _ (cnn h2 hq1n)]; exact h2
      have hsc_1 : f1 sc = some (.inr (7, [.ref th, .int da])) := by rw [hf1, va_up_ne _ _ (cnn hsc hq1n)]; exact hsc
      have hth_1 : f1 th = some (.inl (cy 0, 6, .inl (t))) := by rw [hf1, va_up_ne _ _ (cnn hth hq1n)]; exact hth
      have hlg_1 : f1 lg = some (.inr (4, [.ref en, .int sz, .int lo, .ref ge, .ref re, .ref gv, .ref tk, .ref am, .int gi])) := by rw [hf1, va_up_ne _ _ (cnn hlg hq1n)]; exact hlg
      have hen_1 : f1 en = some (.inl (cy 0, ne, .inl (eg))) := by rw [hf1, va_up_ne _ _ (cnn hen hq1n)]; exact hen
      have hq1_1 : f1 q1 = some (.inr (5, [.null, .int 0, .int 0, .int 0, .null, .null, .int 0, .long 0])) := by rw [hf1]; exact va_up_self _ _ _
      refine gz_dup dX1_open_21 rfl ?_
      refine gz_aload_n dX1_open_22 rfl rfl ?_
      refine gz_aload_n dX1_open_23 rfl rfl ?_
      refine sgX1_25 hco_1 rfl dX1_open_24 ?_
      refine gz_iload_n dX1_open_27 rfl rfl ?_
      refine gz_iload_n dX1_open_28 rfl rfl ?_
      refine scX1_29 (k_X5_init (p := p) (nu := csz) (ho1 := y1) (ho2 := y2) hq1_1) ⟨(Nat.le_of_ble_eq_true rfl), (Nat.le_of_ble_eq_true rfl)⟩ ⟨(by simp only [gRm]; omega), (by simp only [gRm]; omega)⟩ rfl rfl (Nat.le_of_ble_eq_true rfl) dX1_open_29 ?_
      rintro f2 ⟨so_2, fc_2, hq1_2, hso_2_2, hfc_2_2, hn3_2, hr2⟩
      have hco_2 : f2 co = some (.inr (1, [.ref lv, .ref sc, .ref lg, .int csz])) := hr2 _ _ hco_1 (by simp only [List.mem_cons, List.not_mem_nil, or_false, not_or]; exact cne hco_1 hq1_1 (by simp))
      have hlv_2 : f2 lv = some (.inl (cy 5, 40, .inr (.inr (.inr (.inr (lvg)))))) := hr2 _ _ hlv_1 (by simp only [List.mem_cons, List.not_mem_nil, or_false, not_or]; exact cne hlv_1 hq1_1 (by simp))
      have hp_2 : f2 p = some (.inr (2, [.ref c1, .ref c2, .int s, .int v])) := hr2 _ _ hp_1 (by simp only [List.mem_cons, List.not_mem_nil, or_false, not_or]; exact cne hp_1 hq1_1 (by simp))
      have h1_2 : f2 c1 = some (.inl (cy 0, n1, .inl (g))) := hr2 _ _ h1_1 (by simp only [List.mem_cons, List.not_mem_nil, or_false, not_or]; exact cne h1_1 hq1_1 (by simp))
      have h2_2 : f2 c2 = some (.inl (cy 0, n2, .inl (h))) := hr2 _ _ h2_1 (by simp only [List.mem_cons, List.not_mem_nil, or_false, not_or]; exact cne h2_1 hq1_1 (by simp))
      have hsc_2 : f2 sc = some (.inr (7, [.ref th, .int da])) := hr2 _ _ hsc_1 (by simp only [List.mem_cons, List.not_mem_nil, or_false, not_or]; exact cne hsc_1 hq1_1 (by simp))
      have hth_2 : f2 th = some (.inl (cy 0, 6, .inl (t))) := hr2 _ _ hth_1 (by simp only [List.mem_cons, List.not_mem_nil, or_false, not_or]; exact cne hth_1 hq1_1 (by simp))
      have hlg_2 : f2 lg = some (.inr (4, [.ref en, .int sz, .int lo, .ref ge, .ref re, .ref gv, .ref tk, .ref am, .int gi])) := hr2 _ _ hlg_1 (by simp only [List.mem_cons, List.not_mem_nil, or_false, not_or]; exact cne hlg_1 hq1_1 (by simp))
      have hen_2 : f2 en = some (.inl (cy 0, ne, .inl (eg))) := hr2 _ _ hen_1 (by simp only [List.mem_cons, List.not_mem_nil, or_false, not_or]; exact cne hen_1 hq1_1 (by simp))
      have hn_1 : f so_2 = none := by have z := hn3_2.1; rw [hf1] at z; exact (nb z).2
      have hn_2 : f fc_2 = none := by have z := hn3_2.2.1; rw [hf1] at z; exact (nb z).2
      refine gz_astore (lv' := [(4, .ref q1), (0, .ref co), (1, .ref p), (2, .int y1), (3, .int y2)]) dX1_open_32 (by decide) rfl ?_
      refine gz_aload_n dX1_open_34 rfl rfl ?_
      refine sgX1_11 hco_2 rfl dX1_open_35 ?_
      refine gz_aload_n dX1_open_38 rfl rfl ?_
      refine sgX1_25 hco_2 rfl dX1_open_39 ?_
      refine gz_aload dX1_open_42 rfl ?_
      refine gz_aast5 hlv_2 hq1_2 ((by exact vin_T (rfl : csz.toInt = csz.toInt) hz.1 hz.2)) dX1_open_44 ?_
      obtain ⟨f3, hf3⟩ : ∃ gg : gMem, gg = va_up f2 lv (some (.inl (cy 5, 40, .inr (.inr (.inr (.inr (va_up lvg (Int32.toNatClampNeg csz) (some q1)))))))) := ⟨_, rfl⟩
      refine gz_eq (f2 := f3) hf3.symm rfl rfl rfl ?_
      have hco_3 : f3 co = some (.inr (1, [.ref lv, .ref sc, .ref lg, .int csz])) := by rw [hf3, va_up_ne _ _ (cne hco_2 hlv_2 (by simp))]; exact hco_2
      have hp_3 : f3 p = some (.inr (2, [.ref c1, .ref c2, .int s, .int v])) := by rw [hf3, va_up_ne _ _ (cne hp_2 hlv_2 (by simp))]; exact hp_2
      have h1_3 : f3 c1 = some (.inl (cy 0, n1, .inl (g))) := by rw [hf3, va_up_ne _ _ (cne h1_2 hlv_2 (by simp))]; exact h1_2
      have h2_3 : f3 c2 = some (.inl (cy 0, n2, .inl (h))) := by rw [hf3, va_up_ne _ _ (cne h2_2 hlv_2 (by simp))]; exact h2_2
      have hsc_3 : f3 sc = some (.inr (7, [.ref th, .int da])) := by rw [hf3, va_up_ne _ _ (cne hsc_2 hlv_2 (by simp))]; exact hsc_2
      have hth_3 : f3 th = some (.inl (cy 0, 6, .inl (t))) := by rw [hf3, va_up_ne _ _ (cne hth_2 hlv_2 (by simp))]; exact hth_2
      have hlg_3 : f3 lg = some (.inr (4, [.ref en, .int sz, .int lo, .ref ge, .ref re, .ref gv, .ref tk, .ref am, .int gi])) := by rw [hf3, va_up_ne _ _ (cne hlg_2 hlv_2 (by simp))]; exact hlg_2
      have hen_3 : f3 en = some (.inl (cy 0, ne, .inl (eg))) := by rw [hf3, va_up_ne _ _ (cne hen_2 hlv_2 (by simp))]; exact hen_2
      have hq1_3 : f3 q1 = some (.inr (5, [.ref p, .int csz, .int y1, .int y2, .ref so_2, .ref fc_2, .int 0, .long 0])) := by rw [hf3, va_up_ne _ _ (cne hq1_2 hlv_2 (by simp))]; exact hq1_2
      have hso_3 : f3 so_2 = some (.inl (cy 0, 40, .inl (fun _ => 0))) := by rw [hf3, va_up_ne _ _ (cne hso_2_2 hlv_2 (by simp))]; exact hso_2_2
      have hfc_3 : f3 fc_2 = some (.inl (cy 0, 40, .inl (fun _ => 0))) := by rw [hf3, va_up_ne _ _ (cne hfc_2_2 hlv_2 (by simp))]; exact hfc_2_2
      have hlv_3 : f3 lv = some (.inl (cy 5, 40, .inr (.inr (.inr (.inr (va_up lvg (Int32.toNatClampNeg csz) (some q1))))))) := by rw [hf3]; exact va_up_self _ _ _
      refine gz_aload_n dX1_open_45 rfl rfl ?_
      refine gz_dup dX1_open_46 rfl ?_
      refine sgX1_25 hco_3 rfl dX1_open_47 ?_
      refine gz_iconst (v := 1) dX1_open_50 (by decide) ?_
      refine gz_iadd dX1_open_51 ?_
      refine spX1_25 hco_3  (Nat.le_of_ble_eq_true rfl) dX1_open_52 ?_
      obtain ⟨f4, hf4⟩ : ∃ gg : gMem, gg = va_up f3 co (some (.inr (1, [.ref lv, .ref sc, .ref lg, .int (csz + 1)]))) := ⟨_, rfl⟩
      refine gz_eq (f2 := f4) hf4.symm rfl rfl rfl ?_
      have hp_4 : f4 p = some (.inr (2, [.ref c1, .ref c2, .int s, .int v])) := by rw [hf4, va_up_ne _ _ (cne hp_3 hco_3 (by simp))]; exact hp_3
      have h1_4 : f4 c1 = some (.inl (cy 0, n1, .inl (g))) := by rw [hf4, va_up_ne _ _ (cne h1_3 hco_3 (by simp))]; exact h1_3
      have h2_4 : f4 c2 = some (.inl (cy 0, n2, .inl (h))) := by rw [hf4, va_up_ne _ _ (cne h2_3 hco_3 (by simp))]; exact h2_3
      have hsc_4 : f4 sc = some (.inr (7, [.ref th, .int da])) := by rw [hf4, va_up_ne _ _ (cne hsc_3 hco_3 (by simp))]; exact hsc_3
      have hth_4 : f4 th = some (.inl (cy 0, 6, .inl (t))) := by rw [hf4, va_up_ne _ _ (cne hth_3 hco_3 (by simp))]; exact hth_3
      have hlg_4 : f4 lg = some (.inr (4, [.ref en, .int sz, .int lo, .ref ge, .ref re, .ref gv, .ref tk, .ref am, .int gi])) := by rw [hf4, va_up_ne _ _ (cne hlg_3 hco_3 (by simp))]; exact hlg_3
      have hen_4 : f4 en = some (.inl (cy 0, ne, .inl (eg))) := by rw [hf4, va_up_ne _ _ (cne hen_3 hco_3 (by simp))]; exact hen_3
      have hq1_4 : f4 q1 = some (.inr (5, [.ref p, .int csz, .int y1, .int y2, .ref so_2, .ref fc_2, .int 0, .long 0])) := by rw [hf4, va_up_ne _ _ (cne hq1_3 hco_3 (by simp))]; exact hq1_3
      have hso_4 : f4 so_2 = some (.inl (cy 0, 40, .inl (fun _ => 0))) := by rw [hf4, va_up_ne _ _ (cne hso_3 hco_3 (by simp))]; exact hso_3
      have hfc_4 : f4 fc_2 = some (.inl (cy 0, 40, .inl (fun _ => 0))) := by rw [hf4, va_up_ne _ _ (cne hfc_3 hco_3 (by simp))]; exact hfc_3
      have hlv_4 : f4 lv = some (.inl (cy 5, 40, .inr (.inr (.inr (.inr (va_up lvg (Int32.toNatClampNeg csz) (some q1))))))) := by rw [hf4, va_up_ne _ _ (cne hlv_3 hco_3 (by simp))]; exact hlv_3
      have hco_4 : f4 co = some (.inr (1, [.ref lv, .ref sc, .ref lg, .int (csz + 1)])) := by rw [hf4]; exact va_up_self _ _ _
      refine gz_aload_n dX1_open_55 rfl rfl ?_
      refine gz_aload dX1_open_56 rfl ?_
      refine gz_iconst (v := 0) dX1_open_58 (by decide) ?_
      refine gz_iconst (v := 1) dX1_open_59 (by decide) ?_
      refine gz_iconst (v := 0) dX1_open_60 (by decide) ?_
      have hT0 : 0 < T.length := by obtain ⟨z9, B9, e9⟩ := okT_ne hcT_.1.1; rw [e9]; exact Nat.succ_pos _
      refine suX1_32 (k_X1_acquireE hs hv ⟨hn3_2.2.2, (Ne.symm (cnn h1 hn_1)), (Ne.symm (cnn h2 hn_1)), (Ne.symm (cnn hth hn_1)), (Ne.symm (cnn h1 hn_2)), (Ne.symm (cnn h2 hn_2)), (Ne.symm (cnn hth hn_2))⟩ hcT_ hSn 13 0 1 0 en _ _ sz lo 0 0 _ _ 0 1 (P, L, [], 0) _ hco_4 hq1_4 hso_4 hfc_4 hp_4 h1_4 h2_4 hsc_4 hth_4 hlg_4 hen_4 hl ⟨Ne.symm ((Ne.symm (cnn hen hn_1))), Ne.symm ((Ne.symm (cnn hen hn_2))), hen3.1, hen3.2.1, hen3.2.2⟩ ⟨rfl, hT0⟩ ⟨rfl, by decide, by decide⟩ (dp_lk hcT_ hT0).1.1 ⟨hLG, ⟨rfl, Nat.zero_le _⟩, rfl, fun i hi => absurd hi (Nat.not_lt_zero _)⟩ (by decide)) hco_4 ⟨(Nat.le_of_ble_eq_true rfl), (Nat.le_of_ble_eq_true rfl)⟩ ⟨(by simp only [gRm]; omega), (by simp only [gRm]; omega)⟩ rfl rfl (Nat.le_of_ble_eq_true rfl) dX1_open_61 ?_
      rintro kk_5 nn_5 r_5 f5 ⟨e_5, m_5, g_5, s_5, l_5, z_5, a_5, x_5, y_5, rfl, hlg_5, he_5, hq1_5, hso_5, hfc_5, hl_5, hu_5, hc_5, hst_5, hr5⟩
      refine gz_eq (st2 := []) rfl rfl rfl rfl ?_
      have hp_5 : f5 p = some (.inr (2, [.ref c1, .ref c2, .int s, .int v])) := hr5 _ _ hp_4 (by simp only [List.mem_cons, List.not_mem_nil, or_false, not_or]; exact ⟨cne hp_4 hlg_4 (by simp), cne hp_4 hen_4 (by simp), cne hp_4 hq1_4 (by simp), cne hp_4 hso_4 (by simp), cne hp_4 hfc_4 (by simp)⟩)
      have h1_5 : f5 c1 = some (.inl (cy 0, n1, .inl (g))) := hr5 _ _ h1_4 (by simp only [List.mem_cons, List.not_mem_nil, or_false, not_or]; exact ⟨cne h1_4 hlg_4 (by simp), Ne.symm (hen3.1), cne h1_4 hq1_4 (by simp), Ne.symm ((Ne.symm (cnn h1 hn_1))), Ne.symm ((Ne.symm (cnn h1 hn_2)))⟩)
      have h2_5 : f5 c2 = some (.inl (cy 0, n2, .inl (h))) := hr5 _ _ h2_4 (by simp only [List.mem_cons, List.not_mem_nil, or_false, not_or]; exact ⟨cne h2_4 hlg_4 (by simp), Ne.symm (hen3.2.1), cne h2_4 hq1_4 (by simp), Ne.symm ((Ne.symm (cnn h2 hn_1))), Ne.symm ((Ne.symm (cnn h2 hn_2)))⟩)
      have hsc_5 : f5 sc = some (.inr (7, [.ref th, .int da])) := hr5 _ _ hsc_4 (by simp only [List.mem_cons, List.not_mem_nil, or_false, not_or]; exact ⟨cne hsc_4 hlg_4 (by simp), cne hsc_4 hen_4 (by simp), cne hsc_4 hq1_4 (by simp), cne hsc_4 hso_4 (by simp), cne hsc_4 hfc_4 (by simp)⟩)
      have hth_5 : f5 th = some (.inl (cy 0, 6, .inl (t))) := hr5 _ _ hth_4 (by simp only [List.mem_cons, List.not_mem_nil, or_false, not_or]; exact ⟨cne hth_4 hlg_4 (by simp), Ne.symm (hen3.2.2), cne hth_4 hq1_4 (by simp), Ne.symm ((Ne.symm (cnn hth hn_1))), Ne.symm ((Ne.symm (cnn hth hn_2)))⟩)
      have hlv_5 : f5 lv = some (.inl (cy 5, 40, .inr (.inr (.inr (.inr (va_up lvg (Int32.toNatClampNeg csz) (some q1))))))) := hr5 _ _ hlv_4 (by simp only [List.mem_cons, List.not_mem_nil, or_false, not_or]; exact ⟨cne hlv_4 hlg_4 (by simp), cne hlv_4 hen_4 (by simp), cne hlv_4 hq1_4 (by simp), cne hlv_4 hso_4 (by simp), cne hlv_4 hfc_4 (by simp)⟩)
      have hco_5 : f5 co = some (.inr (1, [.ref lv, .ref sc, .ref lg, .int (csz + 1)])) := hr5 _ _ hco_4 (by simp only [List.mem_cons, List.not_mem_nil, or_false, not_or]; exact ⟨cne hco_4 hlg_4 (by simp), cne hco_4 hen_4 (by simp), cne hco_4 hq1_4 (by simp), cne hco_4 hso_4 (by simp), cne hco_4 hfc_4 (by simp)⟩)
      have hcb : e_5 = en ∨ f e_5 = none := enb (S := [co, lv, q1, so_2, fc_2]) hc_5 (by rw [hf4]; exact fr_up (by rw [hf3]; exact fr_up (fr_tr (by rw [hf1]; exact fr_up fr_rf (by simp)) (fr_mo hr2 (by simp))) (by simp)) (by simp)) (by intro z hz2; simp only [List.mem_cons, List.not_mem_nil, or_false] at hz2; rcases hz2 with rfl | rfl | rfl | rfl | rfl; exact Or.inr ⟨_, hco_4⟩; exact Or.inr ⟨_, hlv_4⟩; exact Or.inr ⟨_, hq1_4⟩; exact Or.inr ⟨_, hso_4⟩; exact Or.inr ⟨_, hfc_4⟩)
      refine gz_aload dX1_open_64 rfl ?_
      refine sgX1_36 hq1_5 rfl dX1_open_66 ?_
      exact gz_iretU rfl dX1_open_69 (by omega) (by omega) (⟨_, _, _, _, _, _, _, _, _, _, _, _, rfl, hco_5, hlv_5, hq1_5, hso_5, hfc_5, hlg_5, he_5, hl_5, ⟨by omega, by omega⟩, hcb, ⟨hq1n, hn_1, hn_2, hn3_2.2.2, (enn hc_5 hso_4 (Ne.symm ((Ne.symm (cnn hen hn_1))))), (enn hc_5 hfc_4 (Ne.symm ((Ne.symm (cnn hen hn_2)))))⟩, hst_5, (fr_le (S := [co, lv, lg, en, q1, so_2, fc_2]) (fr_tr (by rw [hf4]; exact fr_up (by rw [hf3]; exact fr_up (fr_tr (by rw [hf1]; exact fr_up fr_rf (by simp)) (fr_mo hr2 (by simp))) (by simp)) (by simp)) (fr_mo hr5 (by simp))) (by intro z hz2; simp only [List.mem_cons, List.not_mem_nil, or_false] at hz2; rcases hz2 with rfl | rfl | rfl | rfl | rfl | rfl | rfl; exact Or.inl (by simp); exact Or.inl (by simp); exact Or.inl (by simp); exact Or.inl (by simp); exact Or.inr hq1n; exact Or.inr hn_1; exact Or.inr hn_2))⟩)
    · exfalso; have e0 : (0 : Int32).toInt = 0 := rfl; have e40 : (40 : Int32).toInt = 40 := rfl; simp only [fl_lt] at c_13; omega
