/-! copyDeed -/
theorem grw_c {g h : Nat → Int32} {co : Cn} {s kd ar : Int32} {W V d : Nat} {par : Int} {sec : Bool} (hs : s.toInt = W) (h4 : W < 40) (hL : LC g h co W V) (hO : d ≤ 11) (har : ar.toInt = par) (hd : dqC co W d par sec) : (grwF 520 g s kd ar).1 = s ∧ (grwF 520 g s kd ar).2.2.toInt = (W : Int) + 1 := by
  have ew : (Int32.ofNat d).toInt = d := ofN_toInt (by omega)
  have q := (grw_dep (g := g) (kd := kd) (ar := ar) (wi := Int32.ofNat d) (s := s) ⟨by omega, by omega, by omega⟩ (by
    rcases hd with ⟨a, b⟩ | ⟨P, a, b, c, e⟩
    · exact Or.inl ⟨by omega, by omega⟩
    · have hp := (hL.1 P b).1 1 (by decide)
      have hb := (hL.1 P b).2.2.2.1
      exact Or.inr ⟨by omega, by omega, by omega, by rw [show ar.toInt.toNat = P by omega]; omega⟩) (by omega)).2 (by omega)
  exact ⟨q.1, by omega⟩
theorem LC_n {g h : Nat → Int32} {c : Cn} {s wd x : Int32} {W V : Nat} (hs : s.toInt = (W : Int) + 1) (hW : W < 40) (hw : wd.toInt = W) (hL : LC g h c (W + 1) V) : LC (stF 520 g s wd 2 x) h (cU c 2 W x.toInt) (W + 1) V := by
  rw [stN hs (by omega) hw (by omega) (show (2 : Int32).toInt = (2 : Nat) from rfl) (by omega)]
  refine ⟨LCw_set hL.1 (fun i hi => by rw [updE, if_neg (by omega)]) (fun a w ha hw2 => by rw [cU_at, if_neg (fun z => hw2 z.2)]) (fun a ha hb => by rw [updE, if_neg (by omega)]) (fun a ha => by rw [cU_at, if_neg (by omega)]) (fun a ha => ?_) ?_, LCv_cg (fun a i ha => by rw [cU_at, if_neg (by omega)]) hL.2⟩
  · rw [updE, cU_at]
    by_cases e2 : a = 2
    · rw [if_pos (by omega), if_pos ⟨e2, rfl⟩]
    · rw [if_neg (by omega), if_neg (fun z => e2 z.1)]
      exact (hL.1 W (by omega)).1 a (by omega)
  · rw [updE, cU_at, if_neg (by omega), if_neg (by omega)]
    exact (hL.1 W (by omega)).2.1
theorem ptH_nw {a : Hd} {W V d : Nat} {par : Int} {sec : Bool} {co : Cn} (ha : hvH a) (sm : ¬ (6 ≤ a.1 ∧ a.1 ≤ 9)) : cU (nwC a.1 W par sec d co) 2 W a.2.1 = ptH a W V par sec d co := by
  have e1 := ha.2.2.2.2.2.2 sm
  have e2 := (ha.2.2.2.2.1 (by omega)).2
  have e3 := (ha.2.2.2.2.1 (by omega)).1
  have e : vsH a = [] := by unfold vsH; rw [e1, e2]; rfl
  have k := ptH_o2 (h := a) (X := cU (nwC a.1 W par sec d co) 2 W a.2.1) (V := V) (kd := a.1) (W := W) (par := par) (sec := sec) (d := d) (c := co) (by
    intro b ha
    have e : b = 0 ∨ b = 1 ∨ b = 2 ∨ b = 3 ∨ b = 4 ∨ b = 5 ∨ b = 6 ∨ b = 7 ∨ b = 8 ∨ b = 9 := by omega
    rcases e with e | e | e | e | e | e | e | e | e | e <;> subst e
    · rw [cU_at, if_neg (by omega), nwC_W (by decide)]
      rfl
    · rw [cU_at, if_neg (by omega), nwC_W (by decide)]
      rfl
    · rw [cU_at, if_pos ⟨rfl, rfl⟩]
      rfl
    · rw [cU_at, if_neg (by omega), nwC_W (by decide)]
      rfl
    · rw [cU_at, if_neg (by omega), nwC_W (by decide)]
      rfl
    · rw [cU_at, if_neg (by omega), nwC_W (by decide)]
      exact (if_neg sm).symm
    · rw [cU_at, if_neg (by omega), nwC_W (by decide)]
      exact (if_neg sm).symm
    · rw [cU_at, if_neg (by omega), nwC_W (by decide)]
      exact (if_neg sm).symm
    · rw [cU_at, if_neg (by omega), nwC_W (by decide)]
      exact e3.symm
    · rw [cU_at, if_neg (by omega), nwC_W (by decide)]
      rfl) (fun a b c9 => by rw [cU_at, if_neg (fun z => c9 ⟨z.2, by omega⟩)])
  rw [e, putV_nil] at k
  exact k
theorem ptH_ns {a : Hd} {W V d : Nat} {par : Int} {sec : Bool} {co : Cn} (sm : 6 ≤ a.1 ∧ a.1 ≤ 9) : putV (vsH a) V (cU (cU (cU (cU (cU (nwC a.1 W par sec d co) 2 W a.2.1) 5 W V) 6 W ((V : Int) + (a.2.2.2.1.length : Int))) 7 W ((V : Int) + (nvH a : Int))) 8 W a.2.2.1) = ptH a W V par sec d co := by
  refine ptH_o2 (kd := a.1) ?_ (fun a b c9 => by rw [cU_at, if_neg (fun z => c9 ⟨z.2, by omega⟩), cU_at, if_neg (fun z => c9 ⟨z.2, by omega⟩), cU_at, if_neg (fun z => c9 ⟨z.2, by omega⟩), cU_at, if_neg (fun z => c9 ⟨z.2, by omega⟩), cU_at, if_neg (fun z => c9 ⟨z.2, by omega⟩)])
  intro b ha
  have e : b = 0 ∨ b = 1 ∨ b = 2 ∨ b = 3 ∨ b = 4 ∨ b = 5 ∨ b = 6 ∨ b = 7 ∨ b = 8 ∨ b = 9 := by omega
  rcases e with e | e | e | e | e | e | e | e | e | e <;> subst e
  · rw [cU_at, if_neg (by omega), cU_at, if_neg (by omega), cU_at, if_neg (by omega), cU_at, if_neg (by omega), cU_at, if_neg (by omega), nwC_W (by decide)]
    rfl
  · rw [cU_at, if_neg (by omega), cU_at, if_neg (by omega), cU_at, if_neg (by omega), cU_at, if_neg (by omega), cU_at, if_neg (by omega), nwC_W (by decide)]
    rfl
  · rw [cU_at, if_neg (by omega), cU_at, if_neg (by omega), cU_at, if_neg (by omega), cU_at, if_neg (by omega), cU_at, if_pos ⟨rfl, rfl⟩]
    rfl
  · rw [cU_at, if_neg (by omega), cU_at, if_neg (by omega), cU_at, if_neg (by omega), cU_at, if_neg (by omega), cU_at, if_neg (by omega), nwC_W (by decide)]
    rfl
  · rw [cU_at, if_neg (by omega), cU_at, if_neg (by omega), cU_at, if_neg (by omega), cU_at, if_neg (by omega), cU_at, if_neg (by omega), nwC_W (by decide)]
    rfl
  · rw [cU_at, if_neg (by omega), cU_at, if_neg (by omega), cU_at, if_neg (by omega), cU_at, if_pos ⟨rfl, rfl⟩]
    exact (if_pos sm).symm
  · rw [cU_at, if_neg (by omega), cU_at, if_neg (by omega), cU_at, if_pos ⟨rfl, rfl⟩]
    exact (if_pos sm).symm
  · rw [cU_at, if_neg (by omega), cU_at, if_pos ⟨rfl, rfl⟩]
    exact (if_pos sm).symm
  · rw [cU_at, if_pos ⟨rfl, rfl⟩]
    rfl
  · rw [cU_at, if_neg (by omega), cU_at, if_neg (by omega), cU_at, if_neg (by omega), cU_at, if_neg (by omega), cU_at, if_neg (by omega), nwC_W (by decide)]
    rfl

/-- the first DEED of a WORD just laid; its second -/
theorem dq_1 {a : Hd} {W V d : Nat} {par : Int} {sec : Bool} {co : Cn} (hp : par < W) : dqC (ptH a W V par sec d co) (W + 1) (d + 1) (W : Int) false := by
  obtain ⟨_, o3, _, o1, _⟩ := ptH_o (h := a) (V := V) (s := sec) (d := d) (c := co) hp
  exact Or.inr ⟨W, rfl, by omega, by rw [o1]; omega, ⟨fun _ => rfl, fun _ => o3⟩⟩
theorem dq_2 {a : Hd} {A : List Hd} {W V V1 d : Nat} {par : Int} {sec : Bool} {co : Cn} (hp : par < W) (hA : okT A 1) : dqC (LY A (W + 1) V1 [((W : Int), false, d + 1)] (ptH a W V par sec d co)) (W + 1 + A.length) (d + 1) (W : Int) true := by
  obtain ⟨_, _, _, o1, _⟩ := ptH_o (h := a) (V := V) (s := sec) (d := d) (c := co) hp
  refine Or.inr ⟨W, rfl, by omega, ?_, ?_⟩
  · rw [LY_fr (by decide) (by omega) (fun p2 s2 d2 _ z => by have hl := @lkS_le s2; omega), o1]
    omega
  · obtain ⟨r, R, e⟩ := okT_ne hA
    subst e
    have e3 : LY (r :: R) (W + 1) V1 [((W : Int), false, d + 1)] (ptH a W V par sec d co) 3 W = (W : Int) + 1 := by
      show LY R (W + 1 + 1) (V1 + nvH r) (psS r (W + 1) (d + 1) []) (ptH r (W + 1) V1 (W : Int) false (d + 1) (ptH a W V par sec d co)) 3 W = (W : Int) + 1
      rw [LY_fr (by decide) (by omega) (fun p2 s2 d2 hm z => by
        rcases psS_mem hm with q | q
        · omega
        · cases q)]
      exact ptH_lk (s := false) (by omega)
    rw [e3]
    exact ⟨fun z => by omega, fun z => by cases z⟩
theorem dq_p {co : Cn} {W d : Nat} {par : Int} {sec : Bool} (h : dqC co W d par sec) : par < W := by
  rcases h with ⟨a, _⟩ | ⟨P, a, b, _, _⟩ <;> omega
/-- what a WORD's list is made of -/
theorem tr_2 {H : Nat → Hd} {fi se : Nat → Nat} {k w : Nat} (h : arH (H w) = 2) : trG H fi se (k + 1) w = H w :: (trG H fi se k (fi w) ++ trG H fi se k (se w)) := by rw [trG_at, if_pos h]
theorem tr_1 {H : Nat → Hd} {fi se : Nat → Nat} {k w : Nat} (h : arH (H w) = 1) : trG H fi se (k + 1) w = H w :: trG H fi se k (fi w) := by rw [trG_at, if_neg (by omega), if_pos h]
theorem tr_0 {H : Nat → Hd} {fi se : Nat → Nat} {k w : Nat} (h : arH (H w) = 0) : trG H fi se (k + 1) w = [H w] := by rw [trG_at, if_neg (by omega), if_neg (by omega)]
theorem gkN_ok {g h : Nat → Int32} {s v : Int32} {H : Nat → Hd} {fi se : Nat → Nat} (hG : gkN g h s.toInt v.toInt H fi se) : ∀ (k w : Nat), (w : Int) < s.toInt → s.toInt ≤ (w : Int) + k → okT (trG H fi se k w) 1 := fun k w h1 h2 => trG_ok (m := s.toInt.toNat) (fun w hw => by
  obtain ⟨_, _, a, b⟩ := hG w (by omega)
  exact ⟨fun z => by have := (a z).2; omega, fun z => by have := (b z).2; omega⟩) k w (by omega) (by omega)
theorem gkN_hv {g h : Nat → Int32} {s v : Int32} {H : Nat → Hd} {fi se : Nat → Nat} (hG : gkN g h s.toInt v.toInt H fi se) : ∀ (k w : Nat), (w : Int) < s.toInt → hvT (trG H fi se k w) := by
  intro k
  induction k with
  | zero => intro w _ x hx; cases hx
  | succ k ih =>
    intro w hw
    obtain ⟨_, a, b, c⟩ := hG w hw
    have hl := arH_le (h := H w)
    by_cases c2 : arH (H w) = 2
    · rw [tr_2 c2]
      have b2 := (b (by omega)).2
      have c3 := (c c2).2
      intro x hx
      rcases List.mem_cons.mp hx with z | z
      · rw [z]; exact a
      · rcases List.mem_append.mp z with z | z
        · exact ih _ (by omega) x z
        · exact ih _ (by omega) x z
    · by_cases c1 : arH (H w) = 1
      · rw [tr_1 c1]
        have b2 := (b (by omega)).2
        intro x hx
        rcases List.mem_cons.mp hx with z | z
        · rw [z]; exact a
        · exact ih _ (by omega) x z
      · rw [tr_0 (by omega)]
        intro x hx
        rcases List.mem_cons.mp hx with z | z
        · rw [z]; exact a
        · cases z

set_option maxHeartbeats 4000000 in
set_option maxRecDepth 100000 in
theorem k_X3_copyDeedC {l : Launch} {D : va_G} {cy : Nat → ClassId} {b : Nat} {p c1 c2 n1 n2 q d1 d2 : Nat} {s v : Int32} {g h : Nat → Int32}  {H : Nat → Hd} {fi se : Nat → Nat}  (hs : 0 ≤ s.toInt ∧ 13 * s.toInt ≤ n1 ∧ n1 ≤ 520) (hv : 0 ≤ v.toInt ∧ 2 * v.toInt ≤ n2 ∧ n2 ≤ 80) (hne : p ≠ q ∧ c1 ≠ d1 ∧ c1 ≠ d2 ∧ c2 ≠ d1 ∧ c2 ≠ d2 ∧ d1 ≠ d2) (hG : gkN g h s.toInt v.toInt H fi se) : ∀ (k : Nat) (x ar qs qv : Int32) (gq hh : Nat → Int32) (X W V d K : Nat) (sec : Bool) (co : Cn) (f : gMem), (f p = some (.inr (2, [.ref c1, .ref c2, .int s, .int v]))) → (f c1 = some (.inl (cy 0, n1, .inl (g)))) → (f c2 = some (.inl (cy 0, n2, .inl (h)))) → (f q = some (.inr (2, [.ref d1, .ref d2, .int qs, .int qv]))) → (f d1 = some (.inl (cy 0, 520, .inl (gq)))) → (f d2 = some (.inl (cy 0, 80, .inl (hh)))) → (0 ≤ qs.toInt ∧ 13 * qs.toInt ≤ 520 ∧ 520 ≤ 520) → (0 ≤ qv.toInt ∧ 2 * qv.toInt ≤ 80 ∧ 80 ≤ 80) → (fI gq qs.toInt) → (40 - qs.toInt < (k : Int)) → (x.toInt = X ∧ (X : Int) < s.toInt) → (s.toInt ≤ (X : Int) + K) → (qs.toInt = W) → (qv.toInt = V) → (W + (trG H fi se K X).length ≤ 40 ∧ V + nvT (trG H fi se K X) ≤ 40 ∧ dkT (trG H fi se K X) [d]) → (LC gq hh co W V) → (dqC co W d ar.toInt sec) → gC l D cy b yX3_copyDeed cX3_copyDeed 6 none (4 + 1 * k) 0 0 [.ref p, .int x, .ref q, .int ar] f (pV fun f2 => ∃ (s2 v2 : Int32) (g2 h2 : Nat → Int32), f2 q = some (.inr (2, [.ref d1, .ref d2, .int s2, .int v2])) ∧ f2 d1 = some (.inl (cy 0, 520, .inl (g2))) ∧ f2 d2 = some (.inl (cy 0, 80, .inl (h2))) ∧ (0 ≤ s2.toInt ∧ 13 * s2.toInt ≤ 520 ∧ 520 ≤ 520) ∧ (0 ≤ v2.toInt ∧ 2 * v2.toInt ≤ 80 ∧ 80 ≤ 80) ∧ fI g2 s2.toInt ∧ s2.toInt = ((W + (trG H fi se K X).length : Nat) : Int) ∧ v2.toInt = ((V + nvT (trG H fi se K X) : Nat) : Int) ∧ LC g2 h2 (LY (trG H fi se K X) W V [(ar.toInt, sec, d)] co) (W + (trG H fi se K X).length) (V + nvT (trG H fi se K X)) ∧ fr [q, d1, d2] f f2) := by
  intro k
  induction k with
  | zero =>
    intro x ar qs qv gq hh X W V d K sec co f hp h1 h2 hq0 hd1 hd2 hqs hqv hI hk hX hK hW hV hA hLC hQ
    exfalso; omega
  | succ k ih =>
    intro x ar qs qv gq hh X W V d K sec co f hp h1 h2 hq0 hd1 hd2 hqs hqv hI hk hX hK hW hV hA hLC hQ
    refine gC_of (by decide) (Nat.le_of_ble_eq_true rfl) ?_
    show gG l _ _ _ D cy b cX3_copyDeed 6 _ RX3 "copyDeed" 0 0 f 0 [(0, .ref p), (1, .int x), (2, .ref q), (3, .int ar)] []
    refine gz_aload_n dX3_copyDeed_0 rfl rfl ?_
    refine gz_iload_n dX3_copyDeed_1 rfl rfl ?_
    refine gz_iconst (v := 0) dX3_copyDeed_2 (by decide) ?_
    obtain ⟨k1, ek1⟩ : ∃ k1, K = k1 + 1 := ⟨K - 1, by omega⟩
    subst ek1
    obtain ⟨ga, va, gf, gs⟩ := hG X hX.2
    have hl2 := arH_le (h := H X)
    have hak := arH_k va
    have hlen : 1 ≤ (trG H fi se (k1 + 1) X).length := by rw [trG_at, List.length_cons]; omega
    have hd11 : d ≤ 11 := by have z := hA.2.2; rw [trG_at] at z; exact z.1
    have hfld : ∀ (k : Int32) (c : Nat), k.toInt = c → c ≤ 12 → fldF n1 g s x k = g (13 * X + c) := fun k c hk hc => fldG hs hX.1 hX.2 hk hc
    have hp0 := dq_p hQ
    have g0 := ga.1
    have g2_ := ga.2.1
    refine scX3_52 (k_X2_field (w := x) (k := 0) hp h1 hs) hp ⟨(by simp only [gRm]; omega), (by simp only [gRm]; omega)⟩ ⟨(Nat.le_of_ble_eq_true rfl), (Nat.le_of_ble_eq_true rfl)⟩ rfl rfl (Nat.le_of_ble_eq_true rfl) dX3_copyDeed_3 ?_
    intro v9 f9 z9; rw [z9.1, z9.2, hfld 0 0 rfl (by decide)]
    refine gz_istore (lv' := [(4, .int (g (13 * X + 0))), (0, .ref p), (1, .int x), (2, .ref q), (3, .int ar)]) dX3_copyDeed_6 (by decide) rfl ?_
    refine gz_iload dX3_copyDeed_8 rfl ?_
    refine gz_iconst (v := (-1)) dX3_copyDeed_10 (by decide) ?_
    refine gz_icmp_ne (tgt := 15) dX3_copyDeed_11 (by decide) (fun c_11 => ?_) (fun c_11 => ?_)
    ·
      refine gz_aload_n dX3_copyDeed_15 rfl rfl ?_
      refine gz_iload dX3_copyDeed_16 rfl ?_
      refine gz_iload_n dX3_copyDeed_18 rfl rfl ?_
      obtain ⟨x1, hx1⟩ : ∃ x0, (grwF 520 gq qs (g (13 * X + 0)) ar) = x0 := ⟨_, rfl⟩
      refine scX3_72 (k_X2_grow (kd := (g (13 * X + 0))) (ar := ar) hq0 hd1 hqs) hq0 ⟨(by simp only [gRm]; omega), (by simp only [gRm]; omega)⟩ ⟨(Nat.le_of_ble_eq_true rfl), (Nat.le_of_ble_eq_true rfl)⟩ rfl rfl (Nat.le_of_ble_eq_true rfl) dX3_copyDeed_19 ?_
      rintro r1 f1 ⟨z1, hd1_1, hq0_1, hr1⟩; rw [hx1] at z1 hd1_1 hq0_1; rw [z1]
      have hp_1 : f1 p = some (.inr (2, [.ref c1, .ref c2, .int s, .int v])) := hr1 _ _ hp (by simp only [List.mem_cons, List.not_mem_nil, or_false, not_or]; exact ⟨hne.1, cne hp hd1 (by simp)⟩)
      have h1_1 : f1 c1 = some (.inl (cy 0, n1, .inl (g))) := hr1 _ _ h1 (by simp only [List.mem_cons, List.not_mem_nil, or_false, not_or]; exact ⟨cne h1 hq0 (by simp), hne.2.1⟩)
      have h2_1 : f1 c2 = some (.inl (cy 0, n2, .inl (h))) := hr1 _ _ h2 (by simp only [List.mem_cons, List.not_mem_nil, or_false, not_or]; exact ⟨cne h2 hq0 (by simp), hne.2.2.2.1⟩)
      have hd2_1 : f1 d2 = some (.inl (cy 0, 80, .inl (hh))) := hr1 _ _ hd2 (by simp only [List.mem_cons, List.not_mem_nil, or_false, not_or]; exact ⟨cne hd2 hq0 (by simp), Ne.symm (hne.2.2.2.2.2)⟩)
      have hGx1 := grwF_ok (kd := (g (13 * X + 0))) (ar := ar) hqs hI
      have hgx1 := grw_c (kd := (g (13 * X + 0))) hW (by omega) hLC hd11 rfl hQ
      have hG0 := LC_grow (kd := (g (13 * X + 0))) (K := (H X).1.toNat) hW (by omega) hLC hd11 (by have := va.1; omega) rfl hQ
      rw [hx1] at hGx1 hgx1 hG0
      rw [show (((H X).1.toNat : Nat) : Int) = (H X).1 by have := va.1; omega] at hG0
      refine gz_ev (w := .int qs) (congrArg Value.int hgx1.1) ?_
      refine gz_istore (lv' := [(5, .int qs), (4, .int (g (13 * X + 0))), (0, .ref p), (1, .int x), (2, .ref q), (3, .int ar)]) dX3_copyDeed_22 (by decide) rfl ?_
      refine gz_iload dX3_copyDeed_24 rfl ?_
      refine gz_iconst (v := (-1)) dX3_copyDeed_26 (by decide) ?_
      refine gz_icmp_ne (tgt := 31) dX3_copyDeed_27 (by decide) (fun c_27 => ?_) (fun c_27 => ?_)
      ·
        refine gz_aload_n dX3_copyDeed_31 rfl rfl ?_
        refine gz_iload dX3_copyDeed_32 rfl ?_
        refine gz_iconst (v := 2) dX3_copyDeed_34 (by decide) ?_
        refine gz_aload_n dX3_copyDeed_35 rfl rfl ?_
        refine gz_iload_n dX3_copyDeed_36 rfl rfl ?_
        refine gz_iconst (v := 2) dX3_copyDeed_37 (by decide) ?_
        refine scX3_52 (k_X2_field (w := x) (k := 2) hp_1 h1_1 hs) hp_1 ⟨(by simp only [gRm]; omega), (by simp only [gRm]; omega)⟩ ⟨(Nat.le_of_ble_eq_true rfl), (Nat.le_of_ble_eq_true rfl)⟩ rfl rfl (Nat.le_of_ble_eq_true rfl) dX3_copyDeed_38 ?_
        intro v9 f9 z9; rw [z9.1, z9.2, hfld 2 2 rfl (by decide)]
        refine scX3_55 (k_X2_setField (w := qs) (k := 2) (x := (g (13 * X + 2))) hq0_1 hd1_1 hGx1.1) hq0_1 ⟨(by simp only [gRm]; omega), (by simp only [gRm]; omega)⟩ ⟨(Nat.le_of_ble_eq_true rfl), (Nat.le_of_ble_eq_true rfl)⟩ rfl rfl (Nat.le_of_ble_eq_true rfl) dX3_copyDeed_41 ?_
        rintro f2 ⟨hd1_2, hr2⟩
        have hp_2 : f2 p = some (.inr (2, [.ref c1, .ref c2, .int s, .int v])) := hr2 _ _ hp_1 (by simp only [List.mem_cons, List.not_mem_nil, or_false, not_or]; exact cne hp_1 hd1_1 (by simp))
        have h1_2 : f2 c1 = some (.inl (cy 0, n1, .inl (g))) := hr2 _ _ h1_1 (by simp only [List.mem_cons, List.not_mem_nil, or_false, not_or]; exact hne.2.1)
        have h2_2 : f2 c2 = some (.inl (cy 0, n2, .inl (h))) := hr2 _ _ h2_1 (by simp only [List.mem_cons, List.not_mem_nil, or_false, not_or]; exact hne.2.2.2.1)
        have hd2_2 : f2 d2 = some (.inl (cy 0, 80, .inl (hh))) := hr2 _ _ hd2_1 (by simp only [List.mem_cons, List.not_mem_nil, or_false, not_or]; exact Ne.symm (hne.2.2.2.2.2))
        have hq0_2 : f2 q = some (.inr (2, [.ref d1, .ref d2, .int x1.2.2, .int qv])) := hr2 _ _ hq0_1 (by simp only [List.mem_cons, List.not_mem_nil, or_false, not_or]; exact cne hq0_1 hd1_1 (by simp))
        have hI_2 : fI (stF 520 x1.2.1 x1.2.2 qs 2 (g (13 * X + 2))) x1.2.2.toInt := fI_st hGx1.1 hGx1.2.1 (Or.inl (by decide))
        have hLn := LC_n (x := (g (13 * X + 2))) hgx1.2 (by omega) hW hG0
        rw [g2_] at hLn
        refine gz_iload dX3_copyDeed_44 rfl ?_
        refine scX3_75 (k_X11_hasSum (x := (g (13 * X + 0)))) ⟨(by simp only [gRm]; omega), (by simp only [gRm]; omega)⟩ ⟨(Nat.le_of_ble_eq_true rfl), (Nat.le_of_ble_eq_true rfl)⟩ rfl rfl (Nat.le_of_ble_eq_true rfl) dX3_copyDeed_46 ?_
        intro v9 f9 z9; rw [z9.1, z9.2]
        refine gz_if_eq (tgt := 60) dX3_copyDeed_49 (by decide) (fun c_49 => ?_) (fun c_49 => ?_)
        ·
          have sm : ¬ (6 ≤ (H X).1 ∧ (H X).1 ≤ 9) := by have z := hsu_b.mp c_49; omega
          have hnv : nvH (H X) = 0 := by unfold nvH; rw [va.2.2.2.2.2.2 sm, (va.2.2.2.2.1 (by omega)).2]; rfl
          have LC5 := hLn
          rw [ptH_nw (V := V) va sm] at LC5
          have LC6 : LC (stF 520 x1.2.1 x1.2.2 qs 2 (g (13 * X + 2))) hh (ptH (H X) W V ar.toInt sec d co) (W + 1) (V + nvH (H X)) := by rw [hnv]; exact LC5
          refine gz_iload dX3_copyDeed_60 rfl ?_
          refine scX3_82 (k_X11_hasDeed (x := (g (13 * X + 0)))) ⟨(by simp only [gRm]; omega), (by simp only [gRm]; omega)⟩ ⟨(Nat.le_of_ble_eq_true rfl), (Nat.le_of_ble_eq_true rfl)⟩ rfl rfl (Nat.le_of_ble_eq_true rfl) dX3_copyDeed_62 ?_
          intro v9 f9 z9; rw [z9.1, z9.2]
          refine gz_if_eq (tgt := 81) dX3_copyDeed_65 (by decide) (fun c_65 => ?_) (fun c_65 => ?_)
          ·
            refine gz_iload dX3_copyDeed_81 rfl ?_
            refine scX3_85 (k_X11_hasPair (x := (g (13 * X + 0)))) ⟨(by simp only [gRm]; omega), (by simp only [gRm]; omega)⟩ ⟨(Nat.le_of_ble_eq_true rfl), (Nat.le_of_ble_eq_true rfl)⟩ rfl rfl (Nat.le_of_ble_eq_true rfl) dX3_copyDeed_83 ?_
            intro v9 f9 z9; rw [z9.1, z9.2]
            refine gz_if_eq (tgt := 102) dX3_copyDeed_86 (by decide) (fun c_86 => ?_) (fun c_86 => ?_)
            ·
              have ha0 : arH (H X) = 0 := by have z : (H X).1 = 0 ∨ (H X).1 = 1 := by { have z1 := hde_b.mp c_65; rw [g0] at z1; exact z1 }; omega
              have ea : trG H fi se (k1 + 1) X = [H X] := tr_0 ha0
              have el : (trG H fi se (k1 + 1) X).length = 1 := by rw [ea]; rfl
              have en : nvT (trG H fi se (k1 + 1) X) = nvH (H X) := by rw [ea]; rfl
              have eL : LY (trG H fi se (k1 + 1) X) W V [(ar.toInt, sec, d)] co = ptH (H X) W V ar.toInt sec d co := by rw [ea]; rfl
              exact gz_vret rfl dX3_copyDeed_102 (Nat.le_of_ble_eq_true rfl) (Nat.le_of_ble_eq_true rfl) (⟨rfl, _, _, _, _, hq0_2, hd1_2, hd2_2, hGx1.1, hqv, hI_2, (by have z := hgx1.2; omega), (by have z := (show qv.toInt = ((V + nvH (H X) : Nat) : Int) by omega); omega), (by rw [eL, el, en]; exact LC6), (fr_tr (fr_tr fr_rf (fr_mo hr1 (by simp))) (fr_mo hr2 (by simp)))⟩)
            ·
              exfalso; have z : (H X).1 = 0 ∨ (H X).1 = 1 := by { have z1 := hde_b.mp c_65; rw [g0] at z1; exact z1 }; have y : (H X).1 = 3 ∨ (H X).1 = 4 ∨ (H X).1 = 5 := by { have z1 := Classical.not_not.mp (fun q => c_86 (hpa_b.mpr q)); rw [g0] at z1; exact z1 }; omega
          ·
            refine gz_aload_n dX3_copyDeed_68 rfl rfl ?_
            refine gz_aload_n dX3_copyDeed_69 rfl rfl ?_
            refine gz_iload_n dX3_copyDeed_70 rfl rfl ?_
            refine gz_iconst (v := 3) dX3_copyDeed_71 (by decide) ?_
            refine scX3_52 (k_X2_field (w := x) (k := 3) hp_2 h1_2 hs) hp_2 ⟨(by simp only [gRm]; omega), (by simp only [gRm]; omega)⟩ ⟨(Nat.le_of_ble_eq_true rfl), (Nat.le_of_ble_eq_true rfl)⟩ rfl rfl (Nat.le_of_ble_eq_true rfl) dX3_copyDeed_72 ?_
            intro v9 f9 z9; rw [z9.1, z9.2, hfld 3 3 rfl (by decide)]
            refine gz_aload_n dX3_copyDeed_75 rfl rfl ?_
            refine gz_iload dX3_copyDeed_76 rfl ?_
            have ha1 : 1 ≤ arH (H X) := by have z : ¬ ((H X).1 = 0 ∨ (H X).1 = 1) := by { have z1 := fun q => c_65 (hde_b.mpr q); rw [g0] at z1; exact z1 }; have vy := va.1; omega
            obtain ⟨e3, l3, m3⟩ := gf ha1
            have okA := gkN_ok hG k1 (fi X) m3 (by omega)
            have fitA : W + 1 + (trG H fi se k1 (fi X)).length ≤ 40 ∧ V + nvH (H X) + nvT (trG H fi se k1 (fi X)) ≤ 40 ∧ dkT (trG H fi se k1 (fi X)) [d + 1] := by
              obtain ⟨z1, z2, z3⟩ := hA
              by_cases c2 : arH (H X) = 2
              · rw [tr_2 c2] at z1 z2 z3
                rw [List.length_cons, List.length_append] at z1
                have z2b : V + (nvH (H X) + nvT (trG H fi se k1 (fi X) ++ trG H fi se k1 (se X))) ≤ 40 := z2
                rw [nvT_app] at z2b
                have z3b := z3.2
                unfold psD at z3b
                rw [if_pos c2] at z3b
                exact ⟨by omega, by omega, ((dkT_app (a := [d + 1]) (b := [d + 1]) okA).mp z3b).1⟩
              · have c1 : arH (H X) = 1 := by omega
                rw [tr_1 c1] at z1 z2 z3
                rw [List.length_cons] at z1
                have z2b : V + (nvH (H X) + nvT (trG H fi se k1 (fi X))) ≤ 40 := z2
                have z3b := z3.2
                unfold psD at z3b
                rw [if_neg c2, if_pos c1] at z3b
                exact ⟨by omega, by omega, z3b⟩
            refine scX3_27 (ih (g (13 * X + 3)) qs x1.2.2 qv (stF 520 x1.2.1 x1.2.2 qs 2 (g (13 * X + 2))) hh (fi X) (W + 1) (V + nvH (H X)) (d + 1) k1 false (ptH (H X) W V ar.toInt sec d co) _ hp_2 h1_2 h2_2 hq0_2 hd1_2 hd2_2 hGx1.1 hqv hI_2 (by omega) ⟨e3, m3⟩ (by omega) (show x1.2.2.toInt = ((W + 1 : Nat) : Int) by have := hgx1.2; omega) (show qv.toInt = ((V + nvH (H X) : Nat) : Int) by omega) fitA LC6 (by rw [hW]; exact dq_1 hp0)) ⟨(by simp only [gRm]; omega), (by simp only [gRm]; omega)⟩ ⟨(Nat.le_of_ble_eq_true rfl), (Nat.le_of_ble_eq_true rfl)⟩ rfl rfl (Nat.le_of_ble_eq_true rfl) dX3_copyDeed_78 ?_
            rintro f3 ⟨s_3, v_3, g_3, h_3, hq0_3, hd1_3, hd2_3, hqs_3, hqv_3, hI_3, hsn_3, hvn_3, hLn_3, hr3⟩
            have hp_3 : f3 p = some (.inr (2, [.ref c1, .ref c2, .int s, .int v])) := hr3 _ _ hp_2 (by simp only [List.mem_cons, List.not_mem_nil, or_false, not_or]; exact ⟨hne.1, cne hp_2 hd1_2 (by simp), cne hp_2 hd2_2 (by simp)⟩)
            have h1_3 : f3 c1 = some (.inl (cy 0, n1, .inl (g))) := hr3 _ _ h1_2 (by simp only [List.mem_cons, List.not_mem_nil, or_false, not_or]; exact ⟨cne h1_2 hq0_2 (by simp), hne.2.1, hne.2.2.1⟩)
            have h2_3 : f3 c2 = some (.inl (cy 0, n2, .inl (h))) := hr3 _ _ h2_2 (by simp only [List.mem_cons, List.not_mem_nil, or_false, not_or]; exact ⟨cne h2_2 hq0_2 (by simp), hne.2.2.2.1, hne.2.2.2.2.1⟩)
            have hB_ := hLn_3
            rw [hW] at hB_
            refine gz_iload dX3_copyDeed_81 rfl ?_
            refine scX3_85 (k_X11_hasPair (x := (g (13 * X + 0)))) ⟨(by simp only [gRm]; omega), (by simp only [gRm]; omega)⟩ ⟨(Nat.le_of_ble_eq_true rfl), (Nat.le_of_ble_eq_true rfl)⟩ rfl rfl (Nat.le_of_ble_eq_true rfl) dX3_copyDeed_83 ?_
            intro v9 f9 z9; rw [z9.1, z9.2]
            refine gz_if_eq (tgt := 102) dX3_copyDeed_86 (by decide) (fun c_86 => ?_) (fun c_86 => ?_)
            ·
              have ha1b : arH (H X) = 1 := by have z : ¬ ((H X).1 = 3 ∨ (H X).1 = 4 ∨ (H X).1 = 5) := by { have z1 := hpa_b.mp c_86; rw [g0] at z1; exact z1 }; have vy := va.1; omega
              have ea : trG H fi se (k1 + 1) X = H X :: trG H fi se k1 (fi X) := tr_1 ha1b
              have el : (trG H fi se (k1 + 1) X).length = 1 + (trG H fi se k1 (fi X)).length := by rw [ea, List.length_cons]; omega
              have en : nvT (trG H fi se (k1 + 1) X) = nvH (H X) + nvT (trG H fi se k1 (fi X)) := by rw [ea]; rfl
              have eL : LY (trG H fi se (k1 + 1) X) W V [(ar.toInt, sec, d)] co = LY (trG H fi se k1 (fi X)) (W + 1) (V + nvH (H X)) [((W : Int), false, d + 1)] (ptH (H X) W V ar.toInt sec d co) := by
                rw [ea]
                show LY _ (W + 1) (V + nvH (H X)) (psS (H X) W d []) (ptH (H X) W V ar.toInt sec d co) = _
                have hp2 : psS (H X) W d [] = [((W : Int), false, d + 1)] := by unfold psS; rw [if_neg (by omega), if_pos ha1b]
                rw [hp2]
              exact gz_vret rfl dX3_copyDeed_102 (Nat.le_of_ble_eq_true rfl) (Nat.le_of_ble_eq_true rfl) (⟨rfl, _, _, _, _, hq0_3, hd1_3, hd2_3, hqs_3, hqv_3, hI_3, (by have z := hsn_3; omega), (by have z := hvn_3; omega), (by rw [eL, el, en, ← Nat.add_assoc, ← Nat.add_assoc]; exact hB_), (fr_tr (fr_tr (fr_tr fr_rf (fr_mo hr1 (by simp))) (fr_mo hr2 (by simp))) (fr_mo hr3 (by simp)))⟩)
            ·
              refine gz_aload_n dX3_copyDeed_89 rfl rfl ?_
              refine gz_aload_n dX3_copyDeed_90 rfl rfl ?_
              refine gz_iload_n dX3_copyDeed_91 rfl rfl ?_
              refine gz_iconst (v := 4) dX3_copyDeed_92 (by decide) ?_
              refine scX3_52 (k_X2_field (w := x) (k := 4) hp_3 h1_3 hs) hp_3 ⟨(by simp only [gRm]; omega), (by simp only [gRm]; omega)⟩ ⟨(Nat.le_of_ble_eq_true rfl), (Nat.le_of_ble_eq_true rfl)⟩ rfl rfl (Nat.le_of_ble_eq_true rfl) dX3_copyDeed_93 ?_
              intro v9 f9 z9; rw [z9.1, z9.2, hfld 4 4 rfl (by decide)]
              refine gz_aload_n dX3_copyDeed_96 rfl rfl ?_
              refine gz_iload dX3_copyDeed_97 rfl ?_
              have ha2 : arH (H X) = 2 := by have z : (H X).1 = 3 ∨ (H X).1 = 4 ∨ (H X).1 = 5 := by { have z1 := Classical.not_not.mp (fun q => c_86 (hpa_b.mpr q)); rw [g0] at z1; exact z1 }; have vy := va.1; omega
              obtain ⟨e4, l4, m4⟩ := gs ha2
              have fitB : W + 1 + (trG H fi se k1 (fi X)).length + (trG H fi se k1 (se X)).length ≤ 40 ∧ V + nvH (H X) + nvT (trG H fi se k1 (fi X)) + nvT (trG H fi se k1 (se X)) ≤ 40 ∧ dkT (trG H fi se k1 (se X)) [d + 1] := by
                obtain ⟨z1, z2, z3⟩ := hA
                rw [tr_2 ha2] at z1 z2 z3
                rw [List.length_cons, List.length_append] at z1
                have z2b : V + (nvH (H X) + nvT (trG H fi se k1 (fi X) ++ trG H fi se k1 (se X))) ≤ 40 := z2
                rw [nvT_app] at z2b
                have z3b := z3.2
                unfold psD at z3b
                rw [if_pos ha2] at z3b
                exact ⟨by omega, by omega, ((dkT_app (a := [d + 1]) (b := [d + 1]) okA).mp z3b).2⟩
              refine scX3_27 (ih (g (13 * X + 4)) qs s_3 v_3 g_3 h_3 (se X) (W + 1 + (trG H fi se k1 (fi X)).length) (V + nvH (H X) + nvT (trG H fi se k1 (fi X))) (d + 1) k1 true (LY (trG H fi se k1 (fi X)) (W + 1) (V + nvH (H X)) [((W : Int), false, d + 1)] (ptH (H X) W V ar.toInt sec d co)) _ hp_3 h1_3 h2_3 hq0_3 hd1_3 hd2_3 hqs_3 hqv_3 hI_3 (by omega) ⟨e4, m4⟩ (by omega) hsn_3 hvn_3 fitB hB_ (by rw [hW]; exact dq_2 hp0 okA)) ⟨(by simp only [gRm]; omega), (by simp only [gRm]; omega)⟩ ⟨(Nat.le_of_ble_eq_true rfl), (Nat.le_of_ble_eq_true rfl)⟩ rfl rfl (Nat.le_of_ble_eq_true rfl) dX3_copyDeed_99 ?_
              rintro f4 ⟨s_4, v_4, g_4, h_4, hq0_4, hd1_4, hd2_4, hqs_4, hqv_4, hI_4, hsn_4, hvn_4, hLn_4, hr4⟩
              have hp_4 : f4 p = some (.inr (2, [.ref c1, .ref c2, .int s, .int v])) := hr4 _ _ hp_3 (by simp only [List.mem_cons, List.not_mem_nil, or_false, not_or]; exact ⟨hne.1, cne hp_3 hd1_3 (by simp), cne hp_3 hd2_3 (by simp)⟩)
              have h1_4 : f4 c1 = some (.inl (cy 0, n1, .inl (g))) := hr4 _ _ h1_3 (by simp only [List.mem_cons, List.not_mem_nil, or_false, not_or]; exact ⟨cne h1_3 hq0_3 (by simp), hne.2.1, hne.2.2.1⟩)
              have h2_4 : f4 c2 = some (.inl (cy 0, n2, .inl (h))) := hr4 _ _ h2_3 (by simp only [List.mem_cons, List.not_mem_nil, or_false, not_or]; exact ⟨cne h2_3 hq0_3 (by simp), hne.2.2.2.1, hne.2.2.2.2.1⟩)
              have hB_2 := hLn_4
              rw [hW] at hB_2
              have ea : trG H fi se (k1 + 1) X = H X :: (trG H fi se k1 (fi X) ++ trG H fi se k1 (se X)) := tr_2 ha2
              have el : (trG H fi se (k1 + 1) X).length = 1 + (trG H fi se k1 (fi X)).length + (trG H fi se k1 (se X)).length := by rw [ea, List.length_cons, List.length_append]; omega
              have en : nvT (trG H fi se (k1 + 1) X) = nvH (H X) + nvT (trG H fi se k1 (fi X)) + nvT (trG H fi se k1 (se X)) := by rw [ea]; show nvH (H X) + nvT (_ ++ _) = _; rw [nvT_app]; omega
              have eL : LY (trG H fi se (k1 + 1) X) W V [(ar.toInt, sec, d)] co = LY (trG H fi se k1 (se X)) (W + 1 + (trG H fi se k1 (fi X)).length) (V + nvH (H X) + nvT (trG H fi se k1 (fi X))) [((W : Int), true, d + 1)] (LY (trG H fi se k1 (fi X)) (W + 1) (V + nvH (H X)) [((W : Int), false, d + 1)] (ptH (H X) W V ar.toInt sec d co)) := by
                rw [ea]
                show LY (_ ++ _) (W + 1) (V + nvH (H X)) (psS (H X) W d []) (ptH (H X) W V ar.toInt sec d co) = _
                have hp2 : psS (H X) W d [] = [((W : Int), false, d + 1)] ++ [((W : Int), true, d + 1)] := by unfold psS; rw [if_pos ha2]; rfl
                rw [hp2, LY_app (show okT _ [((W : Int), false, d + 1)].length from okA)]
              exact gz_vret rfl dX3_copyDeed_102 (Nat.le_of_ble_eq_true rfl) (Nat.le_of_ble_eq_true rfl) (⟨rfl, _, _, _, _, hq0_4, hd1_4, hd2_4, hqs_4, hqv_4, hI_4, (by have z := hsn_4; omega), (by have z := hvn_4; omega), (by rw [eL, el, en, ← Nat.add_assoc, ← Nat.add_assoc, ← Nat.add_assoc, ← Nat.add_assoc]; exact hB_2), (fr_tr (fr_tr (fr_tr (fr_tr fr_rf (fr_mo hr1 (by simp))) (fr_mo hr2 (by simp))) (fr_mo hr3 (by simp))) (fr_mo hr4 (by simp)))⟩)
        ·
          refine gz_aload_n dX3_copyDeed_52 rfl rfl ?_
          refine gz_iload_n dX3_copyDeed_53 rfl rfl ?_
          refine gz_aload_n dX3_copyDeed_54 rfl rfl ?_
          refine gz_iload dX3_copyDeed_55 rfl ?_
          have sm : 6 ≤ (H X).1 ∧ (H X).1 ≤ 9 := by have z := Classical.not_not.mp (fun q => c_49 (hsu_b.mpr q)); omega
          obtain ⟨hh5, gq5, qv5, ec5, eq5, LC5, dp5⟩ := cps_c (g := g) (h := h) (gq := (stF 520 x1.2.1 x1.2.2 qs 2 (g (13 * X + 2)))) (hh := hh) (v := v) (qs := x1.2.2) (qv := qv) (y := qs) hs hv hX.1 hX.2 hgx1.2 (by omega) hW hV ga sm (by have z := hA.2.1; rw [trG_at] at z; have z2 : V + (nvH (H X) + _) ≤ 40 := z; omega) hLn
          rw [ptH_ns sm] at LC5
          have hC5 := cpsF_ok (n1 := n1) (n2 := n2) (g := g) (h := h) (hh := hh) (s := s) (v := v) (x := x) (y := qs) hGx1.1 hqv hI_2
          rw [ec5] at hC5
          refine scX3_79 ((by have z := k_X3_copySums (l := l) (D := D) (cy := cy) (b := b) (x := x) (y := qs) hp_2 h1_2 h2_2 hq0_2 hd1_2 hd2_2 hs hv hGx1.1 hqv hne; rw [ec5] at z; exact z)) ⟨(by simp only [gRm]; omega), (by simp only [gRm]; omega)⟩ ⟨(Nat.le_of_ble_eq_true rfl), (Nat.le_of_ble_eq_true rfl)⟩ rfl rfl (Nat.le_of_ble_eq_true rfl) dX3_copyDeed_57 ?_
          rintro f5 ⟨hd2_5, hq0_5, hd1_5, hr5⟩
          have hp_5 : f5 p = some (.inr (2, [.ref c1, .ref c2, .int s, .int v])) := hr5 _ _ hp_2 (by simp only [List.mem_cons, List.not_mem_nil, or_false, not_or]; exact ⟨hne.1, cne hp_2 hd1_2 (by simp), cne hp_2 hd2_2 (by simp)⟩)
          have h1_5 : f5 c1 = some (.inl (cy 0, n1, .inl (g))) := hr5 _ _ h1_2 (by simp only [List.mem_cons, List.not_mem_nil, or_false, not_or]; exact ⟨cne h1_2 hq0_2 (by simp), hne.2.1, hne.2.2.1⟩)
          have h2_5 : f5 c2 = some (.inl (cy 0, n2, .inl (h))) := hr5 _ _ h2_2 (by simp only [List.mem_cons, List.not_mem_nil, or_false, not_or]; exact ⟨cne h2_2 hq0_2 (by simp), hne.2.2.2.1, hne.2.2.2.2.1⟩)
          refine gz_iload dX3_copyDeed_60 rfl ?_
          refine scX3_82 (k_X11_hasDeed (x := (g (13 * X + 0)))) ⟨(by simp only [gRm]; omega), (by simp only [gRm]; omega)⟩ ⟨(Nat.le_of_ble_eq_true rfl), (Nat.le_of_ble_eq_true rfl)⟩ rfl rfl (Nat.le_of_ble_eq_true rfl) dX3_copyDeed_62 ?_
          intro v9 f9 z9; rw [z9.1, z9.2]
          refine gz_if_eq (tgt := 81) dX3_copyDeed_65 (by decide) (fun c_65 => ?_) (fun c_65 => ?_)
          ·
            refine gz_iload dX3_copyDeed_81 rfl ?_
            refine scX3_85 (k_X11_hasPair (x := (g (13 * X + 0)))) ⟨(by simp only [gRm]; omega), (by simp only [gRm]; omega)⟩ ⟨(Nat.le_of_ble_eq_true rfl), (Nat.le_of_ble_eq_true rfl)⟩ rfl rfl (Nat.le_of_ble_eq_true rfl) dX3_copyDeed_83 ?_
            intro v9 f9 z9; rw [z9.1, z9.2]
            refine gz_if_eq (tgt := 102) dX3_copyDeed_86 (by decide) (fun c_86 => ?_) (fun c_86 => ?_)
            ·
              have ha0 : arH (H X) = 0 := by have z : (H X).1 = 0 ∨ (H X).1 = 1 := by { have z1 := hde_b.mp c_65; rw [g0] at z1; exact z1 }; omega
              have ea : trG H fi se (k1 + 1) X = [H X] := tr_0 ha0
              have el : (trG H fi se (k1 + 1) X).length = 1 := by rw [ea]; rfl
              have en : nvT (trG H fi se (k1 + 1) X) = nvH (H X) := by rw [ea]; rfl
              have eL : LY (trG H fi se (k1 + 1) X) W V [(ar.toInt, sec, d)] co = ptH (H X) W V ar.toInt sec d co := by rw [ea]; rfl
              exact gz_vret rfl dX3_copyDeed_102 (Nat.le_of_ble_eq_true rfl) (Nat.le_of_ble_eq_true rfl) (⟨rfl, _, _, _, _, hq0_5, hd1_5, hd2_5, hGx1.1, hC5.1, hC5.2, (by have z := hgx1.2; omega), (by have z := (show qv5.toInt = ((V + nvH (H X) : Nat) : Int) by omega); omega), (by rw [eL, el, en]; exact LC5), (fr_tr (fr_tr (fr_tr fr_rf (fr_mo hr1 (by simp))) (fr_mo hr2 (by simp))) (fr_mo hr5 (by simp)))⟩)
            ·
              exfalso; have z : (H X).1 = 0 ∨ (H X).1 = 1 := by { have z1 := hde_b.mp c_65; rw [g0] at z1; exact z1 }; have y : (H X).1 = 3 ∨ (H X).1 = 4 ∨ (H X).1 = 5 := by { have z1 := Classical.not_not.mp (fun q => c_86 (hpa_b.mpr q)); rw [g0] at z1; exact z1 }; omega
          ·
            refine gz_aload_n dX3_copyDeed_68 rfl rfl ?_
            refine gz_aload_n dX3_copyDeed_69 rfl rfl ?_
            refine gz_iload_n dX3_copyDeed_70 rfl rfl ?_
            refine gz_iconst (v := 3) dX3_copyDeed_71 (by decide) ?_
            refine scX3_52 (k_X2_field (w := x) (k := 3) hp_5 h1_5 hs) hp_5 ⟨(by simp only [gRm]; omega), (by simp only [gRm]; omega)⟩ ⟨(Nat.le_of_ble_eq_true rfl), (Nat.le_of_ble_eq_true rfl)⟩ rfl rfl (Nat.le_of_ble_eq_true rfl) dX3_copyDeed_72 ?_
            intro v9 f9 z9; rw [z9.1, z9.2, hfld 3 3 rfl (by decide)]
            refine gz_aload_n dX3_copyDeed_75 rfl rfl ?_
            refine gz_iload dX3_copyDeed_76 rfl ?_
            have ha1 : 1 ≤ arH (H X) := by have z : ¬ ((H X).1 = 0 ∨ (H X).1 = 1) := by { have z1 := fun q => c_65 (hde_b.mpr q); rw [g0] at z1; exact z1 }; have vy := va.1; omega
            obtain ⟨e3, l3, m3⟩ := gf ha1
            have okA := gkN_ok hG k1 (fi X) m3 (by omega)
            have fitA : W + 1 + (trG H fi se k1 (fi X)).length ≤ 40 ∧ V + nvH (H X) + nvT (trG H fi se k1 (fi X)) ≤ 40 ∧ dkT (trG H fi se k1 (fi X)) [d + 1] := by
              obtain ⟨z1, z2, z3⟩ := hA
              by_cases c2 : arH (H X) = 2
              · rw [tr_2 c2] at z1 z2 z3
                rw [List.length_cons, List.length_append] at z1
                have z2b : V + (nvH (H X) + nvT (trG H fi se k1 (fi X) ++ trG H fi se k1 (se X))) ≤ 40 := z2
                rw [nvT_app] at z2b
                have z3b := z3.2
                unfold psD at z3b
                rw [if_pos c2] at z3b
                exact ⟨by omega, by omega, ((dkT_app (a := [d + 1]) (b := [d + 1]) okA).mp z3b).1⟩
              · have c1 : arH (H X) = 1 := by omega
                rw [tr_1 c1] at z1 z2 z3
                rw [List.length_cons] at z1
                have z2b : V + (nvH (H X) + nvT (trG H fi se k1 (fi X))) ≤ 40 := z2
                have z3b := z3.2
                unfold psD at z3b
                rw [if_neg c2, if_pos c1] at z3b
                exact ⟨by omega, by omega, z3b⟩
            refine scX3_27 (ih (g (13 * X + 3)) qs x1.2.2 qv5 gq5 hh5 (fi X) (W + 1) (V + nvH (H X)) (d + 1) k1 false (ptH (H X) W V ar.toInt sec d co) _ hp_5 h1_5 h2_5 hq0_5 hd1_5 hd2_5 hGx1.1 hC5.1 hC5.2 (by omega) ⟨e3, m3⟩ (by omega) (show x1.2.2.toInt = ((W + 1 : Nat) : Int) by have := hgx1.2; omega) (show qv5.toInt = ((V + nvH (H X) : Nat) : Int) by omega) fitA LC5 (by rw [hW]; exact dq_1 hp0)) ⟨(by simp only [gRm]; omega), (by simp only [gRm]; omega)⟩ ⟨(Nat.le_of_ble_eq_true rfl), (Nat.le_of_ble_eq_true rfl)⟩ rfl rfl (Nat.le_of_ble_eq_true rfl) dX3_copyDeed_78 ?_
            rintro f6 ⟨s_6, v_6, g_6, h_6, hq0_6, hd1_6, hd2_6, hqs_6, hqv_6, hI_6, hsn_6, hvn_6, hLn_6, hr6⟩
            have hp_6 : f6 p = some (.inr (2, [.ref c1, .ref c2, .int s, .int v])) := hr6 _ _ hp_5 (by simp only [List.mem_cons, List.not_mem_nil, or_false, not_or]; exact ⟨hne.1, cne hp_5 hd1_5 (by simp), cne hp_5 hd2_5 (by simp)⟩)
            have h1_6 : f6 c1 = some (.inl (cy 0, n1, .inl (g))) := hr6 _ _ h1_5 (by simp only [List.mem_cons, List.not_mem_nil, or_false, not_or]; exact ⟨cne h1_5 hq0_5 (by simp), hne.2.1, hne.2.2.1⟩)
            have h2_6 : f6 c2 = some (.inl (cy 0, n2, .inl (h))) := hr6 _ _ h2_5 (by simp only [List.mem_cons, List.not_mem_nil, or_false, not_or]; exact ⟨cne h2_5 hq0_5 (by simp), hne.2.2.2.1, hne.2.2.2.2.1⟩)
            have hB_ := hLn_6
            rw [hW] at hB_
            refine gz_iload dX3_copyDeed_81 rfl ?_
            refine scX3_85 (k_X11_hasPair (x := (g (13 * X + 0)))) ⟨(by simp only [gRm]; omega), (by simp only [gRm]; omega)⟩ ⟨(Nat.le_of_ble_eq_true rfl), (Nat.le_of_ble_eq_true rfl)⟩ rfl rfl (Nat.le_of_ble_eq_true rfl) dX3_copyDeed_83 ?_
            intro v9 f9 z9; rw [z9.1, z9.2]
            refine gz_if_eq (tgt := 102) dX3_copyDeed_86 (by decide) (fun c_86 => ?_) (fun c_86 => ?_)
            ·
              have ha1b : arH (H X) = 1 := by have z : ¬ ((H X).1 = 3 ∨ (H X).1 = 4 ∨ (H X).1 = 5) := by { have z1 := hpa_b.mp c_86; rw [g0] at z1; exact z1 }; have vy := va.1; omega
              have ea : trG H fi se (k1 + 1) X = H X :: trG H fi se k1 (fi X) := tr_1 ha1b
              have el : (trG H fi se (k1 + 1) X).length = 1 + (trG H fi se k1 (fi X)).length := by rw [ea, List.length_cons]; omega
              have en : nvT (trG H fi se (k1 + 1) X) = nvH (H X) + nvT (trG H fi se k1 (fi X)) := by rw [ea]; rfl
              have eL : LY (trG H fi se (k1 + 1) X) W V [(ar.toInt, sec, d)] co = LY (trG H fi se k1 (fi X)) (W + 1) (V + nvH (H X)) [((W : Int), false, d + 1)] (ptH (H X) W V ar.toInt sec d co) := by
                rw [ea]
                show LY _ (W + 1) (V + nvH (H X)) (psS (H X) W d []) (ptH (H X) W V ar.toInt sec d co) = _
                have hp2 : psS (H X) W d [] = [((W : Int), false, d + 1)] := by unfold psS; rw [if_neg (by omega), if_pos ha1b]
                rw [hp2]
              exact gz_vret rfl dX3_copyDeed_102 (Nat.le_of_ble_eq_true rfl) (Nat.le_of_ble_eq_true rfl) (⟨rfl, _, _, _, _, hq0_6, hd1_6, hd2_6, hqs_6, hqv_6, hI_6, (by have z := hsn_6; omega), (by have z := hvn_6; omega), (by rw [eL, el, en, ← Nat.add_assoc, ← Nat.add_assoc]; exact hB_), (fr_tr (fr_tr (fr_tr (fr_tr fr_rf (fr_mo hr1 (by simp))) (fr_mo hr2 (by simp))) (fr_mo hr5 (by simp))) (fr_mo hr6 (by simp)))⟩)
            ·
              refine gz_aload_n dX3_copyDeed_89 rfl rfl ?_
              refine gz_aload_n dX3_copyDeed_90 rfl rfl ?_
              refine gz_iload_n dX3_copyDeed_91 rfl rfl ?_
              refine gz_iconst (v := 4) dX3_copyDeed_92 (by decide) ?_
              refine scX3_52 (k_X2_field (w := x) (k := 4) hp_6 h1_6 hs) hp_6 ⟨(by simp only [gRm]; omega), (by simp only [gRm]; omega)⟩ ⟨(Nat.le_of_ble_eq_true rfl), (Nat.le_of_ble_eq_true rfl)⟩ rfl rfl (Nat.le_of_ble_eq_true rfl) dX3_copyDeed_93 ?_
              intro v9 f9 z9; rw [z9.1, z9.2, hfld 4 4 rfl (by decide)]
              refine gz_aload_n dX3_copyDeed_96 rfl rfl ?_
              refine gz_iload dX3_copyDeed_97 rfl ?_
              have ha2 : arH (H X) = 2 := by have z : (H X).1 = 3 ∨ (H X).1 = 4 ∨ (H X).1 = 5 := by { have z1 := Classical.not_not.mp (fun q => c_86 (hpa_b.mpr q)); rw [g0] at z1; exact z1 }; have vy := va.1; omega
              obtain ⟨e4, l4, m4⟩ := gs ha2
              have fitB : W + 1 + (trG H fi se k1 (fi X)).length + (trG H fi se k1 (se X)).length ≤ 40 ∧ V + nvH (H X) + nvT (trG H fi se k1 (fi X)) + nvT (trG H fi se k1 (se X)) ≤ 40 ∧ dkT (trG H fi se k1 (se X)) [d + 1] := by
                obtain ⟨z1, z2, z3⟩ := hA
                rw [tr_2 ha2] at z1 z2 z3
                rw [List.length_cons, List.length_append] at z1
                have z2b : V + (nvH (H X) + nvT (trG H fi se k1 (fi X) ++ trG H fi se k1 (se X))) ≤ 40 := z2
                rw [nvT_app] at z2b
                have z3b := z3.2
                unfold psD at z3b
                rw [if_pos ha2] at z3b
                exact ⟨by omega, by omega, ((dkT_app (a := [d + 1]) (b := [d + 1]) okA).mp z3b).2⟩
              refine scX3_27 (ih (g (13 * X + 4)) qs s_6 v_6 g_6 h_6 (se X) (W + 1 + (trG H fi se k1 (fi X)).length) (V + nvH (H X) + nvT (trG H fi se k1 (fi X))) (d + 1) k1 true (LY (trG H fi se k1 (fi X)) (W + 1) (V + nvH (H X)) [((W : Int), false, d + 1)] (ptH (H X) W V ar.toInt sec d co)) _ hp_6 h1_6 h2_6 hq0_6 hd1_6 hd2_6 hqs_6 hqv_6 hI_6 (by omega) ⟨e4, m4⟩ (by omega) hsn_6 hvn_6 fitB hB_ (by rw [hW]; exact dq_2 hp0 okA)) ⟨(by simp only [gRm]; omega), (by simp only [gRm]; omega)⟩ ⟨(Nat.le_of_ble_eq_true rfl), (Nat.le_of_ble_eq_true rfl)⟩ rfl rfl (Nat.le_of_ble_eq_true rfl) dX3_copyDeed_99 ?_
              rintro f7 ⟨s_7, v_7, g_7, h_7, hq0_7, hd1_7, hd2_7, hqs_7, hqv_7, hI_7, hsn_7, hvn_7, hLn_7, hr7⟩
              have hp_7 : f7 p = some (.inr (2, [.ref c1, .ref c2, .int s, .int v])) := hr7 _ _ hp_6 (by simp only [List.mem_cons, List.not_mem_nil, or_false, not_or]; exact ⟨hne.1, cne hp_6 hd1_6 (by simp), cne hp_6 hd2_6 (by simp)⟩)
              have h1_7 : f7 c1 = some (.inl (cy 0, n1, .inl (g))) := hr7 _ _ h1_6 (by simp only [List.mem_cons, List.not_mem_nil, or_false, not_or]; exact ⟨cne h1_6 hq0_6 (by simp), hne.2.1, hne.2.2.1⟩)
              have h2_7 : f7 c2 = some (.inl (cy 0, n2, .inl (h))) := hr7 _ _ h2_6 (by simp only [List.mem_cons, List.not_mem_nil, or_false, not_or]; exact ⟨cne h2_6 hq0_6 (by simp), hne.2.2.2.1, hne.2.2.2.2.1⟩)
              have hB_2 := hLn_7
              rw [hW] at hB_2
              have ea : trG H fi se (k1 + 1) X = H X :: (trG H fi se k1 (fi X) ++ trG H fi se k1 (se X)) := tr_2 ha2
              have el : (trG H fi se (k1 + 1) X).length = 1 + (trG H fi se k1 (fi X)).length + (trG H fi se k1 (se X)).length := by rw [ea, List.length_cons, List.length_append]; omega
              have en : nvT (trG H fi se (k1 + 1) X) = nvH (H X) + nvT (trG H fi se k1 (fi X)) + nvT (trG H fi se k1 (se X)) := by rw [ea]; show nvH (H X) + nvT (_ ++ _) = _; rw [nvT_app]; omega
              have eL : LY (trG H fi se (k1 + 1) X) W V [(ar.toInt, sec, d)] co = LY (trG H fi se k1 (se X)) (W + 1 + (trG H fi se k1 (fi X)).length) (V + nvH (H X) + nvT (trG H fi se k1 (fi X))) [((W : Int), true, d + 1)] (LY (trG H fi se k1 (fi X)) (W + 1) (V + nvH (H X)) [((W : Int), false, d + 1)] (ptH (H X) W V ar.toInt sec d co)) := by
                rw [ea]
                show LY (_ ++ _) (W + 1) (V + nvH (H X)) (psS (H X) W d []) (ptH (H X) W V ar.toInt sec d co) = _
                have hp2 : psS (H X) W d [] = [((W : Int), false, d + 1)] ++ [((W : Int), true, d + 1)] := by unfold psS; rw [if_pos ha2]; rfl
                rw [hp2, LY_app (show okT _ [((W : Int), false, d + 1)].length from okA)]
              exact gz_vret rfl dX3_copyDeed_102 (Nat.le_of_ble_eq_true rfl) (Nat.le_of_ble_eq_true rfl) (⟨rfl, _, _, _, _, hq0_7, hd1_7, hd2_7, hqs_7, hqv_7, hI_7, (by have z := hsn_7; omega), (by have z := hvn_7; omega), (by rw [eL, el, en, ← Nat.add_assoc, ← Nat.add_assoc, ← Nat.add_assoc, ← Nat.add_assoc]; exact hB_2), (fr_tr (fr_tr (fr_tr (fr_tr (fr_tr fr_rf (fr_mo hr1 (by simp))) (fr_mo hr2 (by simp))) (fr_mo hr5 (by simp))) (fr_mo hr6 (by simp))) (fr_mo hr7 (by simp)))⟩)
      · exfalso; have z := congrArg Int32.toInt c_27; have e : (-1 : Int32).toInt = -1 := rfl; omega
    · exfalso; have z := congrArg Int32.toInt c_11; rw [g0] at z; have := va.1; have e : (-1 : Int32).toInt = -1 := rfl; omega
