/-! the class's reader: DEEDS -/
theorem hde_b {x : Int32} : hdeF x = 0 ↔ (x.toInt = 0 ∨ x.toInt = 1) := by
  unfold hdeF
  simp only [fl_eq, Int32.reduceToInt]
  repeat' split
  all_goals simp_all
theorem hpa_b {x : Int32} : hpaF x = 0 ↔ ¬ (x.toInt = 3 ∨ x.toInt = 4 ∨ x.toInt = 5) := by
  unfold hpaF
  simp only [fl_eq, Int32.reduceToInt]
  repeat' split
  all_goals simp_all
theorem hnu_b {x : Int32} : hnuF x = 0 ↔ ¬ (x.toInt = 5 ∨ x.toInt = 10) := by
  unfold hnuF
  simp only [fl_eq, Int32.reduceToInt]
  repeat' split
  all_goals simp_all
theorem hsu_b {x : Int32} : hsuF x = 0 ↔ ¬ (x.toInt = 6 ∨ x.toInt = 7 ∨ x.toInt = 8 ∨ x.toInt = 9) := by
  unfold hsuF htsF
  simp only [fl_eq, Int32.reduceToInt]
  repeat' split
  all_goals simp_all
/-- what stands behind a WORD's head -/
def dsR (T : Nat → Int) (k K O q W V : Nat) : Sum Nat (Nat × Nat × Nat) :=
  if K ≤ 1 then .inr (q, W, V)
  else if K = 3 ∨ K = 4 ∨ K = 5 then
    match tkR T q 40 with
    | .inl c => .inl c
    | .inr q1 => match deR T k (O + 1) q1 W V with
      | .inl c => .inl c
      | .inr (q2, W2, V3) => match tkR T q2 44 with
        | .inl c => .inl c
        | .inr q3 => match deR T k (O + 1) q3 W2 V3 with
          | .inl c => .inl c
          | .inr (q4, W3, V4) => match tkR T q4 41 with
            | .inl c => .inl c
            | .inr q5 => .inr (q5, W3, V4)
  else deR T k (O + 1) q W V
theorem deR_st {T : Nat → Int} {k O p W V : Nat} : deR T (k + 1) O p W V = (if kdR T (skR T p) = 11 then .inl (1 + 8 * skR T p) else if 11 < O then .inl (1 + 8 * skR T p + 2) else if W = 40 then .inl (1 + 8 * skR T p + 3) else
    match hdR T (kdR T (skR T p)) (skR T p + ltR T (skR T p)) V with
    | .inl c => .inl c
    | .inr (q, V2) => dsR T k (kdR T (skR T p)) O q (W + 1) V2) := by
  unfold deR bgR
  by_cases c1 : kdR T (skR T p) = 11
  · simp only [if_pos c1]
  · by_cases c2 : 11 < O
    · simp only [if_neg c1, if_pos c2]
    · by_cases c3 : W = 40
      · simp only [if_neg c1, if_neg c2, if_pos c3]
      · by_cases c4 : kdR T (skR T p) ≤ 1
        · have e : hdR T (kdR T (skR T p)) (skR T p + ltR T (skR T p)) V = .inr (skR T p + ltR T (skR T p), V) := by unfold hdR; rw [if_neg (by omega), if_neg (by omega), if_neg (by omega)]
          rw [e]
          unfold dsR
          simp only [if_neg c1, if_neg c2, if_neg c3, if_pos c4]
        · cases hh : hdR T (kdR T (skR T p)) (skR T p + ltR T (skR T p)) V with
          | inl c => simp only [if_neg c1, if_neg c2, if_neg c3, if_neg c4]
          | inr r =>
            obtain ⟨q, V2⟩ := r
            unfold dsR
            by_cases c5 : kdR T (skR T p) = 3 ∨ kdR T (skR T p) = 4 ∨ kdR T (skR T p) = 5
            · cases ht : tkR T q 40 with
              | inl c => simp only [if_neg c1, if_neg c2, if_neg c3, if_neg c4, if_pos c5, ht]
              | inr q2 => simp only [if_neg c1, if_neg c2, if_neg c3, if_neg c4, if_pos c5, ht]; rfl
            · simp only [if_neg c1, if_neg c2, if_neg c3, if_neg c4, if_neg c5]
theorem deR_le {T : Nat → Int} {L : Nat} (hT : tLn T L) : ∀ (k O p W V q W2 V2 : Nat), p ≤ L → V ≤ 40 → deR T k O p W V = .inr (q, W2, V2) → q ≤ L ∧ V2 ≤ 40 := by
  intro k
  induction k with
  | zero => intro O p W V q W2 V2 _ _ h; cases h
  | succ k ih =>
    intro O p W V q W2 V2 hp hV h
    rw [deR_st] at h
    have hs := skR_le hT hp
    by_cases c1 : kdR T (skR T p) = 11
    · rw [if_pos c1] at h; cases h
    · rw [if_neg c1] at h
      by_cases c2 : 11 < O
      · rw [if_pos c2] at h; cases h
      · rw [if_neg c2] at h
        by_cases c3 : W = 40
        · rw [if_pos c3] at h; cases h
        · rw [if_neg c3] at h
          cases hh : hdR T (kdR T (skR T p)) (skR T p + ltR T (skR T p)) V with
          | inl c => rw [hh] at h; cases h
          | inr r =>
            obtain ⟨q1, V1⟩ := r
            have b1 := hdR_le hT (show skR T p + ltR T (skR T p) ≤ L from ltB_le hT 401 _ hs.2.1) hV hh
            rw [hh] at h
            dsimp only at h
            unfold dsR at h
            by_cases c4 : kdR T (skR T p) ≤ 1
            · rw [if_pos c4] at h
              cases h
              omega
            · rw [if_neg c4] at h
              by_cases c5 : kdR T (skR T p) = 3 ∨ kdR T (skR T p) = 4 ∨ kdR T (skR T p) = 5
              · rw [if_pos c5] at h
                cases t1 : tkR T q1 40 with
                | inl c => rw [t1] at h; cases h
                | inr p2 =>
                  have b2 := tkR_le hT b1.1 (by decide) t1
                  rw [t1] at h
                  dsimp only at h
                  cases d1 : deR T k (O + 1) p2 (W + 1) V1 with
                  | inl c => rw [d1] at h; cases h
                  | inr r2 =>
                    obtain ⟨p3, W3, V3⟩ := r2
                    have b3 := ih _ _ _ _ _ _ _ b2.2 b1.2.2 d1
                    rw [d1] at h
                    dsimp only at h
                    cases t2 : tkR T p3 44 with
                    | inl c => rw [t2] at h; cases h
                    | inr p4 =>
                      have b4 := tkR_le hT b3.1 (by decide) t2
                      rw [t2] at h
                      dsimp only at h
                      cases d2 : deR T k (O + 1) p4 W3 V3 with
                      | inl c => rw [d2] at h; cases h
                      | inr r3 =>
                        obtain ⟨p5, W4, V4⟩ := r3
                        have b5 := ih _ _ _ _ _ _ _ b4.2 b3.2 d2
                        rw [d2] at h
                        dsimp only at h
                        cases t3 : tkR T p5 41 with
                        | inl c => rw [t3] at h; cases h
                        | inr p6 =>
                          have b6 := tkR_le hT b5.1 (by decide) t3
                          rw [t3] at h
                          cases h
                          omega
              · rw [if_neg c5] at h
                exact ih _ _ _ _ _ _ _ b1.1 b1.2.2 h
/-- what the reading of a DEED comes to -/
def exD (t : Sum Nat (Nat × Nat × Nat)) (r q fa s v : Int32) : Prop := match t with
  | .inl c => r = 0 ∧ fa.toInt = c
  | .inr (p, W, V) => r = 1 ∧ q.toInt = p ∧ fa = 0 ∧ s.toInt = W ∧ v.toInt = V
/-- how deep the WORD around stands -/
def dpC (g : Nat → Int32) (ar s wi : Int32) : Prop := (ar.toInt = -1 ∧ wi.toInt = 0) ∨ (0 ≤ ar.toInt ∧ ar.toInt < s.toInt ∧ 1 ≤ wi.toInt ∧ (g (13 * ar.toInt.toNat + 1)).toInt = wi.toInt - 1)
theorem st_d1 {n1 : Nat} {g : Nat → Int32} {s w k x : Int32} {i : Nat} (hs : 0 ≤ s.toInt ∧ 13 * s.toInt ≤ n1 ∧ n1 ≤ 520) (hk : k.toInt ≠ 1) : stF n1 g s w k x (13 * i + 1) = g (13 * i + 1) := by
  rcases st_cases (g := g) (w := w) (k := k) (x := x) hs with h | ⟨h1, h2, h3, h4, h⟩
  · rw [h]
  · rw [h, updE, if_neg (by omega)]
theorem st_dw {n1 : Nat} {g : Nat → Int32} {s w k x : Int32} {i : Nat} (hs : 0 ≤ s.toInt ∧ 13 * s.toInt ≤ n1 ∧ n1 ≤ 520) (hw : w.toInt ≠ i) : stF n1 g s w k x (13 * i + 1) = g (13 * i + 1) := by
  rcases st_cases (g := g) (w := w) (k := k) (x := x) hs with h | ⟨h1, h2, h3, h4, h⟩
  · rw [h]
  · rw [h, updE, if_neg (by omega)]
theorem st_ds {n1 : Nat} {g : Nat → Int32} {s w x : Int32} {i : Nat} (hs : 0 ≤ s.toInt ∧ 13 * s.toInt ≤ n1 ∧ n1 ≤ 520) (hw : w.toInt = i ∧ w.toInt < s.toInt) : stF n1 g s w 1 x (13 * i + 1) = x := by
  have e1 : (1 : Int32).toInt = 1 := rfl
  rw [st_in hs ⟨by omega, hw.2⟩ (by decide), updE, if_pos (by omega)]
theorem rdn_d1 {len : Int32} {n : Nat} {tg : Nat → Int32} {pl fa : Int32} {n1 : Nat} {g : Nat → Int32} {s wd : Int32} {i : Nat} (hs : 0 ≤ s.toInt ∧ 13 * s.toInt ≤ n1 ∧ n1 ≤ 520) : (rdnF len n tg pl fa n1 g s wd).2.2.2 (13 * i + 1) = g (13 * i + 1) := by
  unfold rdnF; simp only [lett]; (repeat' split) <;> exact st_d1 hs (by decide)
theorem rrl_d1 {len : Int32} {n : Nat} {tg : Nat → Int32} {pl fa : Int32} {n1 : Nat} {g : Nat → Int32} {s wd : Int32} {i : Nat} (hs : 0 ≤ s.toInt ∧ 13 * s.toInt ≤ n1 ∧ n1 ≤ 520) : (rrlF len n tg pl fa n1 g s wd).2.2.2 (13 * i + 1) = g (13 * i + 1) := by
  unfold rrlF; simp only [lett]; (repeat' split) <;> first | rfl | exact st_d1 hs (by decide)
theorem rss_d1 {len : Int32} {n : Nat} {tg : Nat → Int32} {pl fa : Int32} {n1 n2 : Nat} {g h : Nat → Int32} {s v kd wd : Int32} {i : Nat} (hs : 0 ≤ s.toInt ∧ 13 * s.toInt ≤ n1 ∧ n1 ≤ 520) : (rssF len n tg pl fa n1 n2 g h s v kd wd).2.2.2.2.2 (13 * i + 1) = g (13 * i + 1) := by
  have s5 : ∀ (g' : Nat → Int32) (w x : Int32), stF n1 g' s w 5 x (13 * i + 1) = g' (13 * i + 1) := fun g' w x => st_d1 hs (by decide)
  have s6 : ∀ (g' : Nat → Int32) (w x : Int32), stF n1 g' s w 6 x (13 * i + 1) = g' (13 * i + 1) := fun g' w x => st_d1 hs (by decide)
  have s7 : ∀ (g' : Nat → Int32) (w x : Int32), stF n1 g' s w 7 x (13 * i + 1) = g' (13 * i + 1) := fun g' w x => st_d1 hs (by decide)
  have sr : ∀ (g' : Nat → Int32) (pl' fa' : Int32), (rrlF len n tg pl' fa' n1 g' s wd).2.2.2 (13 * i + 1) = g' (13 * i + 1) := fun g' pl' fa' => rrl_d1 hs
  unfold rssF; simp only [lett]
  (repeat' split) <;> simp only [s5, s6, s7, sr]
theorem grw_dep {g : Nat → Int32} {s kd ar wi : Int32} (hs : 0 ≤ s.toInt ∧ 13 * s.toInt ≤ 520 ∧ 520 ≤ 520) (hd : dpC g ar s wi) (hw : wi.toInt ≤ 11) : (s.toInt = 40 → (grwF 520 g s kd ar).1 = -1 ∧ (grwF 520 g s kd ar).2.1 = g ∧ (grwF 520 g s kd ar).2.2 = s) ∧ (s.toInt < 40 → (grwF 520 g s kd ar).1 = s ∧ (grwF 520 g s kd ar).2.2.toInt = s.toInt + 1 ∧ (∀ ii : Nat, (ii : Int) < s.toInt → (grwF 520 g s kd ar).2.1 (13 * ii + 1) = g (13 * ii + 1)) ∧ ((grwF 520 g s kd ar).2.1 (13 * s.toInt.toNat + 1)).toInt = wi.toInt) := by
  have e13 : (13 : Int32).toInt = 13 := rfl
  have e11 : (11 : Int32).toInt = 11 := rfl
  have e1 : (1 : Int32).toInt = 1 := rfl
  have e0 : (0 : Int32).toInt = 0 := rfl
  have em : (-1 : Int32).toInt = -1 := rfl
  have eN : (Int32.ofNat 520).toInt = 520 := rfl
  have hx := T_add (rfl : s.toInt = s.toInt) e1 (by omega)
  have hy := T_mul hx e13 (by omega)
  unfold grwF
  rw [if_neg (show ¬ s < 0 by rw [fl_lt]; omega)]
  refine ⟨fun h40 => ?_, fun h40 => ?_⟩
  · rw [if_pos (show Int32.ofNat 520 < (s + 1) * 13 by rw [fl_lt, eN, hy]; omega)]
    exact ⟨rfl, rfl, rfl⟩
  · rw [if_neg (show ¬ Int32.ofNat 520 < (s + 1) * 13 by rw [fl_lt, eN, hy]; omega)]
    have hs1 : 0 ≤ (s + 1).toInt ∧ 13 * (s + 1).toInt ≤ 520 ∧ 520 ≤ 520 := ⟨by omega, by omega, by omega⟩
    have zz : ∀ (i : Nat), (i : Int) < s.toInt → ∀ (g' : Nat → Int32) (k x : Int32), stF 520 g' (s + 1) s k x (13 * i + 1) = g' (13 * i + 1) := fun i hi g' k x => st_dw hs1 (by omega)
    have yy : ∀ (g' : Nat → Int32) (k x : Int32), k.toInt ≠ 1 → stF 520 g' (s + 1) s k x (13 * s.toInt.toNat + 1) = g' (13 * s.toInt.toNat + 1) := fun g' k x hk => st_d1 hs1 hk
    have y1 : ∀ (g' : Nat → Int32) (x : Int32), stF 520 g' (s + 1) s 1 x (13 * s.toInt.toNat + 1) = x := fun g' x => st_ds hs1 ⟨by omega, by omega⟩
    rcases hd with ⟨d1, d2⟩ | ⟨d1, d2, d3, d4⟩
    · rw [if_pos (show fldF 520 g s ar 1 < 11 by rw [fld_out (Or.inl (by omega))]; decide), if_pos (show ar < 0 by rw [fl_lt]; omega)]
      refine ⟨rfl, hx, fun ii hi => ?_, ?_⟩
      · simp only [zz ii hi]
      · show (stF 520 _ (s + 1) s 12 0 (13 * s.toInt.toNat + 1)).toInt = _
        rw [yy _ _ _ (by decide), yy _ _ _ (by decide), y1, d2]; rfl
    · have hf : fldF 520 g s ar 1 = g (13 * ar.toInt.toNat + 1) := by
        rw [fld_in hs ⟨d1, d2⟩ (by decide)]
        rw [show (13 * ar.toInt + (1 : Int32).toInt).toNat = 13 * ar.toInt.toNat + 1 by omega]
      rw [if_pos (show fldF 520 g s ar 1 < 11 by rw [hf, fl_lt]; omega), if_neg (show ¬ ar < 0 by rw [fl_lt]; omega), if_neg (show ¬ s ≤ ar by rw [fl_le]; omega)]
      refine ⟨rfl, hx, fun ii hi => ?_, ?_⟩
      · show inhF 520 _ (s + 1) s ar (13 * ii + 1) = _
        unfold inhF
        simp only [zz ii hi]
        rw [st_d1 hs1 (by split <;> decide)]
        simp only [zz ii hi]
      · show (inhF 520 _ (s + 1) s ar (13 * s.toInt.toNat + 1)).toInt = _
        unfold inhF
        rw [yy _ _ _ (by decide), yy _ _ _ (by decide), yy _ _ _ (by decide), yy _ _ _ (by decide), y1]
        rw [fld_in hs1 ⟨d1, by omega⟩ (by decide), show (13 * ar.toInt + (1 : Int32).toInt).toNat = 13 * ar.toInt.toNat + 1 by omega, st_d1 hs1 (by split <;> decide)]
        simp only [zz ar.toInt.toNat (by omega)]
        have q := T_add d4 e1 (by omega)
        omega
def rdPE (l : Launch) (D : va_G) (cy : Nat → ClassId) (b rd tx tb p c1 c2 : Nat) (len : Int32) (tg : Nat → Int32) (k : Nat) : Prop := ∀ (ar wi pl s v : Int32) (g h : Nat → Int32) (O P W V : Nat) (f : gMem), (f rd = some (.inr (6, [.ref tx, .ref p, .int pl, .int 0]))) → (f tx = some (.inr (9, [.ref tb, .int len]))) → (f tb = some (.inl (cy 1, 400, .inl (tg)))) → (f p = some (.inr (2, [.ref c1, .ref c2, .int s, .int v]))) → (f c1 = some (.inl (cy 0, 520, .inl (g)))) → (f c2 = some (.inl (cy 0, 80, .inl (h)))) → (0 ≤ s.toInt ∧ 13 * s.toInt ≤ 520 ∧ 520 ≤ 520) → (0 ≤ v.toInt ∧ 2 * v.toInt ≤ 80 ∧ 80 ≤ 80) → (fI g s.toInt) → (0 ≤ wi.toInt ∧ wi.toInt ≤ 12 ∧ 12 - wi.toInt < (k : Int)) → (wi.toInt = O) → (pl.toInt = P ∧ (P : Int) ≤ len.toInt) → (s.toInt = W) → (v.toInt = V) → (dpC g ar s wi) → gC l D cy b yX6_readDeed cX6_readDeed 7 (some .boolean) (7 + 2 * k) 0 0 [.ref rd, .int ar, .int wi] f (pI fun r f2 => ∃ (pl2 fa2 s2 v2 : Int32) (g2 h2 : Nat → Int32), f2 rd = some (.inr (6, [.ref tx, .ref p, .int pl2, .int fa2])) ∧ f2 p = some (.inr (2, [.ref c1, .ref c2, .int s2, .int v2])) ∧ f2 c1 = some (.inl (cy 0, 520, .inl (g2))) ∧ f2 c2 = some (.inl (cy 0, 80, .inl (h2))) ∧ (r = 0 ∨ r = 1) ∧ (0 ≤ s2.toInt ∧ 13 * s2.toInt ≤ 520 ∧ 520 ≤ 520) ∧ (0 ≤ v2.toInt ∧ 2 * v2.toInt ≤ 80 ∧ 80 ≤ 80) ∧ fI g2 s2.toInt ∧ exD (deR (tX tg len) k O P W V) r pl2 fa2 s2 v2 ∧ (∀ ii : Nat, (ii : Int) < s.toInt → g2 (13 * ii + 1) = g (13 * ii + 1)) ∧ s.toInt ≤ s2.toInt ∧ fr [rd, p, c1, c2] f f2)

set_option maxHeartbeats 4000000 in
set_option maxRecDepth 100000 in
theorem k_X6_readDeedsE {l : Launch} {D : va_G} {cy : Nat → ClassId} {b : Nat} {f : gMem} {rd tx tb p c1 c2 : Nat} {len pl s v : Int32} {tg g h : Nat → Int32} {kd wd wi : Int32} {K O P W V : Nat} {k : Nat} (hrd : f rd = some (.inr (6, [.ref tx, .ref p, .int pl, .int 0]))) (htx : f tx = some (.inr (9, [.ref tb, .int len]))) (htb : f tb = some (.inl (cy 1, 400, .inl (tg)))) (hp : f p = some (.inr (2, [.ref c1, .ref c2, .int s, .int v]))) (h1 : f c1 = some (.inl (cy 0, 520, .inl (g)))) (h2 : f c2 = some (.inl (cy 0, 80, .inl (h)))) (hl : 0 ≤ len.toInt ∧ len.toInt ≤ 400) (hne : tb ≠ c1 ∧ tb ≠ c2 ∧ c1 ≠ c2) (hs : 0 ≤ s.toInt ∧ 13 * s.toInt ≤ 520 ∧ 520 ≤ 520) (hv : 0 ≤ v.toInt ∧ 2 * v.toInt ≤ 80 ∧ 80 ≤ 80) (hI : fI g s.toInt) (hw : 0 ≤ wi.toInt ∧ wi.toInt ≤ 11 ∧ 11 - wi.toInt < (k : Int)) (IH : rdPE l D cy b rd tx tb p c1 c2 len tg k) (hO : wi.toInt = O) (hP : pl.toInt = P) (hL : (P : Int) ≤ len.toInt) (hW : s.toInt = W) (hV : v.toInt = V) (hK : kd.toInt = K) (hDw : 0 ≤ wd.toInt ∧ wd.toInt < s.toInt ∧ (g (13 * wd.toInt.toNat + 1)).toInt = wi.toInt) : gC l D cy b yX6_readDeeds cX6_readDeeds 4 (some .boolean) (7 + 2 * k + 1) 0 0 [.ref rd, .int kd, .int wd, .int wi] f (pI fun r f2 => ∃ (pl2 fa2 s2 v2 : Int32) (g2 h2 : Nat → Int32), f2 rd = some (.inr (6, [.ref tx, .ref p, .int pl2, .int fa2])) ∧ f2 p = some (.inr (2, [.ref c1, .ref c2, .int s2, .int v2])) ∧ f2 c1 = some (.inl (cy 0, 520, .inl (g2))) ∧ f2 c2 = some (.inl (cy 0, 80, .inl (h2))) ∧ (r = 0 ∨ r = 1) ∧ (0 ≤ s2.toInt ∧ 13 * s2.toInt ≤ 520 ∧ 520 ≤ 520) ∧ (0 ≤ v2.toInt ∧ 2 * v2.toInt ≤ 80 ∧ 80 ≤ 80) ∧ fI g2 s2.toInt ∧ exD (dsR (tX tg len) k K O P W V) r pl2 fa2 s2 v2 ∧ (∀ ii : Nat, (ii : Int) < s.toInt → g2 (13 * ii + 1) = g (13 * ii + 1)) ∧ s.toInt ≤ s2.toInt ∧ fr [rd, p, c1, c2] f f2) := by
  refine gC_of (by decide) (Nat.le_of_ble_eq_true rfl) ?_
  show gG l _ _ _ D cy b cX6_readDeeds 4 _ RX6 "readDeeds" 0 0 f 0 [(0, .ref rd), (1, .int kd), (2, .int wd), (3, .int wi)] []
  have hx9 : (wi + 1).toInt = wi.toInt + 1 := T_add (rfl : wi.toInt = wi.toInt) (show (1 : Int32).toInt = 1 from rfl) (by omega)
  have dg0 : ∀ ii : Nat, (ii : Int) < s.toInt → g (13 * ii + 1) = g (13 * ii + 1) := fun _ _ => rfl
  have le0 : s.toInt ≤ s.toInt := Int.le_refl _
  refine gz_iload_n dX6_readDeeds_0 rfl rfl ?_
  refine scX6_89 (k_X11_hasDeed (x := kd)) ⟨(by simp only [gRm]; omega), (by simp only [gRm]; omega)⟩ ⟨(Nat.le_of_ble_eq_true rfl), (Nat.le_of_ble_eq_true rfl)⟩ rfl rfl (Nat.le_of_ble_eq_true rfl) dX6_readDeeds_1 ?_
  intro v9 f9 z9; rw [z9.1, z9.2]
  refine gz_if_ne (tgt := 9) dX6_readDeeds_4 (by decide) (fun c_4 => ?_) (fun c_4 => ?_)
  ·
    have hk1 : ¬ K ≤ 1 := fun z => c_4 (hde_b.mpr (by omega))
    refine gz_iload_n dX6_readDeeds_9 rfl rfl ?_
    refine scX6_92 (k_X11_hasPair (x := kd)) ⟨(by simp only [gRm]; omega), (by simp only [gRm]; omega)⟩ ⟨(Nat.le_of_ble_eq_true rfl), (Nat.le_of_ble_eq_true rfl)⟩ rfl rfl (Nat.le_of_ble_eq_true rfl) dX6_readDeeds_10 ?_
    intro v9 f9 z9; rw [z9.1, z9.2]
    refine gz_if_ne (tgt := 25) dX6_readDeeds_13 (by decide) (fun c_13 => ?_) (fun c_13 => ?_)
    ·
      have hkp : K = 3 ∨ K = 4 ∨ K = 5 := by have z := Classical.not_not.mp (fun q => c_13 (hpa_b.mpr q)); omega
      refine gz_aload_n dX6_readDeeds_25 rfl rfl ?_
      refine gz_bipush (v := 40) dX6_readDeeds_26 (by decide) ?_
      obtain ⟨x1, hx1⟩ : ∃ x0, (rsgF len 400 tg pl 0 40) = x0 := ⟨_, rfl⟩
      refine scX6_95 (k_X6_readSign (sg := 40) hrd htx htb (by decide)) hrd ⟨(by simp only [gRm]; omega), (by simp only [gRm]; omega)⟩ ⟨(Nat.le_of_ble_eq_true rfl), (Nat.le_of_ble_eq_true rfl)⟩ rfl rfl (Nat.le_of_ble_eq_true rfl) dX6_readDeeds_28 ?_
      rintro r1 f1 ⟨z1, hrd_1, hr1⟩; rw [hx1] at z1 hrd_1; rw [z1]
      have htx_1 : f1 tx = some (.inr (9, [.ref tb, .int len])) := hr1 _ _ htx (by simp only [List.mem_cons, List.not_mem_nil, or_false, not_or]; exact cne htx hrd (by simp))
      have htb_1 : f1 tb = some (.inl (cy 1, 400, .inl (tg))) := hr1 _ _ htb (by simp only [List.mem_cons, List.not_mem_nil, or_false, not_or]; exact cne htb hrd (by simp))
      have hp_1 : f1 p = some (.inr (2, [.ref c1, .ref c2, .int s, .int v])) := hr1 _ _ hp (by simp only [List.mem_cons, List.not_mem_nil, or_false, not_or]; exact cne hp hrd (by simp))
      have h1_1 : f1 c1 = some (.inl (cy 0, 520, .inl (g))) := hr1 _ _ h1 (by simp only [List.mem_cons, List.not_mem_nil, or_false, not_or]; exact cne h1 hrd (by simp))
      have h2_1 : f1 c2 = some (.inl (cy 0, 80, .inl (h))) := hr1 _ _ h2 (by simp only [List.mem_cons, List.not_mem_nil, or_false, not_or]; exact cne h2 hrd (by simp))
      have e_x1 := rsg_tk (tg := tg) (sg := 40) hl hP hL
      rw [hx1, show ((40 : Int32)).toInt = 40 from rfl] at e_x1
      cases ht_x1 : tkR (tX tg len) P 40 with
      | inl cht_x1 =>
        rw [ht_x1] at e_x1
        obtain ⟨a1_x1, a2_x1⟩ := e_x1
        refine gz_ev (w := .int 0) (congrArg Value.int a1_x1) ?_
        refine gz_if_eq (tgt := 78) dX6_readDeeds_31 (by decide) (fun c_31 => ?_) (fun c_31 => ?_)
        ·
          refine gz_iconst (v := 0) dX6_readDeeds_78 (by decide) ?_
          exact gz_zret rfl (by first | decide | exact nrb (Or.inl rfl) | (refine nrb ?_; (repeat' split) <;> first | assumption | exact Or.inl rfl | exact Or.inr rfl)) dX6_readDeeds_79 (Nat.le_of_ble_eq_true rfl) (Nat.le_of_ble_eq_true rfl) (⟨_, rfl, _, _, _, _, _, _, hrd_1, hp_1, h1_1, h2_1, (by first | assumption | exact Or.inl rfl | exact Or.inr rfl), hs, hv, hI, (by unfold dsR; rw [if_neg hk1, if_pos hkp]; simp only [ht_x1]; exact ⟨rfl, a2_x1⟩), dg0, le0, (fr_tr fr_rf (fr_mo hr1 (by simp)))⟩)
        · exact absurd c_31 (by decide)
      | inr rht_x1 =>
        have b_x1 := tkR_le (tX_ln (g := tg) hl) (by have z := hL; omega) (by decide) ht_x1
        rw [ht_x1] at e_x1
        obtain ⟨a1_x1, a2_x1, a3_x1⟩ := e_x1
        refine gz_ev (w := .int 1) (congrArg Value.int a1_x1) ?_
        rw [a3_x1] at hrd_1
        have bl_x1 : (rht_x1 : Int) ≤ len.toInt := by omega
        refine gz_if_eq (tgt := 78) dX6_readDeeds_31 (by decide) (fun c_31 => ?_) (fun c_31 => ?_)
        · exact absurd c_31 (by decide)
        ·
          refine gz_aload_n dX6_readDeeds_34 rfl rfl ?_
          refine gz_iload_n dX6_readDeeds_35 rfl rfl ?_
          refine gz_iload_n dX6_readDeeds_36 rfl rfl ?_
          refine gz_iconst (v := 1) dX6_readDeeds_37 (by decide) ?_
          refine gz_iadd dX6_readDeeds_38 ?_
          refine scX6_31 (IH wd (wi + 1) x1.2.1 s v g h (O + 1) rht_x1 W V _ hrd_1 htx_1 htb_1 hp_1 h1_1 h2_1 hs hv hI (by rw [hx9]; omega) (by rw [hx9]; omega) ⟨a2_x1, bl_x1⟩ hW hV (Or.inr ⟨by omega, by have z := le0; omega, by rw [hx9]; omega, by rw [dg0 wd.toInt.toNat (by omega), hx9]; omega⟩)) hrd_1 ⟨(by simp only [gRm]; omega), (by simp only [gRm]; omega)⟩ ⟨(Nat.le_of_ble_eq_true rfl), (Nat.le_of_ble_eq_true rfl)⟩ rfl rfl (Nat.le_of_ble_eq_true rfl) dX6_readDeeds_39 ?_
          rintro r2 f2 ⟨pl_2, fa_2, s_2, v_2, g_2, h_2, hrd_2, hp_2, h1_2, h2_2, hb_2, hs_2, hv_2, hI_2, hE_2, hd_2, hle_2, hr2⟩
          have htx_2 : f2 tx = some (.inr (9, [.ref tb, .int len])) := hr2 _ _ htx_1 (by simp only [List.mem_cons, List.not_mem_nil, or_false, not_or]; exact ⟨cne htx_1 hrd_1 (by simp), cne htx_1 hp_1 (by simp), cne htx_1 h1_1 (by simp), cne htx_1 h2_1 (by simp)⟩)
          have htb_2 : f2 tb = some (.inl (cy 1, 400, .inl (tg))) := hr2 _ _ htb_1 (by simp only [List.mem_cons, List.not_mem_nil, or_false, not_or]; exact ⟨cne htb_1 hrd_1 (by simp), cne htb_1 hp_1 (by simp), hne.1, hne.2.1⟩)
          have dd_2 : ∀ ii : Nat, (ii : Int) < s.toInt → g_2 (13 * ii + 1) = g (13 * ii + 1) := fun ii hi => (hd_2 ii (by have z := le0; omega)).trans (dg0 ii hi)
          have ll_2 : s.toInt ≤ s_2.toInt := by have z := le0; omega
          cases hq_2 : deR (tX tg len) k (O + 1) rht_x1 W V with
          | inl chq_2 =>
            rw [hq_2] at hE_2
            obtain ⟨a1_2, a2_2⟩ := hE_2
            refine gz_ev (w := .int 0) (congrArg Value.int a1_2) ?_
            refine gz_if_eq (tgt := 78) dX6_readDeeds_42 (by decide) (fun c_42 => ?_) (fun c_42 => ?_)
            ·
              refine gz_iconst (v := 0) dX6_readDeeds_78 (by decide) ?_
              exact gz_zret rfl (by first | decide | exact nrb (Or.inl rfl) | (refine nrb ?_; (repeat' split) <;> first | assumption | exact Or.inl rfl | exact Or.inr rfl)) dX6_readDeeds_79 (Nat.le_of_ble_eq_true rfl) (Nat.le_of_ble_eq_true rfl) (⟨_, rfl, _, _, _, _, _, _, hrd_2, hp_2, h1_2, h2_2, (by first | assumption | exact Or.inl rfl | exact Or.inr rfl), hs_2, hv_2, hI_2, (by unfold dsR; rw [if_neg hk1, if_pos hkp]; simp only [ht_x1, hq_2]; exact ⟨rfl, a2_2⟩), dd_2, ll_2, (fr_tr (fr_tr fr_rf (fr_mo hr1 (by simp))) (fr_mo hr2 (by simp)))⟩)
            · exact absurd c_42 (by decide)
          | inr rhq_2 =>
            obtain ⟨Q_2, W_2, V_2⟩ := rhq_2
            have b_2 := deR_le (tX_ln (g := tg) hl) _ _ _ _ _ _ _ _ (by have z := bl_x1; omega) (by have z := hV; have y := hv; omega) hq_2
            rw [hq_2] at hE_2
            obtain ⟨a1_2, a2_2, a3_2, a4_2, a5_2⟩ := hE_2
            refine gz_ev (w := .int 1) (congrArg Value.int a1_2) ?_
            rw [a3_2] at hrd_2
            have bl_2 : (Q_2 : Int) ≤ len.toInt := by omega
            refine gz_if_eq (tgt := 78) dX6_readDeeds_42 (by decide) (fun c_42 => ?_) (fun c_42 => ?_)
            · exact absurd c_42 (by decide)
            ·
              refine gz_aload_n dX6_readDeeds_45 rfl rfl ?_
              refine gz_bipush (v := 44) dX6_readDeeds_46 (by decide) ?_
              obtain ⟨x2, hx2⟩ : ∃ x0, (rsgF len 400 tg pl_2 0 44) = x0 := ⟨_, rfl⟩
              refine scX6_95 (k_X6_readSign (sg := 44) hrd_2 htx_2 htb_2 (by decide)) hrd_2 ⟨(by simp only [gRm]; omega), (by simp only [gRm]; omega)⟩ ⟨(Nat.le_of_ble_eq_true rfl), (Nat.le_of_ble_eq_true rfl)⟩ rfl rfl (Nat.le_of_ble_eq_true rfl) dX6_readDeeds_48 ?_
              rintro r3 f3 ⟨z3, hrd_3, hr3⟩; rw [hx2] at z3 hrd_3; rw [z3]
              have htx_3 : f3 tx = some (.inr (9, [.ref tb, .int len])) := hr3 _ _ htx_2 (by simp only [List.mem_cons, List.not_mem_nil, or_false, not_or]; exact cne htx_2 hrd_2 (by simp))
              have htb_3 : f3 tb = some (.inl (cy 1, 400, .inl (tg))) := hr3 _ _ htb_2 (by simp only [List.mem_cons, List.not_mem_nil, or_false, not_or]; exact cne htb_2 hrd_2 (by simp))
              have hp_3 : f3 p = some (.inr (2, [.ref c1, .ref c2, .int s_2, .int v_2])) := hr3 _ _ hp_2 (by simp only [List.mem_cons, List.not_mem_nil, or_false, not_or]; exact cne hp_2 hrd_2 (by simp))
              have h1_3 : f3 c1 = some (.inl (cy 0, 520, .inl (g_2))) := hr3 _ _ h1_2 (by simp only [List.mem_cons, List.not_mem_nil, or_false, not_or]; exact cne h1_2 hrd_2 (by simp))
              have h2_3 : f3 c2 = some (.inl (cy 0, 80, .inl (h_2))) := hr3 _ _ h2_2 (by simp only [List.mem_cons, List.not_mem_nil, or_false, not_or]; exact cne h2_2 hrd_2 (by simp))
              have e_x2 := rsg_tk (tg := tg) (sg := 44) hl a2_2 bl_2
              rw [hx2, show ((44 : Int32)).toInt = 44 from rfl] at e_x2
              cases ht_x2 : tkR (tX tg len) Q_2 44 with
              | inl cht_x2 =>
                rw [ht_x2] at e_x2
                obtain ⟨a1_x2, a2_x2⟩ := e_x2
                refine gz_ev (w := .int 0) (congrArg Value.int a1_x2) ?_
                refine gz_if_eq (tgt := 78) dX6_readDeeds_51 (by decide) (fun c_51 => ?_) (fun c_51 => ?_)
                ·
                  refine gz_iconst (v := 0) dX6_readDeeds_78 (by decide) ?_
                  exact gz_zret rfl (by first | decide | exact nrb (Or.inl rfl) | (refine nrb ?_; (repeat' split) <;> first | assumption | exact Or.inl rfl | exact Or.inr rfl)) dX6_readDeeds_79 (Nat.le_of_ble_eq_true rfl) (Nat.le_of_ble_eq_true rfl) (⟨_, rfl, _, _, _, _, _, _, hrd_3, hp_3, h1_3, h2_3, (by first | assumption | exact Or.inl rfl | exact Or.inr rfl), hs_2, hv_2, hI_2, (by unfold dsR; rw [if_neg hk1, if_pos hkp]; simp only [ht_x1, hq_2, ht_x2]; exact ⟨rfl, a2_x2⟩), dd_2, ll_2, (fr_tr (fr_tr (fr_tr fr_rf (fr_mo hr1 (by simp))) (fr_mo hr2 (by simp))) (fr_mo hr3 (by simp)))⟩)
                · exact absurd c_51 (by decide)
              | inr rht_x2 =>
                have b_x2 := tkR_le (tX_ln (g := tg) hl) (by have z := bl_2; omega) (by decide) ht_x2
                rw [ht_x2] at e_x2
                obtain ⟨a1_x2, a2_x2, a3_x2⟩ := e_x2
                refine gz_ev (w := .int 1) (congrArg Value.int a1_x2) ?_
                rw [a3_x2] at hrd_3
                have bl_x2 : (rht_x2 : Int) ≤ len.toInt := by omega
                refine gz_if_eq (tgt := 78) dX6_readDeeds_51 (by decide) (fun c_51 => ?_) (fun c_51 => ?_)
                · exact absurd c_51 (by decide)
                ·
                  refine gz_aload_n dX6_readDeeds_54 rfl rfl ?_
                  refine gz_iload_n dX6_readDeeds_55 rfl rfl ?_
                  refine gz_iload_n dX6_readDeeds_56 rfl rfl ?_
                  refine gz_iconst (v := 1) dX6_readDeeds_57 (by decide) ?_
                  refine gz_iadd dX6_readDeeds_58 ?_
                  refine scX6_31 (IH wd (wi + 1) x2.2.1 s_2 v_2 g_2 h_2 (O + 1) rht_x2 W_2 V_2 _ hrd_3 htx_3 htb_3 hp_3 h1_3 h2_3 hs_2 hv_2 hI_2 (by rw [hx9]; omega) (by rw [hx9]; omega) ⟨a2_x2, bl_x2⟩ a4_2 a5_2 (Or.inr ⟨by omega, by have z := ll_2; omega, by rw [hx9]; omega, by rw [dd_2 wd.toInt.toNat (by omega), hx9]; omega⟩)) hrd_3 ⟨(by simp only [gRm]; omega), (by simp only [gRm]; omega)⟩ ⟨(Nat.le_of_ble_eq_true rfl), (Nat.le_of_ble_eq_true rfl)⟩ rfl rfl (Nat.le_of_ble_eq_true rfl) dX6_readDeeds_59 ?_
                  rintro r4 f4 ⟨pl_4, fa_4, s_4, v_4, g_4, h_4, hrd_4, hp_4, h1_4, h2_4, hb_4, hs_4, hv_4, hI_4, hE_4, hd_4, hle_4, hr4⟩
                  have htx_4 : f4 tx = some (.inr (9, [.ref tb, .int len])) := hr4 _ _ htx_3 (by simp only [List.mem_cons, List.not_mem_nil, or_false, not_or]; exact ⟨cne htx_3 hrd_3 (by simp), cne htx_3 hp_3 (by simp), cne htx_3 h1_3 (by simp), cne htx_3 h2_3 (by simp)⟩)
                  have htb_4 : f4 tb = some (.inl (cy 1, 400, .inl (tg))) := hr4 _ _ htb_3 (by simp only [List.mem_cons, List.not_mem_nil, or_false, not_or]; exact ⟨cne htb_3 hrd_3 (by simp), cne htb_3 hp_3 (by simp), hne.1, hne.2.1⟩)
                  have dd_4 : ∀ ii : Nat, (ii : Int) < s.toInt → g_4 (13 * ii + 1) = g (13 * ii + 1) := fun ii hi => (hd_4 ii (by have z := ll_2; omega)).trans (dd_2 ii hi)
                  have ll_4 : s.toInt ≤ s_4.toInt := by have z := ll_2; omega
                  cases hq_4 : deR (tX tg len) k (O + 1) rht_x2 W_2 V_2 with
                  | inl chq_4 =>
                    rw [hq_4] at hE_4
                    obtain ⟨a1_4, a2_4⟩ := hE_4
                    refine gz_ev (w := .int 0) (congrArg Value.int a1_4) ?_
                    refine gz_if_eq (tgt := 78) dX6_readDeeds_62 (by decide) (fun c_62 => ?_) (fun c_62 => ?_)
                    ·
                      refine gz_iconst (v := 0) dX6_readDeeds_78 (by decide) ?_
                      exact gz_zret rfl (by first | decide | exact nrb (Or.inl rfl) | (refine nrb ?_; (repeat' split) <;> first | assumption | exact Or.inl rfl | exact Or.inr rfl)) dX6_readDeeds_79 (Nat.le_of_ble_eq_true rfl) (Nat.le_of_ble_eq_true rfl) (⟨_, rfl, _, _, _, _, _, _, hrd_4, hp_4, h1_4, h2_4, (by first | assumption | exact Or.inl rfl | exact Or.inr rfl), hs_4, hv_4, hI_4, (by unfold dsR; rw [if_neg hk1, if_pos hkp]; simp only [ht_x1, hq_2, ht_x2, hq_4]; exact ⟨rfl, a2_4⟩), dd_4, ll_4, (fr_tr (fr_tr (fr_tr (fr_tr fr_rf (fr_mo hr1 (by simp))) (fr_mo hr2 (by simp))) (fr_mo hr3 (by simp))) (fr_mo hr4 (by simp)))⟩)
                    · exact absurd c_62 (by decide)
                  | inr rhq_4 =>
                    obtain ⟨Q_4, W_4, V_4⟩ := rhq_4
                    have b_4 := deR_le (tX_ln (g := tg) hl) _ _ _ _ _ _ _ _ (by have z := bl_x2; omega) (by have z := a5_2; have y := hv_2; omega) hq_4
                    rw [hq_4] at hE_4
                    obtain ⟨a1_4, a2_4, a3_4, a4_4, a5_4⟩ := hE_4
                    refine gz_ev (w := .int 1) (congrArg Value.int a1_4) ?_
                    rw [a3_4] at hrd_4
                    have bl_4 : (Q_4 : Int) ≤ len.toInt := by omega
                    refine gz_if_eq (tgt := 78) dX6_readDeeds_62 (by decide) (fun c_62 => ?_) (fun c_62 => ?_)
                    · exact absurd c_62 (by decide)
                    ·
                      refine gz_aload_n dX6_readDeeds_65 rfl rfl ?_
                      refine gz_bipush (v := 41) dX6_readDeeds_66 (by decide) ?_
                      obtain ⟨x3, hx3⟩ : ∃ x0, (rsgF len 400 tg pl_4 0 41) = x0 := ⟨_, rfl⟩
                      refine scX6_95 (k_X6_readSign (sg := 41) hrd_4 htx_4 htb_4 (by decide)) hrd_4 ⟨(by simp only [gRm]; omega), (by simp only [gRm]; omega)⟩ ⟨(Nat.le_of_ble_eq_true rfl), (Nat.le_of_ble_eq_true rfl)⟩ rfl rfl (Nat.le_of_ble_eq_true rfl) dX6_readDeeds_68 ?_
                      rintro r5 f5 ⟨z5, hrd_5, hr5⟩; rw [hx3] at z5 hrd_5; rw [z5]
                      have htx_5 : f5 tx = some (.inr (9, [.ref tb, .int len])) := hr5 _ _ htx_4 (by simp only [List.mem_cons, List.not_mem_nil, or_false, not_or]; exact cne htx_4 hrd_4 (by simp))
                      have htb_5 : f5 tb = some (.inl (cy 1, 400, .inl (tg))) := hr5 _ _ htb_4 (by simp only [List.mem_cons, List.not_mem_nil, or_false, not_or]; exact cne htb_4 hrd_4 (by simp))
                      have hp_5 : f5 p = some (.inr (2, [.ref c1, .ref c2, .int s_4, .int v_4])) := hr5 _ _ hp_4 (by simp only [List.mem_cons, List.not_mem_nil, or_false, not_or]; exact cne hp_4 hrd_4 (by simp))
                      have h1_5 : f5 c1 = some (.inl (cy 0, 520, .inl (g_4))) := hr5 _ _ h1_4 (by simp only [List.mem_cons, List.not_mem_nil, or_false, not_or]; exact cne h1_4 hrd_4 (by simp))
                      have h2_5 : f5 c2 = some (.inl (cy 0, 80, .inl (h_4))) := hr5 _ _ h2_4 (by simp only [List.mem_cons, List.not_mem_nil, or_false, not_or]; exact cne h2_4 hrd_4 (by simp))
                      have e_x3 := rsg_tk (tg := tg) (sg := 41) hl a2_4 bl_4
                      rw [hx3, show ((41 : Int32)).toInt = 41 from rfl] at e_x3
                      cases ht_x3 : tkR (tX tg len) Q_4 41 with
                      | inl cht_x3 =>
                        rw [ht_x3] at e_x3
                        obtain ⟨a1_x3, a2_x3⟩ := e_x3
                        refine gz_ev (w := .int 0) (congrArg Value.int a1_x3) ?_
                        refine gz_if_eq (tgt := 78) dX6_readDeeds_71 (by decide) (fun c_71 => ?_) (fun c_71 => ?_)
                        ·
                          refine gz_iconst (v := 0) dX6_readDeeds_78 (by decide) ?_
                          exact gz_zret rfl (by first | decide | exact nrb (Or.inl rfl) | (refine nrb ?_; (repeat' split) <;> first | assumption | exact Or.inl rfl | exact Or.inr rfl)) dX6_readDeeds_79 (Nat.le_of_ble_eq_true rfl) (Nat.le_of_ble_eq_true rfl) (⟨_, rfl, _, _, _, _, _, _, hrd_5, hp_5, h1_5, h2_5, (by first | assumption | exact Or.inl rfl | exact Or.inr rfl), hs_4, hv_4, hI_4, (by unfold dsR; rw [if_neg hk1, if_pos hkp]; simp only [ht_x1, hq_2, ht_x2, hq_4, ht_x3]; exact ⟨rfl, a2_x3⟩), dd_4, ll_4, (fr_tr (fr_tr (fr_tr (fr_tr (fr_tr fr_rf (fr_mo hr1 (by simp))) (fr_mo hr2 (by simp))) (fr_mo hr3 (by simp))) (fr_mo hr4 (by simp))) (fr_mo hr5 (by simp)))⟩)
                        · exact absurd c_71 (by decide)
                      | inr rht_x3 =>
                        have b_x3 := tkR_le (tX_ln (g := tg) hl) (by have z := bl_4; omega) (by decide) ht_x3
                        rw [ht_x3] at e_x3
                        obtain ⟨a1_x3, a2_x3, a3_x3⟩ := e_x3
                        refine gz_ev (w := .int 1) (congrArg Value.int a1_x3) ?_
                        rw [a3_x3] at hrd_5
                        have bl_x3 : (rht_x3 : Int) ≤ len.toInt := by omega
                        refine gz_if_eq (tgt := 78) dX6_readDeeds_71 (by decide) (fun c_71 => ?_) (fun c_71 => ?_)
                        · exact absurd c_71 (by decide)
                        ·
                          refine gz_iconst (v := 1) dX6_readDeeds_74 (by decide) ?_
                          refine gz_goto (tgt := 79) dX6_readDeeds_75 (by decide) ?_
                          exact gz_zret rfl (by first | decide | exact nrb (Or.inl rfl) | (refine nrb ?_; (repeat' split) <;> first | assumption | exact Or.inl rfl | exact Or.inr rfl)) dX6_readDeeds_79 (Nat.le_of_ble_eq_true rfl) (Nat.le_of_ble_eq_true rfl) (⟨_, rfl, _, _, _, _, _, _, hrd_5, hp_5, h1_5, h2_5, (by first | assumption | exact Or.inl rfl | exact Or.inr rfl), hs_4, hv_4, hI_4, (by unfold dsR; rw [if_neg hk1, if_pos hkp]; simp only [ht_x1, hq_2, ht_x2, hq_4, ht_x3]; exact ⟨rfl, a2_x3, rfl, a4_4, a5_4⟩), dd_4, ll_4, (fr_tr (fr_tr (fr_tr (fr_tr (fr_tr fr_rf (fr_mo hr1 (by simp))) (fr_mo hr2 (by simp))) (fr_mo hr3 (by simp))) (fr_mo hr4 (by simp))) (fr_mo hr5 (by simp)))⟩)
    ·
      have hkp : ¬ (K = 3 ∨ K = 4 ∨ K = 5) := by have z := hpa_b.mp c_13; omega
      refine gz_aload_n dX6_readDeeds_16 rfl rfl ?_
      refine gz_iload_n dX6_readDeeds_17 rfl rfl ?_
      refine gz_iload_n dX6_readDeeds_18 rfl rfl ?_
      refine gz_iconst (v := 1) dX6_readDeeds_19 (by decide) ?_
      refine gz_iadd dX6_readDeeds_20 ?_
      refine scX6_31 (IH wd (wi + 1) pl s v g h (O + 1) P W V _ hrd htx htb hp h1 h2 hs hv hI (by rw [hx9]; omega) (by rw [hx9]; omega) ⟨hP, hL⟩ hW hV (Or.inr ⟨by omega, by have z := le0; omega, by rw [hx9]; omega, by rw [dg0 wd.toInt.toNat (by omega), hx9]; omega⟩)) hrd ⟨(by simp only [gRm]; omega), (by simp only [gRm]; omega)⟩ ⟨(Nat.le_of_ble_eq_true rfl), (Nat.le_of_ble_eq_true rfl)⟩ rfl rfl (Nat.le_of_ble_eq_true rfl) dX6_readDeeds_21 ?_
      rintro r6 f6 ⟨pl_6, fa_6, s_6, v_6, g_6, h_6, hrd_6, hp_6, h1_6, h2_6, hb_6, hs_6, hv_6, hI_6, hE_6, hd_6, hle_6, hr6⟩
      have htx_6 : f6 tx = some (.inr (9, [.ref tb, .int len])) := hr6 _ _ htx (by simp only [List.mem_cons, List.not_mem_nil, or_false, not_or]; exact ⟨cne htx hrd (by simp), cne htx hp (by simp), cne htx h1 (by simp), cne htx h2 (by simp)⟩)
      have htb_6 : f6 tb = some (.inl (cy 1, 400, .inl (tg))) := hr6 _ _ htb (by simp only [List.mem_cons, List.not_mem_nil, or_false, not_or]; exact ⟨cne htb hrd (by simp), cne htb hp (by simp), hne.1, hne.2.1⟩)
      have dd_6 : ∀ ii : Nat, (ii : Int) < s.toInt → g_6 (13 * ii + 1) = g (13 * ii + 1) := fun ii hi => (hd_6 ii (by have z := le0; omega)).trans (dg0 ii hi)
      have ll_6 : s.toInt ≤ s_6.toInt := by have z := le0; omega
      exact gz_zret rfl (by first | decide | exact nrb (Or.inl rfl) | (refine nrb ?_; (repeat' split) <;> first | assumption | exact Or.inl rfl | exact Or.inr rfl)) dX6_readDeeds_24 (Nat.le_of_ble_eq_true rfl) (Nat.le_of_ble_eq_true rfl) (⟨_, rfl, _, _, _, _, _, _, hrd_6, hp_6, h1_6, h2_6, (by first | assumption | exact Or.inl rfl | exact Or.inr rfl), hs_6, hv_6, hI_6, (by unfold dsR; rw [if_neg hk1, if_neg hkp]; exact hE_6), dd_6, ll_6, (fr_tr fr_rf (fr_mo hr6 (by simp)))⟩)
  ·
    refine gz_iconst (v := 1) dX6_readDeeds_7 (by decide) ?_
    have hk1 : K ≤ 1 := by have z := hde_b.mp c_4; omega
    exact gz_zret rfl (by first | decide | exact nrb (Or.inl rfl) | (refine nrb ?_; (repeat' split) <;> first | assumption | exact Or.inl rfl | exact Or.inr rfl)) dX6_readDeeds_8 (Nat.le_of_ble_eq_true rfl) (Nat.le_of_ble_eq_true rfl) (⟨_, rfl, _, _, _, _, _, _, hrd, hp, h1, h2, (by first | assumption | exact Or.inl rfl | exact Or.inr rfl), hs, hv, hI, (by unfold dsR; rw [if_pos hk1]; exact ⟨rfl, hP, rfl, hW, hV⟩), dg0, le0, fr_rf⟩)

set_option maxHeartbeats 4000000 in
set_option maxRecDepth 100000 in
theorem k_X6_readDeedE {l : Launch} {D : va_G} {cy : Nat → ClassId} {b : Nat} {rd tx tb p c1 c2 : Nat} {len : Int32} {tg : Nat → Int32}    (hl : 0 ≤ len.toInt ∧ len.toInt ≤ 400) (hne : tb ≠ c1 ∧ tb ≠ c2 ∧ c1 ≠ c2) : ∀ (k : Nat) (ar wi pl s v : Int32) (g h : Nat → Int32) (O P W V : Nat) (f : gMem), (f rd = some (.inr (6, [.ref tx, .ref p, .int pl, .int 0]))) → (f tx = some (.inr (9, [.ref tb, .int len]))) → (f tb = some (.inl (cy 1, 400, .inl (tg)))) → (f p = some (.inr (2, [.ref c1, .ref c2, .int s, .int v]))) → (f c1 = some (.inl (cy 0, 520, .inl (g)))) → (f c2 = some (.inl (cy 0, 80, .inl (h)))) → (0 ≤ s.toInt ∧ 13 * s.toInt ≤ 520 ∧ 520 ≤ 520) → (0 ≤ v.toInt ∧ 2 * v.toInt ≤ 80 ∧ 80 ≤ 80) → (fI g s.toInt) → (0 ≤ wi.toInt ∧ wi.toInt ≤ 12 ∧ 12 - wi.toInt < (k : Int)) → (wi.toInt = O) → (pl.toInt = P ∧ (P : Int) ≤ len.toInt) → (s.toInt = W) → (v.toInt = V) → (dpC g ar s wi) → gC l D cy b yX6_readDeed cX6_readDeed 7 (some .boolean) (7 + 2 * k) 0 0 [.ref rd, .int ar, .int wi] f (pI fun r f2 => ∃ (pl2 fa2 s2 v2 : Int32) (g2 h2 : Nat → Int32), f2 rd = some (.inr (6, [.ref tx, .ref p, .int pl2, .int fa2])) ∧ f2 p = some (.inr (2, [.ref c1, .ref c2, .int s2, .int v2])) ∧ f2 c1 = some (.inl (cy 0, 520, .inl (g2))) ∧ f2 c2 = some (.inl (cy 0, 80, .inl (h2))) ∧ (r = 0 ∨ r = 1) ∧ (0 ≤ s2.toInt ∧ 13 * s2.toInt ≤ 520 ∧ 520 ≤ 520) ∧ (0 ≤ v2.toInt ∧ 2 * v2.toInt ≤ 80 ∧ 80 ≤ 80) ∧ fI g2 s2.toInt ∧ exD (deR (tX tg len) k O P W V) r pl2 fa2 s2 v2 ∧ (∀ ii : Nat, (ii : Int) < s.toInt → g2 (13 * ii + 1) = g (13 * ii + 1)) ∧ s.toInt ≤ s2.toInt ∧ fr [rd, p, c1, c2] f f2) := by
  intro k
  induction k with
  | zero =>
    intro ar wi pl s v g h O P W V f hrd htx htb hp h1 h2 hs hv hI hk hO hPL hW hV hD
    exfalso; omega
  | succ k ih =>
    intro ar wi pl s v g h O P W V f hrd htx htb hp h1 h2 hs hv hI hk hO hPL hW hV hD
    refine gC_of (by decide) (Nat.le_of_ble_eq_true rfl) ?_
    show gG l _ _ _ D cy b cX6_readDeed 7 _ RX6 "readDeed" 0 0 f 0 [(0, .ref rd), (1, .int ar), (2, .int wi)] []
    have dg0 : ∀ ii : Nat, (ii : Int) < s.toInt → g (13 * ii + 1) = g (13 * ii + 1) := fun _ _ => rfl
    have le0 : s.toInt ≤ s.toInt := Int.le_refl _
    have hln := tX_ln (g := tg) hl
    refine gz_aload_n dX6_readDeed_0 rfl rfl ?_
    obtain ⟨x1, hx1⟩ : ∃ x0, (upnF len 400 tg pl) = x0 := ⟨_, rfl⟩
    refine scX6_35 (k_X6_upNext hrd htx htb (by decide)) hrd ⟨(by simp only [gRm]; omega), (by simp only [gRm]; omega)⟩ ⟨(Nat.le_of_ble_eq_true rfl), (Nat.le_of_ble_eq_true rfl)⟩ rfl rfl (Nat.le_of_ble_eq_true rfl) dX6_readDeed_1 ?_
    rintro r1 f1 ⟨z1, hrd_1, hr1⟩; rw [hx1] at z1 hrd_1; rw [z1]
    have htx_1 : f1 tx = some (.inr (9, [.ref tb, .int len])) := hr1 _ _ htx (by simp only [List.mem_cons, List.not_mem_nil, or_false, not_or]; exact cne htx hrd (by simp))
    have htb_1 : f1 tb = some (.inl (cy 1, 400, .inl (tg))) := hr1 _ _ htb (by simp only [List.mem_cons, List.not_mem_nil, or_false, not_or]; exact cne htb hrd (by simp))
    have hp_1 : f1 p = some (.inr (2, [.ref c1, .ref c2, .int s, .int v])) := hr1 _ _ hp (by simp only [List.mem_cons, List.not_mem_nil, or_false, not_or]; exact cne hp hrd (by simp))
    have h1_1 : f1 c1 = some (.inl (cy 0, 520, .inl (g))) := hr1 _ _ h1 (by simp only [List.mem_cons, List.not_mem_nil, or_false, not_or]; exact cne h1 hrd (by simp))
    have h2_1 : f1 c2 = some (.inl (cy 0, 80, .inl (h))) := hr1 _ _ h2 (by simp only [List.mem_cons, List.not_mem_nil, or_false, not_or]; exact cne h2 hrd (by simp))
    obtain ⟨u1, u2⟩ := upnF_sk (tg := tg) hl hPL.1 (by omega)
    rw [hx1] at u1 u2
    have hsk := skR_le hln (p := P) (by omega)
    refine gz_pop dX6_readDeed_4 rfl ?_
    refine gz_aload_n dX6_readDeed_5 rfl rfl ?_
    refine sgX6_19 hrd_1 rfl dX6_readDeed_6 ?_
    refine gz_istore_n (lv' := [(3, .int x1.2), (0, .ref rd), (1, .int ar), (2, .int wi)]) dX6_readDeed_9 rfl (by decide) rfl ?_
    refine gz_aload_n dX6_readDeed_10 rfl rfl ?_
    refine gz_iload_n dX6_readDeed_11 rfl rfl ?_
    refine scX6_65 (k_X6_lettersFrom (x := x1.2) hrd_1 htx_1 htb_1 (by decide)) hrd_1 ⟨(by simp only [gRm]; omega), (by simp only [gRm]; omega)⟩ ⟨(Nat.le_of_ble_eq_true rfl), (Nat.le_of_ble_eq_true rfl)⟩ rfl rfl (Nat.le_of_ble_eq_true rfl) dX6_readDeed_12 ?_
    intro v9 f9 z9; rw [z9.1, z9.2]
    have hlt := ltrF_lt (tg := tg) hl u2 (by omega)
    refine gz_istore (lv' := [(4, .int (ltrF len 400 tg x1.2)), (3, .int x1.2), (0, .ref rd), (1, .int ar), (2, .int wi)]) dX6_readDeed_15 (by decide) rfl ?_
    refine gz_aload_n dX6_readDeed_17 rfl rfl ?_
    refine gz_iload_n dX6_readDeed_18 rfl rfl ?_
    refine gz_iload dX6_readDeed_19 rfl ?_
    refine scX6_68 (k_X6_kindFrom (sa := x1.2) (ln := (ltrF len 400 tg x1.2)) hrd_1 htx_1 htb_1 (by decide)) hrd_1 ⟨(by simp only [gRm]; omega), (by simp only [gRm]; omega)⟩ ⟨(Nat.le_of_ble_eq_true rfl), (Nat.le_of_ble_eq_true rfl)⟩ rfl rfl (Nat.le_of_ble_eq_true rfl) dX6_readDeed_21 ?_
    intro v9 f9 z9; rw [z9.1, z9.2]
    have hkf := kdf_kd (tg := tg) hl u2 (by omega) hlt
    obtain ⟨kd, ekd⟩ : ∃ z, kdfF len 400 tg x1.2 (ltrF len 400 tg x1.2) = z := ⟨_, rfl⟩
    rw [ekd] at hkf
    refine gz_ev (w := .int kd) (congrArg Value.int ekd) ?_
    refine gz_istore (lv' := [(5, .int kd), (4, .int (ltrF len 400 tg x1.2)), (3, .int x1.2), (0, .ref rd), (1, .int ar), (2, .int wi)]) dX6_readDeed_24 (by decide) rfl ?_
    refine gz_iload dX6_readDeed_26 rfl ?_
    refine gz_iconst (v := (-1)) dX6_readDeed_28 (by decide) ?_
    refine gz_icmp_ne (tgt := 39) dX6_readDeed_29 (by decide) (fun c_29 => ?_) (fun c_29 => ?_)
    ·
      have h11 : ¬ kdR (tX tg len) (skR (tX tg len) P) = 11 := fun z => c_29 (Int32.toInt_inj.mp (by rw [hkf, if_pos z]; rfl))
      rw [if_neg h11] at hkf
      have hk10 := kdR_le (T := tX tg len) (p := (skR (tX tg len) P))
      refine gz_iload_n dX6_readDeed_39 rfl rfl ?_
      refine gz_bipush (v := 11) dX6_readDeed_40 (by decide) ?_
      refine gz_icmp_le (tgt := 52) dX6_readDeed_42 (by decide) (fun c_42 => ?_) (fun c_42 => ?_)
      ·
        refine gz_aload_n dX6_readDeed_52 rfl rfl ?_
        refine sgX6_15 hrd_1 rfl dX6_readDeed_53 ?_
        refine gz_iload dX6_readDeed_56 rfl ?_
        refine gz_iload_n dX6_readDeed_58 rfl rfl ?_
        have hO11 : ¬ 11 < O := by have z := c_42; rw [fl_le] at z; have e : (11 : Int32).toInt = 11 := rfl; omega
        obtain ⟨x2, hx2⟩ : ∃ x0, (grwF 520 g s kd ar) = x0 := ⟨_, rfl⟩
        refine scX6_71 (k_X2_grow (kd := kd) (ar := ar) hp_1 h1_1 hs) hp_1 ⟨(by simp only [gRm]; omega), (by simp only [gRm]; omega)⟩ ⟨(Nat.le_of_ble_eq_true rfl), (Nat.le_of_ble_eq_true rfl)⟩ rfl rfl (Nat.le_of_ble_eq_true rfl) dX6_readDeed_59 ?_
        rintro r2 f2 ⟨z2, h1_2, hp_2, hr2⟩; rw [hx2] at z2 h1_2 hp_2; rw [z2]
        have htx_2 : f2 tx = some (.inr (9, [.ref tb, .int len])) := hr2 _ _ htx_1 (by simp only [List.mem_cons, List.not_mem_nil, or_false, not_or]; exact ⟨cne htx_1 hp_1 (by simp), cne htx_1 h1_1 (by simp)⟩)
        have htb_2 : f2 tb = some (.inl (cy 1, 400, .inl (tg))) := hr2 _ _ htb_1 (by simp only [List.mem_cons, List.not_mem_nil, or_false, not_or]; exact ⟨cne htb_1 hp_1 (by simp), hne.1⟩)
        have h2_2 : f2 c2 = some (.inl (cy 0, 80, .inl (h))) := hr2 _ _ h2_1 (by simp only [List.mem_cons, List.not_mem_nil, or_false, not_or]; exact ⟨cne h2_1 hp_1 (by simp), Ne.symm (hne.2.2)⟩)
        have hrd_2 : f2 rd = some (.inr (6, [.ref tx, .ref p, .int x1.2, .int 0])) := hr2 _ _ hrd_1 (by simp only [List.mem_cons, List.not_mem_nil, or_false, not_or]; exact ⟨cne hrd_1 hp_1 (by simp), cne hrd_1 h1_1 (by simp)⟩)
        have hGx2 := grwF_ok (kd := kd) (ar := ar) hs hI
        have hgx2 := grw_dep (kd := kd) hs hD (by omega)
        rw [hx2] at hGx2 hgx2
        by_cases h40 : W = 40
        ·
          obtain ⟨z1, z2, z3⟩ := hgx2.1 (by omega)
          refine gz_ev (w := .int (-1)) (congrArg Value.int z1) ?_
          have dd40 : ∀ ii : Nat, (ii : Int) < s.toInt → x2.2.1 (13 * ii + 1) = g (13 * ii + 1) := fun ii _ => by rw [z2]
          have ll40 : s.toInt ≤ x2.2.2.toInt := by rw [z3]; exact Int.le_refl _
          refine gz_istore (lv' := [(6, .int (-1)), (5, .int kd), (4, .int (ltrF len 400 tg x1.2)), (3, .int x1.2), (0, .ref rd), (1, .int ar), (2, .int wi)]) dX6_readDeed_62 (by decide) rfl ?_
          refine gz_iload dX6_readDeed_64 rfl ?_
          refine gz_iconst (v := (-1)) dX6_readDeed_66 (by decide) ?_
          refine gz_icmp_ne (tgt := 77) dX6_readDeed_67 (by decide) (fun c_67 => ?_) (fun c_67 => ?_)
          · exact absurd c_67 (by decide)
          ·
            refine gz_aload_n dX6_readDeed_70 rfl rfl ?_
            refine gz_iload_n dX6_readDeed_71 rfl rfl ?_
            refine gz_iconst (v := 3) dX6_readDeed_72 (by decide) ?_
            obtain ⟨x3, hx3⟩ : ∃ x0, (faiF 0 x1.2 3) = x0 := ⟨_, rfl⟩
            refine scX6_39 (k_X6_fail (at_ := x1.2) (kd := 3) hrd_2) hrd_2 ⟨(by simp only [gRm]; omega), (by simp only [gRm]; omega)⟩ ⟨(Nat.le_of_ble_eq_true rfl), (Nat.le_of_ble_eq_true rfl)⟩ rfl rfl (Nat.le_of_ble_eq_true rfl) dX6_readDeed_73 ?_
            rintro r3 f3 ⟨z3, hrd_3, hr3⟩; rw [hx3] at z3 hrd_3; rw [z3]
            have htx_3 : f3 tx = some (.inr (9, [.ref tb, .int len])) := hr3 _ _ htx_2 (by simp only [List.mem_cons, List.not_mem_nil, or_false, not_or]; exact cne htx_2 hrd_2 (by simp))
            have htb_3 : f3 tb = some (.inl (cy 1, 400, .inl (tg))) := hr3 _ _ htb_2 (by simp only [List.mem_cons, List.not_mem_nil, or_false, not_or]; exact cne htb_2 hrd_2 (by simp))
            have h2_3 : f3 c2 = some (.inl (cy 0, 80, .inl (h))) := hr3 _ _ h2_2 (by simp only [List.mem_cons, List.not_mem_nil, or_false, not_or]; exact cne h2_2 hrd_2 (by simp))
            have h1_3 : f3 c1 = some (.inl (cy 0, 520, .inl (x2.2.1))) := hr3 _ _ h1_2 (by simp only [List.mem_cons, List.not_mem_nil, or_false, not_or]; exact cne h1_2 hrd_2 (by simp))
            have hp_3 : f3 p = some (.inr (2, [.ref c1, .ref c2, .int x2.2.2, .int v])) := hr3 _ _ hp_2 (by simp only [List.mem_cons, List.not_mem_nil, or_false, not_or]; exact cne hp_2 hrd_2 (by simp))
            have z_x3 : x3.1 = 0 := by rw [← hx3]; rfl
            have y_x3 : x3.2.toInt = 1 + 8 * ((skR (tX tg len) P) : Int) + 3 := by rw [← hx3]; exact fai_0 (k := 3) (c := 3) u2 (by omega) rfl (by omega)
            refine gz_ev (w := .int 0) (congrArg Value.int z_x3) ?_
            exact gz_zret rfl (by first | decide | exact nrb (Or.inl rfl) | (refine nrb ?_; (repeat' split) <;> first | assumption | exact Or.inl rfl | exact Or.inr rfl)) dX6_readDeed_76 (Nat.le_of_ble_eq_true rfl) (Nat.le_of_ble_eq_true rfl) (⟨_, rfl, _, _, _, _, _, _, hrd_3, hp_3, h1_3, h2_3, (by first | assumption | exact Or.inl rfl | exact Or.inr rfl), hGx2.1, hv, hGx2.2.1, (by rw [deR_st, if_neg h11, if_neg hO11, if_pos h40]; exact ⟨rfl, by omega⟩), dd40, ll40, (fr_tr (fr_tr (fr_tr fr_rf (fr_mo hr1 (by simp))) (fr_mo hr2 (by simp))) (fr_mo hr3 (by simp)))⟩)
        ·
          obtain ⟨g1, g2, g3, g4⟩ := hgx2.2 (by omega)
          refine gz_ev (w := .int s) (congrArg Value.int g1) ?_
          have ll41 : s.toInt ≤ x2.2.2.toInt := by omega
          refine gz_istore (lv' := [(6, .int s), (5, .int kd), (4, .int (ltrF len 400 tg x1.2)), (3, .int x1.2), (0, .ref rd), (1, .int ar), (2, .int wi)]) dX6_readDeed_62 (by decide) rfl ?_
          refine gz_iload dX6_readDeed_64 rfl ?_
          refine gz_iconst (v := (-1)) dX6_readDeed_66 (by decide) ?_
          refine gz_icmp_ne (tgt := 77) dX6_readDeed_67 (by decide) (fun c_67 => ?_) (fun c_67 => ?_)
          ·
            have hlb : (skR (tX tg len) P) + ltR (tX tg len) (skR (tX tg len) P) ≤ len.toInt.toNat := ltB_le hln 401 _ hsk.2.1
            have hP1 : (x1.2 + (ltrF len 400 tg x1.2)).toInt = (((skR (tX tg len) P) + ltR (tX tg len) (skR (tX tg len) P) : Nat) : Int) := by have q := T_add u2 hlt (by omega); omega
            have hL1 : (((skR (tX tg len) P) + ltR (tX tg len) (skR (tX tg len) P) : Nat) : Int) ≤ len.toInt := by omega
            have hV40 : V ≤ 40 := by omega
            refine gz_aload_n dX6_readDeed_77 rfl rfl ?_
            refine gz_iload_n dX6_readDeed_78 rfl rfl ?_
            refine gz_iload dX6_readDeed_79 rfl ?_
            refine gz_iadd dX6_readDeed_81 ?_
            refine spX6_19 hrd_2  (Nat.le_of_ble_eq_true rfl) dX6_readDeed_82 ?_
            obtain ⟨f4, hf4⟩ : ∃ gg : gMem, gg = va_up f2 rd (some (.inr (6, [.ref tx, .ref p, .int (x1.2 + (ltrF len 400 tg x1.2)), .int 0]))) := ⟨_, rfl⟩
            refine gz_eq (f2 := f4) hf4.symm rfl rfl rfl ?_
            have htx_4 : f4 tx = some (.inr (9, [.ref tb, .int len])) := by rw [hf4, va_up_ne _ _ (cne htx_2 hrd_2 (by simp))]; exact htx_2
            have htb_4 : f4 tb = some (.inl (cy 1, 400, .inl (tg))) := by rw [hf4, va_up_ne _ _ (cne htb_2 hrd_2 (by simp))]; exact htb_2
            have h2_4 : f4 c2 = some (.inl (cy 0, 80, .inl (h))) := by rw [hf4, va_up_ne _ _ (cne h2_2 hrd_2 (by simp))]; exact h2_2
            have h1_4 : f4 c1 = some (.inl (cy 0, 520, .inl (x2.2.1))) := by rw [hf4, va_up_ne _ _ (cne h1_2 hrd_2 (by simp))]; exact h1_2
            have hp_4 : f4 p = some (.inr (2, [.ref c1, .ref c2, .int x2.2.2, .int v])) := by rw [hf4, va_up_ne _ _ (cne hp_2 hrd_2 (by simp))]; exact hp_2
            have hrd_4 : f4 rd = some (.inr (6, [.ref tx, .ref p, .int (x1.2 + (ltrF len 400 tg x1.2)), .int 0])) := by rw [hf4]; exact va_up_self _ _ _
            refine gz_iload dX6_readDeed_85 rfl ?_
            refine scX6_74 (k_X11_hasNumber (x := kd)) ⟨(by simp only [gRm]; omega), (by simp only [gRm]; omega)⟩ ⟨(Nat.le_of_ble_eq_true rfl), (Nat.le_of_ble_eq_true rfl)⟩ rfl rfl (Nat.le_of_ble_eq_true rfl) dX6_readDeed_87 ?_
            intro v9 f9 z9; rw [z9.1, z9.2]
            refine gz_if_eq (tgt := 104) dX6_readDeed_90 (by decide) (fun c_90 => ?_) (fun c_90 => ?_)
            ·
              refine gz_iload dX6_readDeed_104 rfl ?_
              refine scX6_80 (k_X11_hasSum (x := kd)) ⟨(by simp only [gRm]; omega), (by simp only [gRm]; omega)⟩ ⟨(Nat.le_of_ble_eq_true rfl), (Nat.le_of_ble_eq_true rfl)⟩ rfl rfl (Nat.le_of_ble_eq_true rfl) dX6_readDeed_106 ?_
              intro v9 f9 z9; rw [z9.1, z9.2]
              refine gz_if_eq (tgt := 125) dX6_readDeed_109 (by decide) (fun c_109 => ?_) (fun c_109 => ?_)
              ·
                have hh : hdR (tX tg len) (kdR (tX tg len) (skR (tX tg len) P)) ((skR (tX tg len) P) + ltR (tX tg len) (skR (tX tg len) P)) V = .inr (((skR (tX tg len) P) + ltR (tX tg len) (skR (tX tg len) P)), V) := by have z1 := hnu_b.mp c_90; have z2 := hsu_b.mp c_109; unfold hdR; rw [if_neg (by omega), if_neg (by omega), if_neg (by omega)]
                refine gz_aload_n dX6_readDeed_125 rfl rfl ?_
                refine gz_iload dX6_readDeed_126 rfl ?_
                refine gz_iload dX6_readDeed_128 rfl ?_
                refine gz_iload_n dX6_readDeed_130 rfl rfl ?_
                refine scX6_86 (k_X6_readDeedsE (kd := kd) (wd := s) (wi := wi) hrd_4 htx_4 htb_4 hp_4 h1_4 h2_4 hl hne hGx2.1 hv hGx2.2.1 (by omega) ih hO hP1 hL1 (show x2.2.2.toInt = ((W + 1 : Nat) : Int) by omega) hV hkf ⟨hs.1, by omega, g4⟩) hrd_4 ⟨(by simp only [gRm]; omega), (by simp only [gRm]; omega)⟩ ⟨(Nat.le_of_ble_eq_true rfl), (Nat.le_of_ble_eq_true rfl)⟩ rfl rfl (Nat.le_of_ble_eq_true rfl) dX6_readDeed_131 ?_
                rintro r5 f5 ⟨pl_5, fa_5, s_5, v_5, g_5, h_5, hrd_5, hp_5, h1_5, h2_5, hb_5, hs_5, hv_5, hI_5, hE_5, hd_5, hle_5, hr5⟩
                have htx_5 : f5 tx = some (.inr (9, [.ref tb, .int len])) := hr5 _ _ htx_4 (by simp only [List.mem_cons, List.not_mem_nil, or_false, not_or]; exact ⟨cne htx_4 hrd_4 (by simp), cne htx_4 hp_4 (by simp), cne htx_4 h1_4 (by simp), cne htx_4 h2_4 (by simp)⟩)
                have htb_5 : f5 tb = some (.inl (cy 1, 400, .inl (tg))) := hr5 _ _ htb_4 (by simp only [List.mem_cons, List.not_mem_nil, or_false, not_or]; exact ⟨cne htb_4 hrd_4 (by simp), cne htb_4 hp_4 (by simp), hne.1, hne.2.1⟩)
                have dd_5 : ∀ ii : Nat, (ii : Int) < s.toInt → g_5 (13 * ii + 1) = g (13 * ii + 1) := fun ii hi => (hd_5 ii (by have z := ll41; omega)).trans (g3 ii hi)
                have ll_5 : s.toInt ≤ s_5.toInt := by have z := ll41; omega
                exact gz_zret rfl (by first | decide | exact nrb (Or.inl rfl) | (refine nrb ?_; (repeat' split) <;> first | assumption | exact Or.inl rfl | exact Or.inr rfl)) dX6_readDeed_134 (Nat.le_of_ble_eq_true rfl) (Nat.le_of_ble_eq_true rfl) (⟨_, rfl, _, _, _, _, _, _, hrd_5, hp_5, h1_5, h2_5, (by first | assumption | exact Or.inl rfl | exact Or.inr rfl), hs_5, hv_5, hI_5, (by rw [deR_st, if_neg h11, if_neg hO11, if_neg h40, hh]; exact hE_5), dd_5, ll_5, (fr_tr (by rw [hf4]; exact fr_up (fr_tr (fr_tr fr_rf (fr_mo hr1 (by simp))) (fr_mo hr2 (by simp))) (by simp)) (fr_mo hr5 (by simp)))⟩)
              ·
                refine gz_aload_n dX6_readDeed_112 rfl rfl ?_
                refine gz_iload dX6_readDeed_113 rfl ?_
                refine gz_iload dX6_readDeed_115 rfl ?_
                have hk6 : (kdR (tX tg len) (skR (tX tg len) P)) = 6 ∨ (kdR (tX tg len) (skR (tX tg len) P)) = 7 ∨ (kdR (tX tg len) (skR (tX tg len) P)) = 8 ∨ (kdR (tX tg len) (skR (tX tg len) P)) = 9 := by have z := Classical.not_not.mp (fun q => c_109 (hsu_b.mpr q)); omega
                have e_ := rss_hd (tg := tg) (g := x2.2.1) (h := h) (s := x2.2.2) (wd := s) (n1 := 520) hl hP1 hL1 hV hV40 hkf hk6
                obtain ⟨x4, hx4⟩ : ∃ x0, (rssF len 400 tg (x1.2 + (ltrF len 400 tg x1.2)) 0 520 80 x2.2.1 h x2.2.2 v kd s) = x0 := ⟨_, rfl⟩
                refine scX6_83 (k_X6_readSums (kd := kd) (wd := s) hrd_4 htx_4 htb_4 hp_4 h1_4 h2_4 (by decide) hGx2.1 hv hne) hrd_4 ⟨(by simp only [gRm]; omega), (by simp only [gRm]; omega)⟩ ⟨(Nat.le_of_ble_eq_true rfl), (Nat.le_of_ble_eq_true rfl)⟩ rfl rfl (Nat.le_of_ble_eq_true rfl) dX6_readDeed_117 ?_
                rintro r6 f6 ⟨z6, hrd_6, hp_6, h2_6, h1_6, hr6⟩; rw [hx4] at z6 hrd_6 hp_6 h2_6 h1_6; rw [z6]
                have htx_6 : f6 tx = some (.inr (9, [.ref tb, .int len])) := hr6 _ _ htx_4 (by simp only [List.mem_cons, List.not_mem_nil, or_false, not_or]; exact ⟨cne htx_4 hrd_4 (by simp), cne htx_4 hp_4 (by simp), cne htx_4 h1_4 (by simp), cne htx_4 h2_4 (by simp)⟩)
                have htb_6 : f6 tb = some (.inl (cy 1, 400, .inl (tg))) := hr6 _ _ htb_4 (by simp only [List.mem_cons, List.not_mem_nil, or_false, not_or]; exact ⟨cne htb_4 hrd_4 (by simp), cne htb_4 hp_4 (by simp), hne.1, hne.2.1⟩)
                have hIx4 : fI x4.2.2.2.2.2 x2.2.2.toInt := by rw [← hx4]; exact rssF_fi hGx2.1 hGx2.2.1
                have hvx4 : 0 ≤ x4.2.2.2.1.toInt ∧ 2 * x4.2.2.2.1.toInt ≤ 80 ∧ 80 ≤ 80 := by rw [← hx4]; exact rssF_ok hv
                have d_x4 : ∀ ii : Nat, x4.2.2.2.2.2 (13 * ii + 1) = x2.2.1 (13 * ii + 1) := fun ii => by rw [← hx4]; exact rss_d1 hGx2.1
                have dd_x4 : ∀ ii : Nat, (ii : Int) < s.toInt → x4.2.2.2.2.2 (13 * ii + 1) = g (13 * ii + 1) := fun ii hi => (d_x4 ii).trans (g3 ii hi)
                have g4_x4 : (x4.2.2.2.2.2 (13 * s.toInt.toNat + 1)).toInt = wi.toInt := by rw [d_x4]; exact g4
                rw [hx4] at e_
                cases hh : hdR (tX tg len) (kdR (tX tg len) (skR (tX tg len) P)) ((skR (tX tg len) P) + ltR (tX tg len) (skR (tX tg len) P)) V with
                | inl chh =>
                  rw [hh] at e_
                  obtain ⟨a1_, a2_⟩ := e_
                  refine gz_ev (w := .int 0) (congrArg Value.int a1_) ?_
                  refine gz_if_ne (tgt := 125) dX6_readDeed_120 (by decide) (fun c_120 => ?_) (fun c_120 => ?_)
                  · exact absurd c_120 (by decide)
                  ·
                    refine gz_iconst (v := 0) dX6_readDeed_123 (by decide) ?_
                    exact gz_zret rfl (by first | decide | exact nrb (Or.inl rfl) | (refine nrb ?_; (repeat' split) <;> first | assumption | exact Or.inl rfl | exact Or.inr rfl)) dX6_readDeed_124 (Nat.le_of_ble_eq_true rfl) (Nat.le_of_ble_eq_true rfl) (⟨_, rfl, _, _, _, _, _, _, hrd_6, hp_6, h1_6, h2_6, (by first | assumption | exact Or.inl rfl | exact Or.inr rfl), hGx2.1, hvx4, hIx4, (by rw [deR_st, if_neg h11, if_neg hO11, if_neg h40, hh]; exact ⟨rfl, a2_⟩), dd_x4, ll41, (fr_tr (by rw [hf4]; exact fr_up (fr_tr (fr_tr fr_rf (fr_mo hr1 (by simp))) (fr_mo hr2 (by simp))) (by simp)) (fr_mo hr6 (by simp)))⟩)
                | inr rhh =>
                  obtain ⟨Q_, V_⟩ := rhh
                  have b_ := hdR_le hln (show ((skR (tX tg len) P) + ltR (tX tg len) (skR (tX tg len) P)) ≤ len.toInt.toNat by omega) hV40 hh
                  rw [hh] at e_
                  obtain ⟨a1_, a2_, a3_, a4_⟩ := e_
                  refine gz_ev (w := .int 1) (congrArg Value.int a1_) ?_
                  rw [a3_] at hrd_6
                  have bl_ : (Q_ : Int) ≤ len.toInt := by omega
                  refine gz_if_ne (tgt := 125) dX6_readDeed_120 (by decide) (fun c_120 => ?_) (fun c_120 => ?_)
                  ·
                    refine gz_aload_n dX6_readDeed_125 rfl rfl ?_
                    refine gz_iload dX6_readDeed_126 rfl ?_
                    refine gz_iload dX6_readDeed_128 rfl ?_
                    refine gz_iload_n dX6_readDeed_130 rfl rfl ?_
                    refine scX6_86 (k_X6_readDeedsE (kd := kd) (wd := s) (wi := wi) hrd_6 htx_6 htb_6 hp_6 h1_6 h2_6 hl hne hGx2.1 hvx4 hIx4 (by omega) ih hO a2_ bl_ (show x2.2.2.toInt = ((W + 1 : Nat) : Int) by omega) a4_ hkf ⟨hs.1, by omega, g4_x4⟩) hrd_6 ⟨(by simp only [gRm]; omega), (by simp only [gRm]; omega)⟩ ⟨(Nat.le_of_ble_eq_true rfl), (Nat.le_of_ble_eq_true rfl)⟩ rfl rfl (Nat.le_of_ble_eq_true rfl) dX6_readDeed_131 ?_
                    rintro r7 f7 ⟨pl_7, fa_7, s_7, v_7, g_7, h_7, hrd_7, hp_7, h1_7, h2_7, hb_7, hs_7, hv_7, hI_7, hE_7, hd_7, hle_7, hr7⟩
                    have htx_7 : f7 tx = some (.inr (9, [.ref tb, .int len])) := hr7 _ _ htx_6 (by simp only [List.mem_cons, List.not_mem_nil, or_false, not_or]; exact ⟨cne htx_6 hrd_6 (by simp), cne htx_6 hp_6 (by simp), cne htx_6 h1_6 (by simp), cne htx_6 h2_6 (by simp)⟩)
                    have htb_7 : f7 tb = some (.inl (cy 1, 400, .inl (tg))) := hr7 _ _ htb_6 (by simp only [List.mem_cons, List.not_mem_nil, or_false, not_or]; exact ⟨cne htb_6 hrd_6 (by simp), cne htb_6 hp_6 (by simp), hne.1, hne.2.1⟩)
                    have dd_7 : ∀ ii : Nat, (ii : Int) < s.toInt → g_7 (13 * ii + 1) = g (13 * ii + 1) := fun ii hi => (hd_7 ii (by have z := ll41; omega)).trans (dd_x4 ii hi)
                    have ll_7 : s.toInt ≤ s_7.toInt := by have z := ll41; omega
                    exact gz_zret rfl (by first | decide | exact nrb (Or.inl rfl) | (refine nrb ?_; (repeat' split) <;> first | assumption | exact Or.inl rfl | exact Or.inr rfl)) dX6_readDeed_134 (Nat.le_of_ble_eq_true rfl) (Nat.le_of_ble_eq_true rfl) (⟨_, rfl, _, _, _, _, _, _, hrd_7, hp_7, h1_7, h2_7, (by first | assumption | exact Or.inl rfl | exact Or.inr rfl), hs_7, hv_7, hI_7, (by rw [deR_st, if_neg h11, if_neg hO11, if_neg h40, hh]; exact hE_7), dd_7, ll_7, (fr_tr (fr_tr (by rw [hf4]; exact fr_up (fr_tr (fr_tr fr_rf (fr_mo hr1 (by simp))) (fr_mo hr2 (by simp))) (by simp)) (fr_mo hr6 (by simp))) (fr_mo hr7 (by simp)))⟩)
                  · exact absurd c_120 (by decide)
            ·
              refine gz_aload_n dX6_readDeed_93 rfl rfl ?_
              refine gz_iload dX6_readDeed_94 rfl ?_
              have hk5 : (kdR (tX tg len) (skR (tX tg len) P)) = 5 ∨ (kdR (tX tg len) (skR (tX tg len) P)) = 10 := by have z := Classical.not_not.mp (fun q => c_90 (hnu_b.mpr q)); omega
              obtain ⟨x5, hx5⟩ : ∃ x0, (rdnF len 400 tg (x1.2 + (ltrF len 400 tg x1.2)) 0 520 x2.2.1 x2.2.2 s) = x0 := ⟨_, rfl⟩
              refine scX6_77 (k_X6_readN (wd := s) hrd_4 htx_4 htb_4 hp_4 h1_4 (by decide) hGx2.1 hne.1) hrd_4 ⟨(by simp only [gRm]; omega), (by simp only [gRm]; omega)⟩ ⟨(Nat.le_of_ble_eq_true rfl), (Nat.le_of_ble_eq_true rfl)⟩ rfl rfl (Nat.le_of_ble_eq_true rfl) dX6_readDeed_96 ?_
              rintro r8 f8 ⟨z8, hrd_8, h1_8, hr8⟩; rw [hx5] at z8 hrd_8 h1_8; rw [z8]
              have htx_8 : f8 tx = some (.inr (9, [.ref tb, .int len])) := hr8 _ _ htx_4 (by simp only [List.mem_cons, List.not_mem_nil, or_false, not_or]; exact ⟨cne htx_4 hrd_4 (by simp), cne htx_4 h1_4 (by simp)⟩)
              have htb_8 : f8 tb = some (.inl (cy 1, 400, .inl (tg))) := hr8 _ _ htb_4 (by simp only [List.mem_cons, List.not_mem_nil, or_false, not_or]; exact ⟨cne htb_4 hrd_4 (by simp), hne.1⟩)
              have h2_8 : f8 c2 = some (.inl (cy 0, 80, .inl (h))) := hr8 _ _ h2_4 (by simp only [List.mem_cons, List.not_mem_nil, or_false, not_or]; exact ⟨cne h2_4 hrd_4 (by simp), Ne.symm (hne.2.2)⟩)
              have hp_8 : f8 p = some (.inr (2, [.ref c1, .ref c2, .int x2.2.2, .int v])) := hr8 _ _ hp_4 (by simp only [List.mem_cons, List.not_mem_nil, or_false, not_or]; exact ⟨cne hp_4 hrd_4 (by simp), cne hp_4 h1_4 (by simp)⟩)
              have hIx5 : fI x5.2.2.2 x2.2.2.toInt := by rw [← hx5]; exact rdnF_fi hGx2.1 hGx2.2.1
              have d_x5 : ∀ ii : Nat, x5.2.2.2 (13 * ii + 1) = x2.2.1 (13 * ii + 1) := fun ii => by rw [← hx5]; exact rdn_d1 hGx2.1
              have dd_x5 : ∀ ii : Nat, (ii : Int) < s.toInt → x5.2.2.2 (13 * ii + 1) = g (13 * ii + 1) := fun ii hi => (d_x5 ii).trans (g3 ii hi)
              have g4_x5 : (x5.2.2.2 (13 * s.toInt.toNat + 1)).toInt = wi.toInt := by rw [d_x5]; exact g4
              have e_x5 := rdn_nu (tg := tg) (g := x2.2.1) (s := x2.2.2) (wd := s) (n1 := 520) hl hP1 hL1
              rw [hx5] at e_x5
              cases hn_x5 : nuR (tX tg len) (skR (tX tg len) ((skR (tX tg len) P) + ltR (tX tg len) (skR (tX tg len) P))) with
              | inl chn_x5 =>
                rw [hn_x5] at e_x5
                obtain ⟨a1_x5, a2_x5⟩ := e_x5
                refine gz_ev (w := .int 0) (congrArg Value.int a1_x5) ?_
                have hh : hdR (tX tg len) (kdR (tX tg len) (skR (tX tg len) P)) ((skR (tX tg len) P) + ltR (tX tg len) (skR (tX tg len) P)) V = .inl chn_x5 := by unfold hdR; rw [if_pos hk5, hn_x5]
                refine gz_if_ne (tgt := 104) dX6_readDeed_99 (by decide) (fun c_99 => ?_) (fun c_99 => ?_)
                · exact absurd c_99 (by decide)
                ·
                  refine gz_iconst (v := 0) dX6_readDeed_102 (by decide) ?_
                  exact gz_zret rfl (by first | decide | exact nrb (Or.inl rfl) | (refine nrb ?_; (repeat' split) <;> first | assumption | exact Or.inl rfl | exact Or.inr rfl)) dX6_readDeed_103 (Nat.le_of_ble_eq_true rfl) (Nat.le_of_ble_eq_true rfl) (⟨_, rfl, _, _, _, _, _, _, hrd_8, hp_8, h1_8, h2_8, (by first | assumption | exact Or.inl rfl | exact Or.inr rfl), hGx2.1, hv, hIx5, (by rw [deR_st, if_neg h11, if_neg hO11, if_neg h40, hh]; exact ⟨rfl, a2_x5⟩), dd_x5, ll41, (fr_tr (by rw [hf4]; exact fr_up (fr_tr (fr_tr fr_rf (fr_mo hr1 (by simp))) (fr_mo hr2 (by simp))) (by simp)) (fr_mo hr8 (by simp)))⟩)
              | inr rhn_x5 =>
                have b_x5 := nuR_le hln (skR_le hln (show ((skR (tX tg len) P) + ltR (tX tg len) (skR (tX tg len) P)) ≤ len.toInt.toNat by omega)).2.1 hn_x5
                rw [hn_x5] at e_x5
                obtain ⟨a1_x5, a2_x5, a3_x5⟩ := e_x5
                refine gz_ev (w := .int 1) (congrArg Value.int a1_x5) ?_
                rw [a3_x5] at hrd_8
                have hh : hdR (tX tg len) (kdR (tX tg len) (skR (tX tg len) P)) ((skR (tX tg len) P) + ltR (tX tg len) (skR (tX tg len) P)) V = .inr (rhn_x5, V) := by unfold hdR; rw [if_pos hk5, hn_x5]
                have bl_x5 : (rhn_x5 : Int) ≤ len.toInt := by omega
                refine gz_if_ne (tgt := 104) dX6_readDeed_99 (by decide) (fun c_99 => ?_) (fun c_99 => ?_)
                ·
                  refine gz_iload dX6_readDeed_104 rfl ?_
                  refine scX6_80 (k_X11_hasSum (x := kd)) ⟨(by simp only [gRm]; omega), (by simp only [gRm]; omega)⟩ ⟨(Nat.le_of_ble_eq_true rfl), (Nat.le_of_ble_eq_true rfl)⟩ rfl rfl (Nat.le_of_ble_eq_true rfl) dX6_readDeed_106 ?_
                  intro v9 f9 z9; rw [z9.1, z9.2]
                  refine gz_if_eq (tgt := 125) dX6_readDeed_109 (by decide) (fun c_109 => ?_) (fun c_109 => ?_)
                  ·
                    refine gz_aload_n dX6_readDeed_125 rfl rfl ?_
                    refine gz_iload dX6_readDeed_126 rfl ?_
                    refine gz_iload dX6_readDeed_128 rfl ?_
                    refine gz_iload_n dX6_readDeed_130 rfl rfl ?_
                    refine scX6_86 (k_X6_readDeedsE (kd := kd) (wd := s) (wi := wi) hrd_8 htx_8 htb_8 hp_8 h1_8 h2_8 hl hne hGx2.1 hv hIx5 (by omega) ih hO a2_x5 bl_x5 (show x2.2.2.toInt = ((W + 1 : Nat) : Int) by omega) hV hkf ⟨hs.1, by omega, g4_x5⟩) hrd_8 ⟨(by simp only [gRm]; omega), (by simp only [gRm]; omega)⟩ ⟨(Nat.le_of_ble_eq_true rfl), (Nat.le_of_ble_eq_true rfl)⟩ rfl rfl (Nat.le_of_ble_eq_true rfl) dX6_readDeed_131 ?_
                    rintro r9 f9 ⟨pl_9, fa_9, s_9, v_9, g_9, h_9, hrd_9, hp_9, h1_9, h2_9, hb_9, hs_9, hv_9, hI_9, hE_9, hd_9, hle_9, hr9⟩
                    have htx_9 : f9 tx = some (.inr (9, [.ref tb, .int len])) := hr9 _ _ htx_8 (by simp only [List.mem_cons, List.not_mem_nil, or_false, not_or]; exact ⟨cne htx_8 hrd_8 (by simp), cne htx_8 hp_8 (by simp), cne htx_8 h1_8 (by simp), cne htx_8 h2_8 (by simp)⟩)
                    have htb_9 : f9 tb = some (.inl (cy 1, 400, .inl (tg))) := hr9 _ _ htb_8 (by simp only [List.mem_cons, List.not_mem_nil, or_false, not_or]; exact ⟨cne htb_8 hrd_8 (by simp), cne htb_8 hp_8 (by simp), hne.1, hne.2.1⟩)
                    have dd_9 : ∀ ii : Nat, (ii : Int) < s.toInt → g_9 (13 * ii + 1) = g (13 * ii + 1) := fun ii hi => (hd_9 ii (by have z := ll41; omega)).trans (dd_x5 ii hi)
                    have ll_9 : s.toInt ≤ s_9.toInt := by have z := ll41; omega
                    exact gz_zret rfl (by first | decide | exact nrb (Or.inl rfl) | (refine nrb ?_; (repeat' split) <;> first | assumption | exact Or.inl rfl | exact Or.inr rfl)) dX6_readDeed_134 (Nat.le_of_ble_eq_true rfl) (Nat.le_of_ble_eq_true rfl) (⟨_, rfl, _, _, _, _, _, _, hrd_9, hp_9, h1_9, h2_9, (by first | assumption | exact Or.inl rfl | exact Or.inr rfl), hs_9, hv_9, hI_9, (by rw [deR_st, if_neg h11, if_neg hO11, if_neg h40, hh]; exact hE_9), dd_9, ll_9, (fr_tr (fr_tr (by rw [hf4]; exact fr_up (fr_tr (fr_tr fr_rf (fr_mo hr1 (by simp))) (fr_mo hr2 (by simp))) (by simp)) (fr_mo hr8 (by simp))) (fr_mo hr9 (by simp)))⟩)
                  ·
                    refine gz_aload_n dX6_readDeed_112 rfl rfl ?_
                    refine gz_iload dX6_readDeed_113 rfl ?_
                    refine gz_iload dX6_readDeed_115 rfl ?_
                    exfalso; have z := Classical.not_not.mp (fun q => c_109 (hsu_b.mpr q)); omega
                · exact absurd c_99 (by decide)
          ·
            refine gz_aload_n dX6_readDeed_70 rfl rfl ?_
            refine gz_iload_n dX6_readDeed_71 rfl rfl ?_
            refine gz_iconst (v := 3) dX6_readDeed_72 (by decide) ?_
            exfalso; have z := hs.1; rw [c_67] at z; exact absurd z (by decide)
      ·
        refine gz_aload_n dX6_readDeed_45 rfl rfl ?_
        refine gz_iload_n dX6_readDeed_46 rfl rfl ?_
        refine gz_iconst (v := 2) dX6_readDeed_47 (by decide) ?_
        have hO11 : 11 < O := by have z := c_42; rw [fl_le] at z; have e : (11 : Int32).toInt = 11 := rfl; omega
        obtain ⟨x6, hx6⟩ : ∃ x0, (faiF 0 x1.2 2) = x0 := ⟨_, rfl⟩
        refine scX6_39 (k_X6_fail (at_ := x1.2) (kd := 2) hrd_1) hrd_1 ⟨(by simp only [gRm]; omega), (by simp only [gRm]; omega)⟩ ⟨(Nat.le_of_ble_eq_true rfl), (Nat.le_of_ble_eq_true rfl)⟩ rfl rfl (Nat.le_of_ble_eq_true rfl) dX6_readDeed_48 ?_
        rintro r10 f10 ⟨z10, hrd_10, hr10⟩; rw [hx6] at z10 hrd_10; rw [z10]
        have htx_10 : f10 tx = some (.inr (9, [.ref tb, .int len])) := hr10 _ _ htx_1 (by simp only [List.mem_cons, List.not_mem_nil, or_false, not_or]; exact cne htx_1 hrd_1 (by simp))
        have htb_10 : f10 tb = some (.inl (cy 1, 400, .inl (tg))) := hr10 _ _ htb_1 (by simp only [List.mem_cons, List.not_mem_nil, or_false, not_or]; exact cne htb_1 hrd_1 (by simp))
        have hp_10 : f10 p = some (.inr (2, [.ref c1, .ref c2, .int s, .int v])) := hr10 _ _ hp_1 (by simp only [List.mem_cons, List.not_mem_nil, or_false, not_or]; exact cne hp_1 hrd_1 (by simp))
        have h1_10 : f10 c1 = some (.inl (cy 0, 520, .inl (g))) := hr10 _ _ h1_1 (by simp only [List.mem_cons, List.not_mem_nil, or_false, not_or]; exact cne h1_1 hrd_1 (by simp))
        have h2_10 : f10 c2 = some (.inl (cy 0, 80, .inl (h))) := hr10 _ _ h2_1 (by simp only [List.mem_cons, List.not_mem_nil, or_false, not_or]; exact cne h2_1 hrd_1 (by simp))
        have z_x6 : x6.1 = 0 := by rw [← hx6]; rfl
        have y_x6 : x6.2.toInt = 1 + 8 * ((skR (tX tg len) P) : Int) + 2 := by rw [← hx6]; exact fai_0 (k := 2) (c := 2) u2 (by omega) rfl (by omega)
        refine gz_ev (w := .int 0) (congrArg Value.int z_x6) ?_
        exact gz_zret rfl (by first | decide | exact nrb (Or.inl rfl) | (refine nrb ?_; (repeat' split) <;> first | assumption | exact Or.inl rfl | exact Or.inr rfl)) dX6_readDeed_51 (Nat.le_of_ble_eq_true rfl) (Nat.le_of_ble_eq_true rfl) (⟨_, rfl, _, _, _, _, _, _, hrd_10, hp_10, h1_10, h2_10, (by first | assumption | exact Or.inl rfl | exact Or.inr rfl), hs, hv, hI, (by rw [deR_st, if_neg h11, if_pos hO11]; exact ⟨rfl, by omega⟩), dg0, le0, (fr_tr (fr_tr fr_rf (fr_mo hr1 (by simp))) (fr_mo hr10 (by simp)))⟩)
    ·
      refine gz_aload_n dX6_readDeed_32 rfl rfl ?_
      refine gz_iload_n dX6_readDeed_33 rfl rfl ?_
      refine gz_iconst (v := 0) dX6_readDeed_34 (by decide) ?_
      have h11 : kdR (tX tg len) (skR (tX tg len) P) = 11 := by
        rw [c_29, show ((-1 : Int32)).toInt = -1 from rfl] at hkf
        split at hkf
        · assumption
        · omega
      obtain ⟨x7, hx7⟩ : ∃ x0, (faiF 0 x1.2 0) = x0 := ⟨_, rfl⟩
      refine scX6_39 (k_X6_fail (at_ := x1.2) (kd := 0) hrd_1) hrd_1 ⟨(by simp only [gRm]; omega), (by simp only [gRm]; omega)⟩ ⟨(Nat.le_of_ble_eq_true rfl), (Nat.le_of_ble_eq_true rfl)⟩ rfl rfl (Nat.le_of_ble_eq_true rfl) dX6_readDeed_35 ?_
      rintro r11 f11 ⟨z11, hrd_11, hr11⟩; rw [hx7] at z11 hrd_11; rw [z11]
      have htx_11 : f11 tx = some (.inr (9, [.ref tb, .int len])) := hr11 _ _ htx_1 (by simp only [List.mem_cons, List.not_mem_nil, or_false, not_or]; exact cne htx_1 hrd_1 (by simp))
      have htb_11 : f11 tb = some (.inl (cy 1, 400, .inl (tg))) := hr11 _ _ htb_1 (by simp only [List.mem_cons, List.not_mem_nil, or_false, not_or]; exact cne htb_1 hrd_1 (by simp))
      have hp_11 : f11 p = some (.inr (2, [.ref c1, .ref c2, .int s, .int v])) := hr11 _ _ hp_1 (by simp only [List.mem_cons, List.not_mem_nil, or_false, not_or]; exact cne hp_1 hrd_1 (by simp))
      have h1_11 : f11 c1 = some (.inl (cy 0, 520, .inl (g))) := hr11 _ _ h1_1 (by simp only [List.mem_cons, List.not_mem_nil, or_false, not_or]; exact cne h1_1 hrd_1 (by simp))
      have h2_11 : f11 c2 = some (.inl (cy 0, 80, .inl (h))) := hr11 _ _ h2_1 (by simp only [List.mem_cons, List.not_mem_nil, or_false, not_or]; exact cne h2_1 hrd_1 (by simp))
      have z_x7 : x7.1 = 0 := by rw [← hx7]; rfl
      have y_x7 : x7.2.toInt = 1 + 8 * ((skR (tX tg len) P) : Int) + 0 := by rw [← hx7]; exact fai_0 (k := 0) (c := 0) u2 (by omega) rfl (by omega)
      refine gz_ev (w := .int 0) (congrArg Value.int z_x7) ?_
      exact gz_zret rfl (by first | decide | exact nrb (Or.inl rfl) | (refine nrb ?_; (repeat' split) <;> first | assumption | exact Or.inl rfl | exact Or.inr rfl)) dX6_readDeed_38 (Nat.le_of_ble_eq_true rfl) (Nat.le_of_ble_eq_true rfl) (⟨_, rfl, _, _, _, _, _, _, hrd_11, hp_11, h1_11, h2_11, (by first | assumption | exact Or.inl rfl | exact Or.inr rfl), hs, hv, hI, (by rw [deR_st, if_pos h11]; exact ⟨rfl, by omega⟩), dg0, le0, (fr_tr (fr_tr fr_rf (fr_mo hr1 (by simp))) (fr_mo hr11 (by simp)))⟩)

set_option maxHeartbeats 4000000 in
set_option maxRecDepth 100000 in
theorem k_X6_readTapeE {l : Launch} {D : va_G} {cy : Nat → ClassId} {b : Nat} {f : gMem} {rd tx tb p c1 c2 : Nat} {len pl fa s v : Int32} {tg g h : Nat → Int32} (hrd : f rd = some (.inr (6, [.ref tx, .ref p, .int pl, .int fa]))) (htx : f tx = some (.inr (9, [.ref tb, .int len]))) (htb : f tb = some (.inl (cy 1, 400, .inl (tg)))) (hp : f p = some (.inr (2, [.ref c1, .ref c2, .int s, .int v]))) (h1 : f c1 = some (.inl (cy 0, 520, .inl (g)))) (h2 : f c2 = some (.inl (cy 0, 80, .inl (h)))) (hl : 0 ≤ len.toInt ∧ len.toInt ≤ 400) (hne : tb ≠ c1 ∧ tb ≠ c2 ∧ c1 ≠ c2) : gC l D cy b yX6_readTape cX6_readTape 1 (some .int) 34 0 0 [.ref rd] f (pI fun r f2 => ∃ (pl2 fa2 s2 v2 : Int32) (g2 h2 : Nat → Int32), f2 rd = some (.inr (6, [.ref tx, .ref p, .int pl2, .int fa2])) ∧ f2 p = some (.inr (2, [.ref c1, .ref c2, .int s2, .int v2])) ∧ f2 c1 = some (.inl (cy 0, 520, .inl (g2))) ∧ f2 c2 = some (.inl (cy 0, 80, .inl (h2))) ∧ (0 ≤ s2.toInt ∧ 13 * s2.toInt ≤ 520 ∧ 520 ≤ 520) ∧ (0 ≤ v2.toInt ∧ 2 * v2.toInt ≤ 80 ∧ 80 ≤ 80) ∧ fI g2 s2.toInt ∧ r.toInt = (foR (tX tg len) : Int) ∧ fr [rd, p, c1, c2] f f2) := by
  refine gC_of (by decide) (Nat.le_of_ble_eq_true rfl) ?_
  show gG l _ _ _ D cy b cX6_readTape 1 _ RX6 "readTape" 0 0 f 0 [(0, .ref rd)] []
  refine gz_aload_n dX6_readTape_0 rfl rfl ?_
  refine gz_iconst (v := 0) dX6_readTape_1 (by decide) ?_
  refine spX6_19 hrd  (Nat.le_of_ble_eq_true rfl) dX6_readTape_2 ?_
  obtain ⟨f1, hf1⟩ : ∃ gg : gMem, gg = va_up f rd (some (.inr (6, [.ref tx, .ref p, .int 0, .int fa]))) := ⟨_, rfl⟩
  refine gz_eq (f2 := f1) hf1.symm rfl rfl rfl ?_
  have htx_1 : f1 tx = some (.inr (9, [.ref tb, .int len])) := by rw [hf1, va_up_ne _ _ (cne htx hrd (by simp))]; exact htx
  have htb_1 : f1 tb = some (.inl (cy 1, 400, .inl (tg))) := by rw [hf1, va_up_ne _ _ (cne htb hrd (by simp))]; exact htb
  have hp_1 : f1 p = some (.inr (2, [.ref c1, .ref c2, .int s, .int v])) := by rw [hf1, va_up_ne _ _ (cne hp hrd (by simp))]; exact hp
  have h1_1 : f1 c1 = some (.inl (cy 0, 520, .inl (g))) := by rw [hf1, va_up_ne _ _ (cne h1 hrd (by simp))]; exact h1
  have h2_1 : f1 c2 = some (.inl (cy 0, 80, .inl (h))) := by rw [hf1, va_up_ne _ _ (cne h2 hrd (by simp))]; exact h2
  have hrd_1 : f1 rd = some (.inr (6, [.ref tx, .ref p, .int 0, .int fa])) := by rw [hf1]; exact va_up_self _ _ _
  refine gz_aload_n dX6_readTape_5 rfl rfl ?_
  refine gz_iconst (v := 0) dX6_readTape_6 (by decide) ?_
  refine spX6_23 hrd_1  (Nat.le_of_ble_eq_true rfl) dX6_readTape_7 ?_
  obtain ⟨f2, hf2⟩ : ∃ gg : gMem, gg = va_up f1 rd (some (.inr (6, [.ref tx, .ref p, .int 0, .int 0]))) := ⟨_, rfl⟩
  refine gz_eq (f2 := f2) hf2.symm rfl rfl rfl ?_
  have htx_2 : f2 tx = some (.inr (9, [.ref tb, .int len])) := by rw [hf2, va_up_ne _ _ (cne htx_1 hrd_1 (by simp))]; exact htx_1
  have htb_2 : f2 tb = some (.inl (cy 1, 400, .inl (tg))) := by rw [hf2, va_up_ne _ _ (cne htb_1 hrd_1 (by simp))]; exact htb_1
  have hp_2 : f2 p = some (.inr (2, [.ref c1, .ref c2, .int s, .int v])) := by rw [hf2, va_up_ne _ _ (cne hp_1 hrd_1 (by simp))]; exact hp_1
  have h1_2 : f2 c1 = some (.inl (cy 0, 520, .inl (g))) := by rw [hf2, va_up_ne _ _ (cne h1_1 hrd_1 (by simp))]; exact h1_1
  have h2_2 : f2 c2 = some (.inl (cy 0, 80, .inl (h))) := by rw [hf2, va_up_ne _ _ (cne h2_1 hrd_1 (by simp))]; exact h2_1
  have hrd_2 : f2 rd = some (.inr (6, [.ref tx, .ref p, .int 0, .int 0])) := by rw [hf2]; exact va_up_self _ _ _
  refine gz_aload_n dX6_readTape_10 rfl rfl ?_
  refine sgX6_15 hrd_2 rfl dX6_readTape_11 ?_
  refine scX6_26 (k_X2_clear hp_2) hp_2 ⟨(Nat.le_of_ble_eq_true rfl), (Nat.le_of_ble_eq_true rfl)⟩ ⟨(Nat.le_of_ble_eq_true rfl), (Nat.le_of_ble_eq_true rfl)⟩ rfl rfl (Nat.le_of_ble_eq_true rfl) dX6_readTape_14 ?_
  rintro f3 ⟨hp_3, hr3⟩
  have htx_3 : f3 tx = some (.inr (9, [.ref tb, .int len])) := hr3 _ _ htx_2 (by simp only [List.mem_cons, List.not_mem_nil, or_false, not_or]; exact cne htx_2 hp_2 (by simp))
  have htb_3 : f3 tb = some (.inl (cy 1, 400, .inl (tg))) := hr3 _ _ htb_2 (by simp only [List.mem_cons, List.not_mem_nil, or_false, not_or]; exact cne htb_2 hp_2 (by simp))
  have h1_3 : f3 c1 = some (.inl (cy 0, 520, .inl (g))) := hr3 _ _ h1_2 (by simp only [List.mem_cons, List.not_mem_nil, or_false, not_or]; exact cne h1_2 hp_2 (by simp))
  have h2_3 : f3 c2 = some (.inl (cy 0, 80, .inl (h))) := hr3 _ _ h2_2 (by simp only [List.mem_cons, List.not_mem_nil, or_false, not_or]; exact cne h2_2 hp_2 (by simp))
  have hrd_3 : f3 rd = some (.inr (6, [.ref tx, .ref p, .int 0, .int 0])) := hr3 _ _ hrd_2 (by simp only [List.mem_cons, List.not_mem_nil, or_false, not_or]; exact cne hrd_2 hp_2 (by simp))
  refine gz_aload_n dX6_readTape_17 rfl rfl ?_
  refine gz_iconst (v := (-1)) dX6_readTape_18 (by decide) ?_
  refine gz_iconst (v := 0) dX6_readTape_19 (by decide) ?_
  have hz : (0 : Int32).toInt = 0 := rfl
  refine scX6_31 (k_X6_readDeedE hl hne 13 (-1) 0 0 0 0 g h 0 0 0 0 _ hrd_3 htx_3 htb_3 hp_3 h1_3 h2_3 ⟨by omega, by omega, by omega⟩ ⟨by omega, by omega, by omega⟩ (fun i hi => absurd hi (by omega)) (by decide) rfl ⟨rfl, by omega⟩ rfl rfl (Or.inl ⟨rfl, rfl⟩)) hrd_3 ⟨(Nat.le_of_ble_eq_true rfl), (Nat.le_of_ble_eq_true rfl)⟩ ⟨(Nat.le_of_ble_eq_true rfl), (Nat.le_of_ble_eq_true rfl)⟩ rfl rfl (Nat.le_of_ble_eq_true rfl) dX6_readTape_20 ?_
  rintro r4 f4 ⟨pl_4, fa_4, s_4, v_4, g_4, h_4, hrd_4, hp_4, h1_4, h2_4, hb_4, hs_4, hv_4, hI_4, hE_4, hd_4, hle_4, hr4⟩
  have htx_4 : f4 tx = some (.inr (9, [.ref tb, .int len])) := hr4 _ _ htx_3 (by simp only [List.mem_cons, List.not_mem_nil, or_false, not_or]; exact ⟨cne htx_3 hrd_3 (by simp), cne htx_3 hp_3 (by simp), cne htx_3 h1_3 (by simp), cne htx_3 h2_3 (by simp)⟩)
  have htb_4 : f4 tb = some (.inl (cy 1, 400, .inl (tg))) := hr4 _ _ htb_3 (by simp only [List.mem_cons, List.not_mem_nil, or_false, not_or]; exact ⟨cne htb_3 hrd_3 (by simp), cne htb_3 hp_3 (by simp), hne.1, hne.2.1⟩)
  cases hq_4 : deR (tX tg len) 13 0 0 0 0 with
  | inl chq_4 =>
    rw [hq_4] at hE_4
    obtain ⟨a1_4, a2_4⟩ := hE_4
    refine gz_ev (w := .int 0) (congrArg Value.int a1_4) ?_
    refine gz_if_eq (tgt := 44) dX6_readTape_23 (by decide) (fun c_23 => ?_) (fun c_23 => ?_)
    ·
      refine gz_aload_n dX6_readTape_44 rfl rfl ?_
      refine sgX6_23 hrd_4 rfl dX6_readTape_45 ?_
      exact gz_iret rfl dX6_readTape_48 (Nat.le_of_ble_eq_true rfl) (Nat.le_of_ble_eq_true rfl) (⟨_, rfl, _, _, _, _, _, _, hrd_4, hp_4, h1_4, h2_4, hs_4, hv_4, hI_4, (by unfold foR; rw [hq_4]; exact a2_4), (fr_tr (fr_tr (by rw [hf2]; exact fr_up (by rw [hf1]; exact fr_up fr_rf (by simp)) (by simp)) (fr_mo hr3 (by simp))) (fr_mo hr4 (by simp)))⟩)
    · exact absurd c_23 (by decide)
  | inr rhq_4 =>
    obtain ⟨Q_4, W_4, V_4⟩ := rhq_4
    have b_4 := deR_le (tX_ln (g := tg) hl) _ _ _ _ _ _ _ _ (by omega) (by omega) hq_4
    rw [hq_4] at hE_4
    obtain ⟨a1_4, a2_4, a3_4, a4_4, a5_4⟩ := hE_4
    refine gz_ev (w := .int 1) (congrArg Value.int a1_4) ?_
    rw [a3_4] at hrd_4
    refine gz_if_eq (tgt := 44) dX6_readTape_23 (by decide) (fun c_23 => ?_) (fun c_23 => ?_)
    · exact absurd c_23 (by decide)
    ·
      refine gz_aload_n dX6_readTape_26 rfl rfl ?_
      obtain ⟨x1, hx1⟩ : ∃ x0, (upnF len 400 tg pl_4) = x0 := ⟨_, rfl⟩
      refine scX6_35 (k_X6_upNext hrd_4 htx_4 htb_4 (by decide)) hrd_4 ⟨(Nat.le_of_ble_eq_true rfl), (Nat.le_of_ble_eq_true rfl)⟩ ⟨(Nat.le_of_ble_eq_true rfl), (Nat.le_of_ble_eq_true rfl)⟩ rfl rfl (Nat.le_of_ble_eq_true rfl) dX6_readTape_27 ?_
      rintro r5 f5 ⟨z5, hrd_5, hr5⟩; rw [hx1] at z5 hrd_5; rw [z5]
      have htx_5 : f5 tx = some (.inr (9, [.ref tb, .int len])) := hr5 _ _ htx_4 (by simp only [List.mem_cons, List.not_mem_nil, or_false, not_or]; exact cne htx_4 hrd_4 (by simp))
      have htb_5 : f5 tb = some (.inl (cy 1, 400, .inl (tg))) := hr5 _ _ htb_4 (by simp only [List.mem_cons, List.not_mem_nil, or_false, not_or]; exact cne htb_4 hrd_4 (by simp))
      have hp_5 : f5 p = some (.inr (2, [.ref c1, .ref c2, .int s_4, .int v_4])) := hr5 _ _ hp_4 (by simp only [List.mem_cons, List.not_mem_nil, or_false, not_or]; exact cne hp_4 hrd_4 (by simp))
      have h1_5 : f5 c1 = some (.inl (cy 0, 520, .inl (g_4))) := hr5 _ _ h1_4 (by simp only [List.mem_cons, List.not_mem_nil, or_false, not_or]; exact cne h1_4 hrd_4 (by simp))
      have h2_5 : f5 c2 = some (.inl (cy 0, 80, .inl (h_4))) := hr5 _ _ h2_4 (by simp only [List.mem_cons, List.not_mem_nil, or_false, not_or]; exact cne h2_4 hrd_4 (by simp))
      obtain ⟨u1, u2⟩ := upnF_sk (tg := tg) hl a2_4 (by omega)
      rw [hx1] at u1 u2
      have hsk := skR_le (tX_ln (g := tg) hl) (p := Q_4) (by omega)
      refine gz_iconst (v := (-1)) dX6_readTape_30 (by decide) ?_
      refine gz_icmp_eq (tgt := 44) dX6_readTape_31 (by decide) (fun c_31 => ?_) (fun c_31 => ?_)
      ·
        refine gz_aload_n dX6_readTape_44 rfl rfl ?_
        refine sgX6_23 hrd_5 rfl dX6_readTape_45 ?_
        exact gz_iret rfl dX6_readTape_48 (Nat.le_of_ble_eq_true rfl) (Nat.le_of_ble_eq_true rfl) (⟨_, rfl, _, _, _, _, _, _, hrd_5, hp_5, h1_5, h2_5, hs_4, hv_4, hI_4, (by unfold foR; rw [hq_4]; dsimp only; rw [if_pos (by rw [← u1, c_31]; rfl)]; rfl), (fr_tr (fr_tr (fr_tr (by rw [hf2]; exact fr_up (by rw [hf1]; exact fr_up fr_rf (by simp)) (by simp)) (fr_mo hr3 (by simp))) (fr_mo hr4 (by simp))) (fr_mo hr5 (by simp)))⟩)
      ·
        refine gz_aload_n dX6_readTape_34 rfl rfl ?_
        refine gz_aload_n dX6_readTape_35 rfl rfl ?_
        refine sgX6_19 hrd_5 rfl dX6_readTape_36 ?_
        refine gz_iconst (v := 0) dX6_readTape_39 (by decide) ?_
        obtain ⟨x2, hx2⟩ : ∃ x0, (faiF 0 x1.2 0) = x0 := ⟨_, rfl⟩
        refine scX6_39 (k_X6_fail (at_ := x1.2) (kd := 0) hrd_5) hrd_5 ⟨(Nat.le_of_ble_eq_true rfl), (Nat.le_of_ble_eq_true rfl)⟩ ⟨(Nat.le_of_ble_eq_true rfl), (Nat.le_of_ble_eq_true rfl)⟩ rfl rfl (Nat.le_of_ble_eq_true rfl) dX6_readTape_40 ?_
        rintro r6 f6 ⟨z6, hrd_6, hr6⟩; rw [hx2] at z6 hrd_6; rw [z6]
        have htx_6 : f6 tx = some (.inr (9, [.ref tb, .int len])) := hr6 _ _ htx_5 (by simp only [List.mem_cons, List.not_mem_nil, or_false, not_or]; exact cne htx_5 hrd_5 (by simp))
        have htb_6 : f6 tb = some (.inl (cy 1, 400, .inl (tg))) := hr6 _ _ htb_5 (by simp only [List.mem_cons, List.not_mem_nil, or_false, not_or]; exact cne htb_5 hrd_5 (by simp))
        have hp_6 : f6 p = some (.inr (2, [.ref c1, .ref c2, .int s_4, .int v_4])) := hr6 _ _ hp_5 (by simp only [List.mem_cons, List.not_mem_nil, or_false, not_or]; exact cne hp_5 hrd_5 (by simp))
        have h1_6 : f6 c1 = some (.inl (cy 0, 520, .inl (g_4))) := hr6 _ _ h1_5 (by simp only [List.mem_cons, List.not_mem_nil, or_false, not_or]; exact cne h1_5 hrd_5 (by simp))
        have h2_6 : f6 c2 = some (.inl (cy 0, 80, .inl (h_4))) := hr6 _ _ h2_5 (by simp only [List.mem_cons, List.not_mem_nil, or_false, not_or]; exact cne h2_5 hrd_5 (by simp))
        have y_x2 : x2.2.toInt = 1 + 8 * (skR (tX tg len) Q_4 : Int) + 0 := by rw [← hx2]; exact fai_0 (k := 0) (c := 0) u2 (by omega) rfl (by omega)
        refine gz_pop dX6_readTape_43 rfl ?_
        refine gz_aload_n dX6_readTape_44 rfl rfl ?_
        refine sgX6_23 hrd_6 rfl dX6_readTape_45 ?_
        exact gz_iret rfl dX6_readTape_48 (Nat.le_of_ble_eq_true rfl) (Nat.le_of_ble_eq_true rfl) (⟨_, rfl, _, _, _, _, _, _, hrd_6, hp_6, h1_6, h2_6, hs_4, hv_4, hI_4, (by unfold foR; rw [hq_4]; dsimp only; rw [if_neg (fun z => c_31 (Int32.toInt_inj.mp (by rw [u1, z]; rfl)))]; omega), (fr_tr (fr_tr (fr_tr (fr_tr (by rw [hf2]; exact fr_up (by rw [hf1]; exact fr_up fr_rf (by simp)) (by simp)) (fr_mo hr3 (by simp))) (fr_mo hr4 (by simp))) (fr_mo hr5 (by simp))) (fr_mo hr6 (by simp)))⟩)
