/-! a WORD's name: kindFrom is kdR -/
def nmN (k : Nat) : Nat := (nmR.getD k []).length
def nmL (k i : Nat) : Int := (nmR.getD k []).getD i 32
theorem nmN_ok : ∀ k, k < 11 → 0 < nmN k ∧ nmN k ≤ 7 := by decide
theorem nmL_ok : ∀ k, k < 11 → ∀ i, i < 8 → (i < nmN k → 97 ≤ nmL k i ∧ nmL k i ≤ 122) ∧ (nmN k ≤ i → nmL k i = 32) := by decide
theorem nmL_0 : ∀ k, k < 11 → ∀ i, i < 8 → i < nmN k → (nmR.getD k []).getD i 0 = nmL k i := by decide
theorem nmL_un : ∀ k, k < 11 → ∀ j, j < 11 → nmN k = nmN j → (∀ i, i < 8 → i < nmN k → nmL k i = nmL j i) → k = j := by decide +kernel
theorem nlF_all : ∀ (k : Fin 11) (i : Fin 8), (nlF (Int32.ofInt (k.val : Int)) (Int32.ofInt (i.val : Int))).toInt = nmL k.val i.val := by decide +kernel
theorem nlF_nm {x y : Int32} {k i : Nat} (hx : x.toInt = k) (hy : y.toInt = i) (hk : k < 11) (hi : i < 8) : (nlF x y).toInt = nmL k i := by
  have q := nlF_all ⟨k, hk⟩ ⟨i, hi⟩
  dsimp only at q
  rw [← hx, ← hy, Int32.ofInt_toInt, Int32.ofInt_toInt] at q
  exact q
theorem isNb_of {T : Nat → Int} {p k : Nat} (hk : k < 11) : isNb T p k = true ↔ ltR T p = nmN k ∧ ∀ i, i < nmN k → T (p + i) = nmL k i := by
  unfold isNb
  rw [Bool.and_eq_true, decide_eq_true_eq, List.all_eq_true]
  refine and_congr Iff.rfl ⟨fun h i hi => ?_, fun h i hi => ?_⟩
  · have q := h i (List.mem_range.mpr hi)
    rw [decide_eq_true_eq] at q
    rw [q]; exact nmL_0 k hk i (by have := (nmN_ok k hk).2; omega) hi
  · rw [decide_eq_true_eq]
    have hi2 : i < nmN k := List.mem_range.mp hi
    rw [h i hi2]; exact (nmL_0 k hk i (by have := (nmN_ok k hk).2; omega) hi2).symm
theorem isNb_un {T : Nat → Int} {p k j : Nat} (hk : k < 11) (hj : j < 11) (h1 : isNb T p k = true) (h2 : isNb T p j = true) : k = j := by
  rw [isNb_of hk] at h1
  rw [isNb_of hj] at h2
  exact nmL_un k hk j hj (h1.1.symm.trans h2.1) (fun i _ hi => by rw [← h1.2 i hi, ← h2.2 i (by rw [← h2.1, h1.1]; exact hi)])
theorem kdB_some {T : Nat → Int} {p k : Nat} (hk : k < 11) (h : isNb T p k = true) : ∀ m, m ≤ 11 → k < m → kdB T p m = k := by
  intro m
  induction m with
  | zero => intro _ h2; omega
  | succ m ih =>
    intro h1 h2
    unfold kdB
    by_cases c : isNb T p m = true
    · rw [if_pos c]; exact isNb_un (by omega) hk c h
    · rw [if_neg c]
      have hne : k ≠ m := fun e => c (by rw [← e]; exact h)
      exact ih (by omega) (by omega)
theorem kdB_none {T : Nat → Int} {p : Nat} : ∀ m, m ≤ 11 → (∀ k, k < m → isNb T p k ≠ true) → kdB T p m = 11 := by
  intro m
  induction m with
  | zero => intro _ _; rfl
  | succ m ih =>
    intro h1 h2
    unfold kdB
    rw [if_neg (h2 m (by omega))]
    exact ih (by omega) (fun k hk => h2 k (by omega))
theorem kdR_le {T : Nat → Int} {p : Nat} : kdR T p ≤ 11 := by
  unfold kdR
  suffices h : ∀ m, m ≤ 11 → kdB T p m ≤ 11 from h 11 (by omega)
  intro m
  induction m with
  | zero => intro _; unfold kdB; omega
  | succ m ih =>
    intro h1
    unfold kdB
    split
    · omega
    · exact ih (by omega)
theorem kdR_is {T : Nat → Int} {p : Nat} (h : kdR T p < 11) : isNb T p (kdR T p) = true := by
  by_cases c : ∃ k, k < 11 ∧ isNb T p k = true
  · obtain ⟨k, hk, hc⟩ := c
    rw [show kdR T p = k from kdB_some hk hc 11 (by omega) hk]; exact hc
  · have e : kdR T p = 11 := kdB_none 11 (by omega) (fun k hk hc => c ⟨k, hk, hc⟩)
    omega
theorem isnL_b {len : Int32} {tg : Nat → Int32} {kd sa ln : Int32} {k p L : Nat} (hl : 0 ≤ len.toInt ∧ len.toInt ≤ 400) (hk : kd.toInt = k ∧ k < 11) (hs : sa.toInt = p) (h8 : p ≤ 400) (hL : ln.toInt = L ∧ L ≤ 7) : ∀ (u : Nat) (i : Int32) (j : Nat), i.toInt = j → j ≤ L → j + u = 9 →
    (isnL len 400 tg kd sa ln u i = 0 ∨ isnL len 400 tg kd sa ln u i = 1) ∧ (isnL len 400 tg kd sa ln u i ≠ 0 ↔ (∀ i2, j ≤ i2 → i2 < L → nmL k i2 = tX tg len (p + i2)) ∧ 0 < L ∧ nmL k L = 32) := by
  have e32 : (32 : Int32).toInt = 32 := rfl
  have e0 : (0 : Int32).toInt = 0 := rfl
  intro u
  induction u with
  | zero => intro i j h1 h2 h3; exfalso; omega
  | succ u ih =>
    intro i j h1 h2 h3
    unfold isnL
    by_cases c1 : ln ≤ i
    · rw [if_pos c1]
      rw [fl_le] at c1
      by_cases c2 : ln ≤ 0
      · rw [if_pos c2]
        rw [fl_le, e0] at c2
        exact ⟨Or.inl rfl, fun h => absurd rfl h, fun h => by omega⟩
      · rw [if_neg c2]
        rw [fl_le, e0] at c2
        have q := nlF_nm hk.1 hL.1 hk.2 (by omega)
        by_cases c3 : nlF kd ln = 32
        · rw [if_pos c3]
          rw [c3, e32] at q
          exact ⟨Or.inr rfl, fun _ => ⟨fun i2 ha hb => by omega, by omega, q.symm⟩, fun _ => by decide⟩
        · rw [if_neg c3]
          exact ⟨Or.inl rfl, fun h => absurd rfl h, fun h => absurd (Int32.toInt_inj.mp (by rw [q, h.2.2, e32])) c3⟩
    · rw [if_neg c1]
      rw [fl_le] at c1
      have q := nlF_nm hk.1 h1 hk.2 (by omega)
      have q2 := T_add hs h1 (by omega)
      have ht := tAt_tX (tg := tg) (k := p + j) hl (i := sa + i) (by omega)
      by_cases c3 : nlF kd i = tAt len 400 tg (sa + i)
      · rw [if_pos c3]
        have q3 := T_add h1 (show (1 : Int32).toInt = 1 from rfl) (by omega)
        obtain ⟨r1, r2⟩ := ih (i + 1) (j + 1) (by omega) (by omega) (by omega)
        refine ⟨r1, r2.trans (and_congr ⟨fun h i2 ha hb => ?_, fun h i2 ha hb => h i2 (by omega) hb⟩ Iff.rfl)⟩
        by_cases e : i2 = j
        · rw [e, ← q, c3, ht]
        · exact h i2 (by omega) hb
      · rw [if_neg c3]
        refine ⟨Or.inl rfl, fun h => absurd rfl h, fun h => absurd (Int32.toInt_inj.mp ?_) c3⟩
        rw [q, ht]; exact h.1 j (Nat.le_refl _) (by omega)
theorem isnF_b {len : Int32} {tg : Nat → Int32} {kd sa ln : Int32} {k p : Nat} (hl : 0 ≤ len.toInt ∧ len.toInt ≤ 400) (hk : kd.toInt = k ∧ k < 11) (hs : sa.toInt = p) (h8 : p ≤ 400) (hL : ln.toInt = ltR (tX tg len) p) : isnF len 400 tg kd sa ln ≠ 0 ↔ isNb (tX tg len) p k = true := by
  have e8 : (8 : Int32).toInt = 8 := rfl
  have hn := nmN_ok k hk.2
  rw [isNb_of hk.2]
  unfold isnF
  by_cases c : ln < 8
  · rw [if_pos c]
    rw [fl_lt, e8] at c
    obtain ⟨-, r2⟩ := isnL_b (tg := tg) hl hk hs h8 (L := ltR (tX tg len) p) ⟨hL, by omega⟩ 9 0 0 rfl (by omega) (by omega)
    refine r2.trans ⟨fun h => ?_, fun h => ?_⟩
    · obtain ⟨h1, h2, h3⟩ := h
      have hle : nmN k ≤ ltR (tX tg len) p := by
        rcases Nat.lt_or_ge (ltR (tX tg len) p) (nmN k) with z | z
        · have y := ((nmL_ok k hk.2 (ltR (tX tg len) p) (by omega)).1 z).1
          rw [h3] at y; omega
        · exact z
      have hge : ltR (tX tg len) p ≤ nmN k := by
        rcases Nat.lt_or_ge (nmN k) (ltR (tX tg len) p) with z | z
        · have y := (nmL_ok k hk.2 (nmN k) (by omega)).2 (Nat.le_refl _)
          have w := ltB_at (T := tX tg len) 401 p (nmN k) z
          rw [h1 _ (by omega) z] at y; omega
        · exact z
      exact ⟨by omega, fun i hi => (h1 i (by omega) (by omega)).symm⟩
    · obtain ⟨h1, h2⟩ := h
      exact ⟨fun i2 _ hb => (h2 i2 (by omega)).symm, by omega, (nmL_ok k hk.2 _ (by omega)).2 (by omega)⟩
  · rw [if_neg c]
    rw [fl_lt, e8] at c
    exact ⟨fun h => absurd rfl h, fun h => by omega⟩
theorem kdf_kd {len : Int32} {tg : Nat → Int32} {sa ln : Int32} {p : Nat} (hl : 0 ≤ len.toInt ∧ len.toInt ≤ 400) (hs : sa.toInt = p) (h8 : p ≤ 400) (hL : ln.toInt = ltR (tX tg len) p) : (kdfF len 400 tg sa ln).toInt = (if kdR (tX tg len) p = 11 then -1 else (kdR (tX tg len) p : Int)) := by
  have e11 : (11 : Int32).toInt = 11 := rfl
  suffices h : ∀ (u : Nat) (kd : Int32) (j : Nat), kd.toInt = j → j ≤ 11 → j + u = 12 → (∀ i, i < j → isNb (tX tg len) p i ≠ true) → (kdfL len 400 tg sa ln u kd).toInt = (if kdR (tX tg len) p = 11 then -1 else (kdR (tX tg len) p : Int)) from h 12 0 0 rfl (by omega) (by omega) (fun i hi => by omega)
  intro u
  induction u with
  | zero => intro kd j h1 h2 h3; exfalso; omega
  | succ u ih =>
    intro kd j h1 h2 h3 h4
    unfold kdfL
    by_cases c : 11 ≤ kd
    · rw [if_pos c]
      rw [fl_le, e11] at c
      have e : j = 11 := by omega
      have e12 : kdR (tX tg len) p = 11 := kdB_none 11 (by omega) (fun k hk => h4 k (by omega))
      rw [if_pos e12]
      rfl
    · rw [if_neg c]
      rw [fl_le, e11] at c
      have hb := isnF_b (tg := tg) (kd := kd) (k := j) hl ⟨h1, by omega⟩ hs h8 hL
      by_cases c2 : isnF len 400 tg kd sa ln = 0
      · rw [if_pos c2]
        have q := T_add h1 (show (1 : Int32).toInt = 1 from rfl) (by omega)
        refine ih (kd + 1) (j + 1) (by omega) (by omega) (by omega) (fun i hi => ?_)
        by_cases e : i = j
        · rw [e]; exact fun z => hb.mpr z c2
        · exact h4 i (by omega)
      · rw [if_neg c2]
        have e : kdR (tX tg len) p = j := kdB_some (by omega) (hb.mp c2) 11 (by omega) (by omega)
        rw [e, if_neg (by omega), h1]
/-! a WORD's number; its sums -/
theorem rdn_nu {len : Int32} {tg g : Nat → Int32} {pl s wd : Int32} {p n1 : Nat} (hl : 0 ≤ len.toInt ∧ len.toInt ≤ 400) (hp : pl.toInt = p) (h4 : (p : Int) ≤ len.toInt) : exS (nuR (tX tg len) (skR (tX tg len) p)) (rdnF len 400 tg pl 0 n1 g s wd).1 (rdnF len 400 tg pl 0 n1 g s wd).2.1 (rdnF len 400 tg pl 0 n1 g s wd).2.2.1 := by
  obtain ⟨u1, u2⟩ := upnF_sk (tg := tg) hl hp (by omega)
  have hs := skR_le (tX_ln (g := tg) hl) (p := p) (by omega)
  unfold rdnF lett
  generalize upnF len 400 tg pl = y at u1 u2 ⊢
  dsimp only
  have ex := rnuF_nu (tg := tg) hl u2 (by omega)
  generalize rnuF len 400 tg y.2 0 = w at ex ⊢
  cases hn : nuR (tX tg len) (skR (tX tg len) p) with
  | inl c =>
    rw [hn] at ex
    obtain ⟨r1, r2⟩ := ex
    rw [if_pos r1]
    exact ⟨rfl, r2⟩
  | inr q =>
    rw [hn] at ex
    obtain ⟨r1, r2, r3⟩ := ex
    rw [if_neg (fun e => by rw [e] at r1; exact absurd r1 (by decide))]
    exact ⟨rfl, r2, r3⟩
theorem nuR_le {T : Nat → Int} {L p q : Nat} (hT : tLn T L) (hp : p ≤ L) (h : nuR T p = .inr q) : p < q ∧ q ≤ L := by
  unfold nuR at h
  have hd : p + dgR T p ≤ L := dgB_le hT 401 p hp
  by_cases d1 : dgR T p = 0
  · rw [if_pos d1] at h; cases h
  · rw [if_neg d1] at h
    by_cases d2 : 5 < dgR T p
    · rw [if_pos d2] at h; cases h
    · rw [if_neg d2] at h
      cases h
      omega
theorem tkR_le {T : Nat → Int} {L p q : Nat} {c : Int} (hT : tLn T L) (hp : p ≤ L) (hc : c ≠ -1) (h : tkR T p c = .inr q) : p < q ∧ q ≤ L := by
  have hs := skR_le hT hp
  unfold tkR at h
  by_cases d : T (skR T p) = c
  · rw [if_pos d] at h
    cases h
    rcases Nat.lt_or_ge (skR T p) L with z | z
    · omega
    · rw [hT.2 _ z] at d; exact absurd d.symm hc
  · rw [if_neg d] at h; cases h
theorem reR_le {T : Nat → Int} {L p q : Nat} (hT : tLn T L) (hp : p ≤ L) (h : reR T p = .inr q) : p < q ∧ q ≤ L := by
  have hs := skR_le hT hp
  have hlt : ∀ k, T k ≠ -1 → k < L := fun k hk => by
    rcases Nat.lt_or_ge k L with z | z
    · exact z
    · exact absurd (hT.2 k z) hk
  unfold reR at h
  by_cases c1 : T (skR T p) = 61
  · rw [if_pos c1] at h
    cases h
    have := hlt (skR T p) (by omega)
    omega
  · rw [if_neg c1] at h
    by_cases c2 : T (skR T p) = 60 ∨ T (skR T p) = 62
    · rw [if_pos c2] at h
      have := hlt (skR T p) (by omega)
      by_cases c3 : T (skR T p + 1) = 61
      · rw [if_pos c3] at h
        cases h
        have := hlt (skR T p + 1) (by omega)
        omega
      · rw [if_neg c3] at h
        cases h
        omega
    · rw [if_neg c2] at h; cases h
theorem rsm_su {len : Int32} {tg h : Nat → Int32} {pl v : Int32} {p V : Nat} (hl : 0 ≤ len.toInt ∧ len.toInt ≤ 400) (h1 : pl.toInt = p) (h2 : (p : Int) ≤ len.toInt) (h3 : v.toInt = V) (h4 : V ≤ 40) : exV (suR (tX tg len) 41 p V) (rsmF len 400 tg pl 0 80 h v).1 (rsmF len 400 tg pl 0 80 h v).2.1 (rsmF len 400 tg pl 0 80 h v).2.2.1 (rsmF len 400 tg pl 0 80 h v).2.2.2.1 := by
  unfold rsmF
  have e0 : (0 : Int32).toInt = 0 := rfl
  with_reducible exact rsmL_su hl 42 0 43 pl v h p V 41 h1 h2 h3 h4 ⟨by omega, by omega, by omega⟩ (by omega)
theorem rss_hd {len : Int32} {tg g h : Nat → Int32} {pl s v kd wd : Int32} {p V K n1 : Nat} (hl : 0 ≤ len.toInt ∧ len.toInt ≤ 400) (hp : pl.toInt = p) (h4 : (p : Int) ≤ len.toInt) (hv : v.toInt = V) (hV : V ≤ 40) (hk : kd.toInt = K) (hK : K = 6 ∨ K = 7 ∨ K = 8 ∨ K = 9) :
    exV (hdR (tX tg len) K p V) (rssF len 400 tg pl 0 n1 80 g h s v kd wd).1 (rssF len 400 tg pl 0 n1 80 g h s v kd wd).2.1 (rssF len 400 tg pl 0 n1 80 g h s v kd wd).2.2.1 (rssF len 400 tg pl 0 n1 80 g h s v kd wd).2.2.2.1 := by
  have hln := tX_ln (g := tg) hl
  have e58 : (58 : Int32).toInt = 58 := rfl
  have ex := rsm_su (tg := tg) (h := h) hl hp h4 hv hV
  unfold hdR
  rw [if_neg (show ¬ (K = 5 ∨ K = 10) by omega)]
  unfold rssF lett
  generalize rsmF len 400 tg pl 0 80 h v = w at ex ⊢
  have hts9 : K = 9 → htsF kd = 0 := fun e => by
    have : kd = 9 := Int32.toInt_inj.mp (by rw [hk, e]; rfl)
    rw [this]; rfl
  have hts6 : K ≠ 9 → htsF kd ≠ 0 := fun e => by
    have : kd = 6 ∨ kd = 7 ∨ kd = 8 := by
      rcases hK with z | z | z | z
      · exact Or.inl (Int32.toInt_inj.mp (by rw [hk, z]; rfl))
      · exact Or.inr (Or.inl (Int32.toInt_inj.mp (by rw [hk, z]; rfl)))
      · exact Or.inr (Or.inr (Int32.toInt_inj.mp (by rw [hk, z]; rfl)))
      · exact absurd z e
    rcases this with z | z | z <;> (rw [z]; decide)
  cases hsu : suR (tX tg len) 41 p V with
  | inl c =>
    rw [hsu] at ex
    obtain ⟨r1, r2⟩ := ex
    dsimp only
    rw [if_pos r1]
    by_cases c9 : K = 6 ∨ K = 7 ∨ K = 8
    · rw [if_pos c9]; exact ⟨rfl, r2⟩
    · rw [if_neg c9, if_pos (show K = 9 by omega)]; exact ⟨rfl, r2⟩
  | inr r =>
    obtain ⟨q, V2⟩ := r
    obtain ⟨o1, o2, o3⟩ := suR_ok hln _ _ _ _ _ (by omega) hV hsu
    rw [hsu] at ex
    obtain ⟨r1, r2, r3, r4⟩ := ex
    dsimp only
    rw [if_neg (show ¬ w.1 = 0 by rw [r1]; decide), r3]
    by_cases c9 : K = 6 ∨ K = 7 ∨ K = 8
    · rw [if_pos c9, if_neg (hts6 (by omega))]
      have ey := rrl_re (tg := tg) (g := stF n1 (stF n1 g s wd 5 v) s wd 6 w.2.2.2.1) (s := s) (wd := wd) (n1 := n1) hl r2 (by omega)
      generalize rrlF len 400 tg w.2.1 0 n1 (stF n1 (stF n1 g s wd 5 v) s wd 6 w.2.2.2.1) s wd = y at ey ⊢
      cases hre : reR (tX tg len) q with
      | inl c =>
        rw [hre] at ey
        obtain ⟨y1, y2⟩ := ey
        dsimp only
        rw [if_pos y1]
        exact ⟨rfl, y2⟩
      | inr q2 =>
        have oq := reR_le hln o3 hre
        rw [hre] at ey
        obtain ⟨y1, y2, y3⟩ := ey
        dsimp only
        rw [if_neg (show ¬ y.1 = 0 by rw [y1]; decide), y3]
        have ez := rsm_su (tg := tg) (h := w.2.2.2.2) hl y2 (by omega) r4 o2
        generalize rsmF len 400 tg y.2.1 0 80 w.2.2.2.2 w.2.2.2.1 = x at ez ⊢
        cases hs2 : suR (tX tg len) 41 q2 V2 with
        | inl c =>
          rw [hs2] at ez
          obtain ⟨z1, z2⟩ := ez
          dsimp only
          rw [if_pos z1]
          exact ⟨rfl, z2⟩
        | inr r5 =>
          obtain ⟨q3, V3⟩ := r5
          obtain ⟨p1, p2, p3⟩ := suR_ok hln _ _ _ _ _ (by omega) o2 hs2
          rw [hs2] at ez
          obtain ⟨z1, z2, z3, z4⟩ := ez
          dsimp only
          rw [if_neg (show ¬ x.1 = 0 by rw [z1]; decide), z3]
          have et := rsg_tk (tg := tg) (sg := 58) hl z2 (by omega)
          rw [e58] at et
          generalize rsgF len 400 tg x.2.1 0 58 = t at et ⊢
          cases htk : tkR (tX tg len) q3 58 with
          | inl c =>
            rw [htk] at et
            exact ⟨et.1, et.2⟩
          | inr q4 =>
            rw [htk] at et
            exact ⟨et.1, et.2.1, et.2.2, z4⟩
    · rw [if_neg c9, if_pos (show K = 9 by omega), if_pos (hts9 (by omega))]
      have et := rsg_tk (tg := tg) (sg := 58) hl r2 (by omega)
      rw [e58] at et
      generalize rsgF len 400 tg w.2.1 0 58 = t at et ⊢
      cases htk : tkR (tX tg len) q 58 with
      | inl c =>
        rw [htk] at et
        exact ⟨et.1, et.2⟩
      | inr q4 =>
        rw [htk] at et
        exact ⟨et.1, et.2.1, et.2.2, r4⟩
theorem hdR_le {T : Nat → Int} {L kd p V q V2 : Nat} (hT : tLn T L) (hp : p ≤ L) (hV : V ≤ 40) (h : hdR T kd p V = .inr (q, V2)) : q ≤ L ∧ V ≤ V2 ∧ V2 ≤ 40 := by
  unfold hdR at h
  by_cases c1 : kd = 5 ∨ kd = 10
  · rw [if_pos c1] at h
    have hs := skR_le hT hp
    cases hn : nuR T (skR T p) with
    | inl c => rw [hn] at h; cases h
    | inr q1 =>
      rw [hn] at h
      cases h
      have := nuR_le hT hs.2.1 hn
      omega
  · rw [if_neg c1] at h
    by_cases c2 : kd = 6 ∨ kd = 7 ∨ kd = 8
    · rw [if_pos c2] at h
      cases hs1 : suR T 41 p V with
      | inl c => rw [hs1] at h; cases h
      | inr r1 =>
        obtain ⟨q1, V1⟩ := r1
        have o := suR_ok hT _ _ _ _ _ hp hV hs1
        rw [hs1] at h
        dsimp only at h
        cases hr : reR T q1 with
        | inl c => rw [hr] at h; cases h
        | inr q2 =>
          have or_ := reR_le hT o.2.2 hr
          rw [hr] at h
          dsimp only at h
          cases hs2 : suR T 41 q2 V1 with
          | inl c => rw [hs2] at h; cases h
          | inr r2 =>
            obtain ⟨q3, V3⟩ := r2
            have o2 := suR_ok hT _ _ _ _ _ or_.2 o.2.1 hs2
            rw [hs2] at h
            dsimp only at h
            cases ht : tkR T q3 58 with
            | inl c => rw [ht] at h; cases h
            | inr q4 =>
              have ot := tkR_le hT o2.2.2 (by decide) ht
              rw [ht] at h
              cases h
              omega
    · rw [if_neg c2] at h
      by_cases c3 : kd = 9
      · rw [if_pos c3] at h
        cases hs1 : suR T 41 p V with
        | inl c => rw [hs1] at h; cases h
        | inr r1 =>
          obtain ⟨q1, V1⟩ := r1
          have o := suR_ok hT _ _ _ _ _ hp hV hs1
          rw [hs1] at h
          dsimp only at h
          cases ht : tkR T q1 58 with
          | inl c => rw [ht] at h; cases h
          | inr q2 =>
            have ot := tkR_le hT o.2.2 (by decide) ht
            rw [ht] at h
            cases h
            omega
      · rw [if_neg c3] at h
        cases h
        omega