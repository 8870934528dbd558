/-! shorten -/
/-- a FORM's list as a graph -/
def grH (T : List Hd) (w : Nat) : Hd := T.getD w noH
def grS (T : List Hd) (w : Nat) : Nat := (tcC T 4 w).toNat
theorem spl_at : ∀ {T : List Hd} {w : Nat}, w < T.length → ∃ T1 h R, T = T1 ++ h :: R ∧ T1.length = w ∧ grH T w = h := by
  intro T
  induction T with
  | nil => intro w h; exact absurd h (Nat.not_lt_zero _)
  | cons x T ih =>
    intro w h
    cases w with
    | zero => exact ⟨[], x, T, rfl, rfl, rfl⟩
    | succ w =>
      obtain ⟨T1, h2, R, e, l, g⟩ := ih (w := w) (by rw [List.length_cons] at h; omega)
      exact ⟨x :: T1, h2, R, by rw [e]; rfl, by rw [List.length_cons, l], g⟩
theorem grH_at {T1 : List Hd} {h : Hd} {R : List Hd} : grH (T1 ++ h :: R) T1.length = h := by
  induction T1 with
  | nil => rfl
  | cons x T1 ih => exact ih
theorem okT_r : ∀ {T1 : List Hd} {h : Hd} {R : List Hd} {n : Nat}, okT (T1 ++ h :: R) n → ∃ m, okT R (m + arH h) := by
  intro T1
  induction T1 with
  | nil =>
    intro h R n hk
    cases n with
    | zero => exact (show False from hk).elim
    | succ n => exact ⟨n, hk⟩
  | cons x T1 ih =>
    intro h R n hk
    cases n with
    | zero => exact (show False from hk).elim
    | succ n => exact ih (show okT (T1 ++ h :: R) (n + arH x) from hk)
theorem gr_hw {T : List Hd} (hok : okT T 1) : ∀ T1 h R, T = T1 ++ h :: R → grH T T1.length = h ∧ (1 ≤ arH h → (fun w => w + 1) T1.length = T1.length + 1) ∧ (arH h = 2 → ∀ A B, R = A ++ B → okT A 1 → grS T T1.length = T1.length + 1 + A.length) := by
  intro T1 h R e
  subst e
  refine ⟨grH_at, fun _ => rfl, fun a A B e2 hA => ?_⟩
  have q := (tcC_at hok).2.2.2 a A B e2 hA
  unfold grS
  rw [q]
  omega
theorem gr_tr {T : List Hd} (hok : okT T 1) (hl : T.length ≤ 40) : trG (grH T) (fun w => w + 1) (grS T) 41 0 = T := by
  have q := trG_T (gr_hw hok) 41 [] T [] (by omega) hok (by rw [List.append_nil]; rfl)
  exact q
theorem LCv_vd {h : Nat → Int32} {c : Cn} {N : Nat} (hL : LCv h c N) : ∀ (L : List Vl) (V : Nat), V + L.length ≤ N → (∀ i, i < L.length → ∀ a, 10 ≤ a → a ≤ 12 → c a (V + i) = vlF a (L.getD i (0, 0, 0))) → vdK h V L := by
  intro L
  induction L with
  | nil => intro V _ _; trivial
  | cons x L ih =>
    intro V hN hc
    rw [List.length_cons] at hN hc
    have h0 := hc 0 (by omega)
    obtain ⟨l1, l2⟩ := hL V (by omega)
    have c10 := h0 10 (by decide) (by decide)
    have c11 := h0 11 (by decide) (by decide)
    have c12 := h0 12 (by decide) (by decide)
    rw [Nat.add_zero] at c10 c11 c12
    rw [c10] at l1
    rw [c11, c12] at l2
    refine ⟨l1, l2, ih (V + 1) (by omega) (fun i hi a ha hb => ?_)⟩
    have := hc (i + 1) (by omega) a ha hb
    rw [List.getD_cons_succ] at this
    rw [show V + 1 + i = V + (i + 1) by omega]
    exact this
theorem nvT_le {T1 : List Hd} {h : Hd} {R : List Hd} : nvT T1 + nvH h ≤ nvT (T1 ++ h :: R) := by
  rw [nvT_app]
  show _ ≤ nvT T1 + (nvH h + nvT R)
  omega
/-- the cells of a FORM hold the graph of its list -/
theorem LC_gkN {g h : Nat → Int32} {T : List Hd} {s v : Int} (hok : okT T 1) (hv : hvT T) (hL : LC g h (tcC T) T.length (nvT T)) (es : s = T.length) (ev : v = nvT T) : gkN g h s v (grH T) (fun w => w + 1) (grS T) := by
  intro w hw
  obtain ⟨T1, x, R, e, l, gx⟩ := spl_at (T := T) (w := w) (by omega)
  have hx := hv x (by rw [e]; exact List.mem_append.mpr (Or.inr List.mem_cons_self))
  have hlw := hL.1 w (by omega)
  rw [e] at hok
  obtain ⟨o, o3, _, o4⟩ := tcC_at hok
  have hle := nvT_le (T1 := T1) (h := x) (R := R)
  rw [← e] at o o3 o4 hle
  rw [l] at o o3 o4
  obtain ⟨c0, c2, c5, c6, c7, c8, cv⟩ := o
  have hwl := hlw.1
  have hr := okT_r hok
  have hln : T.length = w + 1 + R.length := by rw [e, List.length_append, List.length_cons, l]; omega
  rw [gx]
  refine ⟨⟨by rw [hwl 0 (by decide)]; exact c0, by rw [hwl 2 (by decide)]; exact c2, by rw [hlw.2.1, c8], fun z => ?_, fun z => ?_⟩, hx, fun z => ?_, fun z => ?_⟩
  · rw [hwl 5 (by decide), hwl 6 (by decide), hwl 7 (by decide), c5, c6, c7, if_neg z, if_neg z, if_neg z]
    exact ⟨rfl, rfl, rfl⟩
  · rw [if_pos z] at c5 c6 c7
    refine ⟨nvT T1, by rw [hwl 5 (by decide)]; exact c5, by rw [hwl 6 (by decide)]; exact c6, by rw [hwl 7 (by decide)]; exact c7, by omega, ?_⟩
    exact LCv_vd hL.2 (vsH x) (nvT T1) (by rw [vsH_ln]; exact hle) (fun i hi a ha hb => cv i (by rw [vsH_ln] at hi; exact hi) a ha hb)
  · rw [hwl 3 (by decide), o3, if_neg (by omega)]
    obtain ⟨m, hm⟩ := hr
    obtain ⟨r, R2, eR⟩ := okT_ne (n := m + arH x - 1) (A := R) (by rw [show m + arH x - 1 + 1 = m + arH x by omega]; exact hm)
    rw [eR, List.length_cons] at hln
    refine ⟨?_, ?_, ?_⟩
    · show (w : Int) + 1 = ((w + 1 : Nat) : Int); omega
    · show w < w + 1; omega
    · show ((w + 1 : Nat) : Int) < s; omega
  · obtain ⟨m, hm⟩ := hr
    rw [z, show m + 2 = 1 + (m + 1) by omega] at hm
    obtain ⟨A, B2, eR, hA, hB⟩ := okT_spl hm
    obtain ⟨r, R2, eB⟩ := okT_ne hB
    have q := o4 z A B2 eR hA
    rw [eR, List.length_append, eB, List.length_cons] at hln
    have hg : grS T w = w + 1 + A.length := by unfold grS; rw [q]; omega
    rw [hwl 4 (by decide), q, hg]
    exact ⟨by omega, by omega, by omega⟩
/-- what the WORDS from p on have become: for each DEED still to be followed how many WORDS it had, its list -/
def foG (H : Nat → Hd) (fi se : Nat → Nat) (bg : Nat → Int32) : List (Nat × List Hd) → Nat → Prop
  | [], _ => True
  | (n, S) :: Fs, p => (∃ R : Nat, (bg p).toInt = R ∧ p ≤ R ∧ R < p + n ∧ trG H fi se 41 R = S) ∧ (∀ w, p ≤ w → w < p + n → (1 ≤ arH (H w) → w < fi w ∧ fi w < p + n) ∧ (arH (H w) = 2 → w < se w ∧ se w < p + n)) ∧ foG H fi se bg Fs (p + n)
theorem foG_cg {H H2 : Nat → Hd} {fi se fi2 se2 : Nat → Nat} {bg bg2 : Nat → Int32} {m : Nat} : ∀ (Fs : List (Nat × List Hd)) (p : Nat), (∀ w, p ≤ w → w < m → H2 w = H w ∧ fi2 w = fi w ∧ se2 w = se w ∧ bg2 w = bg w) → m ≤ p + 41 → (∀ n S, (n, S) ∈ Fs → 0 < n) → p + (Fs.map Prod.fst).sum ≤ m → foG H fi se bg Fs p → foG H2 fi2 se2 bg2 Fs p := by
  intro Fs
  induction Fs with
  | nil => intro p _ _ _ _ _; trivial
  | cons x Fs ih =>
    intro p e hm hn hs hf
    obtain ⟨n, S⟩ := x
    obtain ⟨⟨R, r1, r2, r3, r4⟩, f2, f3⟩ := hf
    have hs2 : p + (n + (Fs.map Prod.fst).sum) ≤ m := hs
    have h0 := hn n S List.mem_cons_self
    refine ⟨⟨R, by rw [(e p (by omega) (by omega)).2.2.2]; exact r1, r2, r3, ?_⟩, fun w w1 w2 => ?_, ih (p + n) (fun w w1 w2 => e w (by omega) w2) (by omega) (fun n S hm => hn n S (List.mem_cons_of_mem _ hm)) (by omega) f3⟩
    · rw [← r4]
      exact trG_cg (lo := p) (m := p + n) (fun w w1 w2 => f2 w w1 w2) (fun w w1 w2 => by have q := e w w1 (by omega); exact ⟨q.1, fun _ => q.2.1, fun _ => q.2.2.1⟩) 41 41 R r2 r3 (by omega) (by omega)
    · have q := e w w1 (by omega)
      rw [q.1, q.2.1, q.2.2.1]
      exact f2 w w1 w2
theorem lw_c0 {h : Hd} {A B : List Hd} (hh : hvH h) (a : arH h = 0) : lwT h A B = lwT h [] [] := by
  have := arH_k hh
  unfold lwT
  rw [if_pos (by omega), if_pos (by omega)]
theorem lw_c1 {h : Hd} {A B : List Hd} (hh : hvH h) (a : arH h = 1) : lwT h A B = lwT h A [] := by
  have := arH_k hh
  unfold lwT
  (repeat' split) <;> first | rfl | (exfalso; omega)
/-- one WORD more behind the law: from the graph of its DEEDS followed to the forest one WORD earlier -/
theorem foG_st {H H2 : Nat → Hd} {fi se : Nat → Nat} {bg : Nat → Int32} {X R m : Nat} {Fs : List (Nat × List Hd)} {r : Int32} (hh : hvH (H X)) (hXm : X < m) (hm : m ≤ 40) (hn : ∀ n S, (n, S) ∈ Fs → 0 < n) (hs : X + 1 + (Fs.map Prod.fst).sum = m) (hk : arH (H X) ≤ Fs.length)
    (hf : foG H fi se bg Fs (X + 1)) (h1 : 1 ≤ arH (H X) → (bg (X + 1)).toInt = fi X) (h2 : arH (H X) = 2 → ∀ n A Gs, Fs = (n, A) :: Gs → (bg (X + 1 + n)).toInt = se X) (hr : r.toInt = R) (ap : apO H fi se X H2 R) :
    foG H2 fi se (upd bg X r) (shS (H X) Fs) X ∧ (∀ n S, (n, S) ∈ shS (H X) Fs → 0 < n) ∧ X + ((shS (H X) Fs).map Prod.fst).sum = m := by
  obtain ⟨a1, a2, a3, a4⟩ := ap
  have hl := arH_le (h := H X)
  have ub : upd bg X r X = r := by rw [updE, if_pos rfl]
  have un : ∀ w, X < w → upd bg X r w = bg w := fun w hw => by rw [updE, if_neg (by omega)]
  by_cases c0 : arH (H X) = 0
  · unfold shS
    rw [if_pos c0]
    have eR : R = X := by rcases a2 with z | z | z | z <;> omega
    refine ⟨⟨⟨R, by rw [ub]; exact hr, by omega, by omega, by rw [a1]; exact lw_c0 hh c0⟩, fun w w1 w2 => ?_, ?_⟩, ?_, ?_⟩
    · have ew : w = X := by omega
      subst ew
      exact ⟨fun z => by have := (a4 w).1 z; omega, fun z => by have := (a4 w).2 z; omega⟩
    · exact foG_cg (m := m) Fs (X + 1) (fun w w1 w2 => ⟨a3 w (by omega) (by omega), rfl, rfl, un w (by omega)⟩) (by omega) hn (by omega) hf
    · intro n S hm2
      rcases List.mem_cons.mp hm2 with z | z
      · have : n = 1 := congrArg Prod.fst z
        omega
      · exact hn n S z
    · show X + (1 + (Fs.map Prod.fst).sum) = m; omega
  · cases Fs with
    | nil => rw [List.length_nil] at hk; omega
    | cons x Fs =>
      obtain ⟨n, A⟩ := x
      have hn0 := hn n A List.mem_cons_self
      have hs2 : X + 1 + (n + (Fs.map Prod.fst).sum) = m := hs
      obtain ⟨⟨R1, r1, r2, r3, r4⟩, f2, f3⟩ := hf
      have e1 := h1 (by omega)
      have eF : fi X = R1 := by omega
      by_cases c1 : arH (H X) = 1
      · unfold shS
        rw [if_neg c0, if_pos c1]
        have hR : X ≤ R ∧ R < X + (n + 1) := by
          rcases a2 with z | z | z | z
          · omega
          · omega
          · omega
          · have := (f2 R1 r2 r3).1 (by rw [← eF]; exact z.2.1)
            rw [eF] at z
            omega
        refine ⟨⟨⟨R, by rw [ub]; exact hr, hR.1, hR.2, ?_⟩, fun w w1 w2 => ?_, ?_⟩, ?_, ?_⟩
        · rw [a1, lw_c1 hh c1, eF, r4]
        · by_cases ew : w = X
          · subst ew
            exact ⟨fun _ => by omega, fun z => by have := (a4 w).2 z; omega⟩
          · obtain ⟨q1, q2⟩ := f2 w (by omega) (by omega)
            exact ⟨fun z => by have := q1 ((a4 w).1 z); omega, fun z => by have := q2 ((a4 w).2 z); omega⟩
        · rw [show X + (n + 1) = X + 1 + n by omega]
          exact foG_cg (m := m) Fs (X + 1 + n) (fun w w1 w2 => ⟨a3 w (by omega) (by omega), rfl, rfl, un w (by omega)⟩) (by omega) (fun n S hm => hn n S (List.mem_cons_of_mem _ hm)) (by omega) f3
        · intro k S hm2
          rcases List.mem_cons.mp hm2 with z | z
          · have : k = n + 1 := congrArg Prod.fst z
            omega
          · exact hn k S (List.mem_cons_of_mem _ z)
        · show X + (n + 1 + (Fs.map Prod.fst).sum) = m; omega
      · have c2 : arH (H X) = 2 := by omega
        cases Fs with
        | nil => rw [List.length_cons, List.length_nil] at hk; omega
        | cons y Fs =>
          obtain ⟨k, B⟩ := y
          have hk0 := hn k B (List.mem_cons_of_mem _ List.mem_cons_self)
          have hs3 : X + 1 + (n + (k + (Fs.map Prod.fst).sum)) = m := hs
          obtain ⟨⟨R2, t1, t2, t3, t4⟩, g2, g3⟩ := f3
          have e2 := h2 c2 n A ((k, B) :: Fs) rfl
          have eS : se X = R2 := by omega
          unfold shS
          rw [if_neg c0, if_neg c1]
          have hR : X ≤ R ∧ R < X + (n + k + 1) := by
            rcases a2 with z | z | z | z
            · omega
            · omega
            · omega
            · have := (f2 R1 r2 r3).1 (by rw [← eF]; exact z.2.1)
              rw [eF] at z
              omega
          refine ⟨⟨⟨R, by rw [ub]; exact hr, hR.1, hR.2, ?_⟩, fun w w1 w2 => ?_, ?_⟩, ?_, ?_⟩
          · rw [a1, eF, eS, r4, t4]
          · by_cases ew : w = X
            · subst ew
              exact ⟨fun _ => by omega, fun _ => by omega⟩
            · by_cases ec : w < X + 1 + n
              · obtain ⟨q1, q2⟩ := f2 w (by omega) ec
                exact ⟨fun z => by have := q1 ((a4 w).1 z); omega, fun z => by have := q2 ((a4 w).2 z); omega⟩
              · obtain ⟨q1, q2⟩ := g2 w (by omega) (by omega)
                exact ⟨fun z => by have := q1 ((a4 w).1 z); omega, fun z => by have := q2 ((a4 w).2 z); omega⟩
          · rw [show X + (n + k + 1) = X + 1 + n + k by omega]
            exact foG_cg (m := m) Fs (X + 1 + n + k) (fun w w1 w2 => ⟨a3 w (by omega) (by omega), rfl, rfl, un w (by omega)⟩) (by omega) (fun n S hm => hn n S (List.mem_cons_of_mem _ (List.mem_cons_of_mem _ hm))) (by omega) g3
          · intro j S hm2
            rcases List.mem_cons.mp hm2 with z | z
            · have : j = n + k + 1 := congrArg Prod.fst z
              omega
            · exact hn j S (List.mem_cons_of_mem _ (List.mem_cons_of_mem _ z))
          · show X + (n + k + 1 + (Fs.map Prod.fst).sum) = m; omega
/-- follow: the DEED of a WORD becomes what it has become -/
theorem fol_c {n1 : Nat} {g h : Nat → Int32} {s v x : Int32} {bg : Nat → Int32} {H : Nat → Hd} {fi se : Nat → Nat} {X : Nat} (hs : 0 ≤ s.toInt ∧ 13 * s.toInt ≤ n1 ∧ n1 ≤ 520) (hG : gkN g h s.toInt v.toInt H fi se) (hx : x.toInt = X) (hX : (X : Int) < s.toInt) (hb : 1 ≤ arH (H X) → ∃ R : Nat, (bg (fi X)).toInt = R ∧ X < R ∧ (R : Int) < s.toInt) :
    gkN (folF n1 g s bg x 3) h s.toInt v.toInt H (fun w => if w = X ∧ 1 ≤ arH (H X) then (bg (fi X)).toInt.toNat else fi w) se := by
  obtain ⟨ga, va, gf, gs⟩ := hG X hX
  have e0 : (0 : Int32).toInt = 0 := rfl
  have e40 : (40 : Int32).toInt = 40 := rfl
  have key : ∀ y : Int32, (1 ≤ arH (H X) → y = bg (fi X)) → gkN (upd g (13 * X + 3) y) h s.toInt v.toInt H (fun w => if w = X ∧ 1 ≤ arH (H X) then (bg (fi X)).toInt.toNat else fi w) se := fun y hy w hw => by
    obtain ⟨k1, k2, k3, k4⟩ := hG w hw
    refine ⟨?_, k2, fun z => ?_, fun z => ?_⟩
    · unfold hdK at k1 ⊢
      rw [updE, if_neg (by omega), updE, if_neg (by omega), updE, if_neg (by omega), updE, if_neg (by omega), updE, if_neg (by omega), updE, if_neg (by omega)]
      exact k1
    · dsimp only
      by_cases e : w = X
      · subst e
        obtain ⟨R, r1, r2, r3⟩ := hb z
        rw [if_pos ⟨rfl, z⟩, updE, if_pos rfl, hy z, r1]
        exact ⟨by omega, by omega, by omega⟩
      · rw [if_neg (fun q => e q.1), updE, if_neg (by omega)]
        exact k3 z
    · rw [updE, if_neg (by omega)]
      exact k4 z
  unfold folF
  rw [fldG hs hx hX (show (3 : Int32).toInt = (3 : Nat) from rfl) (by decide), stG hs hx hX (show (3 : Int32).toInt = (3 : Nat) from rfl) (by decide)]
  by_cases a : 1 ≤ arH (H X)
  · obtain ⟨q1, q2, q3⟩ := gf a
    rw [if_neg (by rw [fl_lt, e0]; omega), if_neg (by rw [fl_le, e40]; omega), cl_N q1 (by omega)]
    exact key _ (fun _ => by rw [Int.toNat_natCast])
  · have same : gkN g h s.toInt v.toInt H (fun w => if w = X ∧ 1 ≤ arH (H X) then (bg (fi X)).toInt.toNat else fi w) se := by
      have e : (fun w => if w = X ∧ 1 ≤ arH (H X) then (bg (fi X)).toInt.toNat else fi w) = fi := by
        funext w
        rw [if_neg (fun z => a z.2)]
      rw [e]
      exact hG
    split
    · exact same
    · split
      · exact same
      · exact key _ (fun z => absurd z a)
theorem fol_d {n1 : Nat} {g h : Nat → Int32} {s v x : Int32} {bg : Nat → Int32} {H : Nat → Hd} {fi se : Nat → Nat} {X : Nat} (hs : 0 ≤ s.toInt ∧ 13 * s.toInt ≤ n1 ∧ n1 ≤ 520) (hG : gkN g h s.toInt v.toInt H fi se) (hx : x.toInt = X) (hX : (X : Int) < s.toInt) (hb : arH (H X) = 2 → ∃ R : Nat, (bg (se X)).toInt = R ∧ X < R ∧ (R : Int) < s.toInt) :
    gkN (folF n1 g s bg x 4) h s.toInt v.toInt H fi (fun w => if w = X ∧ arH (H X) = 2 then (bg (se X)).toInt.toNat else se w) := by
  obtain ⟨ga, va, gf, gs⟩ := hG X hX
  have e0 : (0 : Int32).toInt = 0 := rfl
  have e40 : (40 : Int32).toInt = 40 := rfl
  have key : ∀ y : Int32, (arH (H X) = 2 → y = bg (se X)) → gkN (upd g (13 * X + 4) y) h s.toInt v.toInt H fi (fun w => if w = X ∧ arH (H X) = 2 then (bg (se X)).toInt.toNat else se w) := fun y hy w hw => by
    obtain ⟨k1, k2, k3, k4⟩ := hG w hw
    refine ⟨?_, k2, fun z => ?_, fun z => ?_⟩
    · unfold hdK at k1 ⊢
      rw [updE, if_neg (by omega), updE, if_neg (by omega), updE, if_neg (by omega), updE, if_neg (by omega), updE, if_neg (by omega), updE, if_neg (by omega)]
      exact k1
    · rw [updE, if_neg (by omega)]
      exact k3 z
    · dsimp only
      by_cases e : w = X
      · subst e
        obtain ⟨R, r1, r2, r3⟩ := hb z
        rw [if_pos ⟨rfl, z⟩, updE, if_pos rfl, hy z, r1]
        exact ⟨by omega, by omega, by omega⟩
      · rw [if_neg (fun q => e q.1), updE, if_neg (by omega)]
        exact k4 z
  unfold folF
  rw [fldG hs hx hX (show (4 : Int32).toInt = (4 : Nat) from rfl) (by decide), stG hs hx hX (show (4 : Int32).toInt = (4 : Nat) from rfl) (by decide)]
  by_cases a : arH (H X) = 2
  · obtain ⟨q1, q2, q3⟩ := gs a
    rw [if_neg (by rw [fl_lt, e0]; omega), if_neg (by rw [fl_le, e40]; omega), cl_N q1 (by omega)]
    exact key _ (fun _ => by rw [Int.toNat_natCast])
  · have same : gkN g h s.toInt v.toInt H fi (fun w => if w = X ∧ arH (H X) = 2 then (bg (se X)).toInt.toNat else se w) := by
      have e : (fun w => if w = X ∧ arH (H X) = 2 then (bg (se X)).toInt.toNat else se w) = se := by
        funext w
        rw [if_neg (fun z => a z.2)]
      rw [e]
      exact hG
    split
    · exact same
    · split
      · exact same
      · exact key _ (fun z => absurd z a)
/-- the state of the loop: WORDS from p on are done, those below are as in the list T -/
def shI (T : List Hd) (g h : Nat → Int32) (v : Int) (bg : Nat → Int32) (H : Nat → Hd) (fi se : Nat → Nat) (p : Nat) : Prop := gkN g h T.length v H fi se ∧ (∀ w, w < p → H w = grH T w ∧ fi w = w + 1 ∧ se w = grS T w) ∧ foG H fi se bg (shF (T.drop p)) p ∧ (∀ n S, (n, S) ∈ shF (T.drop p) → 0 < n) ∧ p + ((shF (T.drop p)).map Prod.fst).sum = T.length
theorem shF_n : ∀ {T : List Hd} {n : Nat}, okT T n → (shF T).length = n := by
  intro T
  induction T with
  | nil => intro n h; have e : n = 0 := h; subst e; rfl
  | cons h T ih =>
    intro n hk
    cases n with
    | zero => exact (show False from hk).elim
    | succ n =>
      have i := ih (show okT T (n + arH h) from hk)
      have hl := arH_le (h := h)
      show (shS h (shF T)).length = n + 1
      unfold shS
      by_cases c0 : arH h = 0
      · rw [if_pos c0, List.length_cons]; omega
      · rw [if_neg c0]
        by_cases c1 : arH h = 1
        · rw [if_pos c1]
          cases hq : shF T with
          | nil => rw [hq, List.length_nil] at i; omega
          | cons x Fs => rw [hq, List.length_cons] at i; rw [List.length_cons]; omega
        · rw [if_neg c1]
          cases hq : shF T with
          | nil => rw [hq, List.length_nil] at i; omega
          | cons x Fs =>
            cases Fs with
            | nil => rw [hq, List.length_cons, List.length_nil] at i; omega
            | cons y Fs => rw [hq, List.length_cons, List.length_cons] at i; rw [List.length_cons]; omega
/-- the DEEDS of the list ahead do not touch what is behind -/
theorem shF_app : ∀ {A B : List Hd} {n : Nat}, okT A n → ∃ L, shF (A ++ B) = L ++ shF B ∧ L.length = n ∧ (L.map Prod.fst).sum = A.length := by
  intro A
  induction A with
  | nil => intro B n h; have e : n = 0 := h; subst e; exact ⟨[], rfl, rfl, rfl⟩
  | cons h A ih =>
    intro B n hk
    cases n with
    | zero => exact (show False from hk).elim
    | succ n =>
      obtain ⟨L, e, l, sm⟩ := ih (B := B) (show okT A (n + arH h) from hk)
      have hl := arH_le (h := h)
      show ∃ L, shS h (shF (A ++ B)) = L ++ shF B ∧ L.length = n + 1 ∧ (L.map Prod.fst).sum = A.length + 1
      rw [e]
      by_cases c0 : arH h = 0
      · refine ⟨(1, lwT h [] []) :: L, by unfold shS; rw [if_pos c0]; rfl, by rw [List.length_cons]; omega, ?_⟩
        show 1 + (L.map Prod.fst).sum = _
        omega
      · cases L with
        | nil => rw [List.length_nil] at l; omega
        | cons x L =>
          obtain ⟨k, S⟩ := x
          have sm2 : k + (L.map Prod.fst).sum = A.length := sm
          rw [List.length_cons] at l
          by_cases c1 : arH h = 1
          · refine ⟨(k + 1, lwT h S []) :: L, by unfold shS; rw [if_neg c0, if_pos c1]; rfl, by rw [List.length_cons]; omega, ?_⟩
            show k + 1 + (L.map Prod.fst).sum = _
            omega
          · cases L with
            | nil => rw [List.length_nil] at l; omega
            | cons y L =>
              obtain ⟨j, U⟩ := y
              have sm3 : k + (j + (L.map Prod.fst).sum) = A.length := sm2
              rw [List.length_cons] at l
              refine ⟨(k + j + 1, lwT h S U) :: L, by unfold shS; rw [if_neg c0, if_neg c1]; rfl, by rw [List.length_cons]; omega, ?_⟩
              show k + j + 1 + (L.map Prod.fst).sum = _
              omega
theorem shF_1 {A B : List Hd} (hA : okT A 1) : ∃ S, shF (A ++ B) = (A.length, S) :: shF B := by
  obtain ⟨L, e, l, sm⟩ := shF_app (B := B) hA
  cases L with
  | nil => cases l
  | cons x L =>
    cases L with
    | cons y L => rw [List.length_cons, List.length_cons] at l; omega
    | nil =>
      obtain ⟨k, S⟩ := x
      have sm2 : k + 0 = A.length := sm
      exact ⟨S, by rw [e, ← sm2]; rfl⟩
theorem drop_sp {T1 : List Hd} {h : Hd} {R : List Hd} : (T1 ++ h :: R).drop T1.length = h :: R ∧ (T1 ++ h :: R).drop (T1.length + 1) = R := by
  induction T1 with
  | nil => exact ⟨rfl, rfl⟩
  | cons x T1 ih => exact ih
/-- what stands at a WORD of the list -/
theorem gr_at {T : List Hd} {X : Nat} (hok : okT T 1) (hv : hvT T) (hX : X < T.length) : ∃ a R m, T.drop X = a :: R ∧ T.drop (X + 1) = R ∧ grH T X = a ∧ hvH a ∧ okT R (m + arH a) ∧ (arH a = 2 → ∀ A B, R = A ++ B → okT A 1 → grS T X = X + 1 + A.length) := by
  obtain ⟨T1, a, R, e, l, g⟩ := spl_at hX
  obtain ⟨m, hm⟩ := okT_r (T1 := T1) (h := a) (R := R) (by rw [← e]; exact hok)
  have q := (gr_hw hok T1 a R e).2.2
  rw [l] at q
  refine ⟨a, R, m, ?_, ?_, g, hv a (by rw [e]; exact List.mem_append.mpr (Or.inr List.mem_cons_self)), hm, q⟩
  · rw [e, ← l]; exact drop_sp.1
  · rw [e, ← l]; exact drop_sp.2
theorem shI_pre {T : List Hd} {g h : Nat → Int32} {v : Int} {bg : Nat → Int32} {H : Nat → Hd} {fi se : Nat → Nat} {X : Nat} (hok : okT T 1) (hv : hvT T) (hX : X < T.length) (hI : shI T g h v bg H fi se (X + 1)) : (1 ≤ arH (H X) → fi X = X + 1 ∧ ∃ R : Nat, (bg (fi X)).toInt = R ∧ X < R ∧ R < T.length) ∧ (arH (H X) = 2 → (∀ n A Gs, shF (T.drop (X + 1)) = (n, A) :: Gs → se X = X + 1 + n) ∧ ∃ R : Nat, (bg (se X)).toInt = R ∧ X < R ∧ R < T.length) := by
  obtain ⟨hG, hlo, hf, hn, hs⟩ := hI
  obtain ⟨a, R, m, e0, e1, ea, va, hm, hse⟩ := gr_at hok hv hX
  obtain ⟨l1, l2, l3⟩ := hlo X (by omega)
  rw [e1] at hf hn hs ⊢
  rw [l1, ea, l2, l3]
  have hln := shF_n hm
  constructor
  · intro z
    refine ⟨rfl, ?_⟩
    cases hq : shF R with
    | nil => rw [hq, List.length_nil] at hln; omega
    | cons x Fs =>
      obtain ⟨n, A⟩ := x
      rw [hq] at hf hs
      obtain ⟨⟨R1, r1, r2, r3, _⟩, _, _⟩ := hf
      have hs2 : X + 1 + (n + (Fs.map Prod.fst).sum) = T.length := hs
      exact ⟨R1, r1, by omega, by omega⟩
  · intro z
    rw [z, show m + 2 = 1 + (m + 1) by omega] at hm
    obtain ⟨A, B, eR, hA, hB⟩ := okT_spl hm
    have hg := hse z A B eR hA
    obtain ⟨S, eS⟩ := shF_1 (B := B) hA
    rw [← eR] at eS
    refine ⟨fun n A2 Gs e => ?_, ?_⟩
    · rw [eS] at e
      injection e with e2 e3
      have : A.length = n := congrArg Prod.fst e2
      omega
    · rw [eS] at hf hs
      obtain ⟨_, _, f3⟩ := hf
      have hs2 : X + 1 + (A.length + ((shF B).map Prod.fst).sum) = T.length := hs
      have hlB := shF_n hB
      cases hq : shF B with
      | nil => rw [hq, List.length_nil] at hlB; omega
      | cons y Fs =>
        obtain ⟨k, U⟩ := y
        rw [hq] at f3 hs2
        obtain ⟨⟨R2, t1, t2, t3, _⟩, _, _⟩ := f3
        have hs3 : X + 1 + (A.length + (k + (Fs.map Prod.fst).sum)) = T.length := hs2
        rw [hg]
        exact ⟨R2, t1, by omega, by omega⟩
theorem shI_st {T : List Hd} {g g2 h : Nat → Int32} {v : Int} {bg : Nat → Int32} {H H2 : Nat → Hd} {fi se : Nat → Nat} {X R : Nat} {r : Int32} (hok : okT T 1) (hv : hvT T) (h4 : T.length ≤ 40) (hX : X < T.length) (hI : shI T g h v bg H fi se (X + 1))
    (hG : gkN g2 h T.length v H2 (fun w => if w = X ∧ 1 ≤ arH (H X) then (bg (fi X)).toInt.toNat else fi w) (fun w => if w = X ∧ arH (H X) = 2 then (bg (se X)).toInt.toNat else se w)) (hr : r.toInt = R)
    (ap : apO H (fun w => if w = X ∧ 1 ≤ arH (H X) then (bg (fi X)).toInt.toNat else fi w) (fun w => if w = X ∧ arH (H X) = 2 then (bg (se X)).toInt.toNat else se w) X H2 R) :
    shI T g2 h v (upd bg X r) H2 (fun w => if w = X ∧ 1 ≤ arH (H X) then (bg (fi X)).toInt.toNat else fi w) (fun w => if w = X ∧ arH (H X) = 2 then (bg (se X)).toInt.toNat else se w) X := by
  obtain ⟨p1, p2⟩ := shI_pre hok hv hX hI
  obtain ⟨hG0, hlo, hf, hn, hs⟩ := hI
  obtain ⟨a, R0, m, e0, e1, ea, va, hm, hse⟩ := gr_at hok hv hX
  obtain ⟨l1, l2, l3⟩ := hlo X (by omega)
  have hln := shF_n hm
  rw [e1] at hf hn hs p2
  have hHX : hvH (H X) := by rw [l1, ea]; exact va
  have q := foG_st (m := T.length) (Fs := shF R0) hHX hX h4 hn hs (by rw [l1, ea]; omega) (foG_cg (m := T.length) _ _ (fun w w1 w2 => ⟨rfl, if_neg (by omega), if_neg (by omega), rfl⟩) (by omega) hn (by omega) hf) (fun z => by
    obtain ⟨ef, R1, r1, _, _⟩ := p1 z
    try dsimp only
    rw [if_pos ⟨rfl, z⟩, ← ef]
    omega) (fun z n A Gs e => by
    obtain ⟨es, R2, r2, _, _⟩ := p2 z
    have en := es n A Gs e
    try dsimp only
    rw [if_pos ⟨rfl, z⟩, ← en]
    omega) hr ap
  obtain ⟨_, ap2, ap3, ap4⟩ := ap
  have eF : shF (T.drop X) = shS (H X) (shF R0) := by rw [e0, l1, ea]; rfl
  refine ⟨hG, fun w hw => ?_, by rw [eF]; exact q.1, by rw [eF]; exact q.2.1, by rw [eF]; exact q.2.2⟩
  obtain ⟨k1, k2, k3⟩ := hlo w (by omega)
  dsimp only
  rw [if_neg (by omega), if_neg (by omega)]
  refine ⟨?_, k2, k3⟩
  rw [ap3 w (by omega) (fun z => by
    obtain ⟨ef, R1, r1, r2, _⟩ := p1 z.1
    have z2 := z.2
    dsimp only at z2
    rw [if_pos ⟨rfl, z.1⟩] at z2
    omega)]
  exact k1
theorem shI_0 {T : List Hd} {g h : Nat → Int32} {v : Int} {bg : Nat → Int32} {H : Nat → Hd} {fi se : Nat → Nat} (hok : okT T 1) (hv : hvT T) (hd : dkT T [0]) (hI : shI T g h v bg H fi se 0) : ∃ R : Nat, (bg 0).toInt = R ∧ R < T.length ∧ trG H fi se 41 R = shT T := by
  obtain ⟨hG, hlo, hf, hn, hs⟩ := hI
  have e : T.drop 0 = T := rfl
  rw [e, (shT_ok hok hd hv).1] at hf
  obtain ⟨⟨R, r1, r2, r3, r4⟩, _, _⟩ := hf
  exact ⟨R, r1, by omega, r4⟩
theorem shI_n {T : List Hd} {g h : Nat → Int32} {v : Int} {bg : Nat → Int32} (hG : gkN g h T.length v (grH T) (fun w => w + 1) (grS T)) : shI T g h v bg (grH T) (fun w => w + 1) (grS T) T.length := by
  refine ⟨hG, fun w _ => ⟨rfl, rfl, rfl⟩, ?_, ?_, ?_⟩ <;> rw [List.drop_length]
  · exact trivial
  · intro n S hm; cases hm
  · rfl

set_option maxHeartbeats 4000000 in
set_option maxRecDepth 100000 in
theorem l_X3_shortenE {l : Launch} {D : va_G} {cy : Nat → ClassId} {b : Nat} {f : gMem} {la p c1 c2 bc q d1 d2 m1 m2 t t1 t2 : Nat} {qs qv : Int32} {gq hh : Nat → Int32} {T : List Hd}  (hne : p ≠ q ∧ p ≠ t ∧ q ≠ t ∧ c1 ≠ c2 ∧ c1 ≠ d1 ∧ c1 ≠ d2 ∧ c1 ≠ t1 ∧ c1 ≠ t2 ∧ c1 ≠ bc ∧ c2 ≠ d1 ∧ c2 ≠ d2 ∧ c2 ≠ t1 ∧ c2 ≠ t2 ∧ c2 ≠ bc ∧ d1 ≠ d2 ∧ d1 ≠ t1 ∧ d1 ≠ t2 ∧ d1 ≠ bc ∧ d2 ≠ t1 ∧ d2 ≠ t2 ∧ d2 ≠ bc ∧ t1 ≠ t2 ∧ t1 ≠ bc ∧ t2 ≠ bc) (hT : okT T 1 ∧ hvT T ∧ dkT T [0] ∧ T.length ≤ 40 ∧ nvT T ≤ 40) : ∀ (k : Nat) (i s v : Int32) (g h bg tg th : Nat → Int32) (ts tv : Int32) (H : Nat → Hd) (fi se : Nat → Nat) (pp : Nat) (fm : gMem), fr [p, c1, c2, bc, t, t1, t2] f fm → (fm la = some (.inr (3, [.ref p, .ref bc]))) → (fm bc = some (.inl (cy 0, 40, .inl (bg)))) → (fm p = some (.inr (2, [.ref c1, .ref c2, .int s, .int v]))) → (fm c1 = some (.inl (cy 0, 520, .inl (g)))) → (fm c2 = some (.inl (cy 0, 80, .inl (h)))) → (fm q = some (.inr (2, [.ref d1, .ref d2, .int qs, .int qv]))) → (fm d1 = some (.inl (cy 0, m1, .inl (gq)))) → (fm d2 = some (.inl (cy 0, m2, .inl (hh)))) → (fm t = some (.inr (2, [.ref t1, .ref t2, .int ts, .int tv]))) → (fm t1 = some (.inl (cy 0, 520, .inl (tg)))) → (fm t2 = some (.inl (cy 0, 80, .inl (th)))) → (0 ≤ s.toInt ∧ 13 * s.toInt ≤ 520 ∧ 520 ≤ 520) → (0 ≤ v.toInt ∧ 2 * v.toInt ≤ 80 ∧ 80 ≤ 80) → (shI T g h v.toInt bg H fi se pp) → (s.toInt = T.length) → (i.toInt + 1 = (pp : Int) ∧ pp ≤ T.length ∧ pp < k) → gG l (gRm 47 0 0) (gQf D b (pV fun f2 => ∃ (s2 v2 s3 v3 : Int32) (g2 h2 g3 h3 b2 : Nat → Int32), f2 p = some (.inr (2, [.ref c1, .ref c2, .int s2, .int v2])) ∧ f2 c1 = some (.inl (cy 0, 520, .inl (g2))) ∧ f2 c2 = some (.inl (cy 0, 80, .inl (h2))) ∧ f2 bc = some (.inl (cy 0, 40, .inl (b2))) ∧ f2 t = some (.inr (2, [.ref t1, .ref t2, .int s3, .int v3])) ∧ f2 t1 = some (.inl (cy 0, 520, .inl (g3))) ∧ f2 t2 = some (.inl (cy 0, 80, .inl (h3))) ∧ (0 ≤ s3.toInt ∧ 13 * s3.toInt ≤ 520 ∧ 520 ≤ 520) ∧ (0 ≤ v3.toInt ∧ 2 * v3.toInt ≤ 80 ∧ 80 ≤ 80) ∧ fI g3 s3.toInt ∧ s3.toInt = ((shT T).length : Nat) ∧ v3.toInt = (nvT (shT T) : Nat) ∧ LC g3 h3 (tcC (shT T)) (shT T).length (nvT (shT T)) ∧ fr [p, c1, c2, bc, t, t1, t2] f f2) 0 0) gTt D cy b cX3_shorten 4 none RX3 "shorten" (0) (0) fm 32 [(3, .int i), (0, .ref la), (1, .ref q), (2, .ref t)] [] := by
  intro k
  induction k with
  | zero =>
    intro i s v g h bg tg th ts tv H fi se pp fm hfr hla hbc hp h1 h2 hq0 hd1 hd2 ht0 ht1 ht2 hs hv hSI hsT hk
    exfalso; omega
  | succ k ih =>
    intro i s v g h bg tg th ts tv H fi se pp fm hfr hla hbc hp h1 h2 hq0 hd1 hd2 ht0 ht1 ht2 hs hv hSI hsT hk
    refine gz_iload_n dX3_shorten_32 rfl rfl ?_
    refine gz_if_lt (tgt := 65) dX3_shorten_33 (by decide) (fun c_33 => ?_) (fun c_33 => ?_)
    ·
      refine gz_aload_n dX3_shorten_65 rfl rfl ?_
      have e0 : (0 : Int32).toInt = 0 := rfl
      have hp0 : pp = 0 := by have z := c_33; rw [fl_lt] at z; omega
      subst hp0
      obtain ⟨R0, hb0, hRT, hR0⟩ := shI_0 hT.1 hT.2.1 hT.2.2.1 hSI
      have hG9 := hSI.1
      rw [← hsT] at hG9
      have gd := (shT_ok hT.1 hT.2.2.1 hT.2.1).2
      refine scX3_24 (k_X2_clear ht0) ht0 ⟨(Nat.le_of_ble_eq_true rfl), (Nat.le_of_ble_eq_true rfl)⟩ ⟨(Nat.le_of_ble_eq_true rfl), (Nat.le_of_ble_eq_true rfl)⟩ rfl rfl (Nat.le_of_ble_eq_true rfl) dX3_shorten_66 ?_
      rintro f1 ⟨ht0_1, hr1⟩
      have hla_1 : f1 la = some (.inr (3, [.ref p, .ref bc])) := hr1 _ _ hla (by simp only [List.mem_cons, List.not_mem_nil, or_false, not_or]; exact cne hla ht0 (by simp))
      have hbc_1 : f1 bc = some (.inl (cy 0, 40, .inl (bg))) := hr1 _ _ hbc (by simp only [List.mem_cons, List.not_mem_nil, or_false, not_or]; exact cne hbc ht0 (by simp))
      have hp_1 : f1 p = some (.inr (2, [.ref c1, .ref c2, .int s, .int v])) := hr1 _ _ hp (by simp only [List.mem_cons, List.not_mem_nil, or_false, not_or]; exact hne.2.1)
      have h1_1 : f1 c1 = some (.inl (cy 0, 520, .inl (g))) := hr1 _ _ h1 (by simp only [List.mem_cons, List.not_mem_nil, or_false, not_or]; exact cne h1 ht0 (by simp))
      have h2_1 : f1 c2 = some (.inl (cy 0, 80, .inl (h))) := hr1 _ _ h2 (by simp only [List.mem_cons, List.not_mem_nil, or_false, not_or]; exact cne h2 ht0 (by simp))
      have hq0_1 : f1 q = some (.inr (2, [.ref d1, .ref d2, .int qs, .int qv])) := hr1 _ _ hq0 (by simp only [List.mem_cons, List.not_mem_nil, or_false, not_or]; exact hne.2.2.1)
      have hd1_1 : f1 d1 = some (.inl (cy 0, m1, .inl (gq))) := hr1 _ _ hd1 (by simp only [List.mem_cons, List.not_mem_nil, or_false, not_or]; exact cne hd1 ht0 (by simp))
      have hd2_1 : f1 d2 = some (.inl (cy 0, m2, .inl (hh))) := hr1 _ _ hd2 (by simp only [List.mem_cons, List.not_mem_nil, or_false, not_or]; exact cne hd2 ht0 (by simp))
      have ht1_1 : f1 t1 = some (.inl (cy 0, 520, .inl (tg))) := hr1 _ _ ht1 (by simp only [List.mem_cons, List.not_mem_nil, or_false, not_or]; exact cne ht1 ht0 (by simp))
      have ht2_1 : f1 t2 = some (.inl (cy 0, 80, .inl (th))) := hr1 _ _ ht2 (by simp only [List.mem_cons, List.not_mem_nil, or_false, not_or]; exact cne ht2 ht0 (by simp))
      refine gz_aload_n dX3_shorten_69 rfl rfl ?_
      refine sgX3_14 hla_1 rfl dX3_shorten_70 ?_
      refine gz_aload_n dX3_shorten_73 rfl rfl ?_
      refine sgX3_20 hla_1 rfl dX3_shorten_74 ?_
      refine gz_iconst (v := 0) dX3_shorten_77 (by decide) ?_
      refine gz_iald hbc_1 (vin_T (v := 0) rfl (by decide) (by decide)) dX3_shorten_78 ?_
      refine gz_aload_n dX3_shorten_79 rfl rfl ?_
      refine gz_iconst (v := (-1)) dX3_shorten_80 (by decide) ?_
      have e0 : (0 : Int32).toInt = 0 := rfl
      refine scX3_27 (k_X3_copyDeedC hs hv ⟨hne.2.1, hne.2.2.2.2.2.2.1, hne.2.2.2.2.2.2.2.1, hne.2.2.2.2.2.2.2.2.2.2.2.1, hne.2.2.2.2.2.2.2.2.2.2.2.2.1, hne.2.2.2.2.2.2.2.2.2.2.2.2.2.2.2.2.2.2.2.2.2.1⟩ hG9 41 (bg (Int32.toNatClampNeg 0)) (-1) 0 0 tg th R0 0 0 0 41 false blC _ hp_1 h1_1 h2_1 ht0_1 ht1_1 ht2_1 ⟨by omega, by omega, by omega⟩ ⟨by omega, by omega, by omega⟩ (fun i hi => absurd hi (by omega)) (by omega) ⟨hb0, by omega⟩ (by omega) rfl rfl (by rw [hR0]; exact ⟨by have := gd.2.2.1; omega, by have := gd.2.2.2.1; omega, gd.2.2.2.2⟩) ⟨fun w hw => absurd hw (by omega), fun i hi => absurd hi (by omega)⟩ (Or.inl ⟨rfl, rfl⟩)) ⟨(Nat.le_of_ble_eq_true rfl), (Nat.le_of_ble_eq_true rfl)⟩ ⟨(Nat.le_of_ble_eq_true rfl), (Nat.le_of_ble_eq_true rfl)⟩ rfl rfl (Nat.le_of_ble_eq_true rfl) dX3_shorten_81 ?_
      rintro f2 ⟨s_2, v_2, g_2, h_2, ht0_2, ht1_2, ht2_2, hs_2, hv_2, hI_2, hsn_2, hvn_2, hLn_2, hr2⟩
      have hla_2 : f2 la = some (.inr (3, [.ref p, .ref bc])) := hr2 _ _ hla_1 (by simp only [List.mem_cons, List.not_mem_nil, or_false, not_or]; exact ⟨cne hla_1 ht0_1 (by simp), cne hla_1 ht1_1 (by simp), cne hla_1 ht2_1 (by simp)⟩)
      have hbc_2 : f2 bc = some (.inl (cy 0, 40, .inl (bg))) := hr2 _ _ hbc_1 (by simp only [List.mem_cons, List.not_mem_nil, or_false, not_or]; exact ⟨cne hbc_1 ht0_1 (by simp), Ne.symm (hne.2.2.2.2.2.2.2.2.2.2.2.2.2.2.2.2.2.2.2.2.2.2.1), Ne.symm (hne.2.2.2.2.2.2.2.2.2.2.2.2.2.2.2.2.2.2.2.2.2.2.2)⟩)
      have hp_2 : f2 p = some (.inr (2, [.ref c1, .ref c2, .int s, .int v])) := hr2 _ _ hp_1 (by simp only [List.mem_cons, List.not_mem_nil, or_false, not_or]; exact ⟨hne.2.1, cne hp_1 ht1_1 (by simp), cne hp_1 ht2_1 (by simp)⟩)
      have h1_2 : f2 c1 = some (.inl (cy 0, 520, .inl (g))) := hr2 _ _ h1_1 (by simp only [List.mem_cons, List.not_mem_nil, or_false, not_or]; exact ⟨cne h1_1 ht0_1 (by simp), hne.2.2.2.2.2.2.1, hne.2.2.2.2.2.2.2.1⟩)
      have h2_2 : f2 c2 = some (.inl (cy 0, 80, .inl (h))) := hr2 _ _ h2_1 (by simp only [List.mem_cons, List.not_mem_nil, or_false, not_or]; exact ⟨cne h2_1 ht0_1 (by simp), hne.2.2.2.2.2.2.2.2.2.2.2.1, hne.2.2.2.2.2.2.2.2.2.2.2.2.1⟩)
      have hq0_2 : f2 q = some (.inr (2, [.ref d1, .ref d2, .int qs, .int qv])) := hr2 _ _ hq0_1 (by simp only [List.mem_cons, List.not_mem_nil, or_false, not_or]; exact ⟨hne.2.2.1, cne hq0_1 ht1_1 (by simp), cne hq0_1 ht2_1 (by simp)⟩)
      have hd1_2 : f2 d1 = some (.inl (cy 0, m1, .inl (gq))) := hr2 _ _ hd1_1 (by simp only [List.mem_cons, List.not_mem_nil, or_false, not_or]; exact ⟨cne hd1_1 ht0_1 (by simp), hne.2.2.2.2.2.2.2.2.2.2.2.2.2.2.2.1, hne.2.2.2.2.2.2.2.2.2.2.2.2.2.2.2.2.1⟩)
      have hd2_2 : f2 d2 = some (.inl (cy 0, m2, .inl (hh))) := hr2 _ _ hd2_1 (by simp only [List.mem_cons, List.not_mem_nil, or_false, not_or]; exact ⟨cne hd2_1 ht0_1 (by simp), hne.2.2.2.2.2.2.2.2.2.2.2.2.2.2.2.2.2.2.1, hne.2.2.2.2.2.2.2.2.2.2.2.2.2.2.2.2.2.2.2.1⟩)
      exact gz_vret rfl dX3_shorten_84 (Nat.le_of_ble_eq_true rfl) (Nat.le_of_ble_eq_true rfl) (⟨rfl, _, _, _, _, _, _, _, _, _, hp_2, h1_2, h2_2, hbc_2, ht0_2, ht1_2, ht2_2, hs_2, hv_2, hI_2, (by have z := hsn_2; rw [hR0] at z; omega), (by have z := hvn_2; rw [hR0] at z; omega), (by have z := hLn_2; rw [hR0] at z; simp only [Nat.zero_add] at z; exact z), (fr_tr (fr_tr hfr (fr_mo hr1 (by simp))) (fr_mo hr2 (by simp)))⟩)
    ·
      refine gz_aload_n dX3_shorten_36 rfl rfl ?_
      refine gz_iload_n dX3_shorten_37 rfl rfl ?_
      refine gz_iconst (v := 3) dX3_shorten_38 (by decide) ?_
      have e0 : (0 : Int32).toInt = 0 := rfl
      have hi0 : 0 ≤ i.toInt := by have z := c_33; rw [fl_lt] at z; omega
      obtain ⟨X, eX⟩ : ∃ X, pp = X + 1 := ⟨pp - 1, by omega⟩
      subst eX
      have hX : i.toInt = X := by omega
      have hXT : X < T.length := by omega
      have hXs : (X : Int) < s.toInt := by omega
      have hG0 := hSI.1
      rw [← hsT] at hG0
      obtain ⟨pa, pb⟩ := shI_pre hT.1 hT.2.1 hXT hSI
      obtain ⟨x1, hx1⟩ : ∃ x0, (folF 520 g s bg i 3) = x0 := ⟨_, rfl⟩
      refine scX3_41 (k_X3_follow (x := i) (y := 3) hla hbc hp h1 hs (Ne.symm hne.2.2.2.2.2.2.2.2.1)) hla ⟨(Nat.le_of_ble_eq_true rfl), (Nat.le_of_ble_eq_true rfl)⟩ ⟨(Nat.le_of_ble_eq_true rfl), (Nat.le_of_ble_eq_true rfl)⟩ rfl rfl (Nat.le_of_ble_eq_true rfl) dX3_shorten_39 ?_
      rintro f3 ⟨h1_3, hr3⟩; rw [hx1] at h1_3
      have hla_3 : f3 la = some (.inr (3, [.ref p, .ref bc])) := hr3 _ _ hla (by simp only [List.mem_cons, List.not_mem_nil, or_false, not_or]; exact cne hla h1 (by simp))
      have hbc_3 : f3 bc = some (.inl (cy 0, 40, .inl (bg))) := hr3 _ _ hbc (by simp only [List.mem_cons, List.not_mem_nil, or_false, not_or]; exact Ne.symm (hne.2.2.2.2.2.2.2.2.1))
      have hp_3 : f3 p = some (.inr (2, [.ref c1, .ref c2, .int s, .int v])) := hr3 _ _ hp (by simp only [List.mem_cons, List.not_mem_nil, or_false, not_or]; exact cne hp h1 (by simp))
      have h2_3 : f3 c2 = some (.inl (cy 0, 80, .inl (h))) := hr3 _ _ h2 (by simp only [List.mem_cons, List.not_mem_nil, or_false, not_or]; exact Ne.symm (hne.2.2.2.1))
      have hq0_3 : f3 q = some (.inr (2, [.ref d1, .ref d2, .int qs, .int qv])) := hr3 _ _ hq0 (by simp only [List.mem_cons, List.not_mem_nil, or_false, not_or]; exact cne hq0 h1 (by simp))
      have hd1_3 : f3 d1 = some (.inl (cy 0, m1, .inl (gq))) := hr3 _ _ hd1 (by simp only [List.mem_cons, List.not_mem_nil, or_false, not_or]; exact Ne.symm (hne.2.2.2.2.1))
      have hd2_3 : f3 d2 = some (.inl (cy 0, m2, .inl (hh))) := hr3 _ _ hd2 (by simp only [List.mem_cons, List.not_mem_nil, or_false, not_or]; exact Ne.symm (hne.2.2.2.2.2.1))
      have ht0_3 : f3 t = some (.inr (2, [.ref t1, .ref t2, .int ts, .int tv])) := hr3 _ _ ht0 (by simp only [List.mem_cons, List.not_mem_nil, or_false, not_or]; exact cne ht0 h1 (by simp))
      have ht1_3 : f3 t1 = some (.inl (cy 0, 520, .inl (tg))) := hr3 _ _ ht1 (by simp only [List.mem_cons, List.not_mem_nil, or_false, not_or]; exact Ne.symm (hne.2.2.2.2.2.2.1))
      have ht2_3 : f3 t2 = some (.inl (cy 0, 80, .inl (th))) := hr3 _ _ ht2 (by simp only [List.mem_cons, List.not_mem_nil, or_false, not_or]; exact Ne.symm (hne.2.2.2.2.2.2.2.1))
      have hG1 := fol_c (bg := bg) hs hG0 hX hXs (fun z => by obtain ⟨_, R, r1, r2, r3⟩ := pa z; exact ⟨R, r1, r2, by omega⟩)
      rw [hx1] at hG1
      refine gz_aload_n dX3_shorten_42 rfl rfl ?_
      refine gz_iload_n dX3_shorten_43 rfl rfl ?_
      refine gz_iconst (v := 4) dX3_shorten_44 (by decide) ?_
      obtain ⟨x2, hx2⟩ : ∃ x0, (folF 520 x1 s bg i 4) = x0 := ⟨_, rfl⟩
      refine scX3_41 (k_X3_follow (x := i) (y := 4) hla_3 hbc_3 hp_3 h1_3 hs (Ne.symm hne.2.2.2.2.2.2.2.2.1)) hla_3 ⟨(Nat.le_of_ble_eq_true rfl), (Nat.le_of_ble_eq_true rfl)⟩ ⟨(Nat.le_of_ble_eq_true rfl), (Nat.le_of_ble_eq_true rfl)⟩ rfl rfl (Nat.le_of_ble_eq_true rfl) dX3_shorten_45 ?_
      rintro f4 ⟨h1_4, hr4⟩; rw [hx2] at h1_4
      have hla_4 : f4 la = some (.inr (3, [.ref p, .ref bc])) := hr4 _ _ hla_3 (by simp only [List.mem_cons, List.not_mem_nil, or_false, not_or]; exact cne hla_3 h1_3 (by simp))
      have hbc_4 : f4 bc = some (.inl (cy 0, 40, .inl (bg))) := hr4 _ _ hbc_3 (by simp only [List.mem_cons, List.not_mem_nil, or_false, not_or]; exact Ne.symm (hne.2.2.2.2.2.2.2.2.1))
      have hp_4 : f4 p = some (.inr (2, [.ref c1, .ref c2, .int s, .int v])) := hr4 _ _ hp_3 (by simp only [List.mem_cons, List.not_mem_nil, or_false, not_or]; exact cne hp_3 h1_3 (by simp))
      have h2_4 : f4 c2 = some (.inl (cy 0, 80, .inl (h))) := hr4 _ _ h2_3 (by simp only [List.mem_cons, List.not_mem_nil, or_false, not_or]; exact Ne.symm (hne.2.2.2.1))
      have hq0_4 : f4 q = some (.inr (2, [.ref d1, .ref d2, .int qs, .int qv])) := hr4 _ _ hq0_3 (by simp only [List.mem_cons, List.not_mem_nil, or_false, not_or]; exact cne hq0_3 h1_3 (by simp))
      have hd1_4 : f4 d1 = some (.inl (cy 0, m1, .inl (gq))) := hr4 _ _ hd1_3 (by simp only [List.mem_cons, List.not_mem_nil, or_false, not_or]; exact Ne.symm (hne.2.2.2.2.1))
      have hd2_4 : f4 d2 = some (.inl (cy 0, m2, .inl (hh))) := hr4 _ _ hd2_3 (by simp only [List.mem_cons, List.not_mem_nil, or_false, not_or]; exact Ne.symm (hne.2.2.2.2.2.1))
      have ht0_4 : f4 t = some (.inr (2, [.ref t1, .ref t2, .int ts, .int tv])) := hr4 _ _ ht0_3 (by simp only [List.mem_cons, List.not_mem_nil, or_false, not_or]; exact cne ht0_3 h1_3 (by simp))
      have ht1_4 : f4 t1 = some (.inl (cy 0, 520, .inl (tg))) := hr4 _ _ ht1_3 (by simp only [List.mem_cons, List.not_mem_nil, or_false, not_or]; exact Ne.symm (hne.2.2.2.2.2.2.1))
      have ht2_4 : f4 t2 = some (.inl (cy 0, 80, .inl (th))) := hr4 _ _ ht2_3 (by simp only [List.mem_cons, List.not_mem_nil, or_false, not_or]; exact Ne.symm (hne.2.2.2.2.2.2.2.1))
      have hG2 := fol_d (bg := bg) hs hG1 hX hXs (fun z => by obtain ⟨_, R, r1, r2, r3⟩ := pb z; exact ⟨R, r1, r2, by omega⟩)
      rw [hx2] at hG2
      refine gz_aload_n dX3_shorten_48 rfl rfl ?_
      refine sgX3_20 hla_4 rfl dX3_shorten_49 ?_
      refine gz_iload_n dX3_shorten_52 rfl rfl ?_
      refine gz_aload_n dX3_shorten_53 rfl rfl ?_
      refine gz_iload_n dX3_shorten_54 rfl rfl ?_
      refine scX3_44 (k_X3_applyE (x := i) (X := X) hla_4 hp_4 h1_4 h2_4 hs hv hne.2.2.2.1 hG2 ⟨hX, hXs⟩) hla_4 ⟨(Nat.le_of_ble_eq_true rfl), (Nat.le_of_ble_eq_true rfl)⟩ ⟨(Nat.le_of_ble_eq_true rfl), (Nat.le_of_ble_eq_true rfl)⟩ rfl rfl (Nat.le_of_ble_eq_true rfl) dX3_shorten_55 ?_
      rintro r5 f5 ⟨g_5, H_5, R_5, h1_5, hGa_5, hRr_5, hAp_5, hr5⟩
      have hla_5 : f5 la = some (.inr (3, [.ref p, .ref bc])) := hr5 _ _ hla_4 (by simp only [List.mem_cons, List.not_mem_nil, or_false, not_or]; exact cne hla_4 h1_4 (by simp))
      have hbc_5 : f5 bc = some (.inl (cy 0, 40, .inl (bg))) := hr5 _ _ hbc_4 (by simp only [List.mem_cons, List.not_mem_nil, or_false, not_or]; exact Ne.symm (hne.2.2.2.2.2.2.2.2.1))
      have hp_5 : f5 p = some (.inr (2, [.ref c1, .ref c2, .int s, .int v])) := hr5 _ _ hp_4 (by simp only [List.mem_cons, List.not_mem_nil, or_false, not_or]; exact cne hp_4 h1_4 (by simp))
      have h2_5 : f5 c2 = some (.inl (cy 0, 80, .inl (h))) := hr5 _ _ h2_4 (by simp only [List.mem_cons, List.not_mem_nil, or_false, not_or]; exact Ne.symm (hne.2.2.2.1))
      have hq0_5 : f5 q = some (.inr (2, [.ref d1, .ref d2, .int qs, .int qv])) := hr5 _ _ hq0_4 (by simp only [List.mem_cons, List.not_mem_nil, or_false, not_or]; exact cne hq0_4 h1_4 (by simp))
      have hd1_5 : f5 d1 = some (.inl (cy 0, m1, .inl (gq))) := hr5 _ _ hd1_4 (by simp only [List.mem_cons, List.not_mem_nil, or_false, not_or]; exact Ne.symm (hne.2.2.2.2.1))
      have hd2_5 : f5 d2 = some (.inl (cy 0, m2, .inl (hh))) := hr5 _ _ hd2_4 (by simp only [List.mem_cons, List.not_mem_nil, or_false, not_or]; exact Ne.symm (hne.2.2.2.2.2.1))
      have ht0_5 : f5 t = some (.inr (2, [.ref t1, .ref t2, .int ts, .int tv])) := hr5 _ _ ht0_4 (by simp only [List.mem_cons, List.not_mem_nil, or_false, not_or]; exact cne ht0_4 h1_4 (by simp))
      have ht1_5 : f5 t1 = some (.inl (cy 0, 520, .inl (tg))) := hr5 _ _ ht1_4 (by simp only [List.mem_cons, List.not_mem_nil, or_false, not_or]; exact Ne.symm (hne.2.2.2.2.2.2.1))
      have ht2_5 : f5 t2 = some (.inl (cy 0, 80, .inl (th))) := hr5 _ _ ht2_4 (by simp only [List.mem_cons, List.not_mem_nil, or_false, not_or]; exact Ne.symm (hne.2.2.2.2.2.2.2.1))
      refine gz_iast hbc_5 ((by have e0 : (0 : Int32).toInt = 0 := rfl; exact vin_T (rfl : i.toInt = i.toInt) (by omega) (by omega))) dX3_shorten_58 ?_
      obtain ⟨f6, hf6⟩ : ∃ gg : gMem, gg = va_up f5 bc (some (.inl (cy 0, 40, .inl (upd bg (Int32.toNatClampNeg i) r5)))) := ⟨_, rfl⟩
      refine gz_eq (f2 := f6) hf6.symm rfl rfl rfl ?_
      have hla_6 : f6 la = some (.inr (3, [.ref p, .ref bc])) := by rw [hf6, va_up_ne _ _ (cne hla_5 hbc_5 (by simp))]; exact hla_5
      have hp_6 : f6 p = some (.inr (2, [.ref c1, .ref c2, .int s, .int v])) := by rw [hf6, va_up_ne _ _ (cne hp_5 hbc_5 (by simp))]; exact hp_5
      have h2_6 : f6 c2 = some (.inl (cy 0, 80, .inl (h))) := by rw [hf6, va_up_ne _ _ (hne.2.2.2.2.2.2.2.2.2.2.2.2.2.1)]; exact h2_5
      have hq0_6 : f6 q = some (.inr (2, [.ref d1, .ref d2, .int qs, .int qv])) := by rw [hf6, va_up_ne _ _ (cne hq0_5 hbc_5 (by simp))]; exact hq0_5
      have hd1_6 : f6 d1 = some (.inl (cy 0, m1, .inl (gq))) := by rw [hf6, va_up_ne _ _ (hne.2.2.2.2.2.2.2.2.2.2.2.2.2.2.2.2.2.1)]; exact hd1_5
      have hd2_6 : f6 d2 = some (.inl (cy 0, m2, .inl (hh))) := by rw [hf6, va_up_ne _ _ (hne.2.2.2.2.2.2.2.2.2.2.2.2.2.2.2.2.2.2.2.2.1)]; exact hd2_5
      have ht0_6 : f6 t = some (.inr (2, [.ref t1, .ref t2, .int ts, .int tv])) := by rw [hf6, va_up_ne _ _ (cne ht0_5 hbc_5 (by simp))]; exact ht0_5
      have ht1_6 : f6 t1 = some (.inl (cy 0, 520, .inl (tg))) := by rw [hf6, va_up_ne _ _ (hne.2.2.2.2.2.2.2.2.2.2.2.2.2.2.2.2.2.2.2.2.2.2.1)]; exact ht1_5
      have ht2_6 : f6 t2 = some (.inl (cy 0, 80, .inl (th))) := by rw [hf6, va_up_ne _ _ (hne.2.2.2.2.2.2.2.2.2.2.2.2.2.2.2.2.2.2.2.2.2.2.2)]; exact ht2_5
      have h1_6 : f6 c1 = some (.inl (cy 0, 520, .inl (g_5))) := by rw [hf6, va_up_ne _ _ (hne.2.2.2.2.2.2.2.2.1)]; exact h1_5
      have hbc_6 : f6 bc = some (.inl (cy 0, 40, .inl (upd bg (Int32.toNatClampNeg i) r5))) := by rw [hf6]; exact va_up_self _ _ _
      refine gz_iinc (v := (i + (-1))) (lv' := [(3, .int (i + (-1))), (0, .ref la), (1, .ref q), (2, .ref t)]) dX3_shorten_59 rfl (congrArg (fun z => i + z) oi_m1) (by decide) rfl ?_
      refine gz_goto (tgt := 32) dX3_shorten_62 (by decide) ?_
      refine gz_sub (lv' := [(3, .int (i + (-1))), (0, .ref la), (1, .ref q), (2, .ref t)]) (by simp [List.lookup]) ?_
      have hi3 : i.toInt ≤ 2147483647 := by omega
      have hi4 : -2147483647 ≤ i.toInt := by omega
      have hSI2 := shI_st hT.1 hT.2.1 hT.2.2.2.1 hXT hSI (by rw [← hsT]; exact hGa_5) hRr_5.1 hAp_5
      have ecl : i.toNatClampNeg = X := by rw [cl_N (rfl : i.toInt = _) hi0]; omega
      have hx2 : (i + (-1)).toInt = i.toInt - 1 := T_dec hi4 hi3
      generalize i + (-1) = j at hx2 ⊢
      exact ih j s v g_5 h (upd bg (Int32.toNatClampNeg i) r5) tg th ts tv H_5 (fun w => if w = X ∧ 1 ≤ arH (H X) then (bg (fi X)).toInt.toNat else fi w) (fun w => if w = X ∧ arH (H X) = 2 then (bg (se X)).toInt.toNat else se w) X _ (by rw [hf6]; exact fr_up (fr_tr (fr_tr (fr_tr hfr (fr_mo hr3 (by simp))) (fr_mo hr4 (by simp))) (fr_mo hr5 (by simp))) (by simp)) hla_6 hbc_6 hp_6 h1_6 h2_6 hq0_6 hd1_6 hd2_6 ht0_6 ht1_6 ht2_6 (hs) (hv) ((by rw [ecl]; exact hSI2)) (hsT) ((by omega))

set_option maxHeartbeats 4000000 in
set_option maxRecDepth 100000 in
theorem k_X3_shortenE {l : Launch} {D : va_G} {cy : Nat → ClassId} {b : Nat} {f : gMem} {la p c1 c2 bc q d1 d2 m1 m2 t t1 t2 : Nat} {s v qs qv ts tv : Int32} {g h bg gq hh tg th : Nat → Int32} {T : List Hd} (hla : f la = some (.inr (3, [.ref p, .ref bc]))) (hbc : f bc = some (.inl (cy 0, 40, .inl (bg)))) (hp : f p = some (.inr (2, [.ref c1, .ref c2, .int s, .int v]))) (h1 : f c1 = some (.inl (cy 0, 520, .inl (g)))) (h2 : f c2 = some (.inl (cy 0, 80, .inl (h)))) (hq0 : f q = some (.inr (2, [.ref d1, .ref d2, .int qs, .int qv]))) (hd1 : f d1 = some (.inl (cy 0, m1, .inl (gq)))) (hd2 : f d2 = some (.inl (cy 0, m2, .inl (hh)))) (ht0 : f t = some (.inr (2, [.ref t1, .ref t2, .int ts, .int tv]))) (ht1 : f t1 = some (.inl (cy 0, 520, .inl (tg)))) (ht2 : f t2 = some (.inl (cy 0, 80, .inl (th)))) (hne : p ≠ q ∧ p ≠ t ∧ q ≠ t ∧ c1 ≠ c2 ∧ c1 ≠ d1 ∧ c1 ≠ d2 ∧ c1 ≠ t1 ∧ c1 ≠ t2 ∧ c1 ≠ bc ∧ c2 ≠ d1 ∧ c2 ≠ d2 ∧ c2 ≠ t1 ∧ c2 ≠ t2 ∧ c2 ≠ bc ∧ d1 ≠ d2 ∧ d1 ≠ t1 ∧ d1 ≠ t2 ∧ d1 ≠ bc ∧ d2 ≠ t1 ∧ d2 ≠ t2 ∧ d2 ≠ bc ∧ t1 ≠ t2 ∧ t1 ≠ bc ∧ t2 ≠ bc) (hT : okT T 1 ∧ hvT T ∧ dkT T [0] ∧ T.length ≤ 40 ∧ nvT T ≤ 40) (hqs : 0 ≤ qs.toInt ∧ 13 * qs.toInt ≤ m1 ∧ m1 ≤ 520) (hqv : 0 ≤ qv.toInt ∧ 2 * qv.toInt ≤ m2 ∧ m2 ≤ 80) (hqT : qs.toInt = T.length ∧ qv.toInt = nvT T) (hLC : LC gq hh (tcC T) T.length (nvT T)) : gC l D cy b yX3_shorten cX3_shorten 4 none 47 0 0 [.ref la, .ref q, .ref t] f (pV fun f2 => ∃ (s2 v2 s3 v3 : Int32) (g2 h2 g3 h3 b2 : Nat → Int32), f2 p = some (.inr (2, [.ref c1, .ref c2, .int s2, .int v2])) ∧ f2 c1 = some (.inl (cy 0, 520, .inl (g2))) ∧ f2 c2 = some (.inl (cy 0, 80, .inl (h2))) ∧ f2 bc = some (.inl (cy 0, 40, .inl (b2))) ∧ f2 t = some (.inr (2, [.ref t1, .ref t2, .int s3, .int v3])) ∧ f2 t1 = some (.inl (cy 0, 520, .inl (g3))) ∧ f2 t2 = some (.inl (cy 0, 80, .inl (h3))) ∧ (0 ≤ s3.toInt ∧ 13 * s3.toInt ≤ 520 ∧ 520 ≤ 520) ∧ (0 ≤ v3.toInt ∧ 2 * v3.toInt ≤ 80 ∧ 80 ≤ 80) ∧ fI g3 s3.toInt ∧ s3.toInt = ((shT T).length : Nat) ∧ v3.toInt = (nvT (shT T) : Nat) ∧ LC g3 h3 (tcC (shT T)) (shT T).length (nvT (shT T)) ∧ fr [p, c1, c2, bc, t, t1, t2] f f2) := by
  refine gC_of (by decide) (Nat.le_of_ble_eq_true rfl) ?_
  show gG l _ _ _ D cy b cX3_shorten 4 _ RX3 "shorten" 0 0 f 0 [(0, .ref la), (1, .ref q), (2, .ref t)] []
  refine gz_aload_n dX3_shorten_0 rfl rfl ?_
  refine sgX3_14 hla rfl dX3_shorten_1 ?_
  refine scX3_24 (k_X2_clear hp) hp ⟨(Nat.le_of_ble_eq_true rfl), (Nat.le_of_ble_eq_true rfl)⟩ ⟨(Nat.le_of_ble_eq_true rfl), (Nat.le_of_ble_eq_true rfl)⟩ rfl rfl (Nat.le_of_ble_eq_true rfl) dX3_shorten_4 ?_
  rintro f1 ⟨hp_1, hr1⟩
  have hla_1 : f1 la = some (.inr (3, [.ref p, .ref bc])) := hr1 _ _ hla (by simp only [List.mem_cons, List.not_mem_nil, or_false, not_or]; exact cne hla hp (by simp))
  have hbc_1 : f1 bc = some (.inl (cy 0, 40, .inl (bg))) := hr1 _ _ hbc (by simp only [List.mem_cons, List.not_mem_nil, or_false, not_or]; exact cne hbc hp (by simp))
  have h1_1 : f1 c1 = some (.inl (cy 0, 520, .inl (g))) := hr1 _ _ h1 (by simp only [List.mem_cons, List.not_mem_nil, or_false, not_or]; exact cne h1 hp (by simp))
  have h2_1 : f1 c2 = some (.inl (cy 0, 80, .inl (h))) := hr1 _ _ h2 (by simp only [List.mem_cons, List.not_mem_nil, or_false, not_or]; exact cne h2 hp (by simp))
  have hq0_1 : f1 q = some (.inr (2, [.ref d1, .ref d2, .int qs, .int qv])) := hr1 _ _ hq0 (by simp only [List.mem_cons, List.not_mem_nil, or_false, not_or]; exact Ne.symm (hne.1))
  have hd1_1 : f1 d1 = some (.inl (cy 0, m1, .inl (gq))) := hr1 _ _ hd1 (by simp only [List.mem_cons, List.not_mem_nil, or_false, not_or]; exact cne hd1 hp (by simp))
  have hd2_1 : f1 d2 = some (.inl (cy 0, m2, .inl (hh))) := hr1 _ _ hd2 (by simp only [List.mem_cons, List.not_mem_nil, or_false, not_or]; exact cne hd2 hp (by simp))
  have ht0_1 : f1 t = some (.inr (2, [.ref t1, .ref t2, .int ts, .int tv])) := hr1 _ _ ht0 (by simp only [List.mem_cons, List.not_mem_nil, or_false, not_or]; exact Ne.symm (hne.2.1))
  have ht1_1 : f1 t1 = some (.inl (cy 0, 520, .inl (tg))) := hr1 _ _ ht1 (by simp only [List.mem_cons, List.not_mem_nil, or_false, not_or]; exact cne ht1 hp (by simp))
  have ht2_1 : f1 t2 = some (.inl (cy 0, 80, .inl (th))) := hr1 _ _ ht2 (by simp only [List.mem_cons, List.not_mem_nil, or_false, not_or]; exact cne ht2 hp (by simp))
  refine gz_aload_n dX3_shorten_7 rfl rfl ?_
  refine gz_iconst (v := 0) dX3_shorten_8 (by decide) ?_
  refine gz_aload_n dX3_shorten_9 rfl rfl ?_
  refine sgX3_14 hla_1 rfl dX3_shorten_10 ?_
  refine gz_iconst (v := (-1)) dX3_shorten_13 (by decide) ?_
  have hG0 := LC_gkN hT.1 hT.2.1 hLC hqT.1 hqT.2
  have etr := gr_tr hT.1 hT.2.2.2.1
  obtain ⟨z0, B0, eT0⟩ := okT_ne hT.1
  have hTl : 1 ≤ T.length := by rw [eT0, List.length_cons]; omega
  have e0 : (0 : Int32).toInt = 0 := rfl
  refine scX3_27 (k_X3_copyDeedC hqs hqv ⟨(Ne.symm hne.1), (Ne.symm hne.2.2.2.2.1), (Ne.symm hne.2.2.2.2.2.2.2.2.2.1), (Ne.symm hne.2.2.2.2.2.1), (Ne.symm hne.2.2.2.2.2.2.2.2.2.2.1), hne.2.2.2.1⟩ hG0 41 0 (-1) 0 0 g h 0 0 0 0 41 false blC _ hq0_1 hd1_1 hd2_1 hp_1 h1_1 h2_1 ⟨by omega, by omega, by omega⟩ ⟨by omega, by omega, by omega⟩ (fun i hi => absurd hi (by omega)) (by omega) ⟨rfl, by omega⟩ (by omega) rfl rfl (by rw [etr]; exact ⟨by omega, by omega, hT.2.2.1⟩) ⟨fun w hw => absurd hw (by omega), fun i hi => absurd hi (by omega)⟩ (Or.inl ⟨rfl, rfl⟩)) ⟨(Nat.le_of_ble_eq_true rfl), (Nat.le_of_ble_eq_true rfl)⟩ ⟨(Nat.le_of_ble_eq_true rfl), (Nat.le_of_ble_eq_true rfl)⟩ rfl rfl (Nat.le_of_ble_eq_true rfl) dX3_shorten_14 ?_
  rintro f2 ⟨s_2, v_2, g_2, h_2, hp_2, h1_2, h2_2, hs_2, hv_2, hI_2, hsn_2, hvn_2, hLn_2, hr2⟩
  have hla_2 : f2 la = some (.inr (3, [.ref p, .ref bc])) := hr2 _ _ hla_1 (by simp only [List.mem_cons, List.not_mem_nil, or_false, not_or]; exact ⟨cne hla_1 hp_1 (by simp), cne hla_1 h1_1 (by simp), cne hla_1 h2_1 (by simp)⟩)
  have hbc_2 : f2 bc = some (.inl (cy 0, 40, .inl (bg))) := hr2 _ _ hbc_1 (by simp only [List.mem_cons, List.not_mem_nil, or_false, not_or]; exact ⟨cne hbc_1 hp_1 (by simp), Ne.symm (hne.2.2.2.2.2.2.2.2.1), Ne.symm (hne.2.2.2.2.2.2.2.2.2.2.2.2.2.1)⟩)
  have hq0_2 : f2 q = some (.inr (2, [.ref d1, .ref d2, .int qs, .int qv])) := hr2 _ _ hq0_1 (by simp only [List.mem_cons, List.not_mem_nil, or_false, not_or]; exact ⟨Ne.symm (hne.1), cne hq0_1 h1_1 (by simp), cne hq0_1 h2_1 (by simp)⟩)
  have hd1_2 : f2 d1 = some (.inl (cy 0, m1, .inl (gq))) := hr2 _ _ hd1_1 (by simp only [List.mem_cons, List.not_mem_nil, or_false, not_or]; exact ⟨cne hd1_1 hp_1 (by simp), Ne.symm (hne.2.2.2.2.1), Ne.symm (hne.2.2.2.2.2.2.2.2.2.1)⟩)
  have hd2_2 : f2 d2 = some (.inl (cy 0, m2, .inl (hh))) := hr2 _ _ hd2_1 (by simp only [List.mem_cons, List.not_mem_nil, or_false, not_or]; exact ⟨cne hd2_1 hp_1 (by simp), Ne.symm (hne.2.2.2.2.2.1), Ne.symm (hne.2.2.2.2.2.2.2.2.2.2.1)⟩)
  have ht0_2 : f2 t = some (.inr (2, [.ref t1, .ref t2, .int ts, .int tv])) := hr2 _ _ ht0_1 (by simp only [List.mem_cons, List.not_mem_nil, or_false, not_or]; exact ⟨Ne.symm (hne.2.1), cne ht0_1 h1_1 (by simp), cne ht0_1 h2_1 (by simp)⟩)
  have ht1_2 : f2 t1 = some (.inl (cy 0, 520, .inl (tg))) := hr2 _ _ ht1_1 (by simp only [List.mem_cons, List.not_mem_nil, or_false, not_or]; exact ⟨cne ht1_1 hp_1 (by simp), Ne.symm (hne.2.2.2.2.2.2.1), Ne.symm (hne.2.2.2.2.2.2.2.2.2.2.2.1)⟩)
  have ht2_2 : f2 t2 = some (.inl (cy 0, 80, .inl (th))) := hr2 _ _ ht2_1 (by simp only [List.mem_cons, List.not_mem_nil, or_false, not_or]; exact ⟨cne ht2_1 hp_1 (by simp), Ne.symm (hne.2.2.2.2.2.2.2.1), Ne.symm (hne.2.2.2.2.2.2.2.2.2.2.2.2.1)⟩)
  refine gz_aload_n dX3_shorten_17 rfl rfl ?_
  refine sgX3_14 hla_2 rfl dX3_shorten_18 ?_
  refine scX3_31 (k_X2_size hp_2) hp_2 ⟨(Nat.le_of_ble_eq_true rfl), (Nat.le_of_ble_eq_true rfl)⟩ ⟨(Nat.le_of_ble_eq_true rfl), (Nat.le_of_ble_eq_true rfl)⟩ rfl rfl (Nat.le_of_ble_eq_true rfl) dX3_shorten_21 ?_
  intro v9 f9 z9; rw [z9.1, z9.2]
  refine gz_bipush (v := 40) dX3_shorten_24 (by decide) ?_
  refine scX3_35 (Nat.le_of_ble_eq_true rfl) (Nat.le_of_ble_eq_true rfl) (Nat.le_of_ble_eq_true rfl) (Nat.le_of_ble_eq_true rfl) (Nat.le_of_ble_eq_true rfl) dX3_shorten_26 ?_
  refine gz_iconst (v := 1) dX3_shorten_29 (by decide) ?_
  refine gz_isub dX3_shorten_30 ?_
  refine gz_istore_n (lv' := [(3, .int ((if 40 < s_2 then 40 else s_2) - 1)), (0, .ref la), (1, .ref q), (2, .ref t)]) dX3_shorten_31 rfl (by decide) rfl ?_
  have esn := hsn_2
  have evn := hvn_2
  have eLC := hLn_2
  rw [etr] at esn evn eLC
  simp only [Nat.zero_add] at esn evn eLC
  have hG9 := LC_gkN hT.1 hT.2.1 eLC esn evn
  rw [esn] at hG9
  have hm : (if 40 < s_2 then (40 : Int32) else s_2) = s_2 := by rw [if_neg (by rw [fl_lt]; have e40 : (40 : Int32).toInt = 40 := rfl; omega)]
  have hx9 := T_sub esn (show (1 : Int32).toInt = 1 from rfl) (by omega)
  refine gz_sub (lv' := [(3, .int ((if 40 < s_2 then 40 else s_2) - 1)), (0, .ref la), (1, .ref q), (2, .ref t)]) (by simp [List.lookup]) ?_
  exact l_X3_shortenE hne hT 43 ((if 40 < s_2 then 40 else s_2) - 1) s_2 v_2 g_2 h_2 bg tg th ts tv (grH T) (fun w => w + 1) (grS T) T.length _ (fr_tr (fr_tr fr_rf (fr_mo hr1 (by simp))) (fr_mo hr2 (by simp))) hla_2 hbc_2 hp_2 h1_2 h2_2 hq0_2 hd1_2 hd2_2 ht0_2 ht1_2 ht2_2 (hs_2) (hv_2) ((shI_n hG9)) (esn) ((by rw [hm, hx9]; omega))
