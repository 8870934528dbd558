/-! the class's heads -/
theorem fldG {n1 : Nat} {g : Nat → Int32} {s wd k : Int32} {w a : Nat} (hs : 0 ≤ s.toInt ∧ 13 * s.toInt ≤ n1 ∧ n1 ≤ 520) (hw : wd.toInt = w) (hlt : (w : Int) < s.toInt) (hk : k.toInt = a) (ha : a ≤ 12) : fldF n1 g s wd k = g (13 * w + a) := by
  have e0 : (0 : Int32).toInt = 0 := rfl
  have e13 : (13 : Int32).toInt = 13 := rfl
  have en : (Int32.ofNat n1).toInt = n1 := ofN_toInt (by omega)
  have q1 := T_mul hw e13 (by omega)
  have q2 := T_add q1 hk (by omega)
  unfold fldF
  rw [if_neg (by rw [fl_lt, e0]; omega), if_neg (by rw [fl_le]; omega), if_neg (by rw [fl_lt, e0]; omega), if_pos (by rw [fl_lt, e13]; omega), if_neg (by rw [fl_le, en]; omega), cl_N q2 (by omega)]
  congr 1
  omega
theorem jntG {n2 : Nat} {h : Nat → Int32} {v i : Int32} {j : Nat} (hv : 0 ≤ v.toInt ∧ 2 * v.toInt ≤ n2 ∧ n2 ≤ 80) (hi : i.toInt = j) (hlt : (j : Int) < v.toInt) : jntF n2 h v i = h (2 * j) ∧ valF n2 h v i = h (2 * j + 1) := by
  have e0 : (0 : Int32).toInt = 0 := rfl
  have e1 : (1 : Int32).toInt = 1 := rfl
  have e2 : (2 : Int32).toInt = 2 := rfl
  have en : (Int32.ofNat n2).toInt = n2 := ofN_toInt (by omega)
  have q1 := T_mul hi e2 (by omega)
  have q2 := T_add q1 e1 (by omega)
  unfold jntF valF
  constructor
  · rw [if_neg (by rw [fl_lt, e0]; omega), if_neg (by rw [fl_le]; omega), if_neg (by rw [fl_le, en]; omega), cl_N q1 (by omega)]
    congr 1
    omega
  · rw [if_neg (by rw [fl_lt, e0]; omega), if_neg (by rw [fl_le]; omega), if_neg (by rw [fl_le, en]; omega), cl_N q2 (by omega)]
    congr 1
    omega
/-- the class's codes of VALUES -/
def cdL (L : List Vl) : List (Int × Int) := L.map (fun x => (cdJ x.1, cdV x.2.1 x.2.2))
def vdK (h : Nat → Int32) : Nat → List Vl → Prop
  | _, [] => True
  | V, x :: L => (h (2 * V)).toInt = cdJ x.1 ∧ (h (2 * V + 1)).toInt = cdV x.2.1 x.2.2 ∧ vdK h (V + 1) L
theorem vdK_app {h : Nat → Int32} : ∀ {A B : List Vl} {V : Nat}, vdK h V (A ++ B) ↔ vdK h V A ∧ vdK h (V + A.length) B := by
  intro A
  induction A with
  | nil => intro B V; exact ⟨fun z => ⟨trivial, z⟩, fun z => z.2⟩
  | cons x A ih =>
    intro B V
    have q := ih (B := B) (V := V + 1)
    show (_ ∧ _ ∧ vdK h (V + 1) (A ++ B)) ↔ (_ ∧ _ ∧ vdK h (V + 1) A) ∧ vdK h (V + (A.length + 1)) B
    rw [show V + (A.length + 1) = V + 1 + A.length by omega]
    exact ⟨fun z => ⟨⟨z.1, z.2.1, (q.mp z.2.2).1⟩, (q.mp z.2.2).2⟩, fun z => ⟨z.1.1, z.1.2.1, q.mpr ⟨z.1.2.2, z.2⟩⟩⟩
theorem vdK_cg {h h2 : Nat → Int32} : ∀ {L : List Vl} {V : Nat}, (∀ i, i < 2 * (V + L.length) → h2 i = h i) → vdK h V L → vdK h2 V L := by
  intro L
  induction L with
  | nil => intro V _ _; trivial
  | cons x L ih =>
    intro V e k
    rw [List.length_cons] at e
    exact ⟨by rw [e _ (by omega)]; exact k.1, by rw [e _ (by omega)]; exact k.2.1, ih (fun i hi => e i (by omega)) k.2.2⟩
/-- what the class's cells of WORD w say: the head x -/
def hdK (g h : Nat → Int32) (v : Int) (w : Nat) (x : Hd) : Prop := (g (13 * w + 0)).toInt = x.1 ∧ (g (13 * w + 2)).toInt = x.2.1 ∧ (g (13 * w + 8)).toInt = cdS x.2.2.1
  ∧ (¬ (6 ≤ x.1 ∧ x.1 ≤ 9) → (g (13 * w + 5)).toInt = -1 ∧ (g (13 * w + 6)).toInt = -1 ∧ (g (13 * w + 7)).toInt = -1)
  ∧ (6 ≤ x.1 ∧ x.1 ≤ 9 → ∃ V : Nat, (g (13 * w + 5)).toInt = V ∧ (g (13 * w + 6)).toInt = (V : Int) + (x.2.2.2.1.length : Int) ∧ (g (13 * w + 7)).toInt = (V : Int) + (nvH x : Int) ∧ (V : Int) + (nvH x : Int) ≤ v ∧ vdK h V (vsH x))
/-- the class's cells hold a graph of WORDS -/
def gkN (g h : Nat → Int32) (s v : Int) (H : Nat → Hd) (fi se : Nat → Nat) : Prop := ∀ w : Nat, (w : Int) < s → hdK g h v w (H w) ∧ hvH (H w) ∧ (1 ≤ arH (H w) → (g (13 * w + 3)).toInt = fi w ∧ w < fi w ∧ (fi w : Int) < s) ∧ (arH (H w) = 2 → (g (13 * w + 4)).toInt = se w ∧ w < se w ∧ (se w : Int) < s)
theorem cdV_in {a b c d : Int} (h1 : -1 ≤ a ∧ a ≤ 6) (h2 : a = -1 → 0 ≤ b ∧ b ≤ 99999) (h3 : a ≠ -1 → b = 0) (k1 : -1 ≤ c ∧ c ≤ 6) (k2 : c = -1 → 0 ≤ d ∧ d ≤ 99999) (k3 : c ≠ -1 → d = 0) (e : cdV a b = cdV c d) : a = c ∧ b = d := by
  unfold cdV at e
  by_cases a1 : a = -1
  · have := h2 a1
    rw [if_pos a1] at e
    by_cases c1 : c = -1
    · rw [if_pos c1] at e; omega
    · rw [if_neg c1] at e
      by_cases c6 : c = 6
      · rw [if_pos c6] at e; omega
      · rw [if_neg c6] at e; omega
  · have := h3 a1
    rw [if_neg a1] at e
    by_cases c1 : c = -1
    · have := k2 c1
      rw [if_pos c1] at e
      by_cases a6 : a = 6
      · rw [if_pos a6] at e; omega
      · rw [if_neg a6] at e; omega
    · have := k3 c1
      rw [if_neg c1] at e
      by_cases a6 : a = 6
      · rw [if_pos a6] at e
        by_cases c6 : c = 6
        · omega
        · rw [if_neg c6] at e; omega
      · rw [if_neg a6] at e
        by_cases c6 : c = 6
        · rw [if_pos c6] at e; omega
        · rw [if_neg c6] at e; omega
theorem hvV_in {x y : Vl} (hx : hvV x) (hy : hvV y) (e : cdV x.2.1 x.2.2 = cdV y.2.1 y.2.2) : x.2 = y.2 := by
  obtain ⟨a, b⟩ := cdV_in hx.1 hx.2.1 hx.2.2 hy.1 hy.2.1 hy.2.2 e
  exact Prod.ext a b
theorem cdL_in : ∀ {L M : List Vl}, (∀ y, y ∈ L → (y.1 = 43 ∨ y.1 = 45 ∨ y.1 = 42) ∧ hvV y) → (∀ y, y ∈ M → (y.1 = 43 ∨ y.1 = 45 ∨ y.1 = 42) ∧ hvV y) → cdL L = cdL M → L = M := by
  intro L
  induction L with
  | nil =>
    intro M _ _ e
    cases M with
    | nil => rfl
    | cons y M => exact absurd e (by intro z; cases z)
  | cons x L ih =>
    intro M h1 h2 e
    cases M with
    | nil => exact absurd e (by intro z; cases z)
    | cons y M =>
      have e2 : (cdJ x.1, cdV x.2.1 x.2.2) :: cdL L = (cdJ y.1, cdV y.2.1 y.2.2) :: cdL M := e
      injection e2 with e3 e4
      injection e3 with e5 e6
      obtain ⟨jx, vx⟩ := h1 x List.mem_cons_self
      obtain ⟨jy, vy⟩ := h2 y List.mem_cons_self
      rw [cdJ_ne (by omega), cdJ_ne (by omega)] at e5
      rw [ih (fun y hy => h1 y (List.mem_cons_of_mem _ hy)) (fun y hy => h2 y (List.mem_cons_of_mem _ hy)) e4, Prod.ext e5 (hvV_in vx vy e6)]
theorem hvL_in {L M : List Vl} (hl : hvL L) (hm : hvL M) (e : cdL L = cdL M) : L = M := by
  cases L with
  | nil => exact (show False from hl).elim
  | cons x L =>
    cases M with
    | nil => exact (show False from hm).elim
    | cons y M =>
      have e2 : (cdJ x.1, cdV x.2.1 x.2.2) :: cdL L = (cdJ y.1, cdV y.2.1 y.2.2) :: cdL M := e
      injection e2 with e3 e4
      injection e3 with e5 e6
      rw [cdL_in hl.2.2 hm.2.2 e4, Prod.ext (hl.1.trans hm.1.symm) (hvV_in hl.2.1 hm.2.1 e6)]
theorem cdL_app {A B : List Vl} : cdL (A ++ B) = cdL A ++ cdL B := List.map_append
theorem cdL_ln {A : List Vl} : (cdL A).length = A.length := List.length_map _
theorem app_in {α : Type} : ∀ {A C B D : List α}, A.length = C.length → A ++ B = C ++ D → A = C ∧ B = D := by
  intro A
  induction A with
  | nil =>
    intro C B D h e
    cases C with
    | nil => exact ⟨rfl, e⟩
    | cons y C => exact absurd h (by intro z; cases z)
  | cons x A ih =>
    intro C B D h e
    cases C with
    | nil => exact absurd h (by intro z; cases z)
    | cons y C =>
      have e2 : x :: (A ++ B) = y :: (C ++ D) := e
      injection e2 with e3 e4
      obtain ⟨a, b⟩ := ih (by rw [List.length_cons, List.length_cons] at h; omega) e4
      exact ⟨by rw [e3, a], b⟩
theorem cdS_in {a b : Int} (h : -1 ≤ a ∧ a ≤ 4) (k : -1 ≤ b ∧ b ≤ 4) (e : cdS a = cdS b) : a = b := by
  have ha : a = -1 ∨ a = 0 ∨ a = 1 ∨ a = 2 ∨ a = 3 ∨ a = 4 := by omega
  have hb : b = -1 ∨ b = 0 ∨ b = 1 ∨ b = 2 ∨ b = 3 ∨ b = 4 := by omega
  rcases ha with z | z | z | z | z | z <;> rcases hb with y | y | y | y | y | y <;> (subst z; subst y; first | rfl | exact absurd e (by decide))
/-- two heads are the same -/
theorem hd_in {a b : Hd} (ha : hvH a) (hb : hvH b) (e1 : a.1 = b.1) (e2 : a.2.1 = b.2.1) (e3 : cdS a.2.2.1 = cdS b.2.2.1) (e4 : a.2.2.2.1.length = b.2.2.2.1.length) (e5 : cdL (vsH a) = cdL (vsH b)) : a = b := by
  obtain ⟨a0, a1, a2, a3, a4, a5, a6⟩ := ha
  obtain ⟨b0, b1, b2, b3, b4, b5, b6⟩ := hb
  have sa : -1 ≤ a.2.2.1 ∧ a.2.2.1 ≤ 4 := by
    by_cases c : 6 ≤ a.1 ∧ a.1 ≤ 8
    · have := a3 c; omega
    · have := (a4 c).1; omega
  have sb : -1 ≤ b.2.2.1 ∧ b.2.2.1 ≤ 4 := by
    by_cases c : 6 ≤ b.1 ∧ b.1 ≤ 8
    · have := b3 c; omega
    · have := (b4 c).1; omega
  have eS := cdS_in sa sb e3
  unfold vsH at e5
  rw [cdL_app, cdL_app] at e5
  obtain ⟨eL, eR⟩ := app_in (by rw [cdL_ln, cdL_ln]; exact e4) e5
  have hL : a.2.2.2.1 = b.2.2.2.1 := by
    by_cases c : 6 ≤ a.1 ∧ a.1 ≤ 9
    · exact hvL_in (a5 c) (b5 (by omega)) eL
    · rw [a6 c, b6 (by omega)]
  have hR : a.2.2.2.2 = b.2.2.2.2 := by
    by_cases c : 6 ≤ a.1 ∧ a.1 ≤ 8
    · exact hvL_in (a3 c).2.2 (b3 (by omega)).2.2 eR
    · rw [(a4 c).2, (b4 (by omega)).2]
  exact Prod.ext e1 (Prod.ext e2 (Prod.ext eS (Prod.ext hL hR)))
theorem healL_cd {n2 m2 : Nat} {h hh : Nat → Int32} {v qv fr_ st_ le_ : Int32} {A B N : Nat} (hv : 0 ≤ v.toInt ∧ 2 * v.toInt ≤ n2 ∧ n2 ≤ 80) (hqv : 0 ≤ qv.toInt ∧ 2 * qv.toInt ≤ m2 ∧ m2 ≤ 80) (hA : fr_.toInt = A) (hB : st_.toInt = B) (hN : le_.toInt = N) (hAN : (A : Int) + N ≤ v.toInt) (hBN : (B : Int) + N ≤ qv.toInt) : ∀ (L M : List Vl) (j k : Nat) (i : Int32), j + L.length = N → M.length = L.length → i.toInt = j → L.length < k → vdK h (A + j) L → vdK hh (B + j) M → healL n2 m2 h hh v qv fr_ st_ le_ k i = (if cdL L = cdL M then 1 else 0) := by
  intro L
  induction L with
  | nil =>
    intro M j k i h1 h2 h3 h4 _ _
    cases M with
    | cons y M => exact absurd h2 (by intro z; cases z)
    | nil =>
      cases k with
      | zero => exact absurd h4 (Nat.not_lt_zero _)
      | succ k =>
        rw [List.length_nil] at h1
        unfold healL
        rw [if_pos (by rw [fl_le]; omega), if_pos rfl]
  | cons x L ih =>
    intro M j k i h1 h2 h3 h4 hK hM
    cases M with
    | nil => exact absurd h2 (by intro z; cases z)
    | cons y M =>
      rw [List.length_cons] at h1 h4
      rw [List.length_cons, List.length_cons] at h2
      cases k with
      | zero => omega
      | succ k =>
        have qa := T_add hA h3 (by omega)
        have qb := T_add hB h3 (by omega)
        have q1 := T_add h3 (show (1 : Int32).toInt = 1 from rfl) (by omega)
        obtain ⟨j1, v1⟩ := jntG (h := h) (j := A + j) hv (i := fr_ + i) (by omega) (by omega)
        obtain ⟨j2, v2⟩ := jntG (h := hh) (j := B + j) hqv (i := st_ + i) (by omega) (by omega)
        obtain ⟨x1, x2, x3⟩ := hK
        obtain ⟨y1, y2, y3⟩ := hM
        have r := ih M (j + 1) k (i + 1) (by omega) (by omega) (by omega) (by omega) x3 y3
        unfold healL
        rw [if_neg (by rw [fl_le]; omega), j1, j2, v1, v2, r]
        show _ = (if (cdJ x.1, cdV x.2.1 x.2.2) :: cdL L = (cdJ y.1, cdV y.2.1 y.2.2) :: cdL M then (1 : Int32) else 0)
        by_cases cj : h (2 * (A + j)) = hh (2 * (B + j))
        · rw [if_pos cj]
          rw [fl_eq, x1, y1] at cj
          by_cases cv : h (2 * (A + j) + 1) = hh (2 * (B + j) + 1)
          · rw [if_pos cv]
            rw [fl_eq, x2, y2] at cv
            by_cases cl : cdL L = cdL M
            · rw [if_pos cl, if_pos (by rw [cj, cv, cl])]
            · rw [if_neg cl, if_neg (fun z => by injection z with z1 z2; exact cl z2)]
          · rw [if_neg cv, if_neg (fun z => by injection z with z1 z2; injection z1 with z3 z4; exact cv (by rw [fl_eq, x2, y2]; exact z4))]
        · rw [if_neg cj, if_neg (fun z => by injection z with z1 z2; injection z1 with z3 z4; exact cj (by rw [fl_eq, x1, y1]; exact z3))]
/-- headsAlike, of two WORDS of one kind -/
theorem heal_in {n1 n2 m1 m2 : Nat} {g h gq hh : Nat → Int32} {s v qs qv x y : Int32} {X Y : Nat} {a b : Hd} (hs : 0 ≤ s.toInt ∧ 13 * s.toInt ≤ n1 ∧ n1 ≤ 520) (hv : 0 ≤ v.toInt ∧ 2 * v.toInt ≤ n2 ∧ n2 ≤ 80) (hqs : 0 ≤ qs.toInt ∧ 13 * qs.toInt ≤ m1 ∧ m1 ≤ 520) (hqv : 0 ≤ qv.toInt ∧ 2 * qv.toInt ≤ m2 ∧ m2 ≤ 80) (hx : x.toInt = X) (hX : (X : Int) < s.toInt) (hy : y.toInt = Y) (hY : (Y : Int) < qs.toInt) (ka : hdK g h v.toInt X a) (kb : hdK gq hh qv.toInt Y b) (va : hvH a) (vb : hvH b) (e1 : a.1 = b.1) : healF n1 n2 m1 m2 g h gq hh s v qs qv x y = @ite Int32 (a = b) (Classical.propDecidable (a = b)) 1 0 := by
  have f1 : ∀ (k : Int32) (c : Nat), k.toInt = c → c ≤ 12 → fldF n1 g s x k = g (13 * X + c) := fun k c hk hc => fldG hs hx hX hk hc
  have f2 : ∀ (k : Int32) (c : Nat), k.toInt = c → c ≤ 12 → fldF m1 gq qs y k = gq (13 * Y + c) := fun k c hk hc => fldG hqs hy hY hk hc
  unfold healF
  rw [f1 2 2 rfl (by decide), f1 8 8 rfl (by decide), f1 5 5 rfl (by decide), f1 6 6 rfl (by decide), f1 7 7 rfl (by decide), f2 2 2 rfl (by decide), f2 8 8 rfl (by decide), f2 5 5 rfl (by decide), f2 6 6 rfl (by decide), f2 7 7 rfl (by decide)]
  obtain ⟨a0, a2, a8, an, ay⟩ := ka
  obtain ⟨b0, b2, b8, bn, kz_⟩ := kb
  by_cases c2 : g (13 * X + 2) = gq (13 * Y + 2)
  · rw [if_pos c2]
    rw [fl_eq, a2, b2] at c2
    by_cases c8 : g (13 * X + 8) = gq (13 * Y + 8)
    · rw [if_pos c8]
      rw [fl_eq, a8, b8] at c8
      by_cases sm : 6 ≤ a.1 ∧ a.1 ≤ 9
      · obtain ⟨A, A5, A6, A7, A8, A9⟩ := ay sm
        obtain ⟨B, B5, B6, B7, B8, B9⟩ := kz_ (by omega)
        have la : a.2.2.2.1.length ≤ nvH a := by unfold nvH; omega
        have lb : b.2.2.2.1.length ≤ nvH b := by unfold nvH; omega
        have qa6 := T_sub A6 A5 (by omega)
        have qb6 := T_sub B6 B5 (by omega)
        have qa7 := T_sub A7 A5 (by omega)
        have qb7 := T_sub B7 B5 (by omega)
        have na : nvH a = (vsH a).length := vsH_ln.symm
        have nb : nvH b = (vsH b).length := vsH_ln.symm
        by_cases c6 : g (13 * X + 6) - g (13 * X + 5) = gq (13 * Y + 6) - gq (13 * Y + 5)
        · rw [if_pos c6]
          rw [fl_eq, qa6, qb6] at c6
          by_cases c7 : g (13 * X + 7) - g (13 * X + 5) = gq (13 * Y + 7) - gq (13 * Y + 5)
          · rw [if_pos c7]
            rw [fl_eq, qa7, qb7] at c7
            have hN : (g (13 * X + 7) - g (13 * X + 5)).toInt = (nvH a : Nat) := by omega
            rw [healL_cd (N := nvH a) hv hqv A5 B5 hN (by omega) (by omega) (vsH a) (vsH b) 0 _ 0 (by omega) (by omega) rfl (by omega) A9 B9]
            by_cases cl : cdL (vsH a) = cdL (vsH b)
            · rw [if_pos cl, if_pos (hd_in va vb e1 c2 c8 (by omega) cl)]
            · rw [if_neg cl, if_neg (fun z => cl (by rw [z]))]
          · rw [if_neg c7, if_neg (fun z => c7 (by rw [fl_eq, qa7, qb7, z]; omega))]
        · rw [if_neg c6, if_neg (fun z => c6 (by rw [fl_eq, qa6, qb6, z]; omega))]
      · obtain ⟨A5, A6, A7⟩ := an sm
        obtain ⟨B5, B6, B7⟩ := bn (by omega)
        have qa6 := T_sub A6 A5 (by omega)
        have qb6 := T_sub B6 B5 (by omega)
        have qa7 := T_sub A7 A5 (by omega)
        have qb7 := T_sub B7 B5 (by omega)
        rw [if_pos (by rw [fl_eq, qa6, qb6]), if_pos (by rw [fl_eq, qa7, qb7])]
        have la := va.2.2.2.2.2.2 sm
        have lb := vb.2.2.2.2.2.2 (by omega)
        have ra := (va.2.2.2.2.1 (by omega)).2
        have rb := (vb.2.2.2.2.1 (by omega)).2
        have ea : vsH a = [] := by unfold vsH; rw [la, ra]; rfl
        have eb : vsH b = [] := by unfold vsH; rw [lb, rb]; rfl
        rw [if_pos (hd_in va vb e1 c2 c8 (by rw [la, lb]) (by rw [ea, eb]))]
        unfold healL
        rw [if_pos (by rw [fl_le, qa7]; decide)]
    · rw [if_neg c8, if_neg (fun z => c8 (by rw [fl_eq, a8, b8, z]))]
  · rw [if_neg c2, if_neg (fun z => c2 (by rw [fl_eq, a2, b2, z]))]
theorem add_n {h : Nat → Int32} {v jo x : Int32} {V : Nat} (hv : v.toInt = V) (h4 : V < 40) : (addF 80 h v jo x).2.2.toInt = (V : Int) + 1 := by
  have e0 : (0 : Int32).toInt = 0 := rfl
  have e8 : (Int32.ofNat 80).toInt = 80 := rfl
  have q1 := T_mul hv (show (2 : Int32).toInt = 2 from rfl) (by omega)
  have q2 := T_add q1 (show (1 : Int32).toInt = 1 from rfl) (by omega)
  have q3 := T_add hv (show (1 : Int32).toInt = 1 from rfl) (by omega)
  unfold addF
  rw [if_neg (by rw [fl_lt, e0]; omega), if_pos (by rw [fl_lt, e8]; omega)]
  exact q3
/-- the VALUES of a WORD copied -/
theorem cpsL_c {n1 n2 m1 : Nat} {g h : Nat → Int32} {s v qs x y le_ cl_ st_ : Int32} {V0 N : Nat} (hv : 0 ≤ v.toInt ∧ 2 * v.toInt ≤ n2 ∧ n2 ≤ 80) (hcl : cl_.toInt = (V0 : Int) + N) (hN : (V0 : Int) + N ≤ v.toInt) : ∀ (L : List Vl) (j k : Nat) (i : Int32) (hh : Nat → Int32) (qv : Int32) (gq : Nat → Int32) (V : Nat) (c : Cn), j + L.length = N → i.toInt = (V0 : Int) + j → L.length < k → qv.toInt = V → V + L.length ≤ 40 → vdK h (V0 + j) L → LCv hh c V → ∃ (hh2 : Nat → Int32) (qv2 : Int32), cpsL n1 n2 m1 80 g h s v qs x y le_ cl_ st_ k i hh qv gq = (hh2, qv2, (stF m1 (stF m1 (stF m1 (stF m1 gq qs y 5 st_) qs y 6 ((st_ + (fldF n1 g s x 6)) - le_)) qs y 7 ((st_ + cl_) - le_)) qs y 8 (fldF n1 g s x 8))) ∧ qv2.toInt = (V : Int) + (L.length : Int) ∧ LCv hh2 (putV L V c) (V + L.length) := by
  intro L
  induction L with
  | nil =>
    intro j k i hh qv gq V c h1 h2 h3 h4 h5 _ hL
    cases k with
    | zero => exact absurd h3 (Nat.not_lt_zero _)
    | succ k =>
      rw [List.length_nil] at h1
      unfold cpsL
      rw [if_pos (by rw [fl_le]; omega)]
      exact ⟨_, _, rfl, by rw [List.length_nil]; omega, by rw [putV_nil]; exact hL⟩
  | cons z L ih =>
    intro j k i hh qv gq V c h1 h2 h3 h4 h5 hK hL
    rw [List.length_cons] at h1 h3 h5
    cases k with
    | zero => omega
    | succ k =>
      have q1 := T_add h2 (show (1 : Int32).toInt = 1 from rfl) (by omega)
      obtain ⟨j1, v1⟩ := jntG (h := h) (j := V0 + j) hv (i := i) (by omega) (by omega)
      obtain ⟨x1, x2, x3⟩ := hK
      unfold cpsL
      rw [if_neg (by rw [fl_le]; omega), if_neg (by rw [fl_le]; omega), j1, v1]
      unfold lett
      have hA := LCv_add (h := hh) (jo := h (2 * (V0 + j))) (x := h (2 * (V0 + j) + 1)) h4 (by omega) hL x1 x2
      have hn := add_n (h := hh) (jo := h (2 * (V0 + j))) (x := h (2 * (V0 + j) + 1)) h4 (by omega)
      generalize addF 80 hh qv (h (2 * (V0 + j))) (h (2 * (V0 + j) + 1)) = A9 at hA hn ⊢
      obtain ⟨hh2, qv2, r1, r2, r3⟩ := ih (j + 1) k (i + 1) A9.2.1 A9.2.2 gq (V + 1) _ (by omega) (by omega) (by omega) (by omega) (by omega) x3 hA
      refine ⟨hh2, qv2, r1, by rw [List.length_cons]; omega, ?_⟩
      rw [putV_cons, List.length_cons, show V + (L.length + 1) = V + 1 + L.length by omega]
      exact r3
theorem putV_w {L : List Vl} {V a b : Nat} {c : Cn} (h : a ≤ 9) : putV L V c a b = c a b := by
  rw [putV_at, if_neg (by omega)]
theorem LCv_pt {h : Nat → Int32} {c c2 : Cn} {L : List Vl} {V W : Nat} (e : ∀ a i, 10 ≤ a → c2 a i = c a i) (hL : LCv h (putV L V c) W) : LCv h (putV L V c2) W := LCv_cg (fun a i ha => by
  rw [putV_at, putV_at]
  split
  · rfl
  · exact e a i ha) hL
/-- a WORD just grown gets the SUMS of another -/
theorem cps_c {n1 n2 : Nat} {g h gq hh : Nat → Int32} {s v qs qv x y : Int32} {X W V : Nat} {a : Hd} {c : Cn} (hs : 0 ≤ s.toInt ∧ 13 * s.toInt ≤ n1 ∧ n1 ≤ 520) (hv : 0 ≤ v.toInt ∧ 2 * v.toInt ≤ n2 ∧ n2 ≤ 80) (hx : x.toInt = X) (hX : (X : Int) < s.toInt) (hqs : qs.toInt = (W : Int) + 1) (hW : W < 40) (hy : y.toInt = W) (hqv : qv.toInt = V) (ka : hdK g h v.toInt X a) (sm : 6 ≤ a.1 ∧ a.1 ≤ 9) (hV : V + nvH a ≤ 40) (hL : LC gq hh c (W + 1) V) : ∃ (hh2 gq2 : Nat → Int32) (qv2 : Int32), cpsF n1 n2 520 80 g h gq hh s v qs qv x y = (hh2, qv2, gq2) ∧ qv2.toInt = (V : Int) + (nvH a : Int) ∧ LC gq2 hh2 (putV (vsH a) V (cU (cU (cU (cU c 5 W V) 6 W ((V : Int) + (a.2.2.2.1.length : Int))) 7 W ((V : Int) + (nvH a : Int))) 8 W a.2.2.1)) (W + 1) (V + nvH a) ∧ (∀ ii : Nat, gq2 (13 * ii + 1) = gq (13 * ii + 1) ∧ gq2 (13 * ii + 3) = gq (13 * ii + 3) ∧ gq2 (13 * ii + 4) = gq (13 * ii + 4)) := by
  obtain ⟨a0, a2, a8, an, ay⟩ := ka
  obtain ⟨A, A5, A6, A7, A8, A9⟩ := ay sm
  have f1 : ∀ (k : Int32) (c : Nat), k.toInt = c → c ≤ 12 → fldF n1 g s x k = g (13 * X + c) := fun k c hk hc => fldG hs hx hX hk hc
  have zz : ∀ (k : Int32) (a : Nat), k.toInt = a → a ≤ 12 → ∀ (g' : Nat → Int32) (x : Int32), stF 520 g' qs y k x = upd g' (13 * W + a) x := fun k a hk ha g' x => stN hqs (by omega) hy (by omega) hk ha
  have na : nvH a = (vsH a).length := vsH_ln.symm
  have e0 : (0 : Int32).toInt = 0 := rfl
  have hml : (if g (13 * X + 5) < 0 then (0 : Int32) else g (13 * X + 5)) = g (13 * X + 5) := by rw [if_neg (by rw [fl_lt, e0]; omega)]
  have la : a.2.2.2.1.length ≤ nvH a := by unfold nvH; omega
  have s6 := T_sub (T_add hqv A6 (by omega)) A5 (by omega)
  have s7 := T_sub (T_add hqv A7 (by omega)) A5 (by omega)
  obtain ⟨hh2, qv2, r1, r2, r3⟩ := cpsL_c (n1 := n1) (m1 := 520) (g := g) (s := s) (qs := qs) (x := x) (y := y) (le_ := g (13 * X + 5)) (st_ := qv) hv A7 (by omega) (vsH a) 0 41 (g (13 * X + 5)) hh qv gq V c (by omega) (by omega) (by omega) hqv (by omega) A9 hL.2
  refine ⟨hh2, (stF 520 (stF 520 (stF 520 (stF 520 gq qs y 5 qv) qs y 6 (qv + fldF n1 g s x 6 - g (13 * X + 5))) qs y 7 (qv + g (13 * X + 7) - g (13 * X + 5))) qs y 8 (fldF n1 g s x 8)), qv2, ?_, by omega, ?_, ?_⟩
  · unfold cpsF
    rw [f1 5 5 rfl (by decide), f1 7 7 rfl (by decide), hml]
    exact r1
  · rw [f1 6 6 rfl (by decide), f1 8 8 rfl (by decide), zz 5 5 rfl (by decide), zz 6 6 rfl (by decide), zz 7 7 rfl (by decide), zz 8 8 rfl (by decide)]
    refine ⟨?_, ?_⟩
    · refine LCw_set hL.1 (fun i hi => by rw [updE, if_neg (by omega), updE, if_neg (by omega), updE, if_neg (by omega), updE, if_neg (by omega)]) (fun k w hk hw => by rw [putV_w hk, cU_at, if_neg (fun z => hw z.2), cU_at, if_neg (fun z => hw z.2), cU_at, if_neg (fun z => hw z.2), cU_at, if_neg (fun z => hw z.2)]) (fun k hk hb => by rw [updE, if_neg (by omega), updE, if_neg (by omega), updE, if_neg (by omega), updE, if_neg (by omega)]) (fun k hk => by rw [putV_w (by omega), cU_at, if_neg (by omega), cU_at, if_neg (by omega), cU_at, if_neg (by omega), cU_at, if_neg (by omega)]) (fun k hk => ?_) ?_
      · rw [putV_w (by omega)]
        rcases hk with z | z | z | z
        · rw [z, cU_at, if_neg (by omega), cU_at, if_neg (by omega), cU_at, if_neg (by omega), cU_at, if_neg (by omega), updE, if_neg (by omega), updE, if_neg (by omega), updE, if_neg (by omega), updE, if_neg (by omega)]
          exact (hL.1 W (by omega)).1 2 (by omega)
        · rw [z, cU_at, if_neg (by omega), cU_at, if_neg (by omega), cU_at, if_neg (by omega), cU_at, if_pos ⟨rfl, rfl⟩, updE, if_neg (by omega), updE, if_neg (by omega), updE, if_neg (by omega), updE, if_pos rfl]; exact hqv
        · rw [z, cU_at, if_neg (by omega), cU_at, if_neg (by omega), cU_at, if_pos ⟨rfl, rfl⟩, updE, if_neg (by omega), updE, if_neg (by omega), updE, if_pos rfl, s6]; omega
        · rw [z, cU_at, if_neg (by omega), cU_at, if_pos ⟨rfl, rfl⟩, updE, if_neg (by omega), updE, if_pos rfl, s7]; omega
      · rw [putV_w (by omega), cU_at, if_pos ⟨rfl, rfl⟩, updE, if_pos rfl]; exact a8
    · rw [na]
      exact LCv_pt (fun a i ha => by rw [cU_at, if_neg (by omega), cU_at, if_neg (by omega), cU_at, if_neg (by omega), cU_at, if_neg (by omega)]) r3
  · intro ii
    rw [zz 5 5 rfl (by decide), zz 6 6 rfl (by decide), zz 7 7 rfl (by decide), zz 8 8 rfl (by decide)]
    refine ⟨?_, ?_, ?_⟩ <;> rw [updE, if_neg (by omega), updE, if_neg (by omega), updE, if_neg (by omega), updE, if_neg (by omega)]
