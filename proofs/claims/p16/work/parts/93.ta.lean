/-! what a DEED does on a DAY -/
theorem gtD1 {α : Type} {d c : α} : ∀ {A : List α}, (A ++ [c]).getD A.length d = c := by
  intro A
  induction A with
  | nil => rfl
  | cons a A ih => rw [List.length_cons, List.cons_append, List.getD_cons_succ]; exact ih
theorem gtD2 {α : Type} {d c : α} : ∀ {A : List α} {i : Nat}, i < A.length → (A ++ [c]).getD i d = A.getD i d := by
  intro A
  induction A with
  | nil => intro i h; exact absurd h (Nat.not_lt_zero _)
  | cons a A ih =>
    intro i h
    cases i with
    | zero => rfl
    | succ i => rw [List.cons_append, List.getD_cons_succ, List.getD_cons_succ]; exact ih (Nat.lt_of_succ_lt_succ h)
theorem gtD_mem {α : Type} {d : α} : ∀ {A : List α} {i : Nat}, i < A.length → A.getD i d ∈ A := by
  intro A
  induction A with
  | nil => intro i h; exact absurd h (Nat.not_lt_zero _)
  | cons a A ih =>
    intro i h
    cases i with
    | zero => exact List.mem_cons_self
    | succ i => rw [List.getD_cons_succ]; exact List.mem_cons_of_mem _ (ih (Nat.lt_of_succ_lt_succ h))
def delL {α : Type} : List α → Nat → List α
  | [], _ => []
  | _ :: L, 0 => L
  | x :: L, k + 1 => x :: delL L k
theorem delL_ln {α : Type} : ∀ {L : List α} {k : Nat}, k < L.length → (delL L k).length + 1 = L.length := by
  intro L
  induction L with
  | nil => intro k h; exact absurd h (Nat.not_lt_zero _)
  | cons x L ih =>
    intro k h
    cases k with
    | zero => rfl
    | succ k =>
      have := ih (k := k) (Nat.lt_of_succ_lt_succ h)
      show (delL L k).length + 1 + 1 = L.length + 1
      omega
theorem delL_lt {α : Type} {d : α} : ∀ {L : List α} {k i : Nat}, i < k → (delL L k).getD i d = L.getD i d := by
  intro L
  induction L with
  | nil => intro k i _; rfl
  | cons x L ih =>
    intro k i h
    cases k with
    | zero => exact absurd h (Nat.not_lt_zero _)
    | succ k =>
      cases i with
      | zero => rfl
      | succ i =>
        show (x :: delL L k).getD (i + 1) d = _
        rw [List.getD_cons_succ, List.getD_cons_succ]
        exact ih (Nat.lt_of_succ_lt_succ h)
theorem delL_ge {α : Type} {d : α} : ∀ {L : List α} {k i : Nat}, k ≤ i → (delL L k).getD i d = L.getD (i + 1) d := by
  intro L
  induction L with
  | nil => intro k i _; rfl
  | cons x L ih =>
    intro k i h
    cases k with
    | zero => show L.getD i d = _; rw [List.getD_cons_succ]
    | succ k =>
      cases i with
      | zero => exact absurd h (Nat.not_succ_le_zero _)
      | succ i =>
        show (x :: delL L k).getD (i + 1) d = _
        rw [List.getD_cons_succ, List.getD_cons_succ]
        exact ih (Nat.le_of_succ_le_succ h)
theorem delL_mem {α : Type} {y : α} : ∀ {L : List α} {k : Nat}, y ∈ delL L k → y ∈ L := by
  intro L
  induction L with
  | nil => intro k h; cases h
  | cons x L ih =>
    intro k h
    cases k with
    | zero => exact List.mem_cons_of_mem _ h
    | succ k =>
      have h : y ∈ x :: delL L k := h
      rcases List.mem_cons.mp h with e | e
      · rw [e]; exact List.mem_cons_self
      · exact List.mem_cons_of_mem _ (ih e)
/-- a DAY: its number, the THINGS -/
abbrev Sn := Int × (Nat → Int)
def vaS (S : Sn) (x : Vl) : Int := if x.2.1 < 0 then x.2.2 else if x.2.1 = 6 then S.1 else S.2 x.2.1.toNat
def suS (S : Sn) : List Vl → Int64 → Int64 → Int64
  | [], t, p => t + p
  | x :: L, t, p => if x.1 = 42 then suS S L t (p * Int64.ofInt (vaS S x)) else suS S L (t + p) (if x.1 = 45 then -(Int64.ofInt (vaS S x)) else Int64.ofInt (vaS S x))
def smS (S : Sn) (L : List Vl) : Int64 := suS S L 0 0
def hlB (S : Sn) (h : Hd) : Bool := if h.2.2.1 = 0 then decide ((smS S h.2.2.2.1).toInt < (smS S h.2.2.2.2).toInt) else if h.2.2.1 = 1 then decide ((smS S h.2.2.2.1).toInt ≤ (smS S h.2.2.2.2).toInt) else if h.2.2.1 = 2 then decide ((smS S h.2.2.2.1).toInt = (smS S h.2.2.2.2).toInt) else if h.2.2.1 = 3 then decide ((smS S h.2.2.2.2).toInt ≤ (smS S h.2.2.2.1).toInt) else decide ((smS S h.2.2.2.2).toInt < (smS S h.2.2.2.1).toInt)
/-- what the WORDS around a WORD make, from the outermost on -/
def upF {α : Type} (T : List Hd) (z : α) (s : Hd → α → α) : Nat → Nat → α
  | 0, _ => z
  | k + 1, w => if tcC T 9 w = -1 then z else s (grH T (tcC T 9 w).toNat) (upF T z s k (tcC T 9 w).toNat)
/-- the WORDS around stand ahead -/
def upO (T : List Hd) : Prop := ∀ w, w < T.length → -1 ≤ tcC T 9 w ∧ tcC T 9 w < (w : Int)
theorem upF_fu {α : Type} {T : List Hd} {z : α} {s : Hd → α → α} (ho : upO T) : ∀ k j w, w < T.length → w < k → w < j → upF T z s k w = upF T z s j w := by
  intro k
  induction k with
  | zero => intro j w _ h; exact absurd h (Nat.not_lt_zero _)
  | succ k ih =>
    intro j w h0 h1 h2
    cases j with
    | zero => exact absurd h2 (Nat.not_lt_zero _)
    | succ j =>
      have q := ho w h0
      unfold upF
      by_cases c : tcC T 9 w = -1
      · rw [if_pos c, if_pos c]
      · rw [if_neg c, if_neg c, ih j _ (by omega) (by omega) (by omega)]
theorem upF_st {α : Type} {T : List Hd} {z : α} {s : Hd → α → α} (ho : upO T) (h4 : T.length ≤ 40) {w : Nat} (hw : w < T.length) : upF T z s 41 w = if tcC T 9 w = -1 then z else s (grH T (tcC T 9 w).toNat) (upF T z s 41 (tcC T 9 w).toNat) := by
  have q := ho w hw
  show (if tcC T 9 w = -1 then z else s (grH T (tcC T 9 w).toNat) (upF T z s 40 (tcC T 9 w).toNat)) = _
  by_cases c : tcC T 9 w = -1
  · rw [if_pos c, if_pos c]
  · rw [if_neg c, if_neg c, upF_fu ho 40 41 _ (by omega) (by omega) (by omega)]
/-- what follows the same rule is the same -/
theorem upF_un {α : Type} {T : List Hd} {z : α} {s : Hd → α → α} (ho : upO T) (h4 : T.length ≤ 40) {φ : Nat → α} (hφ : ∀ w, w < T.length → (tcC T 9 w = -1 → φ w = z) ∧ ∀ p : Nat, tcC T 9 w = p → p < w → φ w = s (grH T p) (φ p)) : ∀ n w, w < n → w < T.length → φ w = upF T z s 41 w := by
  intro n
  induction n with
  | zero => intro w h; exact absurd h (Nat.not_lt_zero _)
  | succ n ih =>
    intro w h0 hw
    obtain ⟨e1, e2⟩ := hφ w hw
    have q := ho w hw
    rw [upF_st ho h4 hw]
    by_cases c : tcC T 9 w = -1
    · rw [if_pos c, e1 c]
    · rw [if_neg c, e2 (tcC T 9 w).toNat (by omega) (by omega), ih _ (by omega) (by omega)]
def lpH (S : Sn) (h : Hd) (r : Bool) : Bool := (decide (h.1 = 8) && hlB S h) || r
def cpH (h : Hd) (r : Int) : Int := if h.1 = 10 then (if r = -1 ∨ h.2.1 < r then h.2.1 else r) else r
def sdH (h : Hd) (r : Int) : Int := if h.1 = 2 then 1 - r else r
def unH (h : Hd) (r : Int) : Int := r + (if h.1 = 8 then 1 else 0)
def lpT (T : List Hd) (S : Sn) (w : Nat) : Bool := upF T false (lpH S) 41 w
def cqT (T : List Hd) (w : Nat) : Int := upF T (-1) cpH 41 w
def sdT (T : List Hd) (w : Nat) : Int := upF T 0 sdH 41 w
def unT (T : List Hd) (w : Nat) : Int := upF T 0 unH 41 w
theorem sdH_01 {h : Hd} {r : Int} (hr : r = 0 ∨ r = 1) : sdH h r = 0 ∨ sdH h r = 1 := by
  unfold sdH
  split <;> omega
theorem sdT_01 {T : List Hd} : ∀ k w, upF T 0 sdH k w = 0 ∨ upF T 0 sdH k w = 1 := by
  intro k
  induction k with
  | zero => intro w; exact Or.inl rfl
  | succ k ih =>
    intro w
    show (if tcC T 9 w = -1 then (0 : Int) else sdH (grH T (tcC T 9 w).toNat) (upF T 0 sdH k (tcC T 9 w).toNat)) = 0 ∨ (if tcC T 9 w = -1 then (0 : Int) else sdH (grH T (tcC T 9 w).toNat) (upF T 0 sdH k (tcC T 9 w).toNat)) = 1
    by_cases c : tcC T 9 w = -1
    · rw [if_pos c]; exact Or.inl rfl
    · rw [if_neg c]; exact sdH_01 (ih _)
theorem cpH_b {h : Hd} {r : Int} (hn : h.1 = 10 → 0 ≤ h.2.1 ∧ h.2.1 ≤ 99999) (hr : -1 ≤ r ∧ r ≤ 99999) : -1 ≤ cpH h r ∧ cpH h r ≤ 99999 := by
  unfold cpH
  by_cases c : h.1 = 10
  · have := hn c
    rw [if_pos c]
    split <;> omega
  · rw [if_neg c]; exact hr
theorem cqT_n {T : List Hd} (hv : hvT T) (ho : upO T) : ∀ k w, w < T.length → -1 ≤ upF T (-1) cpH k w ∧ upF T (-1) cpH k w ≤ 99999 := by
  intro k
  induction k with
  | zero => intro w _; exact ⟨by show (-1 : Int) ≤ -1; omega, by show (-1 : Int) ≤ 99999; omega⟩
  | succ k ih =>
    intro w hw
    have q := ho w hw
    show -1 ≤ (if tcC T 9 w = -1 then (-1 : Int) else cpH (grH T (tcC T 9 w).toNat) (upF T (-1) cpH k (tcC T 9 w).toNat)) ∧ (if tcC T 9 w = -1 then (-1 : Int) else cpH (grH T (tcC T 9 w).toNat) (upF T (-1) cpH k (tcC T 9 w).toNat)) ≤ 99999
    by_cases c : tcC T 9 w = -1
    · rw [if_pos c]; omega
    · rw [if_neg c]
      obtain ⟨T1, x, R, e, l, g⟩ := spl_at (T := T) (w := (tcC T 9 w).toNat) (by omega)
      have hx := hv x (by rw [e]; exact List.mem_append.mpr (Or.inr List.mem_cons_self))
      exact cpH_b (fun z => by rw [g] at z ⊢; exact hx.2.1 (Or.inr z)) (ih _ (by omega))
/-! events: (true: a PAYMENT, else it STANDS), WORD, coins or FACTOR -/
abbrev Ev := Bool × Nat × Int
def clP (c f : Int) : Int := if f < -c then -c else if c < f then c else f
def hdP (c f : Int) : Int := if c = -1 then f else clP c f
def psT (S : Sn) (h : Hd) (f : Int) : Int := if h.1 = 2 then -f else if h.1 = 9 then clP 1000000 (Int64.ofInt f * smS S h.2.2.2.1).toInt else f
def nxT (T : List Hd) (S : Sn) (w : Nat) : Nat := if (grH T w).1 = 5 ∧ (grH T w).2.1 ≤ S.1 then grS T w else w + 1
def evT (T : List Hd) (S : Sn) : Nat → Nat → Int → List Ev
  | 0, _, _ => []
  | k + 1, w, f => if lpT T S w = true then [] else if (grH T w).1 = 0 then [] else if (grH T w).1 = 1 then (if hdP (cqT T w) f = 0 then [] else [(true, w, hdP (cqT T w) f)])
    else if (grH T w).1 = 4 ∨ (grH T w).1 = 7 ∨ ((grH T w).1 = 6 ∧ hlB S (grH T w) = false) then [(false, w, f)]
    else if (grH T w).1 = 3 then evT T S k (w + 1) f ++ evT T S k (grS T w) f else evT T S k (nxT T S w) (psT S (grH T w) f)
/-- links of a list -/
theorem gr_lk {T : List Hd} (hok : okT T 1) (hv : hvT T) {w : Nat} (hw : w < T.length) : hvH (grH T w) ∧ (2 ≤ (grH T w).1 → w + 1 < T.length) ∧ (3 ≤ (grH T w).1 ∧ (grH T w).1 ≤ 5 → w + 1 < grS T w ∧ grS T w < T.length) := by
  obtain ⟨T1, x, R, e, l, g⟩ := spl_at hw
  have hx := hv x (by rw [e]; exact List.mem_append.mpr (Or.inr List.mem_cons_self))
  have hk := arH_k hx
  obtain ⟨_, s1, s2⟩ := sj_at hok hv hw
  rw [g] at s1 s2 ⊢
  refine ⟨hx, fun z => ?_, fun z => ?_⟩
  · by_cases a2 : arH x = 2
    · exact (s2 a2).1
    · exact (s1 (by omega)).1
  · obtain ⟨_, h2, h3, _⟩ := s2 (by omega)
    exact ⟨h2, h3⟩
theorem nx_lk {T : List Hd} {S : Sn} (hok : okT T 1) (hv : hvT T) {w : Nat} (hw : w < T.length) (hk : 2 ≤ (grH T w).1) : w < nxT T S w ∧ nxT T S w < T.length := by
  obtain ⟨_, k1, k2⟩ := gr_lk hok hv hw
  have := k1 hk
  unfold nxT
  split
  · rename_i c
    have := k2 (by omega)
    omega
  · omega
theorem evT_fu {T : List Hd} {S : Sn} (hok : okT T 1) (hv : hvT T) : ∀ k j w f, w < T.length → T.length ≤ w + k → T.length ≤ w + j → evT T S k w f = evT T S j w f := by
  intro k
  induction k with
  | zero => intro j w f h0 h1; omega
  | succ k ih =>
    intro j w f h0 h1 h2
    cases j with
    | zero => omega
    | succ j =>
      obtain ⟨hx, k1, k2⟩ := gr_lk hok hv h0
      have kk := hx.1
      unfold evT
      by_cases c0 : (grH T w).1 ≤ 1
      · by_cases c1 : (grH T w).1 = 0
        · rw [if_pos c1, if_pos c1]
        · rw [if_neg c1, if_neg c1, if_pos (show (grH T w).1 = 1 by omega), if_pos (show (grH T w).1 = 1 by omega)]
      · have l1 := k1 (by omega)
        rw [if_neg (show ¬ (grH T w).1 = 0 by omega), if_neg (show ¬ (grH T w).1 = 0 by omega), if_neg (show ¬ (grH T w).1 = 1 by omega), if_neg (show ¬ (grH T w).1 = 1 by omega)]
        have e2 : (grH T w).1 = 3 → evT T S k (w + 1) f ++ evT T S k (grS T w) f = evT T S j (w + 1) f ++ evT T S j (grS T w) f := fun c => by
          have l2 := k2 (by omega)
          rw [ih j (w + 1) f (by omega) (by omega) (by omega), ih j (grS T w) f (by omega) (by omega) (by omega)]
        have l3 := nx_lk (S := S) hok hv h0 (by omega)
        rw [ih j (nxT T S w) _ (by omega) (by omega) (by omega)]
        by_cases c3 : (grH T w).1 = 3
        · rw [if_pos c3, if_pos c3, e2 c3]
        · rw [if_neg c3, if_neg c3]
def ev (T : List Hd) (S : Sn) (w : Nat) (f : Int) : List Ev := evT T S 41 w f
theorem ev_st {T : List Hd} {S : Sn} (hok : okT T 1) (hv : hvT T) (h4 : T.length ≤ 40) {w : Nat} {f : Int} (hw : w < T.length) : ev T S w f = if lpT T S w = true then [] else if (grH T w).1 = 0 then [] else if (grH T w).1 = 1 then (if hdP (cqT T w) f = 0 then [] else [(true, w, hdP (cqT T w) f)])
    else if (grH T w).1 = 4 ∨ (grH T w).1 = 7 ∨ ((grH T w).1 = 6 ∧ hlB S (grH T w) = false) then [(false, w, f)]
    else if (grH T w).1 = 3 then ev T S (w + 1) f ++ ev T S (grS T w) f else ev T S (nxT T S w) (psT S (grH T w) f) := by
  obtain ⟨hx, k1, k2⟩ := gr_lk hok hv hw
  have kk := hx.1
  unfold ev
  show (if lpT T S w = true then [] else if (grH T w).1 = 0 then [] else if (grH T w).1 = 1 then (if hdP (cqT T w) f = 0 then [] else [(true, w, hdP (cqT T w) f)])
    else if (grH T w).1 = 4 ∨ (grH T w).1 = 7 ∨ ((grH T w).1 = 6 ∧ hlB S (grH T w) = false) then [(false, w, f)]
    else if (grH T w).1 = 3 then evT T S 40 (w + 1) f ++ evT T S 40 (grS T w) f else evT T S 40 (nxT T S w) (psT S (grH T w) f)) = _
  by_cases c0 : (grH T w).1 ≤ 1
  · by_cases c1 : (grH T w).1 = 0
    · rw [if_pos c1, if_pos c1]
    · rw [if_neg c1, if_neg c1, if_pos (show (grH T w).1 = 1 by omega), if_pos (show (grH T w).1 = 1 by omega)]
  · have l1 := k1 (by omega)
    have l3 := nx_lk (S := S) hok hv hw (by omega)
    rw [evT_fu hok hv 40 41 (nxT T S w) _ (by omega) (by omega) (by omega)]
    by_cases c3 : (grH T w).1 = 3
    · have l2 := k2 (by omega)
      rw [evT_fu hok hv 40 41 (w + 1) _ (by omega) (by omega) (by omega), evT_fu hok hv 40 41 (grS T w) _ (by omega) (by omega) (by omega)]
    · rw [if_neg c3, if_neg c3]
/-- what is LAPSED brings nothing -/
theorem ev_lp {T : List Hd} {S : Sn} {w : Nat} {f : Int} (h : lpT T S w = true) : ev T S w f = [] := by
  show (if lpT T S w = true then [] else _) = []
  rw [if_pos h]
/-! the DEEDS of a WORD have it around -/
theorem LY_up : ∀ {T1 : List Hd} {h : Hd} {R : List Hd} {W V : Nat} {st : List Sl} {c : Cn}, okT (T1 ++ h :: R) st.length → (∀ p s d, (p, s, d) ∈ st → p < (W : Int)) → (1 ≤ arH h → LY (T1 ++ h :: R) W V st c 9 (W + T1.length + 1) = ((W + T1.length : Nat) : Int)) ∧ (arH h = 2 → ∀ A B, R = A ++ B → okT A 1 → LY (T1 ++ h :: R) W V st c 9 (W + T1.length + 1 + A.length) = ((W + T1.length : Nat) : Int)) := by
  intro T1
  induction T1 with
  | nil =>
    intro h R W V st c hok hs
    cases st with
    | nil => exact (show False from hok).elim
    | cons x st =>
      obtain ⟨p, s, d⟩ := x
      have hR : okT R (st.length + arH h) := hok
      have hst : ∀ p2 s2 d2, (p2, s2, d2) ∈ st → p2 < (W : Int) := fun p2 s2 d2 hm => hs p2 s2 d2 (List.mem_cons_of_mem _ hm)
      have har := arH_le (h := h)
      show (1 ≤ arH h → LY R (W + 1) (V + nvH h) (psS h W d st) (ptH h W V p s d c) 9 (W + 0 + 1) = ((W + 0 : Nat) : Int)) ∧ (arH h = 2 → ∀ A B, R = A ++ B → okT A 1 → LY R (W + 1) (V + nvH h) (psS h W d st) (ptH h W V p s d c) 9 (W + 0 + 1 + A.length) = ((W + 0 : Nat) : Int))
      rw [Nat.add_zero]
      refine ⟨fun a1 => ?_, fun a2 A B e hA => ?_⟩
      · obtain ⟨r, R2, e⟩ := okT_ne (n := st.length + arH h - 1) (A := R) (by rw [show st.length + arH h - 1 + 1 = st.length + arH h by omega]; exact hR)
        have hl : (psS h W d st).length = st.length + arH h := psS_len
        have hp : ∃ st2, psS h W d st = ((W : Int), false, d + 1) :: st2 := by
          unfold psS
          by_cases c2 : arH h = 2
          · rw [if_pos c2]; exact ⟨_, rfl⟩
          · rw [if_neg c2, if_pos (show arH h = 1 by omega)]; exact ⟨_, rfl⟩
        have hm0 : ∀ p2 s2 d2, (p2, s2, d2) ∈ psS h W d st → p2 < ((W + 1 : Nat) : Int) := fun p2 s2 d2 hm => by
          rcases psS_mem hm with q | q
          · omega
          · have := hst p2 s2 d2 q; omega
        obtain ⟨st2, e2⟩ := hp
        rw [e2] at hl hm0 ⊢
        rw [List.length_cons] at hl
        rw [e] at hR ⊢
        exact (LY_hd (by rw [hl]; exact hR) hm0).2.2.1
      · have hp2 : psS h W d st = [((W : Int), false, d + 1)] ++ (((W : Int), true, d + 1) :: st) := by unfold psS; rw [if_pos a2]; rfl
        rw [e, hp2, LY_app (show okT A [((W : Int), false, d + 1)].length from hA)]
        rw [e, a2, show st.length + 2 = 1 + (st.length + 1) by omega] at hR
        obtain ⟨A2, B2, e2, hA2, hB2⟩ := okT_spl hR
        obtain ⟨_, eB⟩ := okT_inj hA hA2 e2
        rw [← eB] at hB2
        obtain ⟨r, R2, e3⟩ := okT_ne hB2
        rw [e3] at hB2 ⊢
        exact (LY_hd hB2 (fun p2 s2 d2 hm => by
          rcases List.mem_cons.mp hm with q | q
          · have : p2 = (W : Int) := congrArg Prod.fst q
            omega
          · have := hst p2 s2 d2 q; omega)).2.2.1
  | cons t T1 ih =>
    intro h R W V st c hok hs
    cases st with
    | nil => exact (show False from hok).elim
    | cons x st =>
      obtain ⟨p, s, d⟩ := x
      show (1 ≤ arH h → LY (T1 ++ h :: R) (W + 1) (V + nvH t) (psS t W d st) (ptH t W V p s d c) 9 (W + (T1.length + 1) + 1) = ((W + (T1.length + 1) : Nat) : Int)) ∧ (arH h = 2 → ∀ A B, R = A ++ B → okT A 1 → LY (T1 ++ h :: R) (W + 1) (V + nvH t) (psS t W d st) (ptH t W V p s d c) 9 (W + (T1.length + 1) + 1 + A.length) = ((W + (T1.length + 1) : Nat) : Int))
      rw [show W + (T1.length + 1) = W + 1 + T1.length by omega]
      refine ih (by rw [psS_len]; exact hok) (fun p2 s2 d2 hm => ?_)
      rcases psS_mem hm with q | q
      · omega
      · have := hs p2 s2 d2 (List.mem_cons_of_mem _ q)
        omega
theorem LY_9 : ∀ {T1 : List Hd} {h : Hd} {R : List Hd} {W V : Nat} {st : List Sl} {c : Cn}, okT (T1 ++ h :: R) st.length → (∀ p s d, (p, s, d) ∈ st → -1 ≤ p ∧ p < (W : Int)) → -1 ≤ LY (T1 ++ h :: R) W V st c 9 (W + T1.length) ∧ LY (T1 ++ h :: R) W V st c 9 (W + T1.length) < ((W + T1.length : Nat) : Int) := by
  intro T1
  induction T1 with
  | nil =>
    intro h R W V st c hok hs
    cases st with
    | nil => exact (show False from hok).elim
    | cons x st =>
      obtain ⟨p, s, d⟩ := x
      have q := (LY_hd (V := V) (c := c) hok (fun p2 s2 d2 hm => (hs p2 s2 d2 hm).2)).2.2.1
      have hp := hs p s d List.mem_cons_self
      show -1 ≤ LY (h :: R) W V ((p, s, d) :: st) c 9 W ∧ LY (h :: R) W V ((p, s, d) :: st) c 9 W < (W : Int)
      rw [q]
      exact hp
  | cons t T1 ih =>
    intro h R W V st c hok hs
    cases st with
    | nil => exact (show False from hok).elim
    | cons x st =>
      obtain ⟨p, s, d⟩ := x
      show -1 ≤ LY (T1 ++ h :: R) (W + 1) (V + nvH t) (psS t W d st) (ptH t W V p s d c) 9 (W + (T1.length + 1)) ∧ LY (T1 ++ h :: R) (W + 1) (V + nvH t) (psS t W d st) (ptH t W V p s d c) 9 (W + (T1.length + 1)) < ((W + (T1.length + 1) : Nat) : Int)
      rw [show W + (T1.length + 1) = W + 1 + T1.length by omega]
      refine ih (by rw [psS_len]; exact hok) (fun p2 s2 d2 hm => ?_)
      rcases psS_mem hm with q | q
      · omega
      · have := hs p2 s2 d2 (List.mem_cons_of_mem _ q)
        omega
theorem upO_ok {T : List Hd} (hok : okT T 1) : upO T := fun w hw => by
  obtain ⟨T1, x, R, e, l, g⟩ := spl_at hw
  have hok2 := hok
  rw [e] at hok2
  have q := LY_9 (T1 := T1) (h := x) (R := R) (W := 0) (V := 0) (st := [(-1, false, 0)]) (c := blC) hok2 (fun p s d hm => by
    rcases List.mem_cons.mp hm with q | q
    · have : p = -1 := congrArg Prod.fst q
      omega
    · cases q)
  rw [Nat.zero_add, l, ← e] at q
  exact q
theorem tcC_up {T : List Hd} (hok : okT T 1) {w : Nat} (hw : w < T.length) : (1 ≤ arH (grH T w) → tcC T 9 (w + 1) = w) ∧ (arH (grH T w) = 2 → tcC T 9 (grS T w) = w) := by
  obtain ⟨T1, x, R, e, l, g⟩ := spl_at hw
  have hok2 := hok
  rw [e] at hok2
  obtain ⟨u1, u2⟩ := LY_up (T1 := T1) (h := x) (R := R) (W := 0) (V := 0) (st := [(-1, false, 0)]) (c := blC) hok2 (fun p s d hm => by
    rcases List.mem_cons.mp hm with q | q
    · have : p = -1 := congrArg Prod.fst q
      omega
    · cases q)
  rw [Nat.zero_add, l] at u1 u2
  rw [g]
  refine ⟨fun z => ?_, fun z => ?_⟩
  · rw [e]; exact u1 z
  · obtain ⟨m, hm⟩ := okT_r hok2
    rw [z, show m + 2 = 1 + (m + 1) by omega] at hm
    obtain ⟨A, B, eR, hA, hB⟩ := okT_spl hm
    have q := (gr_hw hok T1 x R e).2.2 z A B eR hA
    rw [l] at q
    rw [q, e]
    exact u2 z A B eR hA
/-- what stands around a WORD's DEEDS -/
theorem ch_lk {T : List Hd} (hok : okT T 1) (hv : hvT T) {w : Nat} (hw : w < T.length) : (2 ≤ (grH T w).1 → tcC T 9 (w + 1) = w) ∧ (3 ≤ (grH T w).1 ∧ (grH T w).1 ≤ 5 → tcC T 9 (grS T w) = w) := by
  obtain ⟨hx, _⟩ := gr_lk hok hv hw
  have hk := arH_k hx
  obtain ⟨u1, u2⟩ := tcC_up hok hw
  exact ⟨fun z => u1 (by omega), fun z => u2 (by omega)⟩
/-- what is around a LAPSED WORD's DEEDS is LAPSED -/
theorem lp_ch {T : List Hd} {S : Sn} (ho : upO T) (h4 : T.length ≤ 40) {w v : Nat} (hv : v < T.length) (e : tcC T 9 v = w) (h : lpT T S w = true) : lpT T S v = true := by
  unfold lpT at h ⊢
  rw [upF_st ho h4 hv, e, if_neg (by omega), Int.toNat_natCast, h]
  unfold lpH
  rw [Bool.or_true]
/-! what a LIFE has: PAYMENTS (LIFE, DAY, coins, WORD, both HOUSES), what was LOST, what STANDS (WORD, FACTOR), coins so far -/
abbrev Pm := Int × Int × Int × Int × Int × Int
abbrev Sd := Nat × Int
abbrev Ls := List Pm × Int × List Sd × Int
def ap1 (l d a b : Int) (σ : Ls) (e : Ev) : Ls := if e.1 = true then (if 2000 ≤ σ.1.length then (σ.1, σ.2.1 + 1, σ.2.2) else (σ.1 ++ [(l, d, e.2.2, (e.2.1 : Int), a, b)], σ.2.1, σ.2.2.1, σ.2.2.2 + e.2.2)) else (if 40 ≤ σ.2.2.1.length then (σ.1, σ.2.1 + 1, σ.2.2) else (σ.1, σ.2.1, σ.2.2.1 ++ [e.2], σ.2.2.2))
def apS (l d a b : Int) : List Ev → Ls → Ls
  | [], σ => σ
  | e :: E, σ => apS l d a b E (ap1 l d a b σ e)
theorem apS_app {l d a b : Int} : ∀ {A B : List Ev} {σ : Ls}, apS l d a b (A ++ B) σ = apS l d a b B (apS l d a b A σ) := by
  intro A
  induction A with
  | nil => intro B σ; rfl
  | cons e A ih => intro B σ; exact ih
/-- what may STAND; what may happen -/
def okS (T : List Hd) (e : Sd) : Prop := e.1 < T.length ∧ ((grH T e.1).1 = 4 ∨ (grH T e.1).1 = 6 ∨ (grH T e.1).1 = 7) ∧ -1000000 ≤ e.2 ∧ e.2 ≤ 1000000
def okE (T : List Hd) (e : Ev) : Prop := (e.1 = true → e.2.1 < T.length ∧ e.2.2 ≠ 0 ∧ -1000000 ≤ e.2.2 ∧ e.2.2 ≤ 1000000) ∧ (e.1 = false → okS T e.2)
def okQ (T : List Hd) (Q : List Sd) : Prop := Q.length ≤ 40 ∧ ∀ e, e ∈ Q → okS T e
theorem clP_b {c f m : Int} (hc : 0 ≤ c) (hf : -m ≤ f ∧ f ≤ m) : -m ≤ clP c f ∧ clP c f ≤ m := by
  unfold clP
  split
  · omega
  · split <;> omega
theorem clP_c {c f : Int} (hc : 0 ≤ c) : -c ≤ clP c f ∧ clP c f ≤ c := by
  unfold clP
  split
  · omega
  · split <;> omega
theorem hdP_b {T : List Hd} (hv : hvT T) (ho : upO T) {w : Nat} (hw : w < T.length) {f : Int} (hf : -1000000 ≤ f ∧ f ≤ 1000000) : -1000000 ≤ hdP (cqT T w) f ∧ hdP (cqT T w) f ≤ 1000000 := by
  have q := cqT_n hv ho 41 w hw
  have q : -1 ≤ cqT T w ∧ cqT T w ≤ 99999 := q
  unfold hdP
  split
  · exact hf
  · exact clP_b (by omega) hf
theorem psT_b {S : Sn} {h : Hd} {f : Int} (hf : -1000000 ≤ f ∧ f ≤ 1000000) : -1000000 ≤ psT S h f ∧ psT S h f ≤ 1000000 := by
  unfold psT
  split
  · omega
  · split
    · exact clP_c (by omega)
    · exact hf
theorem evT_ok {T : List Hd} {S : Sn} (hok : okT T 1) (hv : hvT T) : ∀ k w f, w < T.length → -1000000 ≤ f ∧ f ≤ 1000000 → ∀ e, e ∈ evT T S k w f → okE T e := by
  intro k
  induction k with
  | zero => intro w f _ _ e he; cases he
  | succ k ih =>
    intro w f hw hf e he
    obtain ⟨hx, k1, k2⟩ := gr_lk hok hv hw
    unfold evT at he
    by_cases cl : lpT T S w = true
    · rw [if_pos cl] at he; cases he
    rw [if_neg cl] at he
    by_cases c0 : (grH T w).1 = 0
    · rw [if_pos c0] at he; cases he
    rw [if_neg c0] at he
    by_cases c1 : (grH T w).1 = 1
    · rw [if_pos c1] at he
      by_cases cz : hdP (cqT T w) f = 0
      · rw [if_pos cz] at he; cases he
      · rw [if_neg cz] at he
        rcases List.mem_cons.mp he with e2 | e2
        · rw [e2]
          exact ⟨fun _ => ⟨hw, cz, hdP_b hv (upO_ok hok) hw hf⟩, fun z => Bool.noConfusion (show true = false from z)⟩
        · cases e2
    rw [if_neg c1] at he
    by_cases c4 : (grH T w).1 = 4 ∨ (grH T w).1 = 7 ∨ ((grH T w).1 = 6 ∧ hlB S (grH T w) = false)
    · rw [if_pos c4] at he
      rcases List.mem_cons.mp he with e2 | e2
      · rw [e2]
        exact ⟨fun z => Bool.noConfusion (show false = true from z), fun _ => ⟨hw, by rcases c4 with z | z | z; exact Or.inl z; exact Or.inr (Or.inr z); exact Or.inr (Or.inl z.1), hf⟩⟩
      · cases e2
    rw [if_neg c4] at he
    have kk := hx.1
    have h1 := k1 (by omega)
    by_cases c3 : (grH T w).1 = 3
    · rw [if_pos c3] at he
      have h2 := k2 (by omega)
      rcases List.mem_append.mp he with q | q
      · exact ih _ _ (by omega) hf e q
      · exact ih _ _ (by omega) hf e q
    · rw [if_neg c3] at he
      have l3 := nx_lk (S := S) hok hv hw (by omega)
      exact ih _ _ l3.2 (psT_b hf) e he
theorem ap1_ok {T : List Hd} {l d a b : Int} {σ : Ls} {e : Ev} (he : okE T e) (h : okQ T σ.2.2.1) : okQ T (ap1 l d a b σ e).2.2.1 ∧ σ.2.2.1.length ≤ (ap1 l d a b σ e).2.2.1.length ∧ σ.1.length ≤ (ap1 l d a b σ e).1.length ∧ (σ.1.length ≤ 2000 → (ap1 l d a b σ e).1.length ≤ 2000) := by
  obtain ⟨h1, h2⟩ := h
  unfold ap1
  by_cases c : e.1 = true
  · rw [if_pos c]
    by_cases c2 : 2000 ≤ σ.1.length
    · rw [if_pos c2]
      exact ⟨⟨h1, h2⟩, Nat.le_refl _, Nat.le_refl _, fun z => z⟩
    · rw [if_neg c2]
      refine ⟨⟨h1, h2⟩, Nat.le_refl _, ?_, fun _ => ?_⟩
      · show _ ≤ (σ.1 ++ _).length
        rw [List.length_append]
        omega
      · show (σ.1 ++ _).length ≤ 2000
        rw [List.length_append, List.length_cons, List.length_nil]
        omega
  · rw [if_neg c]
    by_cases c2 : 40 ≤ σ.2.2.1.length
    · rw [if_pos c2]
      exact ⟨⟨h1, h2⟩, Nat.le_refl _, Nat.le_refl _, fun z => z⟩
    · rw [if_neg c2]
      have ce : e.1 = false := by
        cases hh : e.1
        · rfl
        · exact absurd hh c
      refine ⟨⟨?_, fun x hx => ?_⟩, ?_, Nat.le_refl _, fun z => z⟩
      · show (σ.2.2.1 ++ [e.2]).length ≤ 40
        rw [List.length_append, List.length_cons, List.length_nil]
        omega
      · have hx : x ∈ σ.2.2.1 ++ [e.2] := hx
        rcases List.mem_append.mp hx with q | q
        · exact h2 x q
        · rcases List.mem_cons.mp q with q | q
          · rw [q]; exact he.2 ce
          · cases q
      · show _ ≤ (σ.2.2.1 ++ [e.2]).length
        rw [List.length_append]
        omega
theorem apS_ok {T : List Hd} {l d a b : Int} : ∀ {E : List Ev} {σ : Ls}, (∀ e, e ∈ E → okE T e) → okQ T σ.2.2.1 → okQ T (apS l d a b E σ).2.2.1 ∧ σ.2.2.1.length ≤ (apS l d a b E σ).2.2.1.length ∧ σ.1.length ≤ (apS l d a b E σ).1.length ∧ (σ.1.length ≤ 2000 → (apS l d a b E σ).1.length ≤ 2000) := by
  intro E
  induction E with
  | nil => intro σ _ h; exact ⟨h, Nat.le_refl _, Nat.le_refl _, fun z => z⟩
  | cons e E ih =>
    intro σ he h
    obtain ⟨q1, q2, q3, q4⟩ := ap1_ok (l := l) (d := d) (a := a) (b := b) (he e List.mem_cons_self) h
    obtain ⟨p1, p2, p3, p4⟩ := ih (σ := ap1 l d a b σ e) (fun x hx => he x (List.mem_cons_of_mem _ hx)) q1
    exact ⟨p1, Nat.le_trans q2 p2, Nat.le_trans q3 p3, fun z => p4 (q4 z)⟩
theorem okQ_del {T : List Hd} {Q : List Sd} {k : Nat} (h : okQ T Q) (hk : k < Q.length) : okQ T (delL Q k) := ⟨by have := delL_ln hk; have := h.1; omega, fun e he => h.2 e (delL_mem he)⟩
/-- a DAY begins for a LIFE: m are still to be looked at, the next is the k-th -/
def goB (T : List Hd) (S : Sn) (w : Nat) : Bool := lpT T S w || (decide ((grH T w).1 = 4) || (decide ((grH T w).1 = 6) && hlB S (grH T w)))
def dpE (T : List Hd) (S : Sn) (l a b : Int) (k : Nat) (c : Nat) (σ : Ls) : Ls := apS l S.1 a b (ev T S c (σ.2.2.1.getD k (0, 0)).2) (σ.1, σ.2.1, delL σ.2.2.1 k, σ.2.2.2)
def wkT (T : List Hd) (S : Sn) (l a b : Int) : Nat → Nat → Ls → Ls
  | 0, _, σ => σ
  | m + 1, k, σ => if goB T S (σ.2.2.1.getD k (0, 0)).1 = true then wkT T S l a b m k (dpE T S l a b k ((σ.2.2.1.getD k (0, 0)).1 + 1) σ) else wkT T S l a b m (k + 1) σ
theorem dpE_ok {T : List Hd} {S : Sn} {l a b : Int} {k c : Nat} {σ : Ls} (hok : okT T 1) (hv : hvT T) (hq : okQ T σ.2.2.1) (hk : k < σ.2.2.1.length) (hc : c < T.length) : okQ T (dpE T S l a b k c σ).2.2.1 ∧ σ.2.2.1.length ≤ (dpE T S l a b k c σ).2.2.1.length + 1 ∧ σ.1.length ≤ (dpE T S l a b k c σ).1.length ∧ (σ.1.length ≤ 2000 → (dpE T S l a b k c σ).1.length ≤ 2000) := by
  have hs := hq.2 _ (gtD_mem (d := (0, 0)) hk)
  have hd := delL_ln hk
  obtain ⟨p1, p2, p3, p4⟩ := apS_ok (T := T) (l := l) (d := S.1) (a := a) (b := b) (E := ev T S c (σ.2.2.1.getD k (0, 0)).2) (σ := (σ.1, σ.2.1, delL σ.2.2.1 k, σ.2.2.2)) (evT_ok hok hv 41 c _ hc hs.2.2) (okQ_del hq hk)
  have p2 : (delL σ.2.2.1 k).length ≤ (dpE T S l a b k c σ).2.2.1.length := p2
  exact ⟨p1, by omega, p3, p4⟩
theorem goB_st {T : List Hd} {S : Sn} {w : Nat} : goB T S w = true ↔ lpT T S w = true ∨ (grH T w).1 = 4 ∨ ((grH T w).1 = 6 ∧ hlB S (grH T w) = true) := by
  unfold goB
  rw [Bool.or_eq_true, Bool.or_eq_true, Bool.and_eq_true, decide_eq_true_eq, decide_eq_true_eq]
