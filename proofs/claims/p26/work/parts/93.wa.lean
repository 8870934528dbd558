/-! what a DEED is worth: E : the WAYS' additions, their WEIGHTS, how many, powers of all WEIGHTS, MEAN LEAST MOST, how many DAYS ahead -/
abbrev We := (Nat → Nat → Int32) × (Nat → Int64) × Nat × (Nat → Int64) × Int × Nat
/-- the DAY behind a DAY, by a WAY: what it adds -/
def goS (E : We) (S : Sn) (y : Nat) : Sn := (S.1 + 1, fun i => S.2 i + (E.1 y i).toInt)
/-- how far a DAY's THINGS may be -/
def sOk (d : Nat) (S : Sn) : Prop := (0 ≤ S.1 ∧ S.1 ≤ 399 + (d : Int)) ∧ ∀ i, i < 6 → -9999 - 99 * (d : Int) ≤ S.2 i ∧ S.2 i ≤ 9999 + 99 * (d : Int)
def eB (E : We) : Prop := ∀ y i : Nat, y < 3 → i < 6 → -99 ≤ (E.1 y i).toInt ∧ (E.1 y i).toInt ≤ 99
theorem sOk_go {E : We} {d y : Nat} {S : Sn} (h : sOk d S) (hb : eB E) (hy : y < 3) : sOk (d + 1) (goS E S y) := by
  refine ⟨?_, fun i hi => ?_⟩
  · have q := h.1
    show 0 ≤ S.1 + 1 ∧ S.1 + 1 ≤ 399 + ((d + 1 : Nat) : Int)
    omega
  · have q := h.2 i hi
    have p := hb y i hy hi
    show -9999 - 99 * ((d + 1 : Nat) : Int) ≤ S.2 i + (E.1 y i).toInt ∧ S.2 i + (E.1 y i).toInt ≤ 9999 + 99 * ((d + 1 : Nat) : Int)
    omega
/-- the DAY of a WORLD -/
def wSc (E : We) (S0 : Sn) : Nat → Nat → Sn
  | 0, _ => S0
  | d + 1, wo => goS E (wSc E S0 d (wo / E.2.2.1)) (wo % E.2.2.1)
def dgS (E : We) : Nat → Nat → Nat → Int
  | 0, _, _ => 0
  | d + 1, wo, i => dgS E d (wo / E.2.2.1) i + (E.1 (wo % E.2.2.1) i).toInt
theorem wSc_dg {E : We} {S0 : Sn} : ∀ {d wo : Nat}, (wSc E S0 d wo).1 = S0.1 + (d : Int) ∧ ∀ i, (wSc E S0 d wo).2 i = S0.2 i + dgS E d wo i := by
  intro d
  induction d with
  | zero => intro wo; exact ⟨(Int.add_zero _).symm, fun i => (Int.add_zero _).symm⟩
  | succ d ih =>
    intro wo
    obtain ⟨q1, q2⟩ := ih (wo := wo / E.2.2.1)
    refine ⟨?_, fun i => ?_⟩
    · show (wSc E S0 d (wo / E.2.2.1)).1 + 1 = _
      rw [q1]; omega
    · show (wSc E S0 d (wo / E.2.2.1)).2 i + (E.1 (wo % E.2.2.1) i).toInt = S0.2 i + (dgS E d (wo / E.2.2.1) i + (E.1 (wo % E.2.2.1) i).toInt)
      rw [q2]; omega
theorem wSc_up {E : We} {S0 : Sn} {d wo y : Nat} (hy : y < E.2.2.1) : wSc E S0 (d + 1) (wo * E.2.2.1 + y) = goS E (wSc E S0 d wo) y := by
  show goS E (wSc E S0 d ((wo * E.2.2.1 + y) / E.2.2.1)) ((wo * E.2.2.1 + y) % E.2.2.1) = _
  rw [Nat.add_comm, Nat.add_mul_div_right _ _ (by omega), Nat.add_mul_mod_self_right, Nat.div_eq_of_lt hy, Nat.mod_eq_of_lt hy, Nat.zero_add]
theorem sOk_w {E : We} {S0 : Sn} (h : sOk 0 S0) (hb : eB E) (hz : 1 ≤ E.2.2.1 ∧ E.2.2.1 ≤ 3) : ∀ {d wo : Nat}, sOk d (wSc E S0 d wo) := by
  intro d
  induction d with
  | zero => intro _; exact h
  | succ d ih => intro wo; exact sOk_go ih hb (by have := Nat.mod_lt wo (show 0 < E.2.2.1 by omega); omega)
def btT (sd : Int) (a b : Int64) : Int64 := if sd = 0 then (if b < a then a else b) else (if b < a then b else a)
theorem btT_c {sd : Int} {a b : Int64} : btT sd a b = btT sd b a := by
  unfold btT
  by_cases c : sd = 0
  · rw [if_pos c, if_pos c]
    by_cases h : b < a
    · rw [if_pos h, if_neg (fun z => by rw [fL_lt] at h z; omega)]
    · rw [if_neg h]
      by_cases h2 : a < b
      · rw [if_pos h2]
      · rw [if_neg h2]
        rw [fL_lt] at h h2
        exact Int64.toInt_inj.mp (by omega)
  · rw [if_neg c, if_neg c]
    by_cases h : b < a
    · rw [if_pos h, if_neg (fun z => by rw [fL_lt] at h z; omega)]
    · rw [if_neg h]
      by_cases h2 : a < b
      · rw [if_pos h2]
      · rw [if_neg h2]
        rw [fL_lt] at h h2
        exact Int64.toInt_inj.mp (by omega)
/-- over the WAYS below y: MEAN (0), LEAST (1), MOST -/
def foW (md : Int) (wt vs : Nat → Int64) : Nat → Int64
  | 0 => 0
  | y + 1 => if md = 0 then foW md wt vs y + wt y * vs y else if y = 0 then vs 0 else if md = 1 then (if vs y < foW md wt vs y then vs y else foW md wt vs y) else (if vs y < foW md wt vs y then foW md wt vs y else vs y)
theorem foW_up {md : Int} {wt vs : Nat → Int64} {y : Nat} {al r : Int64} (ha : al = foW md wt vs y) (hr : r = vs y) : (md = 0 → al + wt y * r = foW md wt vs (y + 1)) ∧ (md ≠ 0 → y = 0 → r = foW md wt vs (y + 1)) ∧ (md = 1 → y ≠ 0 → (if r < al then r else al) = foW md wt vs (y + 1)) ∧ (md ≠ 0 → md ≠ 1 → y ≠ 0 → (if r < al then al else r) = foW md wt vs (y + 1)) := by
  subst ha hr
  refine ⟨fun m => ?_, fun m y0 => ?_, fun m y0 => ?_, fun m m1 y0 => ?_⟩
  · show _ = (if md = 0 then foW md wt vs y + wt y * vs y else _)
    rw [if_pos m]
  · show _ = (if md = 0 then foW md wt vs y + wt y * vs y else if y = 0 then vs 0 else _)
    rw [if_neg m, if_pos y0, y0]
  · show _ = (if md = 0 then foW md wt vs y + wt y * vs y else if y = 0 then vs 0 else if md = 1 then _ else _)
    rw [if_neg (show ¬ md = 0 by omega), if_neg y0, if_pos m]
  · show _ = (if md = 0 then foW md wt vs y + wt y * vs y else if y = 0 then vs 0 else if md = 1 then _ else _)
    rw [if_neg m, if_neg y0, if_neg m1]
theorem foW_cg {md : Int} {wt vs vs2 : Nat → Int64} : ∀ {y : Nat}, (∀ z, z < y → vs2 z = vs z) → foW md wt vs2 y = foW md wt vs y := by
  intro y
  induction y with
  | zero => intro _; rfl
  | succ y ih =>
    intro h
    have e := ih (fun z hz => h z (by omega))
    have e0 := h y (Nat.lt_succ_self _)
    have e1 : y = 0 → vs2 0 = vs 0 := fun z => h 0 (by omega)
    unfold foW
    rw [e, e0]
    by_cases c : y = 0
    · rw [if_pos c, if_pos c, e1 c]
    · rw [if_neg c, if_neg c]
def vlT (T : List Hd) (E : We) : Nat → Nat → Int → Nat → Sn → Int64
  | 0, _, _, _, _ => 0
  | k + 1, w, f, d, S => if lpT T S w = true ∨ (grH T w).1 = 0 then 0 else if (grH T w).1 = 1 then Int64.ofInt (hdP (cqT T w) f) * (if E.2.2.2.2.1 = 0 then E.2.2.2.1 (E.2.2.2.2.2 - d) else 1)
    else if (grH T w).1 = 3 then vlT T E k (w + 1) f d S + vlT T E k (grS T w) f d S
    else if (grH T w).1 = 4 then btT (sdT T w) (vlT T E k (w + 1) f d S) (vlT T E k (grS T w) f d S)
    else if ((grH T w).1 = 6 ∨ (grH T w).1 = 7) ∧ hlB S (grH T w) = false then (if d < E.2.2.2.2.2 then foW E.2.2.2.2.1 E.2.1 (fun y => vlT T E k w f (d + 1) (goS E S y)) E.2.2.1 else 0)
    else if (grH T w).1 = 7 then btT (sdT T w) (if d < E.2.2.2.2.2 then foW E.2.2.2.2.1 E.2.1 (fun y => vlT T E k w f (d + 1) (goS E S y)) E.2.2.1 else 0) (vlT T E k (nxT T S w) (psT S (grH T w) f) d S)
    else vlT T E k (nxT T S w) (psT S (grH T w) f) d S
/-- fuel enough is enough -/
theorem vlT_fu {T : List Hd} {E : We} (hok : okT T 1) (hv : hvT T) (h4 : T.length ≤ 40) : ∀ (k j w : Nat) (f : Int) (d : Nat) (S : Sn), w < T.length → d ≤ E.2.2.2.2.2 → (E.2.2.2.2.2 - d) * 41 + (T.length - w) ≤ k → (E.2.2.2.2.2 - d) * 41 + (T.length - w) ≤ j → vlT T E k w f d S = vlT T E j w f d S := by
  intro k
  induction k with
  | zero => intro j w f d S hw _ h1; omega
  | succ k ih =>
    intro j w f d S hw hd h1 h2
    cases j with
    | zero => omega
    | succ j =>
      obtain ⟨hx, g1, g2⟩ := gr_lk hok hv hw
      have kk := hx.1
      unfold vlT
      by_cases c0 : lpT T S w = true ∨ (grH T w).1 = 0
      · rw [if_pos c0, if_pos c0]
      rw [if_neg c0, if_neg c0]
      by_cases c1 : (grH T w).1 = 1
      · rw [if_pos c1, if_pos c1]
      rw [if_neg c1, if_neg c1]
      have k2 : 2 ≤ (grH T w).1 := by
        have : ¬ (grH T w).1 = 0 := fun e => c0 (Or.inr e)
        omega
      have l1 := g1 k2
      have w1 := ih j (w + 1) f d S l1 hd (by omega) (by omega)
      by_cases c3 : (grH T w).1 = 3
      · have l2 := g2 (by omega)
        rw [if_pos c3, if_pos c3, w1, ih j (grS T w) f d S l2.2 hd (by omega) (by omega)]
      rw [if_neg c3, if_neg c3]
      by_cases c4 : (grH T w).1 = 4
      · have l2 := g2 (by omega)
        rw [if_pos c4, if_pos c4, w1, ih j (grS T w) f d S l2.2 hd (by omega) (by omega)]
      rw [if_neg c4, if_neg c4]
      have wt_ : (if d < E.2.2.2.2.2 then foW E.2.2.2.2.1 E.2.1 (fun y => vlT T E k w f (d + 1) (goS E S y)) E.2.2.1 else 0) = (if d < E.2.2.2.2.2 then foW E.2.2.2.2.1 E.2.1 (fun y => vlT T E j w f (d + 1) (goS E S y)) E.2.2.1 else 0) := by
        by_cases cd : d < E.2.2.2.2.2
        · rw [if_pos cd, if_pos cd]
          exact foW_cg (fun z _ => ih j w f (d + 1) (goS E S z) hw (by omega) (by omega) (by omega))
        · rw [if_neg cd, if_neg cd]
      have l3 := nx_lk (S := S) hok hv hw k2
      have wn := ih j (nxT T S w) (psT S (grH T w) f) d S l3.2 hd (by omega) (by omega)
      rw [wt_, wn]
/-- what a WORD is worth; what WAITING is worth -/
def vl (T : List Hd) (E : We) (w : Nat) (f : Int) (d : Nat) (S : Sn) : Int64 := vlT T E ((E.2.2.2.2.2 - d) * 41 + (T.length - w)) w f d S
def wl (T : List Hd) (E : We) (w : Nat) (f : Int) (d : Nat) (S : Sn) : Int64 := if d < E.2.2.2.2.2 then foW E.2.2.2.2.1 E.2.1 (fun y => vl T E w f (d + 1) (goS E S y)) E.2.2.1 else 0
theorem vl_st {T : List Hd} {E : We} (hok : okT T 1) (hv : hvT T) (h4 : T.length ≤ 40) {w : Nat} {f : Int} {d : Nat} {S : Sn} (hw : w < T.length) (hd : d ≤ E.2.2.2.2.2) : vl T E w f d S = if lpT T S w = true ∨ (grH T w).1 = 0 then 0 else if (grH T w).1 = 1 then Int64.ofInt (hdP (cqT T w) f) * (if E.2.2.2.2.1 = 0 then E.2.2.2.1 (E.2.2.2.2.2 - d) else 1)
    else if (grH T w).1 = 3 then vl T E (w + 1) f d S + vl T E (grS T w) f d S
    else if (grH T w).1 = 4 then btT (sdT T w) (vl T E (w + 1) f d S) (vl T E (grS T w) f d S)
    else if ((grH T w).1 = 6 ∨ (grH T w).1 = 7) ∧ hlB S (grH T w) = false then wl T E w f d S
    else if (grH T w).1 = 7 then btT (sdT T w) (wl T E w f d S) (vl T E (nxT T S w) (psT S (grH T w) f) d S)
    else vl T E (nxT T S w) (psT S (grH T w) f) d S := by
  obtain ⟨n, hn⟩ : ∃ n, (E.2.2.2.2.2 - d) * 41 + (T.length - w) = n + 1 := ⟨(E.2.2.2.2.2 - d) * 41 + (T.length - w) - 1, by omega⟩
  have hV : ∀ (w' : Nat) (f' : Int), w < w' → w' < T.length → vlT T E n w' f' d S = vl T E w' f' d S := fun w' f' h1 h2 => vlT_fu hok hv h4 n _ w' f' d S h2 hd (by omega) (Nat.le_refl _)
  have hW : (if d < E.2.2.2.2.2 then foW E.2.2.2.2.1 E.2.1 (fun y => vlT T E n w f (d + 1) (goS E S y)) E.2.2.1 else 0) = wl T E w f d S := by
    unfold wl
    by_cases cd : d < E.2.2.2.2.2
    · rw [if_pos cd, if_pos cd]
      exact foW_cg (fun z _ => vlT_fu (E := E) hok hv h4 n ((E.2.2.2.2.2 - (d + 1)) * 41 + (T.length - w)) w f (d + 1) (goS E S z) hw (by omega) (by omega) (Nat.le_refl _))
    · rw [if_neg cd, if_neg cd]
  have e : vl T E w f d S = vlT T E (n + 1) w f d S := by unfold vl; rw [hn]
  rw [e]
  obtain ⟨hx, g1, g2⟩ := gr_lk hok hv hw
  have kk := hx.1
  show (if lpT T S w = true ∨ (grH T w).1 = 0 then 0 else _) = _
  by_cases c0 : lpT T S w = true ∨ (grH T w).1 = 0
  · rw [if_pos c0, if_pos c0]
  rw [if_neg c0, if_neg c0]
  by_cases c1 : (grH T w).1 = 1
  · rw [if_pos c1, if_pos c1]
  rw [if_neg c1, if_neg c1]
  have k2 : 2 ≤ (grH T w).1 := by
    have : ¬ (grH T w).1 = 0 := fun e => c0 (Or.inr e)
    omega
  have l1 := g1 k2
  have l3 := nx_lk (S := S) hok hv hw k2
  by_cases c3 : (grH T w).1 = 3
  · have l2 := g2 (by omega)
    rw [if_pos c3, if_pos c3, hV _ _ (by omega) l1, hV _ _ (by omega) l2.2]
  rw [if_neg c3, if_neg c3]
  by_cases c4 : (grH T w).1 = 4
  · have l2 := g2 (by omega)
    rw [if_pos c4, if_pos c4, hV _ _ (by omega) l1, hV _ _ (by omega) l2.2]
  rw [if_neg c4, if_neg c4, hW, hV _ _ l3.1 l3.2]
theorem vl_0 {T : List Hd} {E : We} (hok : okT T 1) (hv : hvT T) (h4 : T.length ≤ 40) {w : Nat} {f : Int} {d : Nat} {S : Sn} (hw : w < T.length) (hd : d ≤ E.2.2.2.2.2) (h : lpT T S w = true ∨ (grH T w).1 = 0) : vl T E w f d S = 0 := by rw [vl_st hok hv h4 hw hd, if_pos h]
theorem vl_1 {T : List Hd} {E : We} (hok : okT T 1) (hv : hvT T) (h4 : T.length ≤ 40) {w : Nat} {f : Int} {d : Nat} {S : Sn} (hw : w < T.length) (hd : d ≤ E.2.2.2.2.2) (hl : lpT T S w = false) (hk : (grH T w).1 = 1) : vl T E w f d S = Int64.ofInt (hdP (cqT T w) f) * (if E.2.2.2.2.1 = 0 then E.2.2.2.1 (E.2.2.2.2.2 - d) else 1) := by rw [vl_st hok hv h4 hw hd, if_neg (by rw [hl, hk]; decide), if_pos hk]
theorem vl_3 {T : List Hd} {E : We} (hok : okT T 1) (hv : hvT T) (h4 : T.length ≤ 40) {w : Nat} {f : Int} {d : Nat} {S : Sn} (hw : w < T.length) (hd : d ≤ E.2.2.2.2.2) (hl : lpT T S w = false) (hk : (grH T w).1 = 3) : vl T E w f d S = vl T E (w + 1) f d S + vl T E (grS T w) f d S := by rw [vl_st hok hv h4 hw hd, if_neg (by rw [hl, hk]; decide), if_neg (by omega), if_pos hk]
theorem vl_4 {T : List Hd} {E : We} (hok : okT T 1) (hv : hvT T) (h4 : T.length ≤ 40) {w : Nat} {f : Int} {d : Nat} {S : Sn} (hw : w < T.length) (hd : d ≤ E.2.2.2.2.2) (hl : lpT T S w = false) (hk : (grH T w).1 = 4) : vl T E w f d S = btT (sdT T w) (vl T E (w + 1) f d S) (vl T E (grS T w) f d S) := by rw [vl_st hok hv h4 hw hd, if_neg (by rw [hl, hk]; decide), if_neg (by omega), if_neg (by omega), if_pos hk]
theorem vl_w {T : List Hd} {E : We} (hok : okT T 1) (hv : hvT T) (h4 : T.length ≤ 40) {w : Nat} {f : Int} {d : Nat} {S : Sn} (hw : w < T.length) (hd : d ≤ E.2.2.2.2.2) (hl : lpT T S w = false) (hk : (grH T w).1 = 6 ∨ (grH T w).1 = 7) (hb : hlB S (grH T w) = false) : vl T E w f d S = wl T E w f d S := by rw [vl_st hok hv h4 hw hd, if_neg (by rw [hl]; rintro (z | z); exact absurd z (by decide); omega), if_neg (by omega), if_neg (by omega), if_neg (by omega), if_pos ⟨hk, hb⟩]
theorem vl_7 {T : List Hd} {E : We} (hok : okT T 1) (hv : hvT T) (h4 : T.length ≤ 40) {w : Nat} {f : Int} {d : Nat} {S : Sn} (hw : w < T.length) (hd : d ≤ E.2.2.2.2.2) (hl : lpT T S w = false) (hk : (grH T w).1 = 7) (hb : hlB S (grH T w) = true) : vl T E w f d S = btT (sdT T w) (wl T E w f d S) (vl T E (nxT T S w) (psT S (grH T w) f) d S) := by rw [vl_st hok hv h4 hw hd, if_neg (by rw [hl]; rintro (z | z); exact absurd z (by decide); omega), if_neg (by omega), if_neg (by omega), if_neg (by omega), if_neg (fun z => by rw [hb] at z; exact absurd z.2 (by decide)), if_pos hk]
theorem vl_n {T : List Hd} {E : We} (hok : okT T 1) (hv : hvT T) (h4 : T.length ≤ 40) {w : Nat} {f : Int} {d : Nat} {S : Sn} (hw : w < T.length) (hd : d ≤ E.2.2.2.2.2) (hl : lpT T S w = false) (hk : 2 ≤ (grH T w).1 ∧ (grH T w).1 ≠ 3 ∧ (grH T w).1 ≠ 4 ∧ (grH T w).1 ≠ 7) (h6 : (grH T w).1 = 6 → hlB S (grH T w) = true) : vl T E w f d S = vl T E (nxT T S w) (psT S (grH T w) f) d S := by
  rw [vl_st hok hv h4 hw hd, if_neg (by rw [hl]; rintro (z | z); exact absurd z (by decide); omega), if_neg (by omega), if_neg (by omega), if_neg (by omega), if_neg (fun z => by
    rcases z with ⟨z | z, y⟩
    · rw [h6 z] at y; exact absurd y (by decide)
    · omega), if_neg (by omega)]
