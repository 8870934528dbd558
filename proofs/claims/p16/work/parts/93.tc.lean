/-! the class's LIVES: what its cells hold -/
def pmC (eg : Nat → Int32) (i : Nat) (p : Pm) : Prop := (eg (6 * i)).toInt = p.1 ∧ (eg (6 * i + 1)).toInt = p.2.1 ∧ (eg (6 * i + 2)).toInt = p.2.2.1 ∧ (eg (6 * i + 3)).toInt = p.2.2.2.1 ∧ (eg (6 * i + 4)).toInt = p.2.2.2.2.1 ∧ (eg (6 * i + 5)).toInt = p.2.2.2.2.2
def pm0 : Pm := (0, 0, 0, 0, 0, 0)
def LGc (sz lo : Int32) (eg : Nat → Int32) (P : List Pm) (L : Int) : Prop := (sz.toInt = (P.length : Int) ∧ P.length ≤ 2000) ∧ lo = Int32.ofInt L ∧ ∀ i, i < P.length → pmC eg i (P.getD i pm0)
def LFc (fs_ : Int32) (ga : Int64) (sg fg : Nat → Int32) (Q : List Sd) (G : Int) : Prop := (fs_.toInt = (Q.length : Int) ∧ Q.length ≤ 40) ∧ ga = Int64.ofInt G ∧ ∀ i, i < Q.length → (sg i).toInt = ((Q.getD i (0, 0)).1 : Int) ∧ (fg i).toInt = (Q.getD i (0, 0)).2
def CSt (sz lo : Int32) (eg : Nat → Int32) (fs_ : Int32) (ga : Int64) (sg fg : Nat → Int32) (Z : Ls) : Prop := LGc sz lo eg Z.1 Z.2.1 ∧ LFc fs_ ga sg fg Z.2.2.1 Z.2.2.2
theorem lo_1 {lo : Int32} {L : Int} (h : lo = Int32.ofInt L) : lo + 1 = Int32.ofInt (L + 1) := by rw [Int32.ofInt_add, ← h]; rfl
theorem keep_S {sz lo : Int32} {eg : Nat → Int32} {fs_ wd fa : Int32} {ga : Int64} {sg fg : Nat → Int32} {Z : Ls} {wN : Nat} {fN l d a b : Int} (hZ : CSt sz lo eg fs_ ga sg fg Z) (hw : wd.toInt = (wN : Int)) (hf : fa.toInt = fN) {X : Int32 × (Nat → Int32) × (Nat → Int32) × Int32} (hX : stdF sg fg fs_ wd fa = X) : (X.1 = 0 → CSt sz (lo + 1) eg X.2.2.2 ga X.2.1 X.2.2.1 (ap1 l d a b Z (false, wN, fN))) ∧ (¬ X.1 = 0 → CSt sz lo eg X.2.2.2 ga X.2.1 X.2.2.1 (ap1 l d a b Z (false, wN, fN))) := by
  have e0 : (0 : Int32).toInt = 0 := rfl
  have e40 : (40 : Int32).toInt = 40 := rfl
  obtain ⟨⟨h1, h2, h3⟩, ⟨k1, k1b⟩, k2, k3⟩ := hZ
  unfold stdF at hX
  rw [if_neg (by rw [fl_lt, e0]; omega)] at hX
  unfold ap1
  rw [if_neg (show ¬ false = true by decide)]
  by_cases c : fs_ < 40
  · rw [if_pos c] at hX
    rw [fl_lt, e40] at c
    subst hX
    rw [if_neg (by omega)]
    refine ⟨fun z => absurd z (by decide : ¬ (1 : Int32) = 0), fun _ => ⟨⟨h1, h2, h3⟩, ⟨?_, ?_⟩, k2, fun i hi => ?_⟩⟩
    · show (fs_ + 1).toInt = ((Z.2.2.1 ++ [(wN, fN)]).length : Int)
      rw [List.length_append, List.length_cons, List.length_nil, T_add k1 (show (1 : Int32).toInt = 1 from rfl) (by omega)]
      omega
    · show (Z.2.2.1 ++ [(wN, fN)]).length ≤ 40
      rw [List.length_append, List.length_cons, List.length_nil]
      omega
    · show (upd sg (Int32.toNatClampNeg fs_) wd i).toInt = (((Z.2.2.1 ++ [(wN, fN)]).getD i (0, 0)).1 : Int) ∧ (upd fg (Int32.toNatClampNeg fs_) fa i).toInt = ((Z.2.2.1 ++ [(wN, fN)]).getD i (0, 0)).2
      have hi : i < (Z.2.2.1 ++ [(wN, fN)]).length := hi
      rw [List.length_append, List.length_cons, List.length_nil] at hi
      have ef : Int32.toNatClampNeg fs_ = Z.2.2.1.length := by rw [clN]; omega
      rw [ef, updE, updE]
      by_cases ci : i = Z.2.2.1.length
      · rw [if_pos ci, if_pos ci, ci, gtD1]
        exact ⟨hw, hf⟩
      · rw [if_neg ci, if_neg ci, gtD2 (by omega)]
        exact k3 i (by omega)
  · rw [if_neg c] at hX
    rw [fl_lt, e40] at c
    subst hX
    rw [if_pos (by omega)]
    exact ⟨fun _ => ⟨⟨h1, lo_1 h2, h3⟩, ⟨k1, k1b⟩, k2, k3⟩, fun z => absurd rfl z⟩
theorem lset_in {ne : Nat} {eg : Nat → Int32} {k x y : Int32} {K c : Nat} (hn : ne ≤ 24000) (hk : k.toInt = (K : Int)) (hx : x.toInt = (c : Int)) (hc : c ≤ 5) (hK : 6 * K + 6 ≤ ne) : lsetF ne eg k x y = upd eg (6 * K + c) y := by
  have e0 : (0 : Int32).toInt = 0 := rfl
  have e6 : (6 : Int32).toInt = 6 := rfl
  have en : (Int32.ofNat ne).toInt = ne := ofN_toInt (by omega)
  have q1 := T_mul hk e6 (by omega)
  have q2 := T_add q1 hx (by omega)
  unfold lsetF
  rw [if_neg (by rw [fl_lt, e0, q2]; omega), if_neg (by rw [fl_le, en, q2]; omega), cl_N q2 (by omega)]
  congr 1
  omega
theorem pay_S {sz lo : Int32} {eg g0 : Nat → Int32} {fs_ wd da co nu ho1 ho2 k : Int32} {ga : Int64} {sg fg : Nat → Int32} {Z : Ls} {wN ne : Nat} (hZ : CSt sz lo eg fs_ ga sg fg Z) (hw : wd.toInt = (wN : Int)) (hn : ne ≤ 24000 ∧ 6 * (sz.toInt + 1) ≤ ne) (hg : ∀ jj : Nat, (jj : Int) < 6 * sz.toInt → g0 jj = eg jj) (hs : sz.toInt < 2000) (hc : ¬ co.toInt = 0) (hk : k.toInt = sz.toInt) : CSt (sz + 1) lo (lsetF ne (lsetF ne (lsetF ne (lsetF ne (lsetF ne (lsetF ne g0 k 0 nu) k 1 da) k 2 co) k 3 wd) k 4 ho1) k 5 ho2) fs_ (ga + co.toInt64) sg fg (if co.toInt = 0 then Z else ap1 nu.toInt da.toInt ho1.toInt ho2.toInt Z (true, wN, co.toInt)) := by
  obtain ⟨⟨⟨h1, h1b⟩, h2, h3⟩, k1, k2, k3⟩ := hZ
  have hK : k.toInt = (Z.1.length : Int) := by omega
  have z := fun (g : Nat → Int32) (x y : Int32) (c : Nat) (hx : x.toInt = (c : Int)) (hc : c ≤ 5) => lset_in (eg := g) (y := y) hn.1 hK hx hc (by omega)
  rw [z g0 0 nu 0 rfl (by decide), z _ 1 da 1 rfl (by decide), z _ 2 co 2 rfl (by decide), z _ 3 wd 3 rfl (by decide), z _ 4 ho1 4 rfl (by decide), z _ 5 ho2 5 rfl (by decide), if_neg hc]
  unfold ap1
  rw [if_pos rfl, if_neg (by omega)]
  refine ⟨⟨⟨?_, ?_⟩, h2, fun i hi => ?_⟩, k1, ?_, k3⟩
  · show (sz + 1).toInt = ((Z.1 ++ [_]).length : Int)
    rw [List.length_append, List.length_cons, List.length_nil, T_add h1 (show (1 : Int32).toInt = 1 from rfl) (by omega)]
    omega
  · show (Z.1 ++ [_]).length ≤ 2000
    rw [List.length_append, List.length_cons, List.length_nil]
    omega
  · have hi : i < (Z.1 ++ [(nu.toInt, da.toInt, co.toInt, (wN : Int), ho1.toInt, ho2.toInt)]).length := hi
    show pmC _ i ((Z.1 ++ [(nu.toInt, da.toInt, co.toInt, (wN : Int), ho1.toInt, ho2.toInt)]).getD i pm0)
    rw [List.length_append, List.length_cons, List.length_nil] at hi
    unfold pmC
    simp only [updE]
    by_cases ci : i = Z.1.length
    · rw [ci, gtD1]
      have ne_ : ∀ a b : Nat, a ≠ b → (6 * Z.1.length + a = 6 * Z.1.length + b) = False := fun a b h => eq_false (by omega)
      have n0 : ∀ b : Nat, 0 ≠ b → (6 * Z.1.length = 6 * Z.1.length + b) = False := fun b h => eq_false (by omega)
      refine ⟨?_, ?_, ?_, ?_, ?_, ?_⟩
      · rw [if_neg (by omega), if_neg (by omega), if_neg (by omega), if_neg (by omega), if_neg (by omega), if_pos (by omega)]
      · rw [if_neg (by omega), if_neg (by omega), if_neg (by omega), if_neg (by omega), if_pos (by omega)]
      · rw [if_neg (by omega), if_neg (by omega), if_neg (by omega), if_pos (by omega)]
      · rw [if_neg (by omega), if_neg (by omega), if_pos (by omega)]; exact hw
      · rw [if_neg (by omega), if_pos (by omega)]
      · rw [if_pos (by omega)]
    · rw [gtD2 (by omega)]
      obtain ⟨q0, q1, q2, q3, q4, q5⟩ := h3 i (by omega)
      have o : ∀ a : Nat, a ≤ 5 → (if 6 * i + a = 6 * Z.1.length + 5 then ho2 else if 6 * i + a = 6 * Z.1.length + 4 then ho1 else if 6 * i + a = 6 * Z.1.length + 3 then wd else if 6 * i + a = 6 * Z.1.length + 2 then co else if 6 * i + a = 6 * Z.1.length + 1 then da else if 6 * i + a = 6 * Z.1.length + 0 then nu else g0 (6 * i + a)) = eg (6 * i + a) := fun a ha => by
        rw [if_neg (by omega), if_neg (by omega), if_neg (by omega), if_neg (by omega), if_neg (by omega), if_neg (by omega)]
        exact hg _ (by omega)
      refine ⟨?_, ?_, ?_, ?_, ?_, ?_⟩
      · have o0 := o 0 (by omega)
        rw [Nat.add_zero] at o0
        rw [o0]; exact q0
      · rw [o 1 (by omega)]; exact q1
      · rw [o 2 (by omega)]; exact q2
      · rw [o 3 (by omega)]; exact q3
      · rw [o 4 (by omega)]; exact q4
      · rw [o 5 (by omega)]; exact q5
  · show ga + co.toInt64 = Int64.ofInt (Z.2.2.2 + co.toInt)
    rw [Int64.ofInt_add, ← k2, L_of (rfl : co.toInt = co.toInt)]
/-- what a WORD's DEEDS bring, by its kind -/
theorem ev_0 {T : List Hd} {S : Sn} (hok : okT T 1) (hv : hvT T) (h4 : T.length ≤ 40) {w : Nat} {f : Int} (hw : w < T.length) (hk : (grH T w).1 = 0) : ev T S w f = [] := by
  rw [ev_st hok hv h4 hw, if_pos hk]
  split <;> rfl
theorem ev_1 {T : List Hd} {S : Sn} (hok : okT T 1) (hv : hvT T) (h4 : T.length ≤ 40) {w : Nat} {f : Int} (hw : w < T.length) (hl : lpT T S w = false) (hk : (grH T w).1 = 1) : ev T S w f = if hdP (cqT T w) f = 0 then [] else [(true, w, hdP (cqT T w) f)] := by
  rw [ev_st hok hv h4 hw, if_neg (by rw [hl]; decide), if_neg (by omega), if_pos hk]
theorem ev_4 {T : List Hd} {S : Sn} (hok : okT T 1) (hv : hvT T) (h4 : T.length ≤ 40) {w : Nat} {f : Int} (hw : w < T.length) (hl : lpT T S w = false) (hk : (grH T w).1 = 4 ∨ (grH T w).1 = 7 ∨ ((grH T w).1 = 6 ∧ hlB S (grH T w) = false)) : ev T S w f = [(false, w, f)] := by
  rw [ev_st hok hv h4 hw, if_neg (by rw [hl]; decide), if_neg (by omega), if_neg (by omega), if_pos hk]
theorem ev_3 {T : List Hd} {S : Sn} (hok : okT T 1) (hv : hvT T) (h4 : T.length ≤ 40) {w : Nat} {f : Int} (hw : w < T.length) (hl : lpT T S w = false) (hk : (grH T w).1 = 3) : ev T S w f = ev T S (nxT T S w) (psT S (grH T w) f) ++ ev T S (grS T w) (psT S (grH T w) f) := by
  rw [ev_st hok hv h4 hw, if_neg (by rw [hl]; decide), if_neg (by omega), if_neg (by omega), if_neg (by omega), if_pos hk]
  unfold nxT psT
  rw [if_neg (show ¬ ((grH T w).1 = 5 ∧ (grH T w).2.1 ≤ S.1) by omega), if_neg (show ¬ (grH T w).1 = 2 by omega), if_neg (show ¬ (grH T w).1 = 9 by omega)]
theorem ev_n {T : List Hd} {S : Sn} (hok : okT T 1) (hv : hvT T) (h4 : T.length ≤ 40) {w : Nat} {f : Int} (hw : w < T.length) (hl : lpT T S w = false) (hk : 2 ≤ (grH T w).1 ∧ (grH T w).1 ≠ 3 ∧ (grH T w).1 ≠ 4 ∧ (grH T w).1 ≠ 7) (h6 : (grH T w).1 = 6 → hlB S (grH T w) = true) : ev T S w f = ev T S (nxT T S w) (psT S (grH T w) f) := by
  rw [ev_st hok hv h4 hw, if_neg (by rw [hl]; decide), if_neg (by omega), if_neg (by omega), if_neg (show ¬ ((grH T w).1 = 4 ∨ (grH T w).1 = 7 ∨ ((grH T w).1 = 6 ∧ hlB S (grH T w) = false)) from fun z => by
    rcases z with z | z | ⟨z, y⟩
    · omega
    · omega
    · rw [h6 z] at y; exact absurd y (by decide)), if_neg (by omega)]
theorem b01 {b : Bool} : ((if b = true then (1 : Int32) else 0) = 0 ↔ b = false) := by cases b <;> decide
/-- how deep a WORD's DEEDS are -/
theorem dp_lk {g hh : Nat → Int32} {s v : Int32} {T : List Hd} (hc : hcT T s v g hh) {w : Nat} (hw : w < T.length) : (0 ≤ tcC T 1 w ∧ tcC T 1 w ≤ 11) ∧ ∀ p : Nat, tcC T 9 w = p → tcC T 1 w = tcC T 1 p + 1 := by
  obtain ⟨_, es, hG, hw9⟩ := hc_lk (n1 := 0) hc
  obtain ⟨_, l1, l2, l3, l4, l5, l6, l7, l8⟩ := hw9 w hw
  exact ⟨l4, fun p e => (l8 p e).1⟩
/-- the DEED that comes next: where it stands, how deep -/
theorem nx_dp {g hh : Nat → Int32} {s v : Int32} {T : List Hd} {S : Sn} (hc : hcT T s v g hh) {w : Nat} (hw : w < T.length) (hk : 2 ≤ (grH T w).1) : (nxT T S w < T.length ∧ tcC T 1 (nxT T S w) = tcC T 1 w + 1) ∧ (3 ≤ (grH T w).1 ∧ (grH T w).1 ≤ 5 → grS T w < T.length ∧ tcC T 1 (grS T w) = tcC T 1 w + 1) := by
  obtain ⟨h1, h2, _⟩ := hc.1
  obtain ⟨u1, u2⟩ := ch_lk h1 h2 hw
  obtain ⟨_, g1, g2⟩ := gr_lk h1 h2 hw
  have l3 := (nx_lk (S := S) h1 h2 hw hk).2
  have A := fun z => (dp_lk hc (w := grS T w) (g2 z).2).2 w (u2 z)
  refine ⟨⟨l3, ?_⟩, fun z => ⟨(g2 z).2, A z⟩⟩
  unfold nxT
  by_cases c : (grH T w).1 = 5 ∧ (grH T w).2.1 ≤ S.1
  · rw [if_pos c]; exact A (by omega)
  · rw [if_neg c]; exact (dp_lk hc (w := w + 1) (g1 hk)).2 w (u1 hk)

set_option maxHeartbeats 4000000 in
set_option maxRecDepth 100000 in
theorem k_X1_keepE {l : Launch} {D : va_G} {cy : Nat → ClassId} {b : Nat} {f : gMem} {co lv sc lg en ge re gv tk am lf p so fc : Nat} {csz sz lo gi nu ho1 ho2 fs_ wd fa : Int32} {ga : Int64} {eg sg fg : Nat → Int32} {Z : Ls} {wN : Nat} {fN d_ : Int} (hco : f co = some (.inr (1, [.ref lv, .ref sc, .ref lg, .int csz]))) (hlg : f lg = some (.inr (4, [.ref en, .int sz, .int lo, .ref ge, .ref re, .ref gv, .ref tk, .ref am, .int gi]))) (hlf : f lf = some (.inr (5, [.ref p, .int nu, .int ho1, .int ho2, .ref so, .ref fc, .int fs_, .long ga]))) (hso : f so = some (.inl (cy 0, 40, .inl (sg)))) (hfc : f fc = some (.inl (cy 0, 40, .inl (fg)))) (hne1 : so ≠ fc) (hZ : CSt sz lo eg fs_ ga sg fg Z) (hwN : wd.toInt = (wN : Int)) (hfN : fa.toInt = fN) : gC l D cy b yX1_keep cX1_keep 4 none 1 0 0 [.ref co, .ref lf, .int wd, .int fa] f (pV fun f2 => ∃ (l2 z2 : Int32) (x2 y2 : Nat → Int32), f2 lg = some (.inr (4, [.ref en, .int sz, .int l2, .ref ge, .ref re, .ref gv, .ref tk, .ref am, .int gi])) ∧ f2 lf = some (.inr (5, [.ref p, .int nu, .int ho1, .int ho2, .ref so, .ref fc, .int z2, .long ga])) ∧ f2 so = some (.inl (cy 0, 40, .inl (x2))) ∧ f2 fc = some (.inl (cy 0, 40, .inl (y2))) ∧ CSt sz l2 eg z2 ga x2 y2 (ap1 nu.toInt d_ ho1.toInt ho2.toInt Z (false, wN, fN)) ∧ fr [lg, lf, so, fc] f f2) := by
  refine gC_of (by decide) (Nat.le_of_ble_eq_true rfl) ?_
  show gG l _ _ _ D cy b cX1_keep 4 _ RX1 "keep" 0 0 f 0 [(0, .ref co), (1, .ref lf), (2, .int wd), (3, .int fa)] []
  refine gz_aload_n dX1_keep_0 rfl rfl ?_
  refine gz_iload_n dX1_keep_1 rfl rfl ?_
  refine gz_iload_n dX1_keep_2 rfl rfl ?_
  obtain ⟨x1, hx1⟩ : ∃ x0, (stdF sg fg fs_ wd fa) = x0 := ⟨_, rfl⟩
  refine scX1_81 (k_X5_stand (x := wd) (y := fa) hlf hso hfc hne1) hlf ⟨(Nat.le_of_ble_eq_true rfl), (Nat.le_of_ble_eq_true rfl)⟩ ⟨(Nat.le_of_ble_eq_true rfl), (Nat.le_of_ble_eq_true rfl)⟩ rfl rfl (Nat.le_of_ble_eq_true rfl) dX1_keep_3 ?_
  rintro r1 f1 ⟨z1, hso_1, hfc_1, hlf_1, hr1⟩; rw [hx1] at z1 hso_1 hfc_1 hlf_1; rw [z1]
  have hco_1 : f1 co = some (.inr (1, [.ref lv, .ref sc, .ref lg, .int csz])) := hr1 _ _ hco (by simp only [List.mem_cons, List.not_mem_nil, or_false, not_or]; exact ⟨cne hco hlf (by simp), cne hco hso (by simp), cne hco hfc (by simp)⟩)
  have hlg_1 : f1 lg = some (.inr (4, [.ref en, .int sz, .int lo, .ref ge, .ref re, .ref gv, .ref tk, .ref am, .int gi])) := hr1 _ _ hlg (by simp only [List.mem_cons, List.not_mem_nil, or_false, not_or]; exact ⟨cne hlg hlf (by simp), cne hlg hso (by simp), cne hlg hfc (by simp)⟩)
  refine gz_if_ne (tgt := 22) dX1_keep_6 (by decide) (fun c_6 => ?_) (fun c_6 => ?_)
  ·
    exact gz_vret rfl dX1_keep_22 (Nat.le_of_ble_eq_true rfl) (Nat.le_of_ble_eq_true rfl) (⟨rfl, _, _, _, _, hlg_1, hlf_1, hso_1, hfc_1, (keep_S (l := nu.toInt) (d := d_) (a := ho1.toInt) (b := ho2.toInt) hZ hwN hfN hx1).2 c_6, (fr_tr fr_rf (fr_mo hr1 (by simp)))⟩)
  ·
    refine gz_aload_n dX1_keep_9 rfl rfl ?_
    refine sgX1_21 hco_1 rfl dX1_keep_10 ?_
    refine gz_dup dX1_keep_13 rfl ?_
    refine sgX1_85 hlg_1 rfl dX1_keep_14 ?_
    refine gz_iconst (v := 1) dX1_keep_17 (by decide) ?_
    refine gz_iadd dX1_keep_18 ?_
    refine spX1_85 hlg_1  (Nat.le_of_ble_eq_true rfl) dX1_keep_19 ?_
    obtain ⟨f2, hf2⟩ : ∃ gg : gMem, gg = va_up f1 lg (some (.inr (4, [.ref en, .int sz, .int (lo + 1), .ref ge, .ref re, .ref gv, .ref tk, .ref am, .int gi]))) := ⟨_, rfl⟩
    refine gz_eq (f2 := f2) hf2.symm rfl rfl rfl ?_
    have hco_2 : f2 co = some (.inr (1, [.ref lv, .ref sc, .ref lg, .int csz])) := by rw [hf2, va_up_ne _ _ (cne hco_1 hlg_1 (by simp))]; exact hco_1
    have hso_2 : f2 so = some (.inl (cy 0, 40, .inl (x1.2.1))) := by rw [hf2, va_up_ne _ _ (cne hso_1 hlg_1 (by simp))]; exact hso_1
    have hfc_2 : f2 fc = some (.inl (cy 0, 40, .inl (x1.2.2.1))) := by rw [hf2, va_up_ne _ _ (cne hfc_1 hlg_1 (by simp))]; exact hfc_1
    have hlf_2 : f2 lf = some (.inr (5, [.ref p, .int nu, .int ho1, .int ho2, .ref so, .ref fc, .int x1.2.2.2, .long ga])) := by rw [hf2, va_up_ne _ _ (cne hlf_1 hlg_1 (by simp))]; exact hlf_1
    have hlg_2 : f2 lg = some (.inr (4, [.ref en, .int sz, .int (lo + 1), .ref ge, .ref re, .ref gv, .ref tk, .ref am, .int gi])) := by rw [hf2]; exact va_up_self _ _ _
    exact gz_vret rfl dX1_keep_22 (Nat.le_of_ble_eq_true rfl) (Nat.le_of_ble_eq_true rfl) (⟨rfl, _, _, _, _, hlg_2, hlf_2, hso_2, hfc_2, (keep_S (l := nu.toInt) (d := d_) (a := ho1.toInt) (b := ho2.toInt) hZ hwN hfN hx1).1 c_6, (by rw [hf2]; exact fr_up (fr_tr fr_rf (fr_mo hr1 (by simp))) (by simp))⟩)

set_option maxHeartbeats 4000000 in
set_option maxRecDepth 100000 in
theorem l_X4_makeRoomE {l : Launch} {D : va_G} {cy : Nat → ClassId} {b : Nat} {f : gMem} {lg en ge re gv tk am ne : Nat} {sz lo gi : Int32} {eg : Nat → Int32}  {e2 n2 : Nat}  {mc ms cu su : Nat} (hl : 0 ≤ sz.toInt ∧ sz.toInt ≤ 2000 ∧ 6 * sz.toInt ≤ ne ∧ ne ≤ 24000) (hz : sz.toInt < 2000) (hN : n2 ≤ 24000 ∧ 6 * (sz.toInt + 1) ≤ n2) (hu : cu ≤ mc ∧ su ≤ ms ∧ cu + ne ≤ n2 ∧ su + 2 * ne ≤ 2 * n2) (hnn : f e2 = none) (hne2 : en ≠ e2) : ∀ (k : Nat) (i : Int32) (g2 : Nat → Int32) (fm : gMem), fr [lg, e2] f fm → (fm lg = some (.inr (4, [.ref en, .int sz, .int lo, .ref ge, .ref re, .ref gv, .ref tk, .ref am, .int gi]))) → (fm en = some (.inl (cy 0, ne, .inl (eg)))) → (fm e2 = some (.inl (cy 0, n2, .inl (g2)))) → (∀ jj : Nat, (jj : Int) < i.toInt → g2 jj = eg jj) → (0 ≤ i.toInt ∧ 0 < k ∧ (i.toInt < ne → ne - i.toInt < (k : Int))) → gG l (gRm 1 mc ms) (gQuf D b (fun kk nn r f2 => ∃ (e3 n3 : Nat) (g4 : Nat → Int32), r = none ∧ f2 lg = some (.inr (4, [.ref e3, .int sz, .int lo, .ref ge, .ref re, .ref gv, .ref tk, .ref am, .int gi])) ∧ f2 e3 = some (.inl (cy 0, n3, .inl (g4))) ∧ (6 * (sz.toInt + 1) ≤ n3 ∧ n3 ≤ 24000) ∧ (kk + ne ≤ n3 ∧ nn + 2 * ne ≤ 2 * n3) ∧ (e3 = en ∨ f e3 = none) ∧ (∀ jj : Nat, (jj : Int) < 6 * sz.toInt → g4 jj = eg jj) ∧ fr [lg] f f2) mc ms) gTt D cy b cX4_makeRoom 3 none RX4 "makeRoom" (cu) (su) fm 38 [(2, .int i), (1, .ref e2), (0, .ref lg)] [] := by
  intro k
  induction k with
  | zero =>
    intro i g2 fm hfr hlg hen he2 hcp hk
    exfalso; omega
  | succ k ih =>
    intro i g2 fm hfr hlg hen he2 hcp hk
    refine gz_iload_n dX4_makeRoom_38 rfl rfl ?_
    refine gz_aload_n dX4_makeRoom_39 rfl rfl ?_
    refine sgX4_9 hlg rfl dX4_makeRoom_40 ?_
    refine gz_alen0 (v := Int32.ofNat ne) hen rfl dX4_makeRoom_43 ?_
    refine gz_icmp_ge (tgt := 68) dX4_makeRoom_44 (by decide) (fun c_44 => ?_) (fun c_44 => ?_)
    ·
      refine gz_aload_n dX4_makeRoom_68 rfl rfl ?_
      refine gz_aload_n dX4_makeRoom_69 rfl rfl ?_
      refine spX4_9 hlg  (Nat.le_of_ble_eq_true rfl) dX4_makeRoom_70 ?_
      obtain ⟨f1, hf1⟩ : ∃ gg : gMem, gg = va_up fm lg (some (.inr (4, [.ref e2, .int sz, .int lo, .ref ge, .ref re, .ref gv, .ref tk, .ref am, .int gi]))) := ⟨_, rfl⟩
      refine gz_eq (f2 := f1) hf1.symm rfl rfl rfl ?_
      have hen_1 : f1 en = some (.inl (cy 0, ne, .inl (eg))) := by rw [hf1, va_up_ne _ _ (cne hen hlg (by simp))]; exact hen
      have he2_1 : f1 e2 = some (.inl (cy 0, n2, .inl (g2))) := by rw [hf1, va_up_ne _ _ (cne he2 hlg (by simp))]; exact he2
      have hlg_1 : f1 lg = some (.inr (4, [.ref e2, .int sz, .int lo, .ref ge, .ref re, .ref gv, .ref tk, .ref am, .int gi])) := by rw [hf1]; exact va_up_self _ _ _
      have hcq : ∀ jj : Nat, (jj : Int) < 6 * sz.toInt → g2 jj = eg jj := by
        intro jj hj
        have e13 : (13 : Int32).toInt = 13 := rfl
        have e0 : (0 : Int32).toInt = 0 := rfl
        have e2 : (2 : Int32).toInt = 2 := rfl
        have e1 : (1 : Int32).toInt = 1 := rfl
        have e6 : (6 : Int32).toInt = 6 := rfl
        have em2 : (-2 : Int32).toInt = -2 := rfl
        have e6 : (6 : Int32).toInt = 6 := rfl
        have e8 : (8 : Int32).toInt = 8 := rfl
        have e10 : (10 : Int32).toInt = 10 := rfl
        have e18 : (18 : Int32).toInt = 18 := rfl
        have eN : (Int32.ofNat ne).toInt = ne := ofN_toInt (by omega)
        have eM : (Int32.ofNat n2).toInt = n2 := ofN_toInt (by omega)
        simp only [fl_le, eN, eM] at c_44
        exact hcp jj (by omega)
      exact gz_vretU rfl dX4_makeRoom_73 hu.1 hu.2.1 (⟨_, _, _, rfl, hlg_1, he2_1, ⟨by omega, by omega⟩, ⟨by omega, by omega⟩, Or.inr hnn, hcq, (fr_le (by rw [hf1]; exact fr_up hfr (by simp)) (by intro z hz2; simp only [List.mem_cons, List.not_mem_nil, or_false] at hz2; rcases hz2 with rfl | rfl; exact Or.inl (by simp); exact Or.inr hnn))⟩)
    ·
      refine gz_iload_n dX4_makeRoom_47 rfl rfl ?_
      refine gz_aload_n dX4_makeRoom_48 rfl rfl ?_
      refine gz_alen0 (v := Int32.ofNat n2) he2 rfl dX4_makeRoom_49 ?_
      refine gz_icmp_ge (tgt := 68) dX4_makeRoom_50 (by decide) (fun c_50 => ?_) (fun c_50 => ?_)
      ·
        refine gz_aload_n dX4_makeRoom_68 rfl rfl ?_
        refine gz_aload_n dX4_makeRoom_69 rfl rfl ?_
        refine spX4_9 hlg  (Nat.le_of_ble_eq_true rfl) dX4_makeRoom_70 ?_
        obtain ⟨f2, hf2⟩ : ∃ gg : gMem, gg = va_up fm lg (some (.inr (4, [.ref e2, .int sz, .int lo, .ref ge, .ref re, .ref gv, .ref tk, .ref am, .int gi]))) := ⟨_, rfl⟩
        refine gz_eq (f2 := f2) hf2.symm rfl rfl rfl ?_
        have hen_2 : f2 en = some (.inl (cy 0, ne, .inl (eg))) := by rw [hf2, va_up_ne _ _ (cne hen hlg (by simp))]; exact hen
        have he2_2 : f2 e2 = some (.inl (cy 0, n2, .inl (g2))) := by rw [hf2, va_up_ne _ _ (cne he2 hlg (by simp))]; exact he2
        have hlg_2 : f2 lg = some (.inr (4, [.ref e2, .int sz, .int lo, .ref ge, .ref re, .ref gv, .ref tk, .ref am, .int gi])) := by rw [hf2]; exact va_up_self _ _ _
        have hcq : ∀ jj : Nat, (jj : Int) < 6 * sz.toInt → g2 jj = eg jj := by
          intro jj hj
          have e13 : (13 : Int32).toInt = 13 := rfl
          have e0 : (0 : Int32).toInt = 0 := rfl
          have e2 : (2 : Int32).toInt = 2 := rfl
          have e1 : (1 : Int32).toInt = 1 := rfl
          have e6 : (6 : Int32).toInt = 6 := rfl
          have em2 : (-2 : Int32).toInt = -2 := rfl
          have e6 : (6 : Int32).toInt = 6 := rfl
          have e8 : (8 : Int32).toInt = 8 := rfl
          have e10 : (10 : Int32).toInt = 10 := rfl
          have e18 : (18 : Int32).toInt = 18 := rfl
          have eN : (Int32.ofNat ne).toInt = ne := ofN_toInt (by omega)
          have eM : (Int32.ofNat n2).toInt = n2 := ofN_toInt (by omega)
          simp only [fl_le, eN, eM] at c_44
          simp only [fl_le, eN, eM] at c_50
          exact hcp jj (by omega)
        exact gz_vretU rfl dX4_makeRoom_73 hu.1 hu.2.1 (⟨_, _, _, rfl, hlg_2, he2_2, ⟨by omega, by omega⟩, ⟨by omega, by omega⟩, Or.inr hnn, hcq, (fr_le (by rw [hf2]; exact fr_up hfr (by simp)) (by intro z hz2; simp only [List.mem_cons, List.not_mem_nil, or_false] at hz2; rcases hz2 with rfl | rfl; exact Or.inl (by simp); exact Or.inr hnn))⟩)
      ·
        refine gz_aload_n dX4_makeRoom_53 rfl rfl ?_
        refine gz_iload_n dX4_makeRoom_54 rfl rfl ?_
        refine gz_aload_n dX4_makeRoom_55 rfl rfl ?_
        refine sgX4_9 hlg rfl dX4_makeRoom_56 ?_
        refine gz_iload_n dX4_makeRoom_59 rfl rfl ?_
        refine gz_iald hen ((by have e13 : (13 : Int32).toInt = 13 := rfl; have e0 : (0 : Int32).toInt = 0 := rfl; have e2 : (2 : Int32).toInt = 2 := rfl; have e1 : (1 : Int32).toInt = 1 := rfl; have e6 : (6 : Int32).toInt = 6 := rfl; have em2 : (-2 : Int32).toInt = -2 := rfl; have e6 : (6 : Int32).toInt = 6 := rfl; have e8 : (8 : Int32).toInt = 8 := rfl; have e10 : (10 : Int32).toInt = 10 := rfl; have e18 : (18 : Int32).toInt = 18 := rfl; have eN : (Int32.ofNat ne).toInt = ne := ofN_toInt (by omega); have eM : (Int32.ofNat n2).toInt = n2 := ofN_toInt (by omega); simp only [fl_le] at c_44 c_50; exact vin_T (rfl : i.toInt = i.toInt) (by omega) (by omega))) dX4_makeRoom_60 ?_
        refine gz_iast he2 ((by have e13 : (13 : Int32).toInt = 13 := rfl; have e0 : (0 : Int32).toInt = 0 := rfl; have e2 : (2 : Int32).toInt = 2 := rfl; have e1 : (1 : Int32).toInt = 1 := rfl; have e6 : (6 : Int32).toInt = 6 := rfl; have em2 : (-2 : Int32).toInt = -2 := rfl; have e6 : (6 : Int32).toInt = 6 := rfl; have e8 : (8 : Int32).toInt = 8 := rfl; have e10 : (10 : Int32).toInt = 10 := rfl; have e18 : (18 : Int32).toInt = 18 := rfl; have eN : (Int32.ofNat ne).toInt = ne := ofN_toInt (by omega); have eM : (Int32.ofNat n2).toInt = n2 := ofN_toInt (by omega); simp only [fl_le] at c_44 c_50; exact vin_T (rfl : i.toInt = i.toInt) (by omega) (by omega))) dX4_makeRoom_61 ?_
        obtain ⟨f3, hf3⟩ : ∃ gg : gMem, gg = va_up fm e2 (some (.inl (cy 0, n2, .inl (upd g2 (Int32.toNatClampNeg i) (eg (Int32.toNatClampNeg i)))))) := ⟨_, rfl⟩
        refine gz_eq (f2 := f3) hf3.symm rfl rfl rfl ?_
        have hlg_3 : f3 lg = some (.inr (4, [.ref en, .int sz, .int lo, .ref ge, .ref re, .ref gv, .ref tk, .ref am, .int gi])) := by rw [hf3, va_up_ne _ _ (cne hlg he2 (by simp))]; exact hlg
        have hen_3 : f3 en = some (.inl (cy 0, ne, .inl (eg))) := by rw [hf3, va_up_ne _ _ (hne2)]; exact hen
        have he2_3 : f3 e2 = some (.inl (cy 0, n2, .inl (upd g2 (Int32.toNatClampNeg i) (eg (Int32.toNatClampNeg i))))) := by rw [hf3]; exact va_up_self _ _ _
        refine gz_iinc (v := (i + 1)) (lv' := [(2, .int (i + 1)), (1, .ref e2), (0, .ref lg)]) dX4_makeRoom_62 rfl rfl (by decide) rfl ?_
        refine gz_goto (tgt := 38) dX4_makeRoom_65 (by decide) ?_
        refine gz_sub (lv' := [(2, .int (i + 1)), (1, .ref e2), (0, .ref lg)]) (by simp [List.lookup]) ?_
        exact ih (i + 1) (upd g2 (Int32.toNatClampNeg i) (eg (Int32.toNatClampNeg i))) _ (by rw [hf3]; exact fr_up hfr (by simp)) hlg_3 hen_3 he2_3 (fun jj hj => by have e13 : (13 : Int32).toInt = 13 := rfl; have e0 : (0 : Int32).toInt = 0 := rfl; have e2 : (2 : Int32).toInt = 2 := rfl; have e1 : (1 : Int32).toInt = 1 := rfl; have e6 : (6 : Int32).toInt = 6 := rfl; have em2 : (-2 : Int32).toInt = -2 := rfl; have e6 : (6 : Int32).toInt = 6 := rfl; have e8 : (8 : Int32).toInt = 8 := rfl; have e10 : (10 : Int32).toInt = 10 := rfl; have e18 : (18 : Int32).toInt = 18 := rfl; have eN : (Int32.ofNat ne).toInt = ne := ofN_toInt (by omega); have q44 := c_44; simp only [fl_le] at q44; have hx := T_add (rfl : i.toInt = i.toInt) e1 (by omega); rw [updE]; by_cases z : jj = Int32.toNatClampNeg i; (rw [if_pos z, z]); (rw [if_neg z]; exact hcp jj (by rw [clN] at z; omega))) (by have e13 : (13 : Int32).toInt = 13 := rfl; have e0 : (0 : Int32).toInt = 0 := rfl; have e2 : (2 : Int32).toInt = 2 := rfl; have e1 : (1 : Int32).toInt = 1 := rfl; have e6 : (6 : Int32).toInt = 6 := rfl; have em2 : (-2 : Int32).toInt = -2 := rfl; have e6 : (6 : Int32).toInt = 6 := rfl; have e8 : (8 : Int32).toInt = 8 := rfl; have e10 : (10 : Int32).toInt = 10 := rfl; have e18 : (18 : Int32).toInt = 18 := rfl; have eN : (Int32.ofNat ne).toInt = ne := ofN_toInt (by omega); simp only [fl_le] at c_44; have hx := T_add (rfl : i.toInt = i.toInt) e1 (by omega); omega)

set_option maxHeartbeats 4000000 in
set_option maxRecDepth 100000 in
theorem k_X4_makeRoomE {l : Launch} {D : va_G} {cy : Nat → ClassId} {b : Nat} {f : gMem} {lg en ge re gv tk am ne : Nat} {sz lo gi : Int32} {eg : Nat → Int32} (hlg : f lg = some (.inr (4, [.ref en, .int sz, .int lo, .ref ge, .ref re, .ref gv, .ref tk, .ref am, .int gi]))) (hen : f en = some (.inl (cy 0, ne, .inl (eg)))) (hl : 0 ≤ sz.toInt ∧ sz.toInt ≤ 2000 ∧ 6 * sz.toInt ≤ ne ∧ ne ≤ 24000) (hz : sz.toInt < 2000) : gU l D cy b yX4_makeRoom cX4_makeRoom 3 none 1 (24000 - ne) (2 * (24000 - ne)) [.ref lg] f gTt (fun kk nn r f2 => ∃ (e2 n2 : Nat) (g2 : Nat → Int32), r = none ∧ f2 lg = some (.inr (4, [.ref e2, .int sz, .int lo, .ref ge, .ref re, .ref gv, .ref tk, .ref am, .int gi])) ∧ f2 e2 = some (.inl (cy 0, n2, .inl (g2))) ∧ (6 * (sz.toInt + 1) ≤ n2 ∧ n2 ≤ 24000) ∧ (kk + ne ≤ n2 ∧ nn + 2 * ne ≤ 2 * n2) ∧ (e2 = en ∨ f e2 = none) ∧ (∀ jj : Nat, (jj : Int) < 6 * sz.toInt → g2 jj = eg jj) ∧ fr [lg] f f2) := by
  refine gU_of (by decide) (Nat.le_of_ble_eq_true rfl) ?_
  show gG l _ _ _ D cy b cX4_makeRoom 3 _ RX4 "makeRoom" 0 0 f 0 [(0, .ref lg)] []
  refine gz_aload_n dX4_makeRoom_0 rfl rfl ?_
  refine sgX4_35 hlg rfl dX4_makeRoom_1 ?_
  refine gz_iconst (v := 1) dX4_makeRoom_4 (by decide) ?_
  refine gz_iadd dX4_makeRoom_5 ?_
  refine gz_bipush (v := 6) dX4_makeRoom_6 (by decide) ?_
  refine gz_imul dX4_makeRoom_8 ?_
  refine gz_aload_n dX4_makeRoom_9 rfl rfl ?_
  refine sgX4_9 hlg rfl dX4_makeRoom_10 ?_
  refine gz_alen0 (v := Int32.ofNat ne) hen rfl dX4_makeRoom_13 ?_
  refine gz_icmp_gt (tgt := 18) dX4_makeRoom_14 (by decide) (fun c_14 => ?_) (fun c_14 => ?_)
  ·
    have hgr : (ne : Int) < 6 * (sz.toInt + 1) := by have e13 : (13 : Int32).toInt = 13 := rfl; have e0 : (0 : Int32).toInt = 0 := rfl; have e2 : (2 : Int32).toInt = 2 := rfl; have e1 : (1 : Int32).toInt = 1 := rfl; have e6 : (6 : Int32).toInt = 6 := rfl; have em2 : (-2 : Int32).toInt = -2 := rfl; have e6 : (6 : Int32).toInt = 6 := rfl; have e8 : (8 : Int32).toInt = 8 := rfl; have e10 : (10 : Int32).toInt = 10 := rfl; have e18 : (18 : Int32).toInt = 18 := rfl; have eN : (Int32.ofNat ne).toInt = ne := ofN_toInt (by omega); have hx := T_add (rfl : sz.toInt = sz.toInt) e1 (by omega); have hy := T_mul hx e6 (by omega); rw [fl_lt, eN, hy] at c_14; omega
    refine gz_aload_n dX4_makeRoom_18 rfl rfl ?_
    refine sgX4_35 hlg rfl dX4_makeRoom_19 ?_
    refine gz_iconst (v := 1) dX4_makeRoom_22 (by decide) ?_
    refine gz_iadd dX4_makeRoom_23 ?_
    refine gz_iconst (v := 2) dX4_makeRoom_24 (by decide) ?_
    refine gz_imul dX4_makeRoom_25 ?_
    refine gz_iconst (v := 1) dX4_makeRoom_26 (by decide) ?_
    refine scX4_63 (Nat.le_of_ble_eq_true rfl) (Nat.le_of_ble_eq_true rfl) (by simp only [gRm]; omega) (by simp only [gRm]; omega) (Nat.le_of_ble_eq_true rfl) dX4_makeRoom_27 ?_
    refine gz_bipush (v := 6) dX4_makeRoom_30 (by decide) ?_
    refine gz_imul dX4_makeRoom_32 ?_
    refine gz_newa0 (N' := (12 * (sz.toInt.toNat + 1))) (by have e13 : (13 : Int32).toInt = 13 := rfl; have e0 : (0 : Int32).toInt = 0 := rfl; have e2 : (2 : Int32).toInt = 2 := rfl; have e1 : (1 : Int32).toInt = 1 := rfl; have e6 : (6 : Int32).toInt = 6 := rfl; have em2 : (-2 : Int32).toInt = -2 := rfl; have e6 : (6 : Int32).toInt = 6 := rfl; have e8 : (8 : Int32).toInt = 8 := rfl; have e10 : (10 : Int32).toInt = 10 := rfl; have e18 : (18 : Int32).toInt = 18 := rfl; have hx := T_add (rfl : sz.toInt = sz.toInt) e1 (by omega); have hy := T_mul hx e2 (by omega); have hm : (if ((sz + 1) * 2) < 1 then (1 : Int32) else ((sz + 1) * 2)) = ((sz + 1) * 2) := (if_neg (by rw [fl_lt, hy]; omega)); have hz6 := T_mul hy e6 (by omega); rw [hm]; rw [fl_lt, hz6]; omega) (by have e13 : (13 : Int32).toInt = 13 := rfl; have e0 : (0 : Int32).toInt = 0 := rfl; have e2 : (2 : Int32).toInt = 2 := rfl; have e1 : (1 : Int32).toInt = 1 := rfl; have e6 : (6 : Int32).toInt = 6 := rfl; have em2 : (-2 : Int32).toInt = -2 := rfl; have e6 : (6 : Int32).toInt = 6 := rfl; have e8 : (8 : Int32).toInt = 8 := rfl; have e10 : (10 : Int32).toInt = 10 := rfl; have e18 : (18 : Int32).toInt = 18 := rfl; have hx := T_add (rfl : sz.toInt = sz.toInt) e1 (by omega); have hy := T_mul hx e2 (by omega); have hm : (if ((sz + 1) * 2) < 1 then (1 : Int32) else ((sz + 1) * 2)) = ((sz + 1) * 2) := (if_neg (by rw [fl_lt, hy]; omega)); have hz6 := T_mul hy e6 (by omega); rw [hm]; rw [cl_N hz6 (by omega)]; omega) (by show _ * 4 ≤ _; omega) (by simp only [gRm]; omega) (by simp only [gRm]; omega) wd_3 dX4_makeRoom_33 (fun q1 hq1n => ?_)
    obtain ⟨f1, hf1⟩ : ∃ gg : gMem, gg = va_up f q1 (some (.inl (cy 0, (12 * (sz.toInt.toNat + 1)), .inl (fun _ => 0)))) := ⟨_, rfl⟩
    refine gz_eq (f2 := f1) hf1.symm rfl rfl rfl ?_
    have hlg_1 : f1 lg = some (.inr (4, [.ref en, .int sz, .int lo, .ref ge, .ref re, .ref gv, .ref tk, .ref am, .int gi])) := by rw [hf1, va_up_ne _ _ (cnn hlg hq1n)]; exact hlg
    have hen_1 : f1 en = some (.inl (cy 0, ne, .inl (eg))) := by rw [hf1, va_up_ne _ _ (cnn hen hq1n)]; exact hen
    have hq1_1 : f1 q1 = some (.inl (cy 0, (12 * (sz.toInt.toNat + 1)), .inl (fun _ => 0))) := by rw [hf1]; exact va_up_self _ _ _
    refine gz_astore_n (lv' := [(1, .ref q1), (0, .ref lg)]) dX4_makeRoom_35 rfl (by decide) rfl ?_
    refine gz_iconst (v := 0) dX4_makeRoom_36 (by decide) ?_
    refine gz_istore_n (lv' := [(2, .int 0), (1, .ref q1), (0, .ref lg)]) dX4_makeRoom_37 rfl (by decide) rfl ?_
    refine gz_sub (lv' := [(2, .int 0), (1, .ref q1), (0, .ref lg)]) (by simp [List.lookup]) ?_
    exact l_X4_makeRoomE hl hz (by omega) ⟨by omega, by omega, by omega, by omega⟩ hq1n (cnn hen hq1n) 24001 0 _ _ (by rw [hf1]; exact fr_up fr_rf (by simp)) hlg_1 hen_1 hq1_1 (fun jj hj => by exfalso; have e0 : (0 : Int32).toInt = 0 := rfl; omega) ⟨by decide, by decide, fun _ => by have e0 : (0 : Int32).toInt = 0 := rfl; omega⟩
  ·
    exact gz_vretU rfl dX4_makeRoom_17 (by omega) (by omega) (⟨_, _, _, rfl, hlg, hen, (by have e13 : (13 : Int32).toInt = 13 := rfl; have e0 : (0 : Int32).toInt = 0 := rfl; have e2 : (2 : Int32).toInt = 2 := rfl; have e1 : (1 : Int32).toInt = 1 := rfl; have e6 : (6 : Int32).toInt = 6 := rfl; have em2 : (-2 : Int32).toInt = -2 := rfl; have e6 : (6 : Int32).toInt = 6 := rfl; have e8 : (8 : Int32).toInt = 8 := rfl; have e10 : (10 : Int32).toInt = 10 := rfl; have e18 : (18 : Int32).toInt = 18 := rfl; have eN : (Int32.ofNat ne).toInt = ne := ofN_toInt (by omega); have hx := T_add (rfl : sz.toInt = sz.toInt) e1 (by omega); have hy := T_mul hx e6 (by omega); rw [fl_lt, eN, hy] at c_14; omega), ⟨by omega, by omega⟩, Or.inl rfl, fun _ _ => rfl, fr_rf⟩)

set_option maxHeartbeats 4000000 in
set_option maxRecDepth 100000 in
theorem k_X4_payE {l : Launch} {D : va_G} {cy : Nat → ClassId} {b : Nat} {f : gMem} {lg en ge re gv tk am ne : Nat} {sz lo gi : Int32} {eg : Nat → Int32} {lf p so fc : Nat} {nu ho1 ho2 fs_ da co wd : Int32} {ga : Int64} {sg fg : Nat → Int32} {Z : Ls} {wN : Nat} (hlg : f lg = some (.inr (4, [.ref en, .int sz, .int lo, .ref ge, .ref re, .ref gv, .ref tk, .ref am, .int gi]))) (hen : f en = some (.inl (cy 0, ne, .inl (eg)))) (hlf : f lf = some (.inr (5, [.ref p, .int nu, .int ho1, .int ho2, .ref so, .ref fc, .int fs_, .long ga]))) (hl : 0 ≤ sz.toInt ∧ sz.toInt ≤ 2000 ∧ 6 * sz.toInt ≤ ne ∧ ne ≤ 24000) (hZ : CSt sz lo eg fs_ ga sg fg Z) (hwN : wd.toInt = (wN : Int)) : gU l D cy b yX4_pay cX4_pay 6 none 2 (24000 - ne) (2 * (24000 - ne)) [.ref lg, .ref lf, .int da, .int co, .int wd] f gTt (fun kk nn r f2 => ∃ (e2 n2 : Nat) (g2 : Nat → Int32) (s2 l2 : Int32) (a2 : Int64), r = none ∧ f2 lg = some (.inr (4, [.ref e2, .int s2, .int l2, .ref ge, .ref re, .ref gv, .ref tk, .ref am, .int gi])) ∧ f2 e2 = some (.inl (cy 0, n2, .inl (g2))) ∧ f2 lf = some (.inr (5, [.ref p, .int nu, .int ho1, .int ho2, .ref so, .ref fc, .int fs_, .long a2])) ∧ (0 ≤ s2.toInt ∧ s2.toInt ≤ 2000 ∧ 6 * s2.toInt ≤ n2 ∧ n2 ≤ 24000) ∧ (kk + ne ≤ n2 ∧ nn + 2 * ne ≤ 2 * n2) ∧ (e2 = en ∨ f e2 = none) ∧ CSt s2 l2 g2 fs_ a2 sg fg (if co.toInt = 0 then Z else ap1 nu.toInt da.toInt ho1.toInt ho2.toInt Z (true, wN, co.toInt)) ∧ fr [lg, en, lf] f f2) := by
  refine gU_of (by decide) (Nat.le_of_ble_eq_true rfl) ?_
  show gG l _ _ _ D cy b cX4_pay 6 _ RX4 "pay" 0 0 f 0 [(0, .ref lg), (1, .ref lf), (2, .int da), (3, .int co), (4, .int wd)] []
  refine gz_iload_n dX4_pay_0 rfl rfl ?_
  refine gz_if_ne (tgt := 5) dX4_pay_1 (by decide) (fun c_1 => ?_) (fun c_1 => ?_)
  ·
    refine gz_aload_n dX4_pay_5 rfl rfl ?_
    refine sgX4_35 hlg rfl dX4_pay_6 ?_
    refine gz_sipush (v := 2000) dX4_pay_9 (by decide) ?_
    refine gz_icmp_lt (tgt := 26) dX4_pay_12 (by decide) (fun c_12 => ?_) (fun c_12 => ?_)
    ·
      refine gz_aload_n dX4_pay_26 rfl rfl ?_
      refine suX4_41 (k_X4_makeRoomE hlg hen hl (by have e2k : (2000 : Int32).toInt = 2000 := rfl; simp only [fl_lt] at c_12; omega)) hlg ⟨(Nat.le_of_ble_eq_true rfl), (Nat.le_of_ble_eq_true rfl)⟩ ⟨(by simp only [gRm]; omega), (by simp only [gRm]; omega)⟩ rfl rfl (Nat.le_of_ble_eq_true rfl) dX4_pay_27 ?_
      rintro kk_1 nn_1 r_1 f1 ⟨e_1, n_1, g_1, rfl, hlg_1, he_1, hz_1, hu_1, hc_1, hcp_1, hr1⟩
      refine gz_eq (st2 := []) rfl rfl rfl rfl ?_
      have hen_1 : f1 en = some (.inl (cy 0, ne, .inl (eg))) := hr1 _ _ hen (by simp only [List.mem_cons, List.not_mem_nil, or_false, not_or]; exact cne hen hlg (by simp))
      have hlf_1 : f1 lf = some (.inr (5, [.ref p, .int nu, .int ho1, .int ho2, .ref so, .ref fc, .int fs_, .long ga])) := hr1 _ _ hlf (by simp only [List.mem_cons, List.not_mem_nil, or_false, not_or]; exact cne hlf hlg (by simp))
      refine gz_aload_n dX4_pay_30 rfl rfl ?_
      refine gz_dup dX4_pay_31 rfl ?_
      refine sgX4_35 hlg_1 rfl dX4_pay_32 ?_
      refine gz_iconst (v := 1) dX4_pay_35 (by decide) ?_
      refine gz_iadd dX4_pay_36 ?_
      refine spX4_35 hlg_1  (Nat.le_of_ble_eq_true rfl) dX4_pay_37 ?_
      obtain ⟨f2, hf2⟩ : ∃ gg : gMem, gg = va_up f1 lg (some (.inr (4, [.ref e_1, .int (sz + 1), .int lo, .ref ge, .ref re, .ref gv, .ref tk, .ref am, .int gi]))) := ⟨_, rfl⟩
      refine gz_eq (f2 := f2) hf2.symm rfl rfl rfl ?_
      have hlf_2 : f2 lf = some (.inr (5, [.ref p, .int nu, .int ho1, .int ho2, .ref so, .ref fc, .int fs_, .long ga])) := by rw [hf2, va_up_ne _ _ (cne hlf_1 hlg_1 (by simp))]; exact hlf_1
      have he_2 : f2 e_1 = some (.inl (cy 0, n_1, .inl (g_1))) := by rw [hf2, va_up_ne _ _ (cne he_1 hlg_1 (by simp))]; exact he_1
      have hlg_2 : f2 lg = some (.inr (4, [.ref e_1, .int (sz + 1), .int lo, .ref ge, .ref re, .ref gv, .ref tk, .ref am, .int gi])) := by rw [hf2]; exact va_up_self _ _ _
      refine gz_aload_n dX4_pay_40 rfl rfl ?_
      refine sgX4_35 hlg_2 rfl dX4_pay_41 ?_
      refine gz_iconst (v := 1) dX4_pay_44 (by decide) ?_
      refine gz_isub dX4_pay_45 ?_
      refine gz_istore (lv' := [(5, .int ((sz + 1) - 1)), (0, .ref lg), (1, .ref lf), (2, .int da), (3, .int co), (4, .int wd)]) dX4_pay_46 (by decide) rfl ?_
      refine gz_aload_n dX4_pay_48 rfl rfl ?_
      refine gz_iload dX4_pay_49 rfl ?_
      refine gz_iconst (v := 0) dX4_pay_51 (by decide) ?_
      refine gz_aload_n dX4_pay_52 rfl rfl ?_
      refine sgX4_44 hlf_2 rfl dX4_pay_53 ?_
      refine scX4_49 (k_X4_set (k := ((sz + 1) - 1)) (x := 0) (y := nu) hlg_2 he_2 (by omega)) hlg_2 ⟨(Nat.le_of_ble_eq_true rfl), (Nat.le_of_ble_eq_true rfl)⟩ ⟨(by simp only [gRm]; omega), (by simp only [gRm]; omega)⟩ rfl rfl (Nat.le_of_ble_eq_true rfl) dX4_pay_56 ?_
      rintro f3 ⟨he_3, hr3⟩
      have hlf_3 : f3 lf = some (.inr (5, [.ref p, .int nu, .int ho1, .int ho2, .ref so, .ref fc, .int fs_, .long ga])) := hr3 _ _ hlf_2 (by simp only [List.mem_cons, List.not_mem_nil, or_false, not_or]; exact cne hlf_2 he_2 (by simp))
      have hlg_3 : f3 lg = some (.inr (4, [.ref e_1, .int (sz + 1), .int lo, .ref ge, .ref re, .ref gv, .ref tk, .ref am, .int gi])) := hr3 _ _ hlg_2 (by simp only [List.mem_cons, List.not_mem_nil, or_false, not_or]; exact cne hlg_2 he_2 (by simp))
      refine gz_aload_n dX4_pay_59 rfl rfl ?_
      refine gz_iload dX4_pay_60 rfl ?_
      refine gz_iconst (v := 1) dX4_pay_62 (by decide) ?_
      refine gz_iload_n dX4_pay_63 rfl rfl ?_
      refine scX4_49 (k_X4_set (k := ((sz + 1) - 1)) (x := 1) (y := da) hlg_3 he_3 (by omega)) hlg_3 ⟨(Nat.le_of_ble_eq_true rfl), (Nat.le_of_ble_eq_true rfl)⟩ ⟨(by simp only [gRm]; omega), (by simp only [gRm]; omega)⟩ rfl rfl (Nat.le_of_ble_eq_true rfl) dX4_pay_64 ?_
      rintro f4 ⟨he_4, hr4⟩
      have hlf_4 : f4 lf = some (.inr (5, [.ref p, .int nu, .int ho1, .int ho2, .ref so, .ref fc, .int fs_, .long ga])) := hr4 _ _ hlf_3 (by simp only [List.mem_cons, List.not_mem_nil, or_false, not_or]; exact cne hlf_3 he_3 (by simp))
      have hlg_4 : f4 lg = some (.inr (4, [.ref e_1, .int (sz + 1), .int lo, .ref ge, .ref re, .ref gv, .ref tk, .ref am, .int gi])) := hr4 _ _ hlg_3 (by simp only [List.mem_cons, List.not_mem_nil, or_false, not_or]; exact cne hlg_3 he_3 (by simp))
      refine gz_aload_n dX4_pay_67 rfl rfl ?_
      refine gz_iload dX4_pay_68 rfl ?_
      refine gz_iconst (v := 2) dX4_pay_70 (by decide) ?_
      refine gz_iload_n dX4_pay_71 rfl rfl ?_
      refine scX4_49 (k_X4_set (k := ((sz + 1) - 1)) (x := 2) (y := co) hlg_4 he_4 (by omega)) hlg_4 ⟨(Nat.le_of_ble_eq_true rfl), (Nat.le_of_ble_eq_true rfl)⟩ ⟨(by simp only [gRm]; omega), (by simp only [gRm]; omega)⟩ rfl rfl (Nat.le_of_ble_eq_true rfl) dX4_pay_72 ?_
      rintro f5 ⟨he_5, hr5⟩
      have hlf_5 : f5 lf = some (.inr (5, [.ref p, .int nu, .int ho1, .int ho2, .ref so, .ref fc, .int fs_, .long ga])) := hr5 _ _ hlf_4 (by simp only [List.mem_cons, List.not_mem_nil, or_false, not_or]; exact cne hlf_4 he_4 (by simp))
      have hlg_5 : f5 lg = some (.inr (4, [.ref e_1, .int (sz + 1), .int lo, .ref ge, .ref re, .ref gv, .ref tk, .ref am, .int gi])) := hr5 _ _ hlg_4 (by simp only [List.mem_cons, List.not_mem_nil, or_false, not_or]; exact cne hlg_4 he_4 (by simp))
      refine gz_aload_n dX4_pay_75 rfl rfl ?_
      refine gz_iload dX4_pay_76 rfl ?_
      refine gz_iconst (v := 3) dX4_pay_78 (by decide) ?_
      refine gz_iload dX4_pay_79 rfl ?_
      refine scX4_49 (k_X4_set (k := ((sz + 1) - 1)) (x := 3) (y := wd) hlg_5 he_5 (by omega)) hlg_5 ⟨(Nat.le_of_ble_eq_true rfl), (Nat.le_of_ble_eq_true rfl)⟩ ⟨(by simp only [gRm]; omega), (by simp only [gRm]; omega)⟩ rfl rfl (Nat.le_of_ble_eq_true rfl) dX4_pay_81 ?_
      rintro f6 ⟨he_6, hr6⟩
      have hlf_6 : f6 lf = some (.inr (5, [.ref p, .int nu, .int ho1, .int ho2, .ref so, .ref fc, .int fs_, .long ga])) := hr6 _ _ hlf_5 (by simp only [List.mem_cons, List.not_mem_nil, or_false, not_or]; exact cne hlf_5 he_5 (by simp))
      have hlg_6 : f6 lg = some (.inr (4, [.ref e_1, .int (sz + 1), .int lo, .ref ge, .ref re, .ref gv, .ref tk, .ref am, .int gi])) := hr6 _ _ hlg_5 (by simp only [List.mem_cons, List.not_mem_nil, or_false, not_or]; exact cne hlg_5 he_5 (by simp))
      refine gz_aload_n dX4_pay_84 rfl rfl ?_
      refine gz_iload dX4_pay_85 rfl ?_
      refine gz_iconst (v := 4) dX4_pay_87 (by decide) ?_
      refine gz_aload_n dX4_pay_88 rfl rfl ?_
      refine sgX4_53 hlf_6 rfl dX4_pay_89 ?_
      refine scX4_49 (k_X4_set (k := ((sz + 1) - 1)) (x := 4) (y := ho1) hlg_6 he_6 (by omega)) hlg_6 ⟨(Nat.le_of_ble_eq_true rfl), (Nat.le_of_ble_eq_true rfl)⟩ ⟨(by simp only [gRm]; omega), (by simp only [gRm]; omega)⟩ rfl rfl (Nat.le_of_ble_eq_true rfl) dX4_pay_92 ?_
      rintro f7 ⟨he_7, hr7⟩
      have hlf_7 : f7 lf = some (.inr (5, [.ref p, .int nu, .int ho1, .int ho2, .ref so, .ref fc, .int fs_, .long ga])) := hr7 _ _ hlf_6 (by simp only [List.mem_cons, List.not_mem_nil, or_false, not_or]; exact cne hlf_6 he_6 (by simp))
      have hlg_7 : f7 lg = some (.inr (4, [.ref e_1, .int (sz + 1), .int lo, .ref ge, .ref re, .ref gv, .ref tk, .ref am, .int gi])) := hr7 _ _ hlg_6 (by simp only [List.mem_cons, List.not_mem_nil, or_false, not_or]; exact cne hlg_6 he_6 (by simp))
      refine gz_aload_n dX4_pay_95 rfl rfl ?_
      refine gz_iload dX4_pay_96 rfl ?_
      refine gz_iconst (v := 5) dX4_pay_98 (by decide) ?_
      refine gz_aload_n dX4_pay_99 rfl rfl ?_
      refine sgX4_56 hlf_7 rfl dX4_pay_100 ?_
      refine scX4_49 (k_X4_set (k := ((sz + 1) - 1)) (x := 5) (y := ho2) hlg_7 he_7 (by omega)) hlg_7 ⟨(Nat.le_of_ble_eq_true rfl), (Nat.le_of_ble_eq_true rfl)⟩ ⟨(by simp only [gRm]; omega), (by simp only [gRm]; omega)⟩ rfl rfl (Nat.le_of_ble_eq_true rfl) dX4_pay_103 ?_
      rintro f8 ⟨he_8, hr8⟩
      have hlf_8 : f8 lf = some (.inr (5, [.ref p, .int nu, .int ho1, .int ho2, .ref so, .ref fc, .int fs_, .long ga])) := hr8 _ _ hlf_7 (by simp only [List.mem_cons, List.not_mem_nil, or_false, not_or]; exact cne hlf_7 he_7 (by simp))
      have hlg_8 : f8 lg = some (.inr (4, [.ref e_1, .int (sz + 1), .int lo, .ref ge, .ref re, .ref gv, .ref tk, .ref am, .int gi])) := hr8 _ _ hlg_7 (by simp only [List.mem_cons, List.not_mem_nil, or_false, not_or]; exact cne hlg_7 he_7 (by simp))
      refine gz_aload_n dX4_pay_106 rfl rfl ?_
      refine gz_dup dX4_pay_107 rfl ?_
      refine sgX4_59 hlf_8 rfl dX4_pay_108 ?_
      refine gz_iload_n dX4_pay_111 rfl rfl ?_
      refine gz_i2l dX4_pay_112 ?_
      refine gz_ladd dX4_pay_113 ?_
      refine spX4_59 hlf_8  (Nat.le_of_ble_eq_true rfl) dX4_pay_114 ?_
      obtain ⟨f9, hf9⟩ : ∃ gg : gMem, gg = va_up f8 lf (some (.inr (5, [.ref p, .int nu, .int ho1, .int ho2, .ref so, .ref fc, .int fs_, .long (ga + co.toInt64)]))) := ⟨_, rfl⟩
      refine gz_eq (f2 := f9) hf9.symm rfl rfl rfl ?_
      have hlg_9 : f9 lg = some (.inr (4, [.ref e_1, .int (sz + 1), .int lo, .ref ge, .ref re, .ref gv, .ref tk, .ref am, .int gi])) := by rw [hf9, va_up_ne _ _ (cne hlg_8 hlf_8 (by simp))]; exact hlg_8
      have he_9 : f9 e_1 = some (.inl (cy 0, n_1, .inl (lsetF n_1 (lsetF n_1 (lsetF n_1 (lsetF n_1 (lsetF n_1 (lsetF n_1 g_1 ((sz + 1) - 1) 0 nu) ((sz + 1) - 1) 1 da) ((sz + 1) - 1) 2 co) ((sz + 1) - 1) 3 wd) ((sz + 1) - 1) 4 ho1) ((sz + 1) - 1) 5 ho2))) := by rw [hf9, va_up_ne _ _ (cne he_8 hlf_8 (by simp))]; exact he_8
      have hlf_9 : f9 lf = some (.inr (5, [.ref p, .int nu, .int ho1, .int ho2, .ref so, .ref fc, .int fs_, .long (ga + co.toInt64)])) := by rw [hf9]; exact va_up_self _ _ _
      exact gz_vretU rfl dX4_pay_117 (by omega) (by omega) (⟨_, _, _, _, _, _, rfl, hlg_9, he_9, hlf_9, (by have e1 : (1 : Int32).toInt = 1 := rfl; have e2k : (2000 : Int32).toInt = 2000 := rfl; simp only [fl_lt] at c_12; have hx := T_add (rfl : sz.toInt = sz.toInt) e1 (by omega); rw [hx]; omega), ⟨by omega, by omega⟩, hc_1, (by have hc0 : ¬ co.toInt = 0 := fun z => c_1 (Int32.toInt_inj.mp (z.trans rfl)); have e1 : (1 : Int32).toInt = 1 := rfl; have e2k : (2000 : Int32).toInt = 2000 := rfl; simp only [fl_lt] at c_12; have hx := T_add (rfl : sz.toInt = sz.toInt) e1 (by omega); exact pay_S hZ hwN ⟨by omega, by omega⟩ hcp_1 (by omega) hc0 ((T_sub hx e1 (by omega)).trans (Int.add_sub_cancel _ _))), (fr_le (S := [lg, e_1, lf]) (by rw [hf9]; exact fr_up (fr_tr (fr_tr (fr_tr (fr_tr (fr_tr (fr_tr (by rw [hf2]; exact fr_up (fr_tr fr_rf (fr_mo hr1 (by simp))) (by simp)) (fr_mo hr3 (by simp))) (fr_mo hr4 (by simp))) (fr_mo hr5 (by simp))) (fr_mo hr6 (by simp))) (fr_mo hr7 (by simp))) (fr_mo hr8 (by simp))) (by simp)) (by intro z hz2; simp only [List.mem_cons, List.not_mem_nil, or_false] at hz2; rcases hz2 with rfl | rfl | rfl; exact Or.inl (by simp); (rcases hc_1 with hq | hq; exact Or.inl (by rw [hq]; simp); exact Or.inr hq); exact Or.inl (by simp)))⟩)
    ·
      refine gz_aload_n dX4_pay_15 rfl rfl ?_
      refine gz_dup dX4_pay_16 rfl ?_
      refine sgX4_38 hlg rfl dX4_pay_17 ?_
      refine gz_iconst (v := 1) dX4_pay_20 (by decide) ?_
      refine gz_iadd dX4_pay_21 ?_
      refine spX4_38 hlg  (Nat.le_of_ble_eq_true rfl) dX4_pay_22 ?_
      obtain ⟨f10, hf10⟩ : ∃ gg : gMem, gg = va_up f lg (some (.inr (4, [.ref en, .int sz, .int (lo + 1), .ref ge, .ref re, .ref gv, .ref tk, .ref am, .int gi]))) := ⟨_, rfl⟩
      refine gz_eq (f2 := f10) hf10.symm rfl rfl rfl ?_
      have hen_10 : f10 en = some (.inl (cy 0, ne, .inl (eg))) := by rw [hf10, va_up_ne _ _ (cne hen hlg (by simp))]; exact hen
      have hlf_10 : f10 lf = some (.inr (5, [.ref p, .int nu, .int ho1, .int ho2, .ref so, .ref fc, .int fs_, .long ga])) := by rw [hf10, va_up_ne _ _ (cne hlf hlg (by simp))]; exact hlf
      have hlg_10 : f10 lg = some (.inr (4, [.ref en, .int sz, .int (lo + 1), .ref ge, .ref re, .ref gv, .ref tk, .ref am, .int gi])) := by rw [hf10]; exact va_up_self _ _ _
      exact gz_vretU rfl dX4_pay_25 (by omega) (by omega) (⟨_, _, _, _, _, _, rfl, hlg_10, hen_10, hlf_10, hl, ⟨by omega, by omega⟩, Or.inl rfl, (by have e2k : (2000 : Int32).toInt = 2000 := rfl; have hc0 : ¬ co.toInt = 0 := fun z => c_1 (Int32.toInt_inj.mp (z.trans rfl)); simp only [fl_lt] at c_12; obtain ⟨⟨⟨y1, y1b⟩, y2, y3⟩, y4⟩ := hZ; rw [if_neg hc0]; unfold ap1; rw [if_pos rfl, if_pos (by omega)]; exact ⟨⟨⟨y1, y1b⟩, lo_1 y2, y3⟩, y4⟩), (by rw [hf10]; exact fr_up fr_rf (by simp))⟩)
  ·
    exact gz_vretU rfl dX4_pay_4 (by omega) (by omega) (⟨_, _, _, _, _, _, rfl, hlg, hen, hlf, hl, ⟨by omega, by omega⟩, Or.inl rfl, (by rw [if_pos (show co.toInt = 0 by rw [c_1]; rfl)]; exact hZ), fr_rf⟩)
