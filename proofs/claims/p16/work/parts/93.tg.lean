/-! the reference's LIVES: what its rows hold -/
def pmR (F : Nat → Nat → Int32) (i : Nat) (p : Pm) : Prop := (F 39 i).toInt = p.1 ∧ (F 40 i).toInt = p.2.1 ∧ (F 41 i).toInt = p.2.2.1 ∧ (F 42 i).toInt = p.2.2.2.1
def RLg (n : Nat → Int32) (F : Nat → Nat → Int32) (P : List Pm) (L : Int) : Prop := ((n 38).toInt = (P.length : Int) ∧ P.length ≤ 2000) ∧ n 1 = Int32.ofInt L ∧ ∀ i, i < P.length → pmR F i (P.getD i pm0)
def RLf (F : Nat → Nat → Int32) (G : Nat → Nat → Int64) (l fo : Nat) (Q : List Sd) (Gt : Int) : Prop := ((F 35 l).toInt = (Q.length : Int) ∧ Q.length ≤ 40) ∧ G 34 l = Int64.ofInt Gt ∧ ∀ i, i < Q.length → (F 36 (40 * l + i)).toInt = 40 * (fo : Int) + ((Q.getD i (0, 0)).1 : Int) ∧ (G 37 (40 * l + i)).toInt = (Q.getD i (0, 0)).2
def RSt (n : Nat → Int32) (F : Nat → Nat → Int32) (G : Nat → Nat → Int64) (l fo : Nat) (Z : Ls) : Prop := RLg n F Z.1 Z.2.1 ∧ RLf F G l fo Z.2.2.1 Z.2.2.2
theorem RSt_cg {n n2 : Nat → Int32} {F F2 : Nat → Nat → Int32} {G G2 : Nat → Nat → Int64} {l fo : Nat} {Z : Ls} (h : RSt n F G l fo Z) (h1 : n2 1 = n 1) (h38 : n2 38 = n 38) (hF : ∀ r, r ∈ [35, 36, 39, 40, 41, 42] → F2 r = F r) (hG : ∀ r, r ∈ [34, 37] → G2 r = G r) : RSt n2 F2 G2 l fo Z := by
  obtain ⟨⟨⟨a1, a2⟩, a3, a4⟩, ⟨b1, b2⟩, b3, b4⟩ := h
  refine ⟨⟨⟨by rw [h38]; exact a1, a2⟩, by rw [h1]; exact a3, fun i hi => ?_⟩, ⟨by rw [hF 35 (by decide)]; exact b1, b2⟩, by rw [hG 34 (by decide)]; exact b3, fun i hi => ?_⟩
  · unfold pmR
    rw [hF 39 (by decide), hF 40 (by decide), hF 41 (by decide), hF 42 (by decide)]
    exact a4 i hi
  · rw [hF 36 (by decide), hG 37 (by decide)]
    exact b4 i hi
/-- the other LIVES stay -/
def oL (F : Nat → Nat → Int32) (G : Nat → Nat → Int64) (F2 : Nat → Nat → Int32) (G2 : Nat → Nat → Int64) (l : Nat) : Prop := ∀ l2 : Nat, l2 ≠ l → F2 35 l2 = F 35 l2 ∧ G2 34 l2 = G 34 l2 ∧ ∀ i, i < 40 → F2 36 (40 * l2 + i) = F 36 (40 * l2 + i) ∧ G2 37 (40 * l2 + i) = G 37 (40 * l2 + i)
theorem oL_rf {F : Nat → Nat → Int32} {G : Nat → Nat → Int64} {l : Nat} : oL F G F G l := fun _ _ => ⟨rfl, rfl, fun _ _ => ⟨rfl, rfl⟩⟩
theorem oL_tr {F F2 F3 : Nat → Nat → Int32} {G G2 G3 : Nat → Nat → Int64} {l : Nat} (h : oL F G F2 G2 l) (k : oL F2 G2 F3 G3 l) : oL F G F3 G3 l := fun l2 hl => by
  obtain ⟨a1, a2, a3⟩ := h l2 hl
  obtain ⟨b1, b2, b3⟩ := k l2 hl
  exact ⟨b1.trans a1, b2.trans a2, fun i hi => ⟨(b3 i hi).1.trans (a3 i hi).1, (b3 i hi).2.trans (a3 i hi).2⟩⟩
theorem oL_eq {F F2 : Nat → Nat → Int32} {G G2 : Nat → Nat → Int64} {l : Nat} (hF : ∀ r, r ∈ [35, 36] → F2 r = F r) (hG : ∀ r, r ∈ [34, 37] → G2 r = G r) : oL F G F2 G2 l := fun l2 _ => by
  rw [hF 35 (by decide), hF 36 (by decide), hG 34 (by decide), hG 37 (by decide)]
  exact ⟨rfl, rfl, fun _ _ => ⟨rfl, rfl⟩⟩
/-- what stands on the stack, its top first -/
def skL (g : Nat → Int32) (q : Nat → Int64) (fo : Nat) : List Sd → Nat → Prop
  | [], t => t = 0
  | e :: K, t => ∃ t2 : Nat, t = t2 + 1 ∧ (g t2).toInt = 40 * (fo : Int) + (e.1 : Int) ∧ (q t2).toInt = e.2 ∧ skL g q fo K t2
theorem skL_cg {g g2 : Nat → Int32} {q q2 : Nat → Int64} {fo : Nat} : ∀ {K : List Sd} {t : Nat}, (∀ i, i < t → g2 i = g i ∧ q2 i = q i) → skL g q fo K t → skL g2 q2 fo K t := by
  intro K
  induction K with
  | nil => intro t _ h; exact h
  | cons e K ih =>
    intro t ho h
    obtain ⟨t2, h1, h2, h3, h4⟩ := h
    obtain ⟨o1, o2⟩ := ho t2 (by omega)
    exact ⟨t2, h1, by rw [o1]; exact h2, by rw [o2]; exact h3, ih (fun i hi => ho i (by omega)) h4⟩
theorem skL_put {g : Nat → Int32} {q : Nat → Int64} {fo : Nat} {K : List Sd} {t : Nat} {x : Int32} {y : Int64} {e : Sd} (h : skL g q fo K t) (hx : x.toInt = 40 * (fo : Int) + (e.1 : Int)) (hy : y.toInt = e.2) : skL (upd g t x) (vp_updL q t y) fo (e :: K) (t + 1) := ⟨t, rfl, by rw [updE, if_pos rfl]; exact hx, by rw [updLE, if_pos rfl]; exact hy, skL_cg (fun i hi => ⟨by rw [updE, if_neg (by omega)], by rw [updLE, if_neg (by omega)]⟩) h⟩
theorem skL_pop {g : Nat → Int32} {q : Nat → Int64} {fo : Nat} {K : List Sd} {t : Nat} (h : skL g q fo K (t + 1)) : ∃ (e : Sd) (K2 : List Sd), K = e :: K2 ∧ (g t).toInt = 40 * (fo : Int) + (e.1 : Int) ∧ (q t).toInt = e.2 ∧ skL g q fo K2 t := by
  cases K with
  | nil => have z : t + 1 = 0 := h; omega
  | cons e K2 =>
    obtain ⟨t2, h1, h2, h3, h4⟩ := h
    have : t2 = t := by omega
    subst this
    exact ⟨e, K2, rfl, h2, h3, h4⟩
theorem skL_0 {g : Nat → Int32} {q : Nat → Int64} {fo : Nat} {K : List Sd} (h : skL g q fo K 0) : K = [] := by
  cases K with
  | nil => rfl
  | cons e K2 => obtain ⟨t2, h1, _⟩ := h; omega
def evK (T : List Hd) (S : Sn) : List Sd → List Ev
  | [] => []
  | e :: K => ev T S e.1 e.2 ++ evK T S K
/-- what may stand on the stack -/
def okK (T : List Hd) (K : List Sd) : Prop := ∀ e, e ∈ K → e.1 < T.length ∧ -1000000 ≤ e.2 ∧ e.2 ≤ 1000000
theorem okK_c {T : List Hd} {e : Sd} {K : List Sd} (h : e.1 < T.length ∧ -1000000 ≤ e.2 ∧ e.2 ≤ 1000000) (k : okK T K) : okK T (e :: K) := fun x hx => by
  rcases List.mem_cons.mp hx with q | q
  · rw [q]; exact h
  · exact k x q
theorem okK_t {T : List Hd} {e : Sd} {K : List Sd} (k : okK T (e :: K)) : okK T K := fun x hx => k x (List.mem_cons_of_mem _ hx)
theorem rem40 {x : Int32} {fo w : Nat} (h : x.toInt = 40 * (fo : Int) + (w : Int)) (hw : w < 40) (hf : fo < 20) : (x - x / 40 * 40).toInt = (w : Int) := by
  have e40 : (40 : Int32).toInt = 40 := rfl
  have q := T_sub h (T_mul (T_div h e40 (by omega) (by decide)) e40 (by omega)) (by omega)
  omega
theorem pays_R {n : Nat → Int32} {F : Nat → Nat → Int32} {G : Nat → Nat → Int64} {l fo wN : Nat} {Z : Ls} {aN bN cN : Int} {x1 x2 : Int32} {y : Int64} (hZ : RSt n F G l fo Z) (hl : x1.toInt = (l : Int)) (hx : x2.toInt = 40 * (fo : Int) + (wN : Int)) (hf : fo < 20) (hw : wN < 40) (hy : y.toInt = cN) (hc : -1000000 ≤ cN ∧ cN ≤ 1000000) (h0 : ¬ cN = 0) (hs : ¬ (n 38).toInt = 2000) {n2 : Nat → Int32} {F2 : Nat → Nat → Int32} {G2 : Nat → Nat → Int64}
    (e1 : n2 1 = n 1) (e38 : n2 38 = n 38 + 1) (e39 : F2 39 = upd (F 39) (Int32.toNatClampNeg (n 38)) x1) (e40 : F2 40 = upd (F 40) (Int32.toNatClampNeg (n 38)) (n 0)) (e41 : F2 41 = upd (F 41) (Int32.toNatClampNeg (n 38)) y.toInt32) (e42 : F2 42 = upd (F 42) (Int32.toNatClampNeg (n 38)) (x2 - x2 / 40 * 40)) (e35 : F2 35 = F 35) (e36 : F2 36 = F 36) (e37 : G2 37 = G 37) (e34 : G2 34 = vp_updL (G 34) (Int32.toNatClampNeg x1) (G 34 (Int32.toNatClampNeg x1) + y)) : RSt n2 F2 G2 l fo (ap1 (l : Int) (n 0).toInt aN bN Z (true, wN, cN)) := by
  obtain ⟨⟨⟨a1, a2⟩, a3, a4⟩, ⟨b1, b2⟩, b3, b4⟩ := hZ
  have en : Int32.toNatClampNeg (n 38) = Z.1.length := by rw [clN]; omega
  have el : Int32.toNatClampNeg x1 = l := by rw [clN]; omega
  have q := T_add a1 (show (1 : Int32).toInt = 1 from rfl) (by omega)
  rw [en] at e39 e40 e41 e42
  rw [el] at e34
  unfold ap1
  rw [if_pos rfl, if_neg (by omega)]
  refine ⟨⟨⟨?_, ?_⟩, by rw [e1]; exact a3, fun i hi => ?_⟩, ⟨by rw [e35]; exact b1, b2⟩, ?_, fun i hi => by rw [e36, e37]; exact b4 i hi⟩
  · show (n2 38).toInt = ((Z.1 ++ [_]).length : Int)
    rw [List.length_append, List.length_cons, List.length_nil, e38, q]
    omega
  · show (Z.1 ++ [_]).length ≤ 2000
    rw [List.length_append, List.length_cons, List.length_nil]
    omega
  · have hi : i < (Z.1 ++ [((l : Int), (n 0).toInt, cN, (wN : Int), aN, bN)]).length := hi
    show pmR F2 i ((Z.1 ++ [((l : Int), (n 0).toInt, cN, (wN : Int), aN, bN)]).getD i pm0)
    rw [List.length_append, List.length_cons, List.length_nil] at hi
    unfold pmR
    rw [e39, e40, e41, e42, updE, updE, updE, updE]
    by_cases ci : i = Z.1.length
    · rw [if_pos ci, if_pos ci, if_pos ci, if_pos ci, ci, gtD1]
      refine ⟨hl, rfl, ?_, rem40 hx hw hf⟩
      show y.toInt32.toInt = cN
      rw [Int64.toInt_toInt32, hy]
      exact Int.bmod_eq_of_le (by omega) (by omega)
    · rw [if_neg ci, if_neg ci, if_neg ci, if_neg ci, gtD2 (by omega)]
      exact a4 i (by omega)
  · show G2 34 l = Int64.ofInt (Z.2.2.2 + cN)
    rw [e34, updLE, if_pos rfl, Int64.ofInt_add, ← b3, ← hy, Int64.ofInt_toInt]
theorem waits_R {n : Nat → Int32} {F : Nat → Nat → Int32} {G : Nat → Nat → Int64} {l fo wN : Nat} {Z : Ls} {dN aN bN fN : Int} {x1 x2 : Int32} {y : Int64} (hZ : RSt n F G l fo Z) (hl : x1.toInt = (l : Int)) (hl4 : l < 40) (hx : x2.toInt = 40 * (fo : Int) + (wN : Int)) (hy : y.toInt = fN) (hs : ¬ (F 35 l).toInt = 40) {n2 : Nat → Int32} {F2 : Nat → Nat → Int32} {G2 : Nat → Nat → Int64}
    (e1 : n2 1 = n 1) (e38 : n2 38 = n 38) (e39 : F2 39 = F 39) (e40 : F2 40 = F 40) (e41 : F2 41 = F 41) (e42 : F2 42 = F 42) (e34 : G2 34 = G 34) (e35 : F2 35 = upd (F 35) l (F 35 l + 1)) (e36 : F2 36 = upd (F 36) (40 * l + (F 35 l).toInt.toNat) x2) (e37 : G2 37 = vp_updL (G 37) (40 * l + (F 35 l).toInt.toNat) y) : RSt n2 F2 G2 l fo (ap1 (l : Int) dN aN bN Z (false, wN, fN)) ∧ oL F G F2 G2 l := by
  obtain ⟨⟨⟨a1, a2⟩, a3, a4⟩, ⟨b1, b2⟩, b3, b4⟩ := hZ
  have ef : (F 35 l).toInt.toNat = Z.2.2.1.length := by omega
  have q := T_add b1 (show (1 : Int32).toInt = 1 from rfl) (by omega)
  rw [ef] at e36 e37
  unfold ap1
  rw [if_neg (show ¬ false = true by decide), if_neg (by omega)]
  refine ⟨⟨⟨⟨by rw [e38]; exact a1, a2⟩, by rw [e1]; exact a3, fun i hi => ?_⟩, ⟨?_, ?_⟩, by rw [e34]; exact b3, fun i hi => ?_⟩, fun l2 hl2 => ⟨by rw [e35, updE, if_neg hl2], by rw [e34], fun i hi => ⟨by rw [e36, updE, if_neg (by omega)], by rw [e37, updLE, if_neg (by omega)]⟩⟩⟩
  · unfold pmR
    rw [e39, e40, e41, e42]
    exact a4 i hi
  · show (F2 35 l).toInt = ((Z.2.2.1 ++ [(wN, fN)]).length : Int)
    rw [List.length_append, List.length_cons, List.length_nil, e35, updE, if_pos rfl, q]
    omega
  · show (Z.2.2.1 ++ [(wN, fN)]).length ≤ 40
    rw [List.length_append, List.length_cons, List.length_nil]
    omega
  · have hi : i < (Z.2.2.1 ++ [(wN, fN)]).length := hi
    show (F2 36 (40 * l + i)).toInt = 40 * (fo : Int) + (((Z.2.2.1 ++ [(wN, fN)]).getD i (0, 0)).1 : Int) ∧ (G2 37 (40 * l + i)).toInt = ((Z.2.2.1 ++ [(wN, fN)]).getD i (0, 0)).2
    rw [List.length_append, List.length_cons, List.length_nil] at hi
    rw [e36, e37, updE, updLE]
    by_cases ci : i = Z.2.2.1.length
    · rw [if_pos (by omega), if_pos (by omega), ci, gtD1]
      exact ⟨hx, hy⟩
    · rw [if_neg (by omega), if_neg (by omega), gtD2 (by omega)]
      exact b4 i (by omega)
/-- one more is LOST -/
theorem lost_R {n n2 : Nat → Int32} {F F2 : Nat → Nat → Int32} {G G2 : Nat → Nat → Int64} {l fo : Nat} {Z : Ls} (h : RSt n F G l fo Z) (h1 : n2 1 = n 1 + 1) (h38 : n2 38 = n 38) (hF : F2 = F) (hG : G2 = G) : RSt n2 F2 G2 l fo (Z.1, Z.2.1 + 1, Z.2.2) := by
  obtain ⟨⟨⟨a1, a2⟩, a3, a4⟩, b⟩ := h
  subst hF
  subst hG
  exact ⟨⟨⟨by rw [h38]; exact a1, a2⟩, by rw [h1]; exact lo_1 a3, a4⟩, b⟩

set_option maxHeartbeats 4000000 in
set_option maxRecDepth 100000 in
theorem k_X12_comesE {l : Launch} {D : va_G} {cy : Nat → ClassId} {b : Nat} {f : gMem} {m : Nat} {a : Nat → Nat} {f0 : gMem} {n : Nat → Int32} {z : Nat → Int64} {F : Nat → Nat → Int32} {G : Nat → Nat → Int64}  {x1 : Int32} {y : Int64} (hS : mS cy m a f0 n z F G f) (hc : 0 ≤ (n 43).toInt ∧ (n 43).toInt < 64) : gC l D cy b yX12_comes cX12_comes 4 none 0 0 0 [.ref m, .int x1, .long y] f (pV fun f2 => ∃ (n2 : Nat → Int32) (z2 : Nat → Int64) (F2 : Nat → Nat → Int32) (G2 : Nat → Nat → Int64), mS cy m a f0 n2 z2 F2 G2 f2 ∧ fx [43] [] [44] [45] n z F G n2 z2 F2 G2 ∧ n2 43 = n 43 + 1 ∧ F2 44 = upd (F 44) (Int32.toNatClampNeg (n 43)) x1 ∧ G2 45 = vp_updL (G 45) (Int32.toNatClampNeg (n 43)) y) := by
  refine gC_of (by decide) (Nat.le_of_ble_eq_true rfl) ?_
  show gG l _ _ _ D cy b cX12_comes 4 _ RX12 "comes" 0 0 f 0 [(0, .ref m), (1, .int x1), (2, .long y)] []
  refine gz_aload_n dX12_comes_0 rfl rfl ?_
  refine mg_130 hS dX12_comes_1 ?_
  refine gz_aload_n dX12_comes_4 rfl rfl ?_
  refine mg_361 hS dX12_comes_5 ?_
  refine gz_iload_n dX12_comes_8 rfl rfl ?_
  refine m_iast 44 hS rfl (N := 64) rfl ((by exact vin_T (rfl : ((n 43)).toInt = ((n 43)).toInt) (by omega) (by omega))) dX12_comes_9 (fun f_1 hS_1q => ?_)
  have hS_1 : mS cy m a f0 n z (va_up F 44 (upd (F 44) (Int32.toNatClampNeg (n 43)) x1)) G f_1 := hS_1q
  refine gz_aload_n dX12_comes_10 rfl rfl ?_
  refine mg_133 hS_1 dX12_comes_11 ?_
  refine gz_aload_n dX12_comes_14 rfl rfl ?_
  refine mg_361 hS_1 dX12_comes_15 ?_
  refine gz_ev (w := .int (n 43)) rfl ?_
  refine gz_lload_n dX12_comes_18 rfl rfl ?_
  refine m_last 45 hS_1 rfl (N := 64) rfl ((by exact vin_T (rfl : ((n 43)).toInt = ((n 43)).toInt) (by omega) (by omega))) dX12_comes_19 (fun f_2 hS_2q => ?_)
  have hS_2 : mS cy m a f0 n z (va_up F 44 (upd (F 44) (Int32.toNatClampNeg (n 43)) x1)) (va_up G 45 (vp_updL (G 45) (Int32.toNatClampNeg (n 43)) y)) f_2 := hS_2q
  refine gz_aload_n dX12_comes_20 rfl rfl ?_
  refine gz_dup dX12_comes_21 rfl ?_
  refine mg_361 hS_2 dX12_comes_22 ?_
  refine gz_ev (w := .int (n 43)) rfl ?_
  refine gz_iconst (v := 1) dX12_comes_25 (by decide) ?_
  refine gz_iadd dX12_comes_26 ?_
  refine mp_361 hS_2 dX12_comes_27 (fun f_3 hS_3 => ?_)
  have hxx : fx [43] [] [44] [45] n z F G (va_up n 43 ((n 43) + 1)) z (va_up F 44 (upd (F 44) (Int32.toNatClampNeg (n 43)) x1)) (va_up G 45 (vp_updL (G 45) (Int32.toNatClampNeg (n 43)) y)) := (fx_n (fx_G (fx_F fx_rf (by decide)) (by decide)) (by decide))
  exact gz_vret rfl dX12_comes_30 (Nat.le_of_ble_eq_true rfl) (Nat.le_of_ble_eq_true rfl) (⟨rfl, _, _, _, _, hS_3, hxx, rfl, rfl, rfl⟩)

set_option maxHeartbeats 4000000 in
set_option maxRecDepth 100000 in
theorem k_X12_paysE {l : Launch} {D : va_G} {cy : Nat → ClassId} {b : Nat} {f : gMem} {m : Nat} {a : Nat → Nat} {f0 : gMem} {n : Nat → Int32} {z : Nat → Int64} {F : Nat → Nat → Int32} {G : Nat → Nat → Int64}  {x1 x2 : Int32} {y : Int64} {lN fo wN : Nat} {Z : Ls} {aN bN cN : Int} (hS : mS cy m a f0 n z F G f) (hR : RI n F) (hl : 0 ≤ x1.toInt ∧ x1.toInt < (n 30).toInt) (hlN : x1.toInt = (lN : Int) ∧ lN < 40) (hSt : RSt n F G lN fo Z) (hfo : fo < 20) (hwx : x2.toInt = 40 * (fo : Int) + (wN : Int) ∧ wN < 40) (hy : y.toInt = cN ∧ -1000000 ≤ cN ∧ cN ≤ 1000000) : gC l D cy b yX12_pays cX12_pays 5 none 0 0 0 [.ref m, .int x1, .int x2, .long y] f (pV fun f2 => ∃ (n2 : Nat → Int32) (z2 : Nat → Int64) (F2 : Nat → Nat → Int32) (G2 : Nat → Nat → Int64), mS cy m a f0 n2 z2 F2 G2 f2 ∧ fx [1, 38] [] [39, 40, 41, 42] [34] n z F G n2 z2 F2 G2 ∧ RI n2 F2 ∧ RSt n2 F2 G2 lN fo (if cN = 0 then Z else ap1 (lN : Int) (n 0).toInt aN bN Z (true, wN, cN)) ∧ oL F G F2 G2 lN) := by
  obtain ⟨a0, a4, a5, bA, bW, a30, bL, a38, bP, a53, a47, a88⟩ := id hR
  refine gC_of (by decide) (Nat.le_of_ble_eq_true rfl) ?_
  show gG l _ _ _ D cy b cX12_pays 5 _ RX12 "pays" 0 0 f 0 [(0, .ref m), (1, .int x1), (2, .int x2), (3, .long y)] []
  refine gz_lload_n dX12_pays_0 rfl rfl ?_
  refine gz_lconst (v := 0) dX12_pays_1 (by decide) ?_
  refine gz_lcmp dX12_pays_2 ?_
  refine gz_if_ne (tgt := 7) dX12_pays_3 (by decide) (fun c_3 => ?_) (fun c_3 => ?_)
  ·
    try simp only [mIn_0, lgc_lt, lgc_gt, lgc_le, lgc_ge, lgc_eq] at c_3
    try simp only [fl_lt, fl_le, fl_eq, fL_w, fL_lt, fL_le, tm1, tm10k, tm9, tm99, Int32.reduceToInt, Int64.reduceToInt, Int.not_lt, Int.not_le] at c_3
    refine gz_aload_n dX12_pays_7 rfl rfl ?_
    refine mg_364 hS dX12_pays_8 ?_
    refine gz_sipush (v := 2000) dX12_pays_11 (by decide) ?_
    refine gz_icmp_ne (tgt := 28) dX12_pays_14 (by decide) (fun c_14 => ?_) (fun c_14 => ?_)
    ·
      try simp only [mIn_0, lgc_lt, lgc_gt, lgc_le, lgc_ge, lgc_eq] at c_14
      try simp only [fl_lt, fl_le, fl_eq, fL_w, fL_lt, fL_le, tm1, tm10k, tm9, tm99, Int32.reduceToInt, Int64.reduceToInt, Int.not_lt, Int.not_le] at c_14
      refine gz_aload_n dX12_pays_28 rfl rfl ?_
      refine mg_118 hS dX12_pays_29 ?_
      refine gz_aload_n dX12_pays_32 rfl rfl ?_
      refine mg_364 hS dX12_pays_33 ?_
      refine gz_iload_n dX12_pays_36 rfl rfl ?_
      refine m_iast 39 hS rfl (N := 2000) rfl ((by exact vin_T (rfl : ((n 38)).toInt = ((n 38)).toInt) (by omega) (by omega))) dX12_pays_37 (fun f_1 hS_1q => ?_)
      have hS_1 : mS cy m a f0 n z (va_up F 39 (upd (F 39) (Int32.toNatClampNeg (n 38)) x1)) G f_1 := hS_1q
      refine gz_aload_n dX12_pays_38 rfl rfl ?_
      refine mg_121 hS_1 dX12_pays_39 ?_
      refine gz_aload_n dX12_pays_42 rfl rfl ?_
      refine mg_364 hS_1 dX12_pays_43 ?_
      refine gz_ev (w := .int (n 38)) rfl ?_
      refine gz_aload_n dX12_pays_46 rfl rfl ?_
      refine mg_249 hS_1 dX12_pays_47 ?_
      refine gz_ev (w := .int (n 0)) rfl ?_
      refine m_iast 40 hS_1 rfl (N := 2000) rfl ((by exact vin_T (rfl : ((n 38)).toInt = ((n 38)).toInt) (by omega) (by omega))) dX12_pays_50 (fun f_2 hS_2q => ?_)
      have hS_2 : mS cy m a f0 n z (va_up (va_up F 39 (upd (F 39) (Int32.toNatClampNeg (n 38)) x1)) 40 (upd (F 40) (Int32.toNatClampNeg (n 38)) (n 0))) G f_2 := hS_2q
      refine gz_aload_n dX12_pays_51 rfl rfl ?_
      refine mg_124 hS_2 dX12_pays_52 ?_
      refine gz_aload_n dX12_pays_55 rfl rfl ?_
      refine mg_364 hS_2 dX12_pays_56 ?_
      refine gz_ev (w := .int (n 38)) rfl ?_
      refine gz_lload_n dX12_pays_59 rfl rfl ?_
      refine gz_l2i dX12_pays_60 ?_
      refine m_iast 41 hS_2 rfl (N := 2000) rfl ((by exact vin_T (rfl : ((n 38)).toInt = ((n 38)).toInt) (by omega) (by omega))) dX12_pays_61 (fun f_3 hS_3q => ?_)
      have hS_3 : mS cy m a f0 n z (va_up (va_up (va_up F 39 (upd (F 39) (Int32.toNatClampNeg (n 38)) x1)) 40 (upd (F 40) (Int32.toNatClampNeg (n 38)) (n 0))) 41 (upd (F 41) (Int32.toNatClampNeg (n 38)) y.toInt32)) G f_3 := hS_3q
      refine gz_aload_n dX12_pays_62 rfl rfl ?_
      refine mg_127 hS_3 dX12_pays_63 ?_
      refine gz_aload_n dX12_pays_66 rfl rfl ?_
      refine mg_364 hS_3 dX12_pays_67 ?_
      refine gz_ev (w := .int (n 38)) rfl ?_
      refine gz_iload_n dX12_pays_70 rfl rfl ?_
      refine gz_bipush (v := 40) dX12_pays_71 (by decide) ?_
      refine gz_irem dX12_pays_73 (by decide) ?_
      refine m_iast 42 hS_3 rfl (N := 2000) rfl ((by exact vin_T (rfl : ((n 38)).toInt = ((n 38)).toInt) (by omega) (by omega))) dX12_pays_74 (fun f_4 hS_4q => ?_)
      have hS_4 : mS cy m a f0 n z (va_up (va_up (va_up (va_up F 39 (upd (F 39) (Int32.toNatClampNeg (n 38)) x1)) 40 (upd (F 40) (Int32.toNatClampNeg (n 38)) (n 0))) 41 (upd (F 41) (Int32.toNatClampNeg (n 38)) y.toInt32)) 42 (upd (F 42) (Int32.toNatClampNeg (n 38)) (x2 - x2 / 40 * 40))) G f_4 := hS_4q
      refine gz_aload_n dX12_pays_75 rfl rfl ?_
      refine gz_dup dX12_pays_76 rfl ?_
      refine mg_364 hS_4 dX12_pays_77 ?_
      refine gz_ev (w := .int (n 38)) rfl ?_
      refine gz_iconst (v := 1) dX12_pays_80 (by decide) ?_
      refine gz_iadd dX12_pays_81 ?_
      refine mp_364 hS_4 dX12_pays_82 (fun f_5 hS_5 => ?_)
      refine gz_aload_n dX12_pays_85 rfl rfl ?_
      refine mg_106 hS_5 dX12_pays_86 ?_
      refine gz_iload_n dX12_pays_89 rfl rfl ?_
      refine gz_dup2 dX12_pays_90 rfl rfl ?_
      refine m_lald 34 hS_5 rfl (N := 40) rfl ((by exact vin_T (rfl : (x1).toInt = (x1).toInt) (by omega) (by omega))) dX12_pays_91 ?_
      refine gz_ev (w := .long ((G 34) (Int32.toNatClampNeg x1))) rfl ?_
      refine gz_lload_n dX12_pays_92 rfl rfl ?_
      refine gz_ladd dX12_pays_93 ?_
      refine m_last 34 hS_5 rfl (N := 40) rfl ((by exact vin_T (rfl : (x1).toInt = (x1).toInt) (by omega) (by omega))) dX12_pays_94 (fun f_6 hS_6q => ?_)
      have hS_6 : mS cy m a f0 (va_up n 38 ((n 38) + 1)) z (va_up (va_up (va_up (va_up F 39 (upd (F 39) (Int32.toNatClampNeg (n 38)) x1)) 40 (upd (F 40) (Int32.toNatClampNeg (n 38)) (n 0))) 41 (upd (F 41) (Int32.toNatClampNeg (n 38)) y.toInt32)) 42 (upd (F 42) (Int32.toNatClampNeg (n 38)) (x2 - x2 / 40 * 40))) (va_up G 34 (vp_updL (G 34) (Int32.toNatClampNeg x1) (((G 34) (Int32.toNatClampNeg x1)) + y))) f_6 := hS_6q
      have hxx : fx [1, 38] [] [39, 40, 41, 42] [34] n z F G (va_up n 38 ((n 38) + 1)) z (va_up (va_up (va_up (va_up F 39 (upd (F 39) (Int32.toNatClampNeg (n 38)) x1)) 40 (upd (F 40) (Int32.toNatClampNeg (n 38)) (n 0))) 41 (upd (F 41) (Int32.toNatClampNeg (n 38)) y.toInt32)) 42 (upd (F 42) (Int32.toNatClampNeg (n 38)) (x2 - x2 / 40 * 40))) (va_up G 34 (vp_updL (G 34) (Int32.toNatClampNeg x1) (((G 34) (Int32.toNatClampNeg x1)) + y))) := (fx_G (fx_n (fx_F (fx_F (fx_F (fx_F fx_rf (by decide)) (by decide)) (by decide)) (by decide)) (by decide)) (by decide))
      have e38 : ((va_up n 38 ((n 38) + 1)) 38).toInt = (n 38).toInt + 1 := (by (try rw [(show (va_up n 38 ((n 38) + 1)) 38 = ((n 38) + 1) from rfl)]); have q1_ := (T_add (rfl : ((n 38)).toInt = ((n 38)).toInt) (show (1 : Int32).toInt = 1 from rfl) (by omega)); omega)
      have hc0 : ¬ cN = 0 := fun z9 => c_3 (Int64.toInt_inj.mp (by rw [hy.1, z9]; rfl))
      have hex : RSt (va_up n 38 ((n 38) + 1)) (va_up (va_up (va_up (va_up F 39 (upd (F 39) (Int32.toNatClampNeg (n 38)) x1)) 40 (upd (F 40) (Int32.toNatClampNeg (n 38)) (n 0))) 41 (upd (F 41) (Int32.toNatClampNeg (n 38)) y.toInt32)) 42 (upd (F 42) (Int32.toNatClampNeg (n 38)) (x2 - x2 / 40 * 40))) (va_up G 34 (vp_updL (G 34) (Int32.toNatClampNeg x1) (((G 34) (Int32.toNatClampNeg x1)) + y))) lN fo (if cN = 0 then Z else ap1 (lN : Int) (n 0).toInt aN bN Z (true, wN, cN)) := by
        rw [if_neg hc0]
        exact pays_R hSt hlN.1 hwx.1 hfo hwx.2 hy.1 hy.2 hc0 (by omega) rfl rfl rfl rfl rfl rfl rfl rfl rfl rfl
      have hoL : oL F G (va_up (va_up (va_up (va_up F 39 (upd (F 39) (Int32.toNatClampNeg (n 38)) x1)) 40 (upd (F 40) (Int32.toNatClampNeg (n 38)) (n 0))) 41 (upd (F 41) (Int32.toNatClampNeg (n 38)) y.toInt32)) 42 (upd (F 42) (Int32.toNatClampNeg (n 38)) (x2 - x2 / 40 * 40))) (va_up G 34 (vp_updL (G 34) (Int32.toNatClampNeg x1) (((G 34) (Int32.toNatClampNeg x1)) + y))) lN := fun l2 hl2 => ⟨rfl, (by show (vp_updL (G 34) (Int32.toNatClampNeg x1) _) l2 = _; rw [updLE, if_neg (fun e => hl2 (by rw [e, clN]; omega))]), fun i hi => ⟨rfl, rfl⟩⟩
      exact gz_vret rfl dX12_pays_95 (Nat.le_of_ble_eq_true rfl) (Nat.le_of_ble_eq_true rfl) (⟨rfl, _, _, _, _, hS_6, hxx, RI_l hR (fun k hk => hxx.2.2.1 k ((by decide : ∀ k : Nat, k ∈ wK → k ∉ ([39, 40, 41, 42] : List Nat)) k hk)) (fun k hk => hxx.1 k ((by decide : ∀ k : Nat, k ∈ ([0, 4, 5, 30, 47, 53, 88] : List Nat) → k ∉ ([1, 38] : List Nat)) k hk)) (rL_cg2 (fun k hk => hxx.2.2.1 k ((by decide : ∀ k : Nat, k ∈ ([6, 7, 32, 33, 35, 36] : List Nat) → k ∉ ([39, 40, 41, 42] : List Nat)) k hk)) bL) (by rw [e38]; omega) (by rw [e38]; exact rPy_put bP (clI (by omega)) rfl hl), hex, hoL⟩)
    ·
      try simp only [mIn_0, lgc_lt, lgc_gt, lgc_le, lgc_ge, lgc_eq] at c_14
      try simp only [fl_lt, fl_le, fl_eq, fL_w, fL_lt, fL_le, tm1, tm10k, tm9, tm99, Int32.reduceToInt, Int64.reduceToInt, Int.not_lt, Int.not_le] at c_14
      refine gz_aload_n dX12_pays_17 rfl rfl ?_
      refine gz_dup dX12_pays_18 rfl ?_
      refine mg_367 hS dX12_pays_19 ?_
      refine gz_iconst (v := 1) dX12_pays_22 (by decide) ?_
      refine gz_iadd dX12_pays_23 ?_
      refine mp_367 hS dX12_pays_24 (fun f_7 hS_7 => ?_)
      have hxx : fx [1, 38] [] [39, 40, 41, 42] [34] n z F G (va_up n 1 ((n 1) + 1)) z F G := (fx_n fx_rf (by decide))
      have hxy : fx [1] [] [] [] n z F G (va_up n 1 ((n 1) + 1)) z F G := (fx_n fx_rf (by decide))
      have hc0 : ¬ cN = 0 := fun z9 => c_3 (Int64.toInt_inj.mp (by rw [hy.1, z9]; rfl))
      exact gz_vret rfl dX12_pays_27 (Nat.le_of_ble_eq_true rfl) (Nat.le_of_ble_eq_true rfl) (⟨rfl, _, _, _, _, hS_7, hxx, RI_fx hR hxy (by decide) (by decide), (by rw [if_neg hc0]; unfold ap1; rw [if_pos rfl, if_pos (by have z9 := hSt.1.1.1; omega)]; exact lost_R hSt rfl rfl rfl rfl), oL_eq (fun r hr => hxx.2.2.1 r (by revert hr; revert r; decide)) (fun r hr => rfl)⟩)
  ·
    try simp only [mIn_0, lgc_lt, lgc_gt, lgc_le, lgc_ge, lgc_eq] at c_3
    try simp only [fl_lt, fl_le, fl_eq, fL_w, fL_lt, fL_le, tm1, tm10k, tm9, tm99, Int32.reduceToInt, Int64.reduceToInt, Int.not_lt, Int.not_le] at c_3
    have hxx : fx [1, 38] [] [39, 40, 41, 42] [34] n z F G n z F G := fx_rf
    have hxy : fx [1] [] [] [] n z F G n z F G := fx_rf
    have hc0 : cN = 0 := by have z9 := congrArg Int64.toInt c_3; rw [hy.1] at z9; exact z9
    exact gz_vret rfl dX12_pays_6 (Nat.le_of_ble_eq_true rfl) (Nat.le_of_ble_eq_true rfl) (⟨rfl, _, _, _, _, hS, hxx, RI_fx hR hxy (by decide) (by decide), (by rw [if_pos hc0]; exact hSt), oL_eq (fun r hr => hxx.2.2.1 r (by revert hr; revert r; decide)) (fun r hr => rfl)⟩)

set_option maxHeartbeats 4000000 in
set_option maxRecDepth 100000 in
theorem k_X12_waitsE {l : Launch} {D : va_G} {cy : Nat → ClassId} {b : Nat} {f : gMem} {m : Nat} {a : Nat → Nat} {f0 : gMem} {n : Nat → Int32} {z : Nat → Int64} {F : Nat → Nat → Int32} {G : Nat → Nat → Int64}  {x1 x2 : Int32} {y : Int64} {lN fo wN : Nat} {Z : Ls} {aN bN fN dN : Int} (hS : mS cy m a f0 n z F G f) (hR : RI n F) (hl : 0 ≤ x1.toInt ∧ x1.toInt < (n 30).toInt) (hv : vS F (n 5).toInt x2) (hlN : x1.toInt = (lN : Int) ∧ lN < 40) (hSt : RSt n F G lN fo Z) (hfo : fo < 20) (hwx : x2.toInt = 40 * (fo : Int) + (wN : Int)) (hy : y.toInt = fN) : gC l D cy b yX12_waits cX12_waits 6 none 0 0 0 [.ref m, .int x1, .int x2, .long y] f (pV fun f2 => ∃ (n2 : Nat → Int32) (z2 : Nat → Int64) (F2 : Nat → Nat → Int32) (G2 : Nat → Nat → Int64), mS cy m a f0 n2 z2 F2 G2 f2 ∧ fx [1] [] [35, 36] [37] n z F G n2 z2 F2 G2 ∧ RI n2 F2 ∧ (∀ l : Nat, (F 35 l).toInt ≤ (F2 35 l).toInt) ∧ RSt n2 F2 G2 lN fo (ap1 (lN : Int) dN aN bN Z (false, wN, fN)) ∧ oL F G F2 G2 lN) := by
  obtain ⟨a0, a4, a5, bA, bW, a30, bL, a38, bP, a53, a47, a88⟩ := id hR
  have qL := bL (Int32.toNatClampNeg x1) (by have := clI (i := x1) (by omega); omega)
  refine gC_of (by decide) (Nat.le_of_ble_eq_true rfl) ?_
  show gG l _ _ _ D cy b cX12_waits 6 _ RX12 "waits" 0 0 f 0 [(0, .ref m), (1, .int x1), (2, .int x2), (3, .long y)] []
  refine gz_aload_n dX12_waits_0 rfl rfl ?_
  refine mg_109 hS dX12_waits_1 ?_
  refine gz_iload_n dX12_waits_4 rfl rfl ?_
  refine m_iald 35 hS rfl (N := 40) rfl ((by exact vin_T (rfl : (x1).toInt = (x1).toInt) (by omega) (by omega))) dX12_waits_5 ?_
  refine gz_bipush (v := 40) dX12_waits_6 (by decide) ?_
  refine gz_icmp_ne (tgt := 22) dX12_waits_8 (by decide) (fun c_8 => ?_) (fun c_8 => ?_)
  ·
    try simp only [mIn_0, lgc_lt, lgc_gt, lgc_le, lgc_ge, lgc_eq] at c_8
    try simp only [fl_lt, fl_le, fl_eq, fL_w, fL_lt, fL_le, tm1, tm10k, tm9, tm99, Int32.reduceToInt, Int64.reduceToInt, Int.not_lt, Int.not_le] at c_8
    refine gz_bipush (v := 40) dX12_waits_22 (by decide) ?_
    refine gz_iload_n dX12_waits_24 rfl rfl ?_
    refine gz_imul dX12_waits_25 ?_
    refine gz_aload_n dX12_waits_26 rfl rfl ?_
    refine mg_109 hS dX12_waits_27 ?_
    refine gz_iload_n dX12_waits_30 rfl rfl ?_
    refine m_iald 35 hS rfl (N := 40) rfl ((by exact vin_T (rfl : (x1).toInt = (x1).toInt) (by omega) (by omega))) dX12_waits_31 ?_
    refine gz_iadd dX12_waits_32 ?_
    refine gz_istore (lv' := [(5, .int ((40 * x1) + ((F 35) (Int32.toNatClampNeg x1)))), (0, .ref m), (1, .int x1), (2, .int x2), (3, .long y)]) dX12_waits_33 (by decide) rfl ?_
    refine gz_aload_n dX12_waits_35 rfl rfl ?_
    refine mg_112 hS dX12_waits_36 ?_
    refine gz_iload dX12_waits_39 rfl ?_
    refine gz_iload_n dX12_waits_41 rfl rfl ?_
    refine m_iast 36 hS rfl (N := 1600) rfl ((by have q9 := (T_add (T_mul (show (40 : Int32).toInt = 40 from rfl) (rfl : (x1).toInt = (x1).toInt) (by omega)) (rfl : (((F 35) (Int32.toNatClampNeg x1))).toInt = (((F 35) (Int32.toNatClampNeg x1))).toInt) (by omega)); exact vin_T q9 (by omega) (by omega))) dX12_waits_42 (fun f_1 hS_1q => ?_)
    have hS_1 : mS cy m a f0 n z (va_up F 36 (upd (F 36) (Int32.toNatClampNeg ((40 * x1) + ((F 35) (Int32.toNatClampNeg x1)))) x2)) G f_1 := hS_1q
    refine gz_aload_n dX12_waits_43 rfl rfl ?_
    refine mg_115 hS_1 dX12_waits_44 ?_
    refine gz_iload dX12_waits_47 rfl ?_
    refine gz_lload_n dX12_waits_49 rfl rfl ?_
    refine m_last 37 hS_1 rfl (N := 1600) rfl ((by have q9 := (T_add (T_mul (show (40 : Int32).toInt = 40 from rfl) (rfl : (x1).toInt = (x1).toInt) (by omega)) (rfl : (((F 35) (Int32.toNatClampNeg x1))).toInt = (((F 35) (Int32.toNatClampNeg x1))).toInt) (by omega)); exact vin_T q9 (by omega) (by omega))) dX12_waits_50 (fun f_2 hS_2q => ?_)
    have hS_2 : mS cy m a f0 n z (va_up F 36 (upd (F 36) (Int32.toNatClampNeg ((40 * x1) + ((F 35) (Int32.toNatClampNeg x1)))) x2)) (va_up G 37 (vp_updL (G 37) (Int32.toNatClampNeg ((40 * x1) + ((F 35) (Int32.toNatClampNeg x1)))) y)) f_2 := hS_2q
    refine gz_aload_n dX12_waits_51 rfl rfl ?_
    refine mg_109 hS_2 dX12_waits_52 ?_
    refine gz_iload_n dX12_waits_55 rfl rfl ?_
    refine gz_dup2 dX12_waits_56 rfl rfl ?_
    refine m_iald 35 hS_2 rfl (N := 40) rfl ((by exact vin_T (rfl : (x1).toInt = (x1).toInt) (by omega) (by omega))) dX12_waits_57 ?_
    refine gz_ev (w := .int ((F 35) (Int32.toNatClampNeg x1))) rfl ?_
    refine gz_iconst (v := 1) dX12_waits_58 (by decide) ?_
    refine gz_iadd dX12_waits_59 ?_
    refine m_iast 35 hS_2 rfl (N := 40) rfl ((by exact vin_T (rfl : (x1).toInt = (x1).toInt) (by omega) (by omega))) dX12_waits_60 (fun f_3 hS_3q => ?_)
    have hS_3 : mS cy m a f0 n z (va_up (va_up F 36 (upd (F 36) (Int32.toNatClampNeg ((40 * x1) + ((F 35) (Int32.toNatClampNeg x1)))) x2)) 35 (upd (F 35) (Int32.toNatClampNeg x1) (((F 35) (Int32.toNatClampNeg x1)) + 1))) (va_up G 37 (vp_updL (G 37) (Int32.toNatClampNeg ((40 * x1) + ((F 35) (Int32.toNatClampNeg x1)))) y)) f_3 := hS_3q
    have hxx : fx [1] [] [35, 36] [37] n z F G n z (va_up (va_up F 36 (upd (F 36) (Int32.toNatClampNeg ((40 * x1) + ((F 35) (Int32.toNatClampNeg x1)))) x2)) 35 (upd (F 35) (Int32.toNatClampNeg x1) (((F 35) (Int32.toNatClampNeg x1)) + 1))) (va_up G 37 (vp_updL (G 37) (Int32.toNatClampNeg ((40 * x1) + ((F 35) (Int32.toNatClampNeg x1)))) y)) := (fx_F (fx_G (fx_F fx_rf (by decide)) (by decide)) (by decide))
    have ecl : (Int32.toNatClampNeg x1) = lN := by rw [clN]; omega
    have qa : (40 * x1 + (F 35 (Int32.toNatClampNeg x1))).toInt = 40 * x1.toInt + (F 35 (Int32.toNatClampNeg x1)).toInt := (T_add (T_mul (show (40 : Int32).toInt = 40 from rfl) (rfl : (x1).toInt = (x1).toInt) (by omega)) (rfl : ((F 35 (Int32.toNatClampNeg x1))).toInt = ((F 35 (Int32.toNatClampNeg x1))).toInt) (by omega))
    have qn : Int32.toNatClampNeg (40 * x1 + (F 35 (Int32.toNatClampNeg x1))) = 40 * (Int32.toNatClampNeg x1) + (F 35 (Int32.toNatClampNeg x1)).toInt.toNat := by have := clI (i := (40 * x1 + (F 35 (Int32.toNatClampNeg x1)))) (by omega); have := clI (i := x1) (by omega); omega
    have qc := clI (i := x1) (by omega)
    have qs : ((F 35 (Int32.toNatClampNeg x1)) + 1).toInt = (F 35 (Int32.toNatClampNeg x1)).toInt + 1 := T_add rfl (show (1 : Int32).toInt = 1 from rfl) (by omega)
    have r1 : rL (va_up F 36 (upd (F 36) (Int32.toNatClampNeg (40 * x1 + (F 35 (Int32.toNatClampNeg x1)))) x2)) (n 5).toInt (n 30).toInt := rL_put bL (fun k hk => up_out (K := [36]) (fun _ _ => rfl) (by decide) k ((by decide : ∀ k : Nat, k ∈ ([6, 7, 32, 33, 35] : List Nat) → k ∉ ([36] : List Nat)) k hk)) rfl hv
    obtain r2 : rL (va_up (va_up F 36 (upd (F 36) (Int32.toNatClampNeg ((40 * x1) + ((F 35) (Int32.toNatClampNeg x1)))) x2)) 35 (upd (F 35) (Int32.toNatClampNeg x1) (((F 35) (Int32.toNatClampNeg x1)) + 1))) (n 5).toInt (n 30).toInt := by
      refine rL_cnt (l0 := (Int32.toNatClampNeg x1)) (s := (F 35 (Int32.toNatClampNeg x1)) + 1) r1 (fun k hk => up_out (K := [35]) (fun _ _ => rfl) (by decide) k ((by decide : ∀ k : Nat, k ∈ ([6, 7, 32, 33, 36] : List Nat) → k ∉ ([35] : List Nat)) k hk)) rfl (by omega) (by omega) (fun k hk => ?_)
      show vS _ _ (upd (F 36) (Int32.toNatClampNeg (40 * x1 + (F 35 (Int32.toNatClampNeg x1)))) x2 (40 * (Int32.toNatClampNeg x1) + k))
      rw [updE, qn]
      by_cases e : 40 * (Int32.toNatClampNeg x1) + k = 40 * (Int32.toNatClampNeg x1) + (F 35 (Int32.toNatClampNeg x1)).toInt.toNat
      · rw [if_pos e]; exact vS_cg rfl rfl hv
      · rw [if_neg e]; exact vS_cg rfl rfl (rL_S bL (by omega) (by omega))
    have r3 : ∀ l : Nat, (F 35 l).toInt ≤ ((va_up (va_up F 36 (upd (F 36) (Int32.toNatClampNeg ((40 * x1) + ((F 35) (Int32.toNatClampNeg x1)))) x2)) 35 (upd (F 35) (Int32.toNatClampNeg x1) (((F 35) (Int32.toNatClampNeg x1)) + 1))) 35 l).toInt := by
      intro l
      show (F 35 l).toInt ≤ (upd (F 35) (Int32.toNatClampNeg x1) ((F 35 (Int32.toNatClampNeg x1)) + 1) l).toInt
      rw [updE]
      by_cases e : l = (Int32.toNatClampNeg x1)
      · rw [if_pos e, e, qs]; omega
      · rw [if_neg e]; exact Int.le_refl _
    have r4 := waits_R (dN := dN) (aN := aN) (bN := bN) hSt hlN.1 hlN.2 hwx hy (by rw [← ecl]; omega) (n2 := n) (F2 := (va_up (va_up F 36 (upd (F 36) (Int32.toNatClampNeg ((40 * x1) + ((F 35) (Int32.toNatClampNeg x1)))) x2)) 35 (upd (F 35) (Int32.toNatClampNeg x1) (((F 35) (Int32.toNatClampNeg x1)) + 1)))) (G2 := (va_up G 37 (vp_updL (G 37) (Int32.toNatClampNeg ((40 * x1) + ((F 35) (Int32.toNatClampNeg x1)))) y))) rfl rfl rfl rfl rfl rfl rfl (by show upd (F 35) (Int32.toNatClampNeg x1) ((F 35 (Int32.toNatClampNeg x1)) + 1) = _; rw [ecl]) (by show upd (F 36) (Int32.toNatClampNeg (40 * x1 + (F 35 (Int32.toNatClampNeg x1)))) x2 = _; rw [qn, ecl]) (by show vp_updL (G 37) (Int32.toNatClampNeg (40 * x1 + (F 35 (Int32.toNatClampNeg x1)))) y = _; rw [qn, ecl])
    exact gz_vret rfl dX12_waits_61 (Nat.le_of_ble_eq_true rfl) (Nat.le_of_ble_eq_true rfl) (⟨rfl, _, _, _, _, hS_3, hxx, RI_l hR (fun k hk => hxx.2.2.1 k ((by decide : ∀ k : Nat, k ∈ wK → k ∉ ([35, 36] : List Nat)) k hk)) (fun k hk => hxx.1 k ((by decide : ∀ k : Nat, k ∈ ([0, 4, 5, 30, 47, 53, 88] : List Nat) → k ∉ ([1] : List Nat)) k hk)) r2 a38 (rPy_cg2 bP rfl), r3, r4.1, r4.2⟩)
  ·
    try simp only [mIn_0, lgc_lt, lgc_gt, lgc_le, lgc_ge, lgc_eq] at c_8
    try simp only [fl_lt, fl_le, fl_eq, fL_w, fL_lt, fL_le, tm1, tm10k, tm9, tm99, Int32.reduceToInt, Int64.reduceToInt, Int.not_lt, Int.not_le] at c_8
    refine gz_aload_n dX12_waits_11 rfl rfl ?_
    refine gz_dup dX12_waits_12 rfl ?_
    refine mg_367 hS dX12_waits_13 ?_
    refine gz_iconst (v := 1) dX12_waits_16 (by decide) ?_
    refine gz_iadd dX12_waits_17 ?_
    refine mp_367 hS dX12_waits_18 (fun f_4 hS_4 => ?_)
    have hxx : fx [1] [] [35, 36] [37] n z F G (va_up n 1 ((n 1) + 1)) z F G := (fx_n fx_rf (by decide))
    have ecl : (Int32.toNatClampNeg x1) = lN := by rw [clN]; omega
    have hxy : fx [1] [] [] [] n z F G (va_up n 1 ((n 1) + 1)) z F G := (fx_n fx_rf (by decide))
    exact gz_vret rfl dX12_waits_21 (Nat.le_of_ble_eq_true rfl) (Nat.le_of_ble_eq_true rfl) (⟨rfl, _, _, _, _, hS_4, hxx, RI_fx hR hxy (by decide) (by decide), fun l => Int.le_refl _, (by unfold ap1; rw [if_neg (show ¬ false = true by decide), if_pos (by have z9 := hSt.2.1.1; rw [← ecl] at z9; omega)]; exact lost_R hSt rfl rfl rfl rfl), oL_rf⟩)

set_option maxHeartbeats 4000000 in
set_option maxRecDepth 100000 in
theorem l_X12_acquiresE {l : Launch} {D : va_G} {cy : Nat → ClassId} {b : Nat} {m : Nat} {a : Nat → Nat} {f0 : gMem} {n0 : Nat → Int32} {z0 : Nat → Int64} {F0 : Nat → Nat → Int32} {G0 : Nat → Nat → Int64}  {x1 x2 : Int32} {y : Int64} {lN fo : Nat} {T : List Hd} {S : Sn} {aN bN : Int} {ZF : Ls} (hlN : x1.toInt = (lN : Int) ∧ lN < 40) (hfo : fo < 20) (hSb : -9000000000000000000 ≤ S.1 ∧ S.1 ≤ 9000000000000000000) : ∀ (k : Nat) (Sz : Nat) (K : List Sd) (Z : Ls) (n : Nat → Int32) (z : Nat → Int64) (F : Nat → Nat → Int32) (G : Nat → Nat → Int64) (fm : gMem), mS cy m a f0 n z F G fm → fx [1, 38, 43] [] [35, 36, 39, 40, 41, 42, 44] [34, 37, 45] n0 z0 F0 G0 n z F G → (RI n F) → (0 ≤ x1.toInt ∧ x1.toInt < (n 30).toInt) → (stk F (n 5).toInt (F 44) (n 43).toInt.toNat Sz ∧ 0 ≤ (n 43).toInt) → (Sz ≤ 40) → (Sz < k) → (∀ l : Nat, (F0 35 l).toInt ≤ (F 35 l).toInt) → (LX F fo T) → (sRn S z G) → ((n 0).toInt = S.1) → (skL (F 44) (G 45) fo K (n 43).toInt.toNat) → (okK T K) → (RSt n F G lN fo Z) → (oL F0 G0 F G lN) → (apS (lN : Int) S.1 aN bN (evK T S K) Z = ZF) → gG l (gRm 3 0 0) (gQf D b (pV fun f2 => ∃ (n2 : Nat → Int32) (z2 : Nat → Int64) (F2 : Nat → Nat → Int32) (G2 : Nat → Nat → Int64), mS cy m a f0 n2 z2 F2 G2 f2 ∧ fx [1, 38, 43] [] [35, 36, 39, 40, 41, 42, 44] [34, 37, 45] n0 z0 F0 G0 n2 z2 F2 G2 ∧ RI n2 F2 ∧ (∀ l : Nat, (F0 35 l).toInt ≤ (F2 35 l).toInt) ∧ RSt n2 F2 G2 lN fo ZF ∧ oL F0 G0 F2 G2 lN) 0 0) gTt D cy b cX12_acquires 9 none RX12 "acquires" 0 0 fm 11 [(0, .ref m), (1, .int x1), (2, .int x2), (3, .long y)] [] := by
  intro k
  induction k with
  | zero =>
    intro Sz K Z n z F G fm hS hx hR hl hT h40 hk hm hX hsR h0 hSk hKv hSt hO hZF
    exfalso; omega
  | succ k ih =>
    intro Sz K Z n z F G fm hS hx hR hl hT h40 hk hm hX hsR h0 hSk hKv hSt hO hZF
    obtain ⟨a0, a4, a5, bA, bW, a30, bL, a38, bP, a53, a47, a88⟩ := id hR
    have ql := stk_len bW hT.1
    refine gz_aload_n dX12_acquires_11 rfl rfl ?_
    refine mg_361 hS dX12_acquires_12 ?_
    refine gz_if_le (tgt := 183) dX12_acquires_15 (by decide) (fun c_15 => ?_) (fun c_15 => ?_)
    ·
      try simp only [mIn_0, lgc_lt, lgc_gt, lgc_le, lgc_ge, lgc_eq] at c_15
      try simp only [fl_lt, fl_le, fl_eq, fL_w, fL_lt, fL_le, tm1, tm10k, tm9, tm99, Int32.reduceToInt, Int64.reduceToInt, Int.not_lt, Int.not_le] at c_15
      have hsk0 := hSk
      rw [show (n 43).toInt.toNat = 0 by omega] at hsk0
      have hK0 : K = [] := skL_0 hsk0
      subst hK0
      exact gz_vret rfl dX12_acquires_183 (Nat.le_of_ble_eq_true rfl) (Nat.le_of_ble_eq_true rfl) (⟨rfl, _, _, _, _, hS, hx, hR, hm, (by rw [← hZF]; exact hSt), hO⟩)
    ·
      try simp only [mIn_0, lgc_lt, lgc_gt, lgc_le, lgc_ge, lgc_eq] at c_15
      try simp only [fl_lt, fl_le, fl_eq, fL_w, fL_lt, fL_le, tm1, tm10k, tm9, tm99, Int32.reduceToInt, Int64.reduceToInt, Int.not_lt, Int.not_le] at c_15
      refine gz_aload_n dX12_acquires_18 rfl rfl ?_
      refine gz_dup dX12_acquires_19 rfl ?_
      refine mg_361 hS dX12_acquires_20 ?_
      refine gz_iconst (v := 1) dX12_acquires_23 (by decide) ?_
      refine gz_isub dX12_acquires_24 ?_
      refine mp_361 hS dX12_acquires_25 (fun f_1 hS_1 => ?_)
      refine gz_aload_n dX12_acquires_28 rfl rfl ?_
      refine mg_130 hS_1 dX12_acquires_29 ?_
      refine gz_aload_n dX12_acquires_32 rfl rfl ?_
      refine mg_361 hS_1 dX12_acquires_33 ?_
      refine gz_ev (w := .int ((n 43) - 1)) rfl ?_
      refine m_iald 44 hS_1 rfl (N := 64) rfl ((by have q9 := (T_sub (rfl : ((n 43)).toInt = ((n 43)).toInt) (show (1 : Int32).toInt = 1 from rfl) (by omega)); exact vin_T q9 (by omega) (by omega))) dX12_acquires_36 ?_
      refine gz_ev (w := .int ((F 44) (Int32.toNatClampNeg ((n 43) - 1)))) rfl ?_
      have t1 : ((n 43) - 1).toInt = (n 43).toInt - 1 := T_sub rfl (show (1 : Int32).toInt = 1 from rfl) (by omega)
      obtain ⟨wv, hwv⟩ : ∃ wv, wv = ((F 44) (Int32.toNatClampNeg ((n 43) - 1))) := ⟨_, rfl⟩
      refine gz_ev (w := .int wv) (congrArg Value.int hwv.symm) ?_
      obtain ⟨hv, S2, hT3, hS3⟩ := stk_pop (t := ((n 43) - 1).toInt.toNat) (show stk F (n 5).toInt (F 44) (((n 43) - 1).toInt.toNat + 1) Sz by rw [show ((n 43) - 1).toInt.toNat + 1 = (n 43).toInt.toNat by omega]; exact hT.1)
      have hv2 : vW F (n 5).toInt wv.toInt := by rw [hwv]; exact hv
      have hS4 : S2 + szF F wv.toInt = Sz := by rw [hwv]; exact hS3
      have qv := vW_lt bW a5 hv2
      have qz := szF_pos bW hv2
      have qk : 0 ≤ (F 7 (Int32.toNatClampNeg wv)).toInt ∧ (F 7 (Int32.toNatClampNeg wv)).toInt ≤ 10 := knd_ok bW hv2
      obtain ⟨e_, K2, eK, hk1, hk2, hSk2⟩ := skL_pop (t := ((n 43) - 1).toInt.toNat) (show skL (F 44) (G 45) fo K (((n 43) - 1).toInt.toNat + 1) by rw [show ((n 43) - 1).toInt.toNat + 1 = (n 43).toInt.toNat by omega]; exact hSk)
      subst eK
      have hke := hKv e_ List.mem_cons_self
      have hwx : wv.toInt = 40 * (fo : Int) + (e_.1 : Int) ∧ e_.1 < T.length := ⟨by rw [hwv]; exact hk1, hke.1⟩
      have hT4 := hX.1.2.2.2.1
      have hokT := hX.1.1
      have hvT_ := hX.1.2.1
      obtain ⟨xd, xv, xo1, xo2, _⟩ := LX_at bA hfo hX hwx.2
      have ecw : Int32.toNatClampNeg wv = 40 * fo + e_.1 := by rw [clN]; omega
      rw [← ecw] at xd xo1 xo2
      have qkd := xd.1
      have hak := arH_k xv
      clear xd
      have hZF2 : apS (lN : Int) S.1 aN bN (evK T S K2) (apS (lN : Int) S.1 aN bN (ev T S e_.1 e_.2) Z) = ZF := by rw [← apS_app]; exact hZF
      refine gz_istore (lv' := [(5, .int wv), (0, .ref m), (1, .int x1), (2, .int x2), (3, .long y)]) dX12_acquires_37 (by decide) rfl ?_
      refine gz_aload_n dX12_acquires_39 rfl rfl ?_
      refine mg_133 hS_1 dX12_acquires_40 ?_
      refine gz_aload_n dX12_acquires_43 rfl rfl ?_
      refine mg_361 hS_1 dX12_acquires_44 ?_
      refine gz_ev (w := .int ((n 43) - 1)) rfl ?_
      refine m_lald 45 hS_1 rfl (N := 64) rfl ((by have q9 := (T_sub (rfl : ((n 43)).toInt = ((n 43)).toInt) (show (1 : Int32).toInt = 1 from rfl) (by omega)); exact vin_T q9 (by omega) (by omega))) dX12_acquires_47 ?_
      refine gz_ev (w := .long ((G 45) (Int32.toNatClampNeg ((n 43) - 1)))) rfl ?_
      obtain ⟨fv, hfv⟩ : ∃ fv, fv = ((G 45) (Int32.toNatClampNeg ((n 43) - 1))) := ⟨_, rfl⟩
      refine gz_ev (w := .long fv) (congrArg Value.long hfv.symm) ?_
      have hfy : fv.toInt = e_.2 ∧ -1000000 ≤ e_.2 ∧ e_.2 ≤ 1000000 := ⟨by rw [hfv]; exact hk2, hke.2⟩
      refine gz_lstore (lv' := [(6, .long fv), (5, .int wv), (0, .ref m), (1, .int x1), (2, .int x2), (3, .long y)]) dX12_acquires_48 (by decide) rfl ?_
      refine gz_aload_n dX12_acquires_50 rfl rfl ?_
      refine gz_iload dX12_acquires_51 rfl ?_
      refine scX12_374 (k_X12_isLapsedE (x1 := wv) (fo := fo) (wN := e_.1) (S := S) hS_1 bA hX hsR hfo hwx) hS_1.1 ⟨(Nat.le_of_ble_eq_true rfl), (Nat.le_of_ble_eq_true rfl)⟩ ⟨(Nat.le_of_ble_eq_true rfl), (Nat.le_of_ble_eq_true rfl)⟩ rfl rfl (Nat.le_of_ble_eq_true rfl) dX12_acquires_53 ?_
      rintro r_2 f9 ⟨hb_2, y9⟩; rw [y9]
      rcases hb_2 with ⟨hr2, hlp⟩ | ⟨hr2, hlp⟩
      ·
        refine gz_ev (w := .int 1) (congrArg Value.int hr2) ?_
        refine gz_if_ne (tgt := 11) dX12_acquires_56 (by decide) (fun c_56 => ?_) (fun c_56 => ?_)
        ·
          try simp only [mIn_0, lgc_lt, lgc_gt, lgc_le, lgc_ge, lgc_eq] at c_56
          try simp only [fl_lt, fl_le, fl_eq, fL_w, fL_lt, fL_le, tm1, tm10k, tm9, tm99, Int32.reduceToInt, Int64.reduceToInt, Int.not_lt, Int.not_le] at c_56
          refine gz_sub (lv' := [(0, .ref m), (1, .int x1), (2, .int x2), (3, .long y)]) (by simp [List.lookup]) ?_
          have hxl : fx [1, 38, 43] [] [35, 36, 39, 40, 41, 42, 44] [34, 37, 45] n z F G (va_up n 43 ((n 43) - 1)) z F G := (fx_n fx_rf (by decide))
          have hxx : fx [43] [] [44] [45] n z F G (va_up n 43 ((n 43) - 1)) z F G := (fx_n fx_rf (by decide))
          have hR9 := RI_fx hR hxx (by decide) (by decide)
          have e43 : ((va_up n 43 ((n 43) - 1)) 43).toInt.toNat = ((n 43) - 1).toInt.toNat + 0 := (by (try rw [(show (va_up n 43 ((n 43) - 1)) 43 = ((n 43) - 1) from rfl)]); have q1_ := (T_sub (rfl : ((n 43)).toInt = ((n 43)).toInt) (show (1 : Int32).toInt = 1 from rfl) (by omega)); omega)
          have e43b : 0 ≤ ((va_up n 43 ((n 43) - 1)) 43).toInt := (by (try rw [(show (va_up n 43 ((n 43) - 1)) 43 = ((n 43) - 1) from rfl)]); have q1_ := (T_sub (rfl : ((n 43)).toInt = ((n 43)).toInt) (show (1 : Int32).toInt = 1 from rfl) (by omega)); omega)
          have e5 : (va_up n 43 ((n 43) - 1)) 5 = n 5 := hxx.1 5 (by decide)
          have e30 : (va_up n 43 ((n 43) - 1)) 30 = n 30 := hxx.1 30 (by decide)
          have e0_ : (va_up n 43 ((n 43) - 1)) 0 = n 0 := hxx.1 0 (by decide)
          have e44 : F 44 = (F 44) := (show F 44 = (F 44) from rfl).trans rfl
          have e45 : G 45 = (G 45) := (show G 45 = (G 45) from rfl).trans rfl
          have hT9 : stk F ((va_up n 43 ((n 43) - 1)) 5).toInt (F 44) ((va_up n 43 ((n 43) - 1)) 43).toInt.toNat S2 := by rw [e43, e5, e44]; exact stk_w (fun k hk => hxx.2.2.1 k ((by decide : ∀ k : Nat, k ∈ wK → k ∉ ([44] : List Nat)) k hk)) hT3
          have hSk9 : skL (F 44) (G 45) fo K2 ((va_up n 43 ((n 43) - 1)) 43).toInt.toNat := by rw [e43, e44, e45]; exact hSk2
          have hX9 : LX F fo T := LX_cg (fun r h1 h2 => hxx.2.2.1 r (fun h => by simp only [List.mem_cons, List.not_mem_nil, or_false] at h <;> omega)) hX
          have hsR9 : sRn S z G := ⟨by rw [hxx.2.1 29 (by decide)]; exact hsR.1, fun i hi => by rw [hxx.2.2.2 28 (by decide)]; exact hsR.2 i hi⟩
          have hSt9 : RSt (va_up n 43 ((n 43) - 1)) F G lN fo Z := RSt_cg hSt (hxx.1 1 (by decide)) (hxx.1 38 (by decide)) (fun r hr => hxx.2.2.1 r (by revert hr; revert r; decide)) (fun r hr => hxx.2.2.2 r (by revert hr; revert r; decide))
          have hO9 := oL_tr hO (oL_eq (F := F) (F2 := F) (G := G) (G2 := G) (l := lN) (fun r hr => hxx.2.2.1 r (by revert hr; revert r; decide)) (fun r hr => hxx.2.2.2 r (by revert hr; revert r; decide)))
          have hZF9 : apS (lN : Int) S.1 aN bN (evK T S K2) Z = ZF := by rw [ev_lp hlp] at hZF2; exact hZF2
          exact ih S2 K2 Z _ _ _ _ _ hS_1 (fx_n hx (by decide)) (hR9) (by rw [e30]; exact hl) (⟨hT9, e43b⟩) (by omega) (by omega) (fun l => by rw [hxx.2.2.1 35 (by decide)]; exact hm l) (hX9) (hsR9) (by rw [e0_]; exact h0) (hSk9) (okK_t hKv) (hSt9) (hO9) (hZF9)
        · exact absurd c_56 (by decide)
      ·
        refine gz_ev (w := .int 0) (congrArg Value.int hr2) ?_
        refine gz_if_ne (tgt := 11) dX12_acquires_56 (by decide) (fun c_56 => ?_) (fun c_56 => ?_)
        · exact absurd c_56 (by decide)
        ·
          try simp only [mIn_0, lgc_lt, lgc_gt, lgc_le, lgc_ge, lgc_eq] at c_56
          try simp only [fl_lt, fl_le, fl_eq, fL_w, fL_lt, fL_le, tm1, tm10k, tm9, tm99, Int32.reduceToInt, Int64.reduceToInt, Int.not_lt, Int.not_le] at c_56
          refine gz_aload_n dX12_acquires_59 rfl rfl ?_
          refine mg_20 hS_1 dX12_acquires_60 ?_
          refine gz_iload dX12_acquires_63 rfl ?_
          refine m_iald 7 hS_1 rfl (N := 880) rfl ((by exact vin_T (rfl : (wv).toInt = (wv).toInt) (by omega) (by omega))) dX12_acquires_65 ?_
          refine gz_ev (w := .int ((F 7) (Int32.toNatClampNeg wv))) rfl ?_
          refine gz_if_ne (tgt := 72) dX12_acquires_66 (by decide) (fun c_66 => ?_) (fun c_66 => ?_)
          ·
            try simp only [mIn_0, lgc_lt, lgc_gt, lgc_le, lgc_ge, lgc_eq] at c_66
            try simp only [fl_lt, fl_le, fl_eq, fL_w, fL_lt, fL_le, tm1, tm10k, tm9, tm99, Int32.reduceToInt, Int64.reduceToInt, Int.not_lt, Int.not_le] at c_66
            refine gz_aload_n dX12_acquires_72 rfl rfl ?_
            refine gz_iload dX12_acquires_73 rfl ?_
            refine scX12_377 (k_X12_leadsToE (x1 := wv) (fo := fo) (wN := e_.1) (S := S) hS_1 bA hX hsR hfo hwx hSb) hS_1.1 ⟨(Nat.le_of_ble_eq_true rfl), (Nat.le_of_ble_eq_true rfl)⟩ ⟨(Nat.le_of_ble_eq_true rfl), (Nat.le_of_ble_eq_true rfl)⟩ rfl rfl (Nat.le_of_ble_eq_true rfl) dX12_acquires_75 ?_
            rintro r_3 f9 ⟨hb_3, y9⟩; rw [y9]
            refine gz_istore (lv' := [(8, .int r_3), (6, .long fv), (5, .int wv), (0, .ref m), (1, .int x1), (2, .int x2), (3, .long y)]) dX12_acquires_78 (by decide) rfl ?_
            refine gz_iload dX12_acquires_80 rfl ?_
            refine gz_if_lt (tgt := 102) dX12_acquires_82 (by decide) (fun c_82 => ?_) (fun c_82 => ?_)
            ·
              try simp only [mIn_0, lgc_lt, lgc_gt, lgc_le, lgc_ge, lgc_eq] at c_82
              try simp only [fl_lt, fl_le, fl_eq, fL_w, fL_lt, fL_le, tm1, tm10k, tm9, tm99, Int32.reduceToInt, Int64.reduceToInt, Int.not_lt, Int.not_le] at c_82
              refine gz_aload_n dX12_acquires_102 rfl rfl ?_
              refine mg_20 hS_1 dX12_acquires_103 ?_
              refine gz_iload dX12_acquires_106 rfl ?_
              refine m_iald 7 hS_1 rfl (N := 880) rfl ((by exact vin_T (rfl : (wv).toInt = (wv).toInt) (by omega) (by omega))) dX12_acquires_108 ?_
              refine gz_ev (w := .int ((F 7) (Int32.toNatClampNeg wv))) rfl ?_
              refine gz_iconst (v := 1) dX12_acquires_109 (by decide) ?_
              refine gz_icmp_ne (tgt := 131) dX12_acquires_110 (by decide) (fun c_110 => ?_) (fun c_110 => ?_)
              ·
                try simp only [mIn_0, lgc_lt, lgc_gt, lgc_le, lgc_ge, lgc_eq] at c_110
                try simp only [fl_lt, fl_le, fl_eq, fL_w, fL_lt, fL_le, tm1, tm10k, tm9, tm99, Int32.reduceToInt, Int64.reduceToInt, Int.not_lt, Int.not_le] at c_110
                refine gz_aload_n dX12_acquires_131 rfl rfl ?_
                refine mg_20 hS_1 dX12_acquires_132 ?_
                refine gz_iload dX12_acquires_135 rfl ?_
                refine m_iald 7 hS_1 rfl (N := 880) rfl ((by exact vin_T (rfl : (wv).toInt = (wv).toInt) (by omega) (by omega))) dX12_acquires_137 ?_
                refine gz_ev (w := .int ((F 7) (Int32.toNatClampNeg wv))) rfl ?_
                refine gz_iconst (v := 3) dX12_acquires_138 (by decide) ?_
                refine gz_icmp_ne (tgt := 171) dX12_acquires_139 (by decide) (fun c_139 => ?_) (fun c_139 => ?_)
                ·
                  try simp only [mIn_0, lgc_lt, lgc_gt, lgc_le, lgc_ge, lgc_eq] at c_139
                  try simp only [fl_lt, fl_le, fl_eq, fL_w, fL_lt, fL_le, tm1, tm10k, tm9, tm99, Int32.reduceToInt, Int64.reduceToInt, Int.not_lt, Int.not_le] at c_139
                  refine gz_aload_n dX12_acquires_171 rfl rfl ?_
                  refine gz_iload_n dX12_acquires_172 rfl rfl ?_
                  refine gz_iload dX12_acquires_173 rfl ?_
                  refine gz_lload dX12_acquires_175 rfl ?_
                  have hf43 := ((fx_n fx_rf (by decide)) : fx [43] [] [] [] n z F G (va_up n 43 ((n 43) - 1)) z F G)
                  have hwl := hb_3.resolve_right (fun z9 => by omega)
                  refine scX12_391 (k_X12_waitsE (x1 := x1) (x2 := wv) (y := fv) (dN := S.1) (aN := aN) (bN := bN) (wN := e_.1) (fN := e_.2) hS_1 (RI_fx hR hf43 (by decide) (by decide)) hl ⟨hv2, (by show (F 7 (Int32.toNatClampNeg wv)).toInt = 4 ∨ (F 7 (Int32.toNatClampNeg wv)).toInt = 6 ∨ (F 7 (Int32.toNatClampNeg wv)).toInt = 7; omega)⟩ hlN (RSt_cg hSt (hf43.1 1 (by decide)) (hf43.1 38 (by decide)) (fun r _ => rfl) (fun r _ => rfl)) hfo hwx.1 hfy.1) hS_1.1 ⟨(Nat.le_of_ble_eq_true rfl), (Nat.le_of_ble_eq_true rfl)⟩ ⟨(Nat.le_of_ble_eq_true rfl), (Nat.le_of_ble_eq_true rfl)⟩ rfl rfl (Nat.le_of_ble_eq_true rfl) dX12_acquires_177 ?_
                  rintro f_4 ⟨n_4, z_4, F_4, G_4, hS_4, hx4, hR_4, hm_4, hs_4, hol_4⟩
                  try simp only [(show (va_up n 43 ((n 43) - 1)) 1 = (n 1) from rfl)] at hR_4 hm_4 hs_4 hol_4
                  refine gz_goto (tgt := 11) dX12_acquires_180 (by decide) ?_
                  refine gz_sub (lv' := [(0, .ref m), (1, .int x1), (2, .int x2), (3, .long y)]) (by simp [List.lookup]) ?_
                  have hxl : fx [1, 38, 43] [] [35, 36, 39, 40, 41, 42, 44] [34, 37, 45] n z F G n_4 z_4 F_4 G_4 := (fx_tr (fx_n fx_rf (by decide)) hx4 (by decide))
                  have hxx : fx [1, 43] [] [35, 36] [37] n z F G n_4 z_4 F_4 G_4 := (fx_tr (fx_n fx_rf (by decide)) hx4 (by decide))
                  have e43 : (n_4 43).toInt.toNat = ((n 43) - 1).toInt.toNat + 0 := (by (try rw [(show n_4 43 = ((n 43) - 1) from (hx4.1 43 (by decide)))]); have q1_ := (T_sub (rfl : ((n 43)).toInt = ((n 43)).toInt) (show (1 : Int32).toInt = 1 from rfl) (by omega)); omega)
                  have e43b : 0 ≤ (n_4 43).toInt := (by (try rw [(show n_4 43 = ((n 43) - 1) from (hx4.1 43 (by decide)))]); have q1_ := (T_sub (rfl : ((n 43)).toInt = ((n 43)).toInt) (show (1 : Int32).toInt = 1 from rfl) (by omega)); omega)
                  have e5 : n_4 5 = n 5 := hxx.1 5 (by decide)
                  have e30 : n_4 30 = n 30 := hxx.1 30 (by decide)
                  have e0_ : n_4 0 = n 0 := hxx.1 0 (by decide)
                  have e44 : F_4 44 = (F 44) := (show F_4 44 = (F 44) from (hx4.2.2.1 44 (by decide))).trans rfl
                  have e45 : G_4 45 = (G 45) := (show G_4 45 = (G 45) from (hx4.2.2.2 45 (by decide))).trans rfl
                  have hT9 : stk F_4 (n_4 5).toInt (F_4 44) (n_4 43).toInt.toNat S2 := by rw [e43, e5, e44]; exact stk_w (fun k hk => hxx.2.2.1 k ((by decide : ∀ k : Nat, k ∈ wK → k ∉ ([35, 36] : List Nat)) k hk)) hT3
                  have hSk9 : skL (F_4 44) (G_4 45) fo K2 (n_4 43).toInt.toNat := by rw [e43, e44, e45]; exact hSk2
                  have hX9 : LX F_4 fo T := LX_cg (fun r h1 h2 => hxx.2.2.1 r (fun h => by simp only [List.mem_cons, List.not_mem_nil, or_false] at h <;> omega)) hX
                  have hsR9 : sRn S z_4 G_4 := ⟨by rw [hxx.2.1 29 (by decide)]; exact hsR.1, fun i hi => by rw [hxx.2.2.2 28 (by decide)]; exact hsR.2 i hi⟩
                  have hSt9 := hs_4
                  have hO9 := oL_tr hO (oL_tr (oL_eq (fun r _ => rfl) (fun r _ => rfl)) hol_4)
                  have hZF9 : apS (lN : Int) S.1 aN bN (evK T S K2) (ap1 (lN : Int) S.1 aN bN Z (false, e_.1, e_.2)) = ZF := by rw [ev_4 hokT hvT_ hT4 hke.1 hlp (by rcases hwl.2 with q | q | q | q | q | q; (omega); (omega); (omega); (exact Or.inl q); (exact Or.inr (Or.inl q)); (exact Or.inr (Or.inr q)))] at hZF2; exact hZF2
                  exact ih S2 K2 (ap1 (lN : Int) S.1 aN bN Z (false, e_.1, e_.2)) _ _ _ _ _ hS_4 (fx_tr (fx_n hx (by decide)) hx4 (by decide)) (hR_4) (by rw [e30]; exact hl) (⟨hT9, e43b⟩) (by omega) (by omega) (fun l => Int.le_trans (hm l) (hm_4 l)) (hX9) (hsR9) (by rw [e0_]; exact h0) (hSk9) (okK_t hKv) (hSt9) (hO9) (hZF9)
                ·
                  try simp only [mIn_0, lgc_lt, lgc_gt, lgc_le, lgc_ge, lgc_eq] at c_139
                  try simp only [fl_lt, fl_le, fl_eq, fL_w, fL_lt, fL_le, tm1, tm10k, tm9, tm99, Int32.reduceToInt, Int64.reduceToInt, Int.not_lt, Int.not_le] at c_139
                  refine gz_aload_n dX12_acquires_142 rfl rfl ?_
                  refine gz_aload_n dX12_acquires_143 rfl rfl ?_
                  refine mg_35 hS_1 dX12_acquires_144 ?_
                  refine gz_iload dX12_acquires_147 rfl ?_
                  refine m_iald 12 hS_1 rfl (N := 880) rfl ((by exact vin_T (rfl : (wv).toInt = (wv).toInt) (by omega) (by omega))) dX12_acquires_149 ?_
                  refine gz_ev (w := .int ((F 12) (Int32.toNatClampNeg wv))) rfl ?_
                  refine gz_lload dX12_acquires_150 rfl ?_
                  have q_1 : vW F (n 5).toInt (F 11 (Int32.toNatClampNeg wv)).toInt ∧ szF F (F 11 (Int32.toNatClampNeg wv)).toInt + 1 ≤ szF F wv.toInt := one_ok bW hv2 (show 2 ≤ (F 7 (Int32.toNatClampNeg wv)).toInt by omega)
                  have q_2 : vW F (n 5).toInt (F 12 (Int32.toNatClampNeg wv)).toInt ∧ szF F (F 11 (Int32.toNatClampNeg wv)).toInt + szF F (F 12 (Int32.toNatClampNeg wv)).toInt + 1 ≤ szF F wv.toInt := two_ok bW hv2 (show 3 ≤ (F 7 (Int32.toNatClampNeg wv)).toInt ∧ (F 7 (Int32.toNatClampNeg wv)).toInt ≤ 5 by omega)
                  have hk3 : (grH T e_.1).1 = 3 := by omega
                  have hp3 : psT S (grH T e_.1) e_.2 = e_.2 := by unfold psT; rw [if_neg (by omega), if_neg (by omega)]
                  have hn3 : nxT T S e_.1 = e_.1 + 1 := by unfold nxT; rw [if_neg (by omega)]
                  refine scX12_370 (k_X12_comesE (x1 := ((F 12) (Int32.toNatClampNeg wv))) (y := fv) hS_1 (by (try rw [(show (va_up n 43 ((n 43) - 1)) 43 = ((n 43) - 1) from rfl)]); have q1_ := (T_sub (rfl : ((n 43)).toInt = ((n 43)).toInt) (show (1 : Int32).toInt = 1 from rfl) (by omega)); omega)) hS_1.1 ⟨(Nat.le_of_ble_eq_true rfl), (Nat.le_of_ble_eq_true rfl)⟩ ⟨(Nat.le_of_ble_eq_true rfl), (Nat.le_of_ble_eq_true rfl)⟩ rfl rfl (Nat.le_of_ble_eq_true rfl) dX12_acquires_152 ?_
                  rintro f_5 ⟨n_5, z_5, F_5, G_5, hS_5, hx5, h43_5, h44_5, h45_5⟩
                  try simp only [(show (va_up n 43 ((n 43) - 1)) 43 = ((n 43) - 1) from rfl)] at h43_5 h44_5 h45_5
                  refine gz_aload_n dX12_acquires_155 rfl rfl ?_
                  refine gz_aload_n dX12_acquires_156 rfl rfl ?_
                  refine mg_32 hS_5 dX12_acquires_157 ?_
                  refine gz_iload dX12_acquires_160 rfl ?_
                  refine m_iald 11 hS_5 rfl (N := 880) rfl ((by exact vin_T (rfl : (wv).toInt = (wv).toInt) (by omega) (by omega))) dX12_acquires_162 ?_
                  refine gz_ev (w := .int ((F 11) (Int32.toNatClampNeg wv))) (congrArg Value.int (congrFun (hx5.2.2.1 11 (by decide)) _)) ?_
                  refine gz_lload dX12_acquires_163 rfl ?_
                  refine scX12_370 (k_X12_comesE (x1 := ((F 11) (Int32.toNatClampNeg wv))) (y := fv) hS_5 (by (try rw [(show n_5 43 = (((n 43) - 1) + 1) from h43_5)]); have q1_ := (T_add (T_sub (rfl : ((n 43)).toInt = ((n 43)).toInt) (show (1 : Int32).toInt = 1 from rfl) (by omega)) (show (1 : Int32).toInt = 1 from rfl) (by omega)); omega)) hS_5.1 ⟨(Nat.le_of_ble_eq_true rfl), (Nat.le_of_ble_eq_true rfl)⟩ ⟨(Nat.le_of_ble_eq_true rfl), (Nat.le_of_ble_eq_true rfl)⟩ rfl rfl (Nat.le_of_ble_eq_true rfl) dX12_acquires_165 ?_
                  rintro f_6 ⟨n_6, z_6, F_6, G_6, hS_6, hx6, h43_6, h44_6, h45_6⟩
                  try simp only [(show n_5 43 = (((n 43) - 1) + 1) from h43_5)] at h43_6 h44_6 h45_6
                  try rw [(show F_5 44 = (upd (F 44) (Int32.toNatClampNeg ((n 43) - 1)) ((F 12) (Int32.toNatClampNeg wv))) from h44_5)] at h44_6
                  try rw [(show G_5 45 = (vp_updL (G 45) (Int32.toNatClampNeg ((n 43) - 1)) fv) from h45_5)] at h45_6
                  try rw [(show n_5 43 = (((n 43) - 1) + 1) from h43_5)] at h44_6
                  try rw [(show n_5 43 = (((n 43) - 1) + 1) from h43_5)] at h45_6
                  refine gz_goto (tgt := 180) dX12_acquires_168 (by decide) ?_
                  refine gz_goto (tgt := 11) dX12_acquires_180 (by decide) ?_
                  refine gz_sub (lv' := [(0, .ref m), (1, .int x1), (2, .int x2), (3, .long y)]) (by simp [List.lookup]) ?_
                  have hxl : fx [1, 38, 43] [] [35, 36, 39, 40, 41, 42, 44] [34, 37, 45] n z F G n_6 z_6 F_6 G_6 := (fx_tr (fx_tr (fx_n fx_rf (by decide)) hx5 (by decide)) hx6 (by decide))
                  have hxx : fx [43] [] [44] [45] n z F G n_6 z_6 F_6 G_6 := (fx_tr (fx_tr (fx_n fx_rf (by decide)) hx5 (by decide)) hx6 (by decide))
                  have hR9 := RI_fx hR hxx (by decide) (by decide)
                  have hp0 := stk_push (x := ((F 12) (Int32.toNatClampNeg wv))) hT3 q_2.1
                  have hsk0 := skL_put (x := ((F 12) (Int32.toNatClampNeg wv))) (y := fv) (e := ((grS T e_.1), (psT S (grH T e_.1) e_.2))) hSk2 (xo2 (by omega)) (hfy.1.trans hp3.symm)
                  have hp1 := stk_push (x := ((F 11) (Int32.toNatClampNeg wv))) hp0 q_1.1
                  have hsk1 := skL_put (x := ((F 11) (Int32.toNatClampNeg wv))) (y := fv) (e := ((nxT T S e_.1), (psT S (grH T e_.1) e_.2))) hsk0 (by have q9 := xo1 (by omega); show (F 11 (Int32.toNatClampNeg wv)).toInt = 40 * (fo : Int) + ((nxT T S e_.1 : Nat) : Int); rw [hn3]; omega) (hfy.1.trans hp3.symm)
                  have e43 : (n_6 43).toInt.toNat = ((n 43) - 1).toInt.toNat + 2 := (by (try rw [(show n_6 43 = ((((n 43) - 1) + 1) + 1) from (by first | exact h43_6 | exact (h43_6.trans (congrArg (· + 1) h43_5))))]); have q1_ := (T_add (T_add (T_sub (rfl : ((n 43)).toInt = ((n 43)).toInt) (show (1 : Int32).toInt = 1 from rfl) (by omega)) (show (1 : Int32).toInt = 1 from rfl) (by omega)) (show (1 : Int32).toInt = 1 from rfl) (by omega)); omega)
                  have e43b : 0 ≤ (n_6 43).toInt := (by (try rw [(show n_6 43 = ((((n 43) - 1) + 1) + 1) from (by first | exact h43_6 | exact (h43_6.trans (congrArg (· + 1) h43_5))))]); have q1_ := (T_add (T_add (T_sub (rfl : ((n 43)).toInt = ((n 43)).toInt) (show (1 : Int32).toInt = 1 from rfl) (by omega)) (show (1 : Int32).toInt = 1 from rfl) (by omega)) (show (1 : Int32).toInt = 1 from rfl) (by omega)); omega)
                  have e5 : n_6 5 = n 5 := hxx.1 5 (by decide)
                  have e30 : n_6 30 = n 30 := hxx.1 30 (by decide)
                  have e0_ : n_6 0 = n 0 := hxx.1 0 (by decide)
                  have e44 : F_6 44 = (upd (upd (F 44) (((n 43) - 1).toInt.toNat) ((F 12) (Int32.toNatClampNeg wv))) (((n 43) - 1).toInt.toNat + 1) ((F 11) (Int32.toNatClampNeg wv))) := (show F_6 44 = (upd (upd (F 44) (Int32.toNatClampNeg ((n 43) - 1)) ((F 12) (Int32.toNatClampNeg wv))) (Int32.toNatClampNeg (((n 43) - 1) + 1)) ((F 11) (Int32.toNatClampNeg wv))) from h44_6).trans (by rw [show Int32.toNatClampNeg (((n 43) - 1) + 1) = ((n 43) - 1).toInt.toNat + 1 from by have q := T_add (rfl : ((n 43) - 1).toInt = ((n 43) - 1).toInt) (show (1 : Int32).toInt = 1 from rfl) (by omega); rw [clN, q]; omega]; rfl)
                  have e45 : G_6 45 = (vp_updL (vp_updL (G 45) (((n 43) - 1).toInt.toNat) fv) (((n 43) - 1).toInt.toNat + 1) fv) := (show G_6 45 = (vp_updL (vp_updL (G 45) (Int32.toNatClampNeg ((n 43) - 1)) fv) (Int32.toNatClampNeg (((n 43) - 1) + 1)) fv) from h45_6).trans (by rw [show Int32.toNatClampNeg (((n 43) - 1) + 1) = ((n 43) - 1).toInt.toNat + 1 from by have q := T_add (rfl : ((n 43) - 1).toInt = ((n 43) - 1).toInt) (show (1 : Int32).toInt = 1 from rfl) (by omega); rw [clN, q]; omega]; rfl)
                  have hT9 : stk F_6 (n_6 5).toInt (F_6 44) (n_6 43).toInt.toNat ((S2 + szF F ((F 12) (Int32.toNatClampNeg wv)).toInt) + szF F ((F 11) (Int32.toNatClampNeg wv)).toInt) := by rw [e43, e5, e44]; exact stk_w (fun k hk => hxx.2.2.1 k ((by decide : ∀ k : Nat, k ∈ wK → k ∉ ([44] : List Nat)) k hk)) hp1
                  have hSk9 : skL (F_6 44) (G_6 45) fo (((nxT T S e_.1), (psT S (grH T e_.1) e_.2)) :: (((grS T e_.1), (psT S (grH T e_.1) e_.2)) :: K2)) (n_6 43).toInt.toNat := by rw [e43, e44, e45]; exact hsk1
                  have hX9 : LX F_6 fo T := LX_cg (fun r h1 h2 => hxx.2.2.1 r (fun h => by simp only [List.mem_cons, List.not_mem_nil, or_false] at h <;> omega)) hX
                  have hsR9 : sRn S z_6 G_6 := ⟨by rw [hxx.2.1 29 (by decide)]; exact hsR.1, fun i hi => by rw [hxx.2.2.2 28 (by decide)]; exact hsR.2 i hi⟩
                  have hSt9 : RSt n_6 F_6 G_6 lN fo Z := RSt_cg hSt (hxx.1 1 (by decide)) (hxx.1 38 (by decide)) (fun r hr => hxx.2.2.1 r (by revert hr; revert r; decide)) (fun r hr => hxx.2.2.2 r (by revert hr; revert r; decide))
                  have hO9 := oL_tr hO (oL_eq (F := F) (F2 := F_6) (G := G) (G2 := G_6) (l := lN) (fun r hr => hxx.2.2.1 r (by revert hr; revert r; decide)) (fun r hr => hxx.2.2.2 r (by revert hr; revert r; decide)))
                  have hZF9 : apS (lN : Int) S.1 aN bN (evK T S (((nxT T S e_.1), (psT S (grH T e_.1) e_.2)) :: (((grS T e_.1), (psT S (grH T e_.1) e_.2)) :: K2))) Z = ZF := by rw [ev_3 hokT hvT_ hT4 hke.1 hlp hk3, apS_app] at hZF2; show apS _ _ _ _ (ev T S _ _ ++ (ev T S _ _ ++ evK T S K2)) Z = ZF; rw [apS_app, apS_app]; exact hZF2
                  exact ih ((S2 + szF F ((F 12) (Int32.toNatClampNeg wv)).toInt) + szF F ((F 11) (Int32.toNatClampNeg wv)).toInt) (((nxT T S e_.1), (psT S (grH T e_.1) e_.2)) :: (((grS T e_.1), (psT S (grH T e_.1) e_.2)) :: K2)) Z _ _ _ _ _ hS_6 (fx_tr (fx_tr (fx_n hx (by decide)) hx5 (by decide)) hx6 (by decide)) (hR9) (by rw [e30]; exact hl) (⟨hT9, e43b⟩) (by omega) (by omega) (fun l => by rw [hxx.2.2.1 35 (by decide)]; exact hm l) (hX9) (hsR9) (by rw [e0_]; exact h0) (hSk9) (okK_c ⟨(nx_lk (S := S) hokT hvT_ hke.1 (by omega)).2, psT_b hke.2⟩ (okK_c ⟨((gr_lk hokT hvT_ hke.1).2.2 (by omega)).2, psT_b hke.2⟩ (okK_t hKv))) (hSt9) (hO9) (hZF9)
              ·
                try simp only [mIn_0, lgc_lt, lgc_gt, lgc_le, lgc_ge, lgc_eq] at c_110
                try simp only [fl_lt, fl_le, fl_eq, fL_w, fL_lt, fL_le, tm1, tm10k, tm9, tm99, Int32.reduceToInt, Int64.reduceToInt, Int.not_lt, Int.not_le] at c_110
                refine gz_aload_n dX12_acquires_113 rfl rfl ?_
                refine gz_iload_n dX12_acquires_114 rfl rfl ?_
                refine gz_iload dX12_acquires_115 rfl ?_
                refine gz_aload_n dX12_acquires_117 rfl rfl ?_
                refine gz_iload dX12_acquires_118 rfl ?_
                refine gz_lload dX12_acquires_120 rfl ?_
                refine scX12_384 (k_X12_paysOfE (x1 := wv) (y := fv) (fN := e_.2) (fo := fo) (wN := e_.1) hS_1 bA hX hfo hwx hfy) hS_1.1 ⟨(Nat.le_of_ble_eq_true rfl), (Nat.le_of_ble_eq_true rfl)⟩ ⟨(Nat.le_of_ble_eq_true rfl), (Nat.le_of_ble_eq_true rfl)⟩ rfl rfl (Nat.le_of_ble_eq_true rfl) dX12_acquires_122 ?_
                rintro r_p f9 ⟨hrp, y9⟩; rw [y9]
                have hf43 := ((fx_n fx_rf (by decide)) : fx [43] [] [] [] n z F G (va_up n 43 ((n 43) - 1)) z F G)
                have hpb := hdP_b hvT_ (upO_ok hokT) hke.1 hke.2
                refine scX12_387 (k_X12_paysE (x1 := x1) (x2 := wv) (y := r_p) (aN := aN) (bN := bN) (wN := e_.1) (cN := hdP (cqT T e_.1) e_.2) hS_1 (RI_fx hR hf43 (by decide) (by decide)) hl hlN (RSt_cg hSt (hf43.1 1 (by decide)) (hf43.1 38 (by decide)) (fun r _ => rfl) (fun r _ => rfl)) hfo ⟨hwx.1, by omega⟩ ⟨hrp, hpb⟩) hS_1.1 ⟨(Nat.le_of_ble_eq_true rfl), (Nat.le_of_ble_eq_true rfl)⟩ ⟨(Nat.le_of_ble_eq_true rfl), (Nat.le_of_ble_eq_true rfl)⟩ rfl rfl (Nat.le_of_ble_eq_true rfl) dX12_acquires_125 ?_
                rintro f_8 ⟨n_8, z_8, F_8, G_8, hS_8, hx8, hR_8, hs_8, hol_8⟩
                try simp only [(show (va_up n 43 ((n 43) - 1)) 1 = (n 1) from rfl)] at hR_8 hs_8 hol_8
                try simp only [(show (va_up n 43 ((n 43) - 1)) 38 = (n 38) from rfl)] at hR_8 hs_8 hol_8
                refine gz_goto (tgt := 180) dX12_acquires_128 (by decide) ?_
                refine gz_goto (tgt := 11) dX12_acquires_180 (by decide) ?_
                refine gz_sub (lv' := [(0, .ref m), (1, .int x1), (2, .int x2), (3, .long y)]) (by simp [List.lookup]) ?_
                have hxl : fx [1, 38, 43] [] [35, 36, 39, 40, 41, 42, 44] [34, 37, 45] n z F G n_8 z_8 F_8 G_8 := (fx_tr (fx_n fx_rf (by decide)) hx8 (by decide))
                have hxx : fx [1, 38, 43] [] [39, 40, 41, 42] [34] n z F G n_8 z_8 F_8 G_8 := (fx_tr (fx_n fx_rf (by decide)) hx8 (by decide))
                have e43 : (n_8 43).toInt.toNat = ((n 43) - 1).toInt.toNat + 0 := (by (try rw [(show n_8 43 = ((n 43) - 1) from (hx8.1 43 (by decide)))]); have q1_ := (T_sub (rfl : ((n 43)).toInt = ((n 43)).toInt) (show (1 : Int32).toInt = 1 from rfl) (by omega)); omega)
                have e43b : 0 ≤ (n_8 43).toInt := (by (try rw [(show n_8 43 = ((n 43) - 1) from (hx8.1 43 (by decide)))]); have q1_ := (T_sub (rfl : ((n 43)).toInt = ((n 43)).toInt) (show (1 : Int32).toInt = 1 from rfl) (by omega)); omega)
                have e5 : n_8 5 = n 5 := hxx.1 5 (by decide)
                have e30 : n_8 30 = n 30 := hxx.1 30 (by decide)
                have e0_ : n_8 0 = n 0 := hxx.1 0 (by decide)
                have e44 : F_8 44 = (F 44) := (show F_8 44 = (F 44) from (hx8.2.2.1 44 (by decide))).trans rfl
                have e45 : G_8 45 = (G 45) := (show G_8 45 = (G 45) from (hx8.2.2.2 45 (by decide))).trans rfl
                have hT9 : stk F_8 (n_8 5).toInt (F_8 44) (n_8 43).toInt.toNat S2 := by rw [e43, e5, e44]; exact stk_w (fun k hk => hxx.2.2.1 k ((by decide : ∀ k : Nat, k ∈ wK → k ∉ ([39, 40, 41, 42] : List Nat)) k hk)) hT3
                have hSk9 : skL (F_8 44) (G_8 45) fo K2 (n_8 43).toInt.toNat := by rw [e43, e44, e45]; exact hSk2
                have hX9 : LX F_8 fo T := LX_cg (fun r h1 h2 => hxx.2.2.1 r (fun h => by simp only [List.mem_cons, List.not_mem_nil, or_false] at h <;> omega)) hX
                have hsR9 : sRn S z_8 G_8 := ⟨by rw [hxx.2.1 29 (by decide)]; exact hsR.1, fun i hi => by rw [hxx.2.2.2 28 (by decide)]; exact hsR.2 i hi⟩
                have hSt9 := hs_8
                have hO9 := oL_tr hO (oL_tr (oL_eq (fun r _ => rfl) (fun r _ => rfl)) hol_8)
                have hk1_ : (grH T e_.1).1 = 1 := by omega
                rw [show ((va_up n 43 ((n 43) - 1)) 0).toInt = S.1 from h0] at hSt9
                have hZF9 : apS (lN : Int) S.1 aN bN (evK T S K2) (if hdP (cqT T e_.1) e_.2 = 0 then Z else ap1 (lN : Int) S.1 aN bN Z (true, e_.1, hdP (cqT T e_.1) e_.2)) = ZF := by rw [ev_1 hokT hvT_ hT4 hke.1 hlp hk1_] at hZF2; by_cases c9 : hdP (cqT T e_.1) e_.2 = 0; (rw [if_pos c9] at hZF2 ⊢; exact hZF2); (rw [if_neg c9] at hZF2 ⊢; exact hZF2)
                exact ih S2 K2 (if hdP (cqT T e_.1) e_.2 = 0 then Z else ap1 (lN : Int) S.1 aN bN Z (true, e_.1, hdP (cqT T e_.1) e_.2)) _ _ _ _ _ hS_8 (fx_tr (fx_n hx (by decide)) hx8 (by decide)) (hR_8) (by rw [e30]; exact hl) (⟨hT9, e43b⟩) (by omega) (by omega) (fun l => by rw [hxx.2.2.1 35 (by decide)]; exact hm l) (hX9) (hsR9) (by rw [e0_]; exact h0) (hSk9) (okK_t hKv) (hSt9) (hO9) (hZF9)
            ·
              try simp only [mIn_0, lgc_lt, lgc_gt, lgc_le, lgc_ge, lgc_eq] at c_82
              try simp only [fl_lt, fl_le, fl_eq, fL_w, fL_lt, fL_le, tm1, tm10k, tm9, tm99, Int32.reduceToInt, Int64.reduceToInt, Int.not_lt, Int.not_le] at c_82
              refine gz_aload_n dX12_acquires_85 rfl rfl ?_
              refine gz_iload dX12_acquires_86 rfl ?_
              refine gz_aload_n dX12_acquires_88 rfl rfl ?_
              refine gz_iload dX12_acquires_89 rfl ?_
              refine gz_lload dX12_acquires_91 rfl ?_
              have hld := hb_3.resolve_left (fun z9 => by omega)
              have q_vx : vW F (n 5).toInt r_3.toInt ∧ szF F r_3.toInt + 1 ≤ szF F wv.toInt := by
                have hr9 := hld.1
                unfold nxT at hr9
                by_cases c9 : (grH T e_.1).1 = 5 ∧ (grH T e_.1).2.1 ≤ S.1
                · rw [if_pos c9] at hr9
                  have y9 := xo2 (by omega)
                  have y8 : vW F (n 5).toInt (F 12 (Int32.toNatClampNeg wv)).toInt ∧ szF F (F 11 (Int32.toNatClampNeg wv)).toInt + szF F (F 12 (Int32.toNatClampNeg wv)).toInt + 1 ≤ szF F wv.toInt := two_ok bW hv2 (show 3 ≤ (F 7 (Int32.toNatClampNeg wv)).toInt ∧ (F 7 (Int32.toNatClampNeg wv)).toInt ≤ 5 by omega)
                  have y7 : r_3.toInt = (F 12 (Int32.toNatClampNeg wv)).toInt := by omega
                  rw [y7]
                  exact ⟨y8.1, by have y6 := y8.2; omega⟩
                · rw [if_neg c9] at hr9
                  have y9 := xo1 (by omega)
                  have y8 := one_ok bW hv2 (show 2 ≤ (F 7 (Int32.toNatClampNeg wv)).toInt by omega)
                  have y7 : r_3.toInt = (F 11 (Int32.toNatClampNeg wv)).toInt := by omega
                  rw [y7]
                  exact y8
              refine scX12_380 (k_X12_factorBehindE (x1 := wv) (y := fv) (fN := e_.2) (fo := fo) (wN := e_.1) (S := S) hS_1 bA hX hsR hfo hwx hfy) hS_1.1 ⟨(Nat.le_of_ble_eq_true rfl), (Nat.le_of_ble_eq_true rfl)⟩ ⟨(Nat.le_of_ble_eq_true rfl), (Nat.le_of_ble_eq_true rfl)⟩ rfl rfl (Nat.le_of_ble_eq_true rfl) dX12_acquires_93 ?_
              rintro r_f f9 ⟨hrf, y9⟩; rw [y9]
              refine scX12_370 (k_X12_comesE (x1 := r_3) (y := r_f) hS_1 (by (try rw [(show (va_up n 43 ((n 43) - 1)) 43 = ((n 43) - 1) from rfl)]); have q1_ := (T_sub (rfl : ((n 43)).toInt = ((n 43)).toInt) (show (1 : Int32).toInt = 1 from rfl) (by omega)); omega)) hS_1.1 ⟨(Nat.le_of_ble_eq_true rfl), (Nat.le_of_ble_eq_true rfl)⟩ ⟨(Nat.le_of_ble_eq_true rfl), (Nat.le_of_ble_eq_true rfl)⟩ rfl rfl (Nat.le_of_ble_eq_true rfl) dX12_acquires_96 ?_
              rintro f_10 ⟨n_10, z_10, F_10, G_10, hS_10, hx10, h43_10, h44_10, h45_10⟩
              try simp only [(show (va_up n 43 ((n 43) - 1)) 43 = ((n 43) - 1) from rfl)] at h43_10 h44_10 h45_10
              refine gz_goto (tgt := 180) dX12_acquires_99 (by decide) ?_
              refine gz_goto (tgt := 11) dX12_acquires_180 (by decide) ?_
              refine gz_sub (lv' := [(0, .ref m), (1, .int x1), (2, .int x2), (3, .long y)]) (by simp [List.lookup]) ?_
              have hxl : fx [1, 38, 43] [] [35, 36, 39, 40, 41, 42, 44] [34, 37, 45] n z F G n_10 z_10 F_10 G_10 := (fx_tr (fx_n fx_rf (by decide)) hx10 (by decide))
              have hxx : fx [43] [] [44] [45] n z F G n_10 z_10 F_10 G_10 := (fx_tr (fx_n fx_rf (by decide)) hx10 (by decide))
              have hR9 := RI_fx hR hxx (by decide) (by decide)
              have hp0 := stk_push (x := r_3) hT3 q_vx.1
              have hsk0 := skL_put (x := r_3) (y := r_f) (e := ((nxT T S e_.1), (psT S (grH T e_.1) e_.2))) hSk2 hld.1 hrf
              have e43 : (n_10 43).toInt.toNat = ((n 43) - 1).toInt.toNat + 1 := (by (try rw [(show n_10 43 = (((n 43) - 1) + 1) from h43_10)]); have q1_ := (T_add (T_sub (rfl : ((n 43)).toInt = ((n 43)).toInt) (show (1 : Int32).toInt = 1 from rfl) (by omega)) (show (1 : Int32).toInt = 1 from rfl) (by omega)); omega)
              have e43b : 0 ≤ (n_10 43).toInt := (by (try rw [(show n_10 43 = (((n 43) - 1) + 1) from h43_10)]); have q1_ := (T_add (T_sub (rfl : ((n 43)).toInt = ((n 43)).toInt) (show (1 : Int32).toInt = 1 from rfl) (by omega)) (show (1 : Int32).toInt = 1 from rfl) (by omega)); omega)
              have e5 : n_10 5 = n 5 := hxx.1 5 (by decide)
              have e30 : n_10 30 = n 30 := hxx.1 30 (by decide)
              have e0_ : n_10 0 = n 0 := hxx.1 0 (by decide)
              have e44 : F_10 44 = (upd (F 44) (((n 43) - 1).toInt.toNat) r_3) := (show F_10 44 = (upd (F 44) (Int32.toNatClampNeg ((n 43) - 1)) r_3) from h44_10).trans rfl
              have e45 : G_10 45 = (vp_updL (G 45) (((n 43) - 1).toInt.toNat) r_f) := (show G_10 45 = (vp_updL (G 45) (Int32.toNatClampNeg ((n 43) - 1)) r_f) from h45_10).trans rfl
              have hT9 : stk F_10 (n_10 5).toInt (F_10 44) (n_10 43).toInt.toNat (S2 + szF F r_3.toInt) := by rw [e43, e5, e44]; exact stk_w (fun k hk => hxx.2.2.1 k ((by decide : ∀ k : Nat, k ∈ wK → k ∉ ([44] : List Nat)) k hk)) hp0
              have hSk9 : skL (F_10 44) (G_10 45) fo (((nxT T S e_.1), (psT S (grH T e_.1) e_.2)) :: K2) (n_10 43).toInt.toNat := by rw [e43, e44, e45]; exact hsk0
              have hX9 : LX F_10 fo T := LX_cg (fun r h1 h2 => hxx.2.2.1 r (fun h => by simp only [List.mem_cons, List.not_mem_nil, or_false] at h <;> omega)) hX
              have hsR9 : sRn S z_10 G_10 := ⟨by rw [hxx.2.1 29 (by decide)]; exact hsR.1, fun i hi => by rw [hxx.2.2.2 28 (by decide)]; exact hsR.2 i hi⟩
              have hSt9 : RSt n_10 F_10 G_10 lN fo Z := RSt_cg hSt (hxx.1 1 (by decide)) (hxx.1 38 (by decide)) (fun r hr => hxx.2.2.1 r (by revert hr; revert r; decide)) (fun r hr => hxx.2.2.2 r (by revert hr; revert r; decide))
              have hO9 := oL_tr hO (oL_eq (F := F) (F2 := F_10) (G := G) (G2 := G_10) (l := lN) (fun r hr => hxx.2.2.1 r (by revert hr; revert r; decide)) (fun r hr => hxx.2.2.2 r (by revert hr; revert r; decide)))
              have hZF9 : apS (lN : Int) S.1 aN bN (evK T S (((nxT T S e_.1), (psT S (grH T e_.1) e_.2)) :: K2)) Z = ZF := by rw [ev_n hokT hvT_ hT4 hke.1 hlp hld.2.1 hld.2.2] at hZF2; show apS _ _ _ _ (ev T S _ _ ++ evK T S K2) Z = ZF; rw [apS_app]; exact hZF2
              exact ih (S2 + szF F r_3.toInt) (((nxT T S e_.1), (psT S (grH T e_.1) e_.2)) :: K2) Z _ _ _ _ _ hS_10 (fx_tr (fx_n hx (by decide)) hx10 (by decide)) (hR9) (by rw [e30]; exact hl) (⟨hT9, e43b⟩) (by omega) (by omega) (fun l => by rw [hxx.2.2.1 35 (by decide)]; exact hm l) (hX9) (hsR9) (by rw [e0_]; exact h0) (hSk9) (okK_c ⟨(nx_lk (S := S) hokT hvT_ hke.1 hld.2.1.1).2, psT_b hke.2⟩ (okK_t hKv)) (hSt9) (hO9) (hZF9)
          ·
            try simp only [mIn_0, lgc_lt, lgc_gt, lgc_le, lgc_ge, lgc_eq] at c_66
            try simp only [fl_lt, fl_le, fl_eq, fL_w, fL_lt, fL_le, tm1, tm10k, tm9, tm99, Int32.reduceToInt, Int64.reduceToInt, Int.not_lt, Int.not_le] at c_66
            refine gz_goto (tgt := 11) dX12_acquires_69 (by decide) ?_
            refine gz_sub (lv' := [(0, .ref m), (1, .int x1), (2, .int x2), (3, .long y)]) (by simp [List.lookup]) ?_
            have hxl : fx [1, 38, 43] [] [35, 36, 39, 40, 41, 42, 44] [34, 37, 45] n z F G (va_up n 43 ((n 43) - 1)) z F G := (fx_n fx_rf (by decide))
            have hxx : fx [43] [] [44] [45] n z F G (va_up n 43 ((n 43) - 1)) z F G := (fx_n fx_rf (by decide))
            have hR9 := RI_fx hR hxx (by decide) (by decide)
            have e43 : ((va_up n 43 ((n 43) - 1)) 43).toInt.toNat = ((n 43) - 1).toInt.toNat + 0 := (by (try rw [(show (va_up n 43 ((n 43) - 1)) 43 = ((n 43) - 1) from rfl)]); have q1_ := (T_sub (rfl : ((n 43)).toInt = ((n 43)).toInt) (show (1 : Int32).toInt = 1 from rfl) (by omega)); omega)
            have e43b : 0 ≤ ((va_up n 43 ((n 43) - 1)) 43).toInt := (by (try rw [(show (va_up n 43 ((n 43) - 1)) 43 = ((n 43) - 1) from rfl)]); have q1_ := (T_sub (rfl : ((n 43)).toInt = ((n 43)).toInt) (show (1 : Int32).toInt = 1 from rfl) (by omega)); omega)
            have e5 : (va_up n 43 ((n 43) - 1)) 5 = n 5 := hxx.1 5 (by decide)
            have e30 : (va_up n 43 ((n 43) - 1)) 30 = n 30 := hxx.1 30 (by decide)
            have e0_ : (va_up n 43 ((n 43) - 1)) 0 = n 0 := hxx.1 0 (by decide)
            have e44 : F 44 = (F 44) := (show F 44 = (F 44) from rfl).trans rfl
            have e45 : G 45 = (G 45) := (show G 45 = (G 45) from rfl).trans rfl
            have hT9 : stk F ((va_up n 43 ((n 43) - 1)) 5).toInt (F 44) ((va_up n 43 ((n 43) - 1)) 43).toInt.toNat S2 := by rw [e43, e5, e44]; exact stk_w (fun k hk => hxx.2.2.1 k ((by decide : ∀ k : Nat, k ∈ wK → k ∉ ([44] : List Nat)) k hk)) hT3
            have hSk9 : skL (F 44) (G 45) fo K2 ((va_up n 43 ((n 43) - 1)) 43).toInt.toNat := by rw [e43, e44, e45]; exact hSk2
            have hX9 : LX F fo T := LX_cg (fun r h1 h2 => hxx.2.2.1 r (fun h => by simp only [List.mem_cons, List.not_mem_nil, or_false] at h <;> omega)) hX
            have hsR9 : sRn S z G := ⟨by rw [hxx.2.1 29 (by decide)]; exact hsR.1, fun i hi => by rw [hxx.2.2.2 28 (by decide)]; exact hsR.2 i hi⟩
            have hSt9 : RSt (va_up n 43 ((n 43) - 1)) F G lN fo Z := RSt_cg hSt (hxx.1 1 (by decide)) (hxx.1 38 (by decide)) (fun r hr => hxx.2.2.1 r (by revert hr; revert r; decide)) (fun r hr => hxx.2.2.2 r (by revert hr; revert r; decide))
            have hO9 := oL_tr hO (oL_eq (F := F) (F2 := F) (G := G) (G2 := G) (l := lN) (fun r hr => hxx.2.2.1 r (by revert hr; revert r; decide)) (fun r hr => hxx.2.2.2 r (by revert hr; revert r; decide)))
            have hk0 : (grH T e_.1).1 = 0 := by omega
            have hZF9 : apS (lN : Int) S.1 aN bN (evK T S K2) Z = ZF := by rw [ev_0 hokT hvT_ hT4 hke.1 hk0] at hZF2; exact hZF2
            exact ih S2 K2 Z _ _ _ _ _ hS_1 (fx_n hx (by decide)) (hR9) (by rw [e30]; exact hl) (⟨hT9, e43b⟩) (by omega) (by omega) (fun l => by rw [hxx.2.2.1 35 (by decide)]; exact hm l) (hX9) (hsR9) (by rw [e0_]; exact h0) (hSk9) (okK_t hKv) (hSt9) (hO9) (hZF9)

set_option maxHeartbeats 4000000 in
set_option maxRecDepth 100000 in
theorem k_X12_acquiresE {l : Launch} {D : va_G} {cy : Nat → ClassId} {b : Nat} {f : gMem} {m : Nat} {a : Nat → Nat} {f0 : gMem} {n : Nat → Int32} {z : Nat → Int64} {F : Nat → Nat → Int32} {G : Nat → Nat → Int64}  {x1 x2 : Int32} {y : Int64} {lN fo : Nat} {T : List Hd} {S : Sn} {aN bN : Int} {wN : Nat} {fN : Int} {Z : Ls} (hS : mS cy m a f0 n z F G f) (hR : RI n F) (hl : 0 ≤ x1.toInt ∧ x1.toInt < (n 30).toInt) (hv : vW F (n 5).toInt x2.toInt) (hlN : x1.toInt = (lN : Int) ∧ lN < 40) (hfo : fo < 20) (hSb : -9000000000000000000 ≤ S.1 ∧ S.1 ≤ 9000000000000000000) (hX : LX F fo T) (hsR : sRn S z G) (h0 : (n 0).toInt = S.1) (hSt : RSt n F G lN fo Z) (hwx : x2.toInt = 40 * (fo : Int) + (wN : Int) ∧ wN < T.length) (hfN : y.toInt = fN ∧ -1000000 ≤ fN ∧ fN ≤ 1000000) : gC l D cy b yX12_acquires cX12_acquires 9 none 3 0 0 [.ref m, .int x1, .int x2, .long y] f (pV fun f2 => ∃ (n2 : Nat → Int32) (z2 : Nat → Int64) (F2 : Nat → Nat → Int32) (G2 : Nat → Nat → Int64), mS cy m a f0 n2 z2 F2 G2 f2 ∧ fx [1, 38, 43] [] [35, 36, 39, 40, 41, 42, 44] [34, 37, 45] n z F G n2 z2 F2 G2 ∧ RI n2 F2 ∧ (∀ l : Nat, (F 35 l).toInt ≤ (F2 35 l).toInt) ∧ RSt n2 F2 G2 lN fo (apS (lN : Int) S.1 aN bN (ev T S wN fN) Z) ∧ oL F G F2 G2 lN) := by
  obtain ⟨a0, a4, a5, bA, bW, a30, bL, a38, bP, a53, a47, a88⟩ := id hR
  refine gC_of (by decide) (Nat.le_of_ble_eq_true rfl) ?_
  show gG l _ _ _ D cy b cX12_acquires 9 _ RX12 "acquires" 0 0 f 0 [(0, .ref m), (1, .int x1), (2, .int x2), (3, .long y)] []
  refine gz_aload_n dX12_acquires_0 rfl rfl ?_
  refine gz_iconst (v := 0) dX12_acquires_1 (by decide) ?_
  refine mp_361 hS dX12_acquires_2 (fun f_1 hS_1 => ?_)
  refine gz_aload_n dX12_acquires_5 rfl rfl ?_
  refine gz_iload_n dX12_acquires_6 rfl rfl ?_
  refine gz_lload_n dX12_acquires_7 rfl rfl ?_
  refine scX12_370 (k_X12_comesE (x1 := x2) (y := y) hS_1 (show 0 ≤ (0 : Int32).toInt ∧ (0 : Int32).toInt < 64 by decide)) hS_1.1 ⟨(Nat.le_of_ble_eq_true rfl), (Nat.le_of_ble_eq_true rfl)⟩ ⟨(Nat.le_of_ble_eq_true rfl), (Nat.le_of_ble_eq_true rfl)⟩ rfl rfl (Nat.le_of_ble_eq_true rfl) dX12_acquires_8 ?_
  rintro f_2 ⟨n_2, z_2, F_2, G_2, hS_2, hx2, h43_2, h44_2, h45_2⟩
  try simp only [(show (va_up n 43 0) 43 = 0 from rfl)] at h43_2 h44_2 h45_2
  have hxx : fx [43] [] [44] [45] n z F G n_2 z_2 F_2 G_2 := (fx_tr (fx_n fx_rf (by decide)) hx2 (by decide))
  have e43 : (n_2 43).toInt = 1 := by rw [h43_2]; rfl
  have hT9 : stk F_2 (n_2 5).toInt (F_2 44) (n_2 43).toInt.toNat (0 + szF F x2.toInt) := by rw [e43, h44_2, hxx.1 5 (by decide)]; exact stk_w (fun k hk => hxx.2.2.1 k ((by decide : ∀ k : Nat, k ∈ wK → k ∉ ([44] : List Nat)) k hk)) (stk_push stk_0 hv)
  have qz := szF_pos bW hv
  have hSk9 : skL (F_2 44) (G_2 45) fo [(wN, fN)] (n_2 43).toInt.toNat := by rw [e43, h44_2, h45_2]; exact skL_put (K := []) (t := 0) (show (0 : Nat) = 0 from rfl) hwx.1 hfN.1
  refine gz_sub (lv' := [(0, .ref m), (1, .int x1), (2, .int x2), (3, .long y)]) (by simp [List.lookup]) ?_
  exact l_X12_acquiresE hlN hfo hSb 41 _ [(wN, fN)] Z _ _ _ _ _ hS_2 (fx_tr fx_rf hxx (by decide)) (RI_fx hR hxx (by decide) (by decide)) (by rw [hxx.1 30 (by decide)]; exact hl) ⟨hT9, by omega⟩ (by omega) (by omega) (fun l => by rw [hxx.2.2.1 35 (by decide)]; exact Int.le_refl _) (LX_cg (fun r h1 h2 => hxx.2.2.1 r (fun h => by simp only [List.mem_cons, List.not_mem_nil, or_false] at h <;> omega)) hX) ⟨by rw [hxx.2.1 29 (by decide)]; exact hsR.1, fun i hi => by rw [hxx.2.2.2 28 (by decide)]; exact hsR.2 i hi⟩ (by rw [hxx.1 0 (by decide)]; exact h0) hSk9 (okK_c ⟨hwx.2, hfN.2⟩ (fun x hx9 => by cases hx9)) (RSt_cg hSt (hxx.1 1 (by decide)) (hxx.1 38 (by decide)) (fun r hr => hxx.2.2.1 r (by revert hr; revert r; decide)) (fun r hr => hxx.2.2.2 r (by revert hr; revert r; decide))) (oL_eq (fun r hr => hxx.2.2.1 r (by revert hr; revert r; decide)) (fun r hr => hxx.2.2.2 r (by revert hr; revert r; decide))) (by show apS _ _ _ _ (ev T S wN fN ++ []) Z = _; rw [List.append_nil])
