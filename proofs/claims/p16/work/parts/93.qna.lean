set_option maxHeartbeats 4000000 in
set_option maxRecDepth 100000 in
theorem l_X12_shortensBE {l : Launch} {D : va_G} {cy : Nat → ClassId} {b : Nat} {m : Nat} {a : Nat → Nat} {f0 : gMem} {n0 : Nat → Int32} {z0 : Nat → Int64} {F0 : Nat → Nat → Int32} {G0 : Nat → Nat → Int64}  {x1 x2 bs nb : Int32} {fo Wn bn : Nat} {kk xq : Int32} {kN : Nat} {T : List Hd} {H : Nat → Hd} {fi se : Nat → Nat} {A0 B0 : Nat} {h2 : Hd} (hb : bs.toInt = (bn : Int) ∧ (bn = 0 ∨ bn = 41) ∧ nb.toInt = (bn : Int) + 40) (hf : x1.toInt = (fo : Int) ∧ fo < 20) (hkN : kk.toInt = (kN : Int) ∧ kN < Wn ∧ Wn ≤ 40) (hxq : xq.toInt = (bn : Int) + kN) (hTl : T.length ≤ 40 ∧ kN < T.length ∧ Wn = T.length) (hq : ∀  (n : Nat → Int32) (z : Nat → Int64) (F : Nat → Nat → Int32) (G : Nat → Nat → Int64) (fm : gMem), mS cy m a f0 n z F G fm → fx [] [] [76, 77, 78, 79, 80, 81, 82] [] n0 z0 F0 G0 n z F G → (RI n F) → ((fo : Int) < (n 5).toInt) → (NR F) → ((F 6 fo).toInt = (Wn : Int)) → (outS F0 F bn) → (SHp F fo Wn bn (kk.toInt - 1)) → (∃ (H : Nat → Hd) (fi se : Nat → Nat), shE F fo bn T H fi se kk.toInt.toNat) → gG l (gRm 3 0 0) (gQf D b (pV fun f2 => ∃ (n2 : Nat → Int32) (z2 : Nat → Int64) (F2 : Nat → Nat → Int32) (G2 : Nat → Nat → Int64), mS cy m a f0 n2 z2 F2 G2 f2 ∧ fx [] [] [76, 77, 78, 79, 80, 81, 82] [] n0 z0 F0 G0 n2 z2 F2 G2 ∧ NR F2 ∧ SHp F2 fo Wn bn (-1) ∧ outS F0 F2 bn ∧ ∃ (H : Nat → Hd) (fi se : Nat → Nat), shE F2 fo bn T H fi se 0) 0 0) gTt D cy b cX12_shortens 11 none RX12 "shortens" 0 0 fm 452 [(5, .int kk), (0, .ref m), (1, .int x1), (2, .int x2), (3, .int bs), (4, .int nb)] []) : ∀ (k : Nat)  (n : Nat → Int32) (z : Nat → Int64) (F : Nat → Nat → Int32) (G : Nat → Nat → Int64) (fm : gMem), mS cy m a f0 n z F G fm → fx [] [] [76, 77, 78, 79, 80, 81, 82] [] n0 z0 F0 G0 n z F G → (RI n F) → ((fo : Int) < (n 5).toInt) → (NR F) → ((F 6 fo).toInt = (Wn : Int)) → (outS F0 F bn) → (SHp F fo Wn bn (kk.toInt)) → (nOK F fo Wn bn kN) → (LX F fo T) → (shE F fo bn T H fi se (kN + 1)) → (enN F fo bn T H fi se kN (grH T kN) h2 A0 B0 (grS T kN)) → (0 < (k : Int)) → gG l (gRm 3 0 0) (gQf D b (pV fun f2 => ∃ (n2 : Nat → Int32) (z2 : Nat → Int64) (F2 : Nat → Nat → Int32) (G2 : Nat → Nat → Int64), mS cy m a f0 n2 z2 F2 G2 f2 ∧ fx [] [] [76, 77, 78, 79, 80, 81, 82] [] n0 z0 F0 G0 n2 z2 F2 G2 ∧ NR F2 ∧ SHp F2 fo Wn bn (-1) ∧ outS F0 F2 bn ∧ ∃ (H : Nat → Hd) (fi se : Nat → Nat), shE F2 fo bn T H fi se 0) 0 0) gTt D cy b cX12_shortens 11 none RX12 "shortens" 0 0 fm 341 [(7, .int xq), (5, .int kk), (0, .ref m), (1, .int x1), (2, .int x2), (3, .int bs), (4, .int nb)] [] := by
  intro k
  induction k with
  | zero =>
    intro n z F G fm hS hx hR hfo hN hW6 hou hP hn hX hE hen hk
    exfalso; omega
  | succ k ih =>
    intro n z F G fm hS hx hR hfo hN hW6 hou hP hn hX hE hen hk
    obtain ⟨a0, a4, a5, bA, bW, a30, bL, a38, bP, a53, a47, a88⟩ := id hR
    have ecx : (Int32.toNatClampNeg xq) = bn + kN := by rw [clN]; omega
    have hkW : kN < (F 6 fo).toInt.toNat := by omega
    have qO := (bW fo hfo).2.1 kN hkW
    have qWn : (F 6 fo).toInt.toNat = Wn := by omega
    rw [qWn] at qO
    refine gz_aload_n dX12_shortens_341 rfl rfl ?_
    refine mg_225 hS dX12_shortens_342 ?_
    refine gz_iload dX12_shortens_345 rfl ?_
    refine gz_iload dX12_shortens_347 rfl ?_
    refine m_iast 81 hS rfl (N := 82) rfl ((by exact vin_T (rfl : xq.toInt = xq.toInt) (by omega) (by omega))) dX12_shortens_349 (fun f_1 hS_1q => ?_)
    have hS_1 : mS cy m a f0 n z (va_up F 81 (upd (F 81) (Int32.toNatClampNeg xq) xq)) G f_1 := hS_1q
    refine gz_aload_n dX12_shortens_350 rfl rfl ?_
    refine mg_228 hS_1 dX12_shortens_351 ?_
    refine gz_iload dX12_shortens_354 rfl ?_
    refine gz_aload_n dX12_shortens_356 rfl rfl ?_
    refine gz_iload dX12_shortens_357 rfl ?_
    refine gz_iload dX12_shortens_359 rfl ?_
    have r76_ : (va_up F 81 (upd (F 81) (Int32.toNatClampNeg xq) xq)) 76 = (F 76) := rfl
    have r78_ : (va_up F 81 (upd (F 81) (Int32.toNatClampNeg xq) xq)) 78 = (F 78) := rfl
    have r79_ : (va_up F 81 (upd (F 81) (Int32.toNatClampNeg xq) xq)) 79 = (F 79) := rfl
    have r81_ : (va_up F 81 (upd (F 81) (Int32.toNatClampNeg xq) xq)) 81 = (upd (F 81) (Int32.toNatClampNeg xq) xq) := rfl
    have hN2 : NR (va_up F 81 (upd (F 81) (Int32.toNatClampNeg xq) xq)) := NR_up hN 81 (fun k hk hne => up_out (K := [81]) (fun _ _ => rfl) (by decide) k (by simp only [List.mem_cons, List.not_mem_nil, or_false]; exact hne)) rfl (Or.inl (by omega)) (by decide)
    have sm1 : ∀ r, r ≠ 81 → (va_up F 81 (upd (F 81) (Int32.toNatClampNeg xq) xq)) r = F r := fun r hr => va_up_ne _ _ hr
    have of1 : ∀ i, i ≠ bn + kN → (va_up F 81 (upd (F 81) (Int32.toNatClampNeg xq) xq)) 81 i = F 81 i := fun i hi => by rw [r81_, ecx, updE, if_neg hi]
    have hE1 : shE (va_up F 81 (upd (F 81) (Int32.toNatClampNeg xq) xq)) fo bn T H fi se (kN + 1) := shE_cg (fun r hr => sm1 r (by rintro rfl; revert hr; decide)) (fun r hr i hi => by by_cases e : r = 81; (rw [e]; exact of1 i (by omega)); (exact congrFun (sm1 r e) i)) (by omega) hE
    have hen1 : enN (va_up F 81 (upd (F 81) (Int32.toNatClampNeg xq) xq)) fo bn T H fi se kN (grH T kN) h2 A0 B0 (grS T kN) := enN_cg (fun r hr => sm1 r (by rintro rfl; revert hr; decide)) (fun r hr => congrFun (sm1 r (by rintro rfl; revert hr; decide)) _) (fun i _ => congrFun (sm1 82 (by decide)) i) hTl.1 hTl.2.1 hen
    have enx : xq.toInt.toNat = bn + kN := by omega
    refine scX12_517 (k_X12_lawOfE (x1 := xq) (x2 := nb) (fo := fo) (a_ := h2) hS_1 bA hN2 (by omega) (by omega) hf.2 (by rw [enx]; exact hen1.2.2.1)) hS_1.1 ⟨(Nat.le_of_ble_eq_true rfl), (Nat.le_of_ble_eq_true rfl)⟩ ⟨(Nat.le_of_ble_eq_true rfl), (Nat.le_of_ble_eq_true rfl)⟩ rfl rfl (Nat.le_of_ble_eq_true rfl) dX12_shortens_361 ?_
    rintro r_2 f9 ⟨hb_2, y9⟩; rw [y9]
    rw [enx, hb.2.2] at hb_2
    obtain ⟨q0_, q1_, q2_⟩ := sj_at hX.1.1 hX.1.2.1 hTl.2.1
    obtain ⟨R, er, hRR, hne, hxs⟩ := law_ok hE1 hTl.1 hTl.2.1 hen1 q0_ (fun z => (q1_ z).2) (fun z => (q2_ z).2.2.2) hb_2
    clear q0_ q1_ q2_
    have hneU := fun (_ : Unit) => hne
    have hxsU := fun (_ : Unit) => hxs
    have hRRU := fun (_ : Unit) => hRR
    clear hne hxs hRR
    have hlw := lawN_w hen1.2.2.1.1 hb_2
    have h76_ := hen1.2.2.1.2.1
    rw [r78_, r79_, r76_] at hlw
    rw [r76_, hn.2.1] at h76_
    have hr_ : r_2.toInt = (bn : Int) + 40 ∨ r_2.toInt = (bn : Int) + kN ∨ r_2 = (F 78 (bn + kN)) ∨ (r_2 = (F 79 (bn + kN)) ∧ (F 7 (40 * fo + kN)).toInt = 3) ∨ (r_2 = F 78 (F 78 (bn + kN)).toInt.toNat ∧ (F 76 (F 78 (bn + kN)).toInt.toNat).toInt = 2) := by
      rcases hlw with z | z | z | z | z
      · exact Or.inl z
      · exact Or.inr (Or.inl (by omega))
      · exact Or.inr (Or.inr (Or.inl (Int32.toInt_inj.mp z)))
      · exact Or.inr (Or.inr (Or.inr (Or.inl ⟨Int32.toInt_inj.mp z.1, by omega⟩)))
      · exact Or.inr (Or.inr (Or.inr (Or.inr ⟨Int32.toInt_inj.mp z.1, z.2⟩)))
    have qa := NR_at hN (x := xq) (by omega)
    rw [ecx] at qa
    have qrj : 0 ≤ r_2.toInt ∧ r_2.toInt < 82 := by rcases hr_ with z | z | z | z | z; (omega); (omega); (rw [z]; exact qa.1); (rw [z.1]; exact qa.2.1); (rw [z.1]; exact (NR_at hN (x := (F 78 (bn + kN))) qa.1).1)
    have hrU := fun (_ : Unit) => hr_
    clear hr_ hlw
    refine m_iast 82 hS_1 rfl (N := 82) rfl ((by exact vin_T (rfl : xq.toInt = xq.toInt) (by omega) (by omega))) dX12_shortens_364 (fun f_3 hS_3q => ?_)
    have hS_3 : mS cy m a f0 n z (va_up (va_up F 81 (upd (F 81) (Int32.toNatClampNeg xq) xq)) 82 (upd (F 82) (Int32.toNatClampNeg xq) r_2)) G f_3 := hS_3q
    refine gz_iload_n dX12_shortens_365 rfl rfl ?_
    refine gz_aload_n dX12_shortens_366 rfl rfl ?_
    refine mg_17 hS_3 dX12_shortens_367 ?_
    refine gz_iload_n dX12_shortens_370 rfl rfl ?_
    refine m_iald 6 hS_3 rfl (N := 22) rfl ((by exact vin_T (rfl : (x1).toInt = (x1).toInt) (by omega) (by omega))) dX12_shortens_371 ?_
    refine gz_ev (w := .int ((F 6) (Int32.toNatClampNeg x1))) rfl ?_
    refine gz_iadd dX12_shortens_372 ?_
    refine gz_iconst (v := 1) dX12_shortens_373 (by decide) ?_
    refine gz_isub dX12_shortens_374 ?_
    refine gz_istore (lv' := [(10, .int ((bs + ((F 6) (Int32.toNatClampNeg x1))) - 1)), (7, .int xq), (5, .int kk), (0, .ref m), (1, .int x1), (2, .int x2), (3, .int bs), (4, .int nb)]) dX12_shortens_375 (by decide) rfl ?_
    have hxx : fx [] [] [76, 77, 78, 79, 80, 81, 82] [] n z F G n z (va_up (va_up F 81 (upd (F 81) (Int32.toNatClampNeg xq) xq)) 82 (upd (F 82) (Int32.toNatClampNeg xq) r_2)) G := (fx_F (fx_F fx_rf (by decide)) (by decide))
    have s76_ : (va_up (va_up F 81 (upd (F 81) (Int32.toNatClampNeg xq) xq)) 82 (upd (F 82) (Int32.toNatClampNeg xq) r_2)) 76 = (F 76) := rfl
    have s78_ : (va_up (va_up F 81 (upd (F 81) (Int32.toNatClampNeg xq) xq)) 82 (upd (F 82) (Int32.toNatClampNeg xq) r_2)) 78 = (F 78) := rfl
    have s79_ : (va_up (va_up F 81 (upd (F 81) (Int32.toNatClampNeg xq) xq)) 82 (upd (F 82) (Int32.toNatClampNeg xq) r_2)) 79 = (F 79) := rfl
    have s80_ : (va_up (va_up F 81 (upd (F 81) (Int32.toNatClampNeg xq) xq)) 82 (upd (F 82) (Int32.toNatClampNeg xq) r_2)) 80 = (F 80) := rfl
    have s82_ : (va_up (va_up F 81 (upd (F 81) (Int32.toNatClampNeg xq) xq)) 82 (upd (F 82) (Int32.toNatClampNeg xq) r_2)) 82 = (upd (F 82) (Int32.toNatClampNeg xq) r_2) := rfl
    have hNf : NR (va_up (va_up F 81 (upd (F 81) (Int32.toNatClampNeg xq) xq)) 82 (upd (F 82) (Int32.toNatClampNeg xq) r_2)) := NR_up hN2 82 (fun k hk hne => up_out (K := [82]) (fun _ _ => rfl) (by decide) k (by simp only [List.mem_cons, List.not_mem_nil, or_false]; exact hne)) rfl (Or.inl qrj) (by decide)
    have hoff : ∀ r, r ∈ [76, 78, 79, 80, 82] → ∀ i, i ≠ bn + kN → (va_up (va_up F 81 (upd (F 81) (Int32.toNatClampNeg xq) xq)) 82 (upd (F 82) (Int32.toNatClampNeg xq) r_2)) r i = F r i := by
      intro r hr i hi
      rw [← ecx] at hi
      simp only [List.mem_cons, List.not_mem_nil, or_false] at hr
      rcases hr with rfl | rfl | rfl | rfl | rfl
      · rw [s76_]
      · rw [s78_]
      · rw [s79_]
      · rw [s80_]
      · rw [s82_, updE, if_neg hi]
    have hnew : SHp (va_up (va_up F 81 (upd (F 81) (Int32.toNatClampNeg xq) xq)) 82 (upd (F 82) (Int32.toNatClampNeg xq) r_2)) fo Wn bn ((kN : Int) - 1) := SHp_new (F := F) rfl rfl rfl rfl hoff (by omega) (by rw [← hkN.1]; exact hP) (fun hq => node_mk (F := F) (v := (F 78 (bn + kN))) (y := (F 79 (bn + kN))) (r := r_2) (by omega) hq (by rw [← hkN.1]; exact hP) rfl rfl rfl rfl (by rw [s80_]; exact hn.1) (by rw [s76_]; exact hn.2.1) (by rw [s78_]) (by rw [s79_]) (by rw [← ecx, s82_, updE, if_pos rfl]) hn.2.2.1 hn.2.2.2.1 hn.2.2.2.2 (hrU ()))
    have h6c : (F 6 (Int32.toNatClampNeg x1)).toInt = (Wn : Int) := by rw [show Int32.toNatClampNeg x1 = fo by rw [clN]; omega]; exact hW6
    have qy0 : ((bs + ((F 6) (Int32.toNatClampNeg x1))) - 1).toInt = (bn : Int) + Wn - 1 := by have q := (T_sub (T_add (rfl : (bs).toInt = (bs).toInt) (rfl : (((F 6) (Int32.toNatClampNeg x1))).toInt = (((F 6) (Int32.toNatClampNeg x1))).toInt) (by omega)) (show (1 : Int32).toInt = 1 from rfl) (by omega)); omega
    refine gz_sub (lv' := [(10, .int ((bs + ((F 6) (Int32.toNatClampNeg x1))) - 1)), (7, .int xq), (5, .int kk), (0, .ref m), (1, .int x1), (2, .int x2), (3, .int bs), (4, .int nb)]) (by simp [List.lookup]) ?_
    have sm2 : ∀ r, r ≠ 81 → r ≠ 82 → (va_up (va_up F 81 (upd (F 81) (Int32.toNatClampNeg xq) xq)) 82 (upd (F 82) (Int32.toNatClampNeg xq) r_2)) r = F r := fun r h1 h2 => (va_up_ne _ _ h2).trans (va_up_ne _ _ h1)
    have t81_ : (va_up (va_up F 81 (upd (F 81) (Int32.toNatClampNeg xq) xq)) 82 (upd (F 82) (Int32.toNatClampNeg xq) r_2)) 81 = (upd (F 81) (Int32.toNatClampNeg xq) xq) := rfl
    have of81 : ∀ i, i ≠ bn + kN → (va_up (va_up F 81 (upd (F 81) (Int32.toNatClampNeg xq) xq)) 82 (upd (F 82) (Int32.toNatClampNeg xq) r_2)) 81 i = F 81 i := fun i hi => by rw [t81_, ecx, updE, if_neg hi]
    have of82 : ∀ i, i ≠ bn + kN → (va_up (va_up F 81 (upd (F 81) (Int32.toNatClampNeg xq) xq)) 82 (upd (F 82) (Int32.toNatClampNeg xq) r_2)) 82 i = F 82 i := fun i hi => by rw [s82_, ecx, updE, if_neg hi]
    have hE2 : shE (va_up (va_up F 81 (upd (F 81) (Int32.toNatClampNeg xq) xq)) 82 (upd (F 82) (Int32.toNatClampNeg xq) r_2)) fo bn T H fi se (kN + 1) := shE_cg (fun r hr => sm2 r (by rintro rfl; revert hr; decide) (by rintro rfl; revert hr; decide)) (fun r hr i hi => by by_cases e : r = 81; (rw [e]; exact of81 i (by omega)); (by_cases e2 : r = 82; (rw [e2]; exact of82 i (by omega)); (exact congrFun (sm2 r e e2) i))) (by omega) hE
    have hen2 : enN (va_up (va_up F 81 (upd (F 81) (Int32.toNatClampNeg xq) xq)) 82 (upd (F 82) (Int32.toNatClampNeg xq) r_2)) fo bn T H fi se kN (grH T kN) h2 A0 B0 (grS T kN) := enN_cg (fun r hr => sm2 r (by rintro rfl; revert hr; decide) (by rintro rfl; revert hr; decide)) (fun r hr => congrFun (sm2 r (by rintro rfl; revert hr; decide) (by rintro rfl; revert hr; decide)) _) (fun i hi => of82 i (by omega)) hTl.1 hTl.2.1 hen
    have h822 : ((va_up (va_up F 81 (upd (F 81) (Int32.toNatClampNeg xq) xq)) 82 (upd (F 82) (Int32.toNatClampNeg xq) r_2)) 82 (bn + kN)).toInt = (R : Int) := by rw [s82_, ecx, updE, if_pos rfl]; exact er
    have hRR2 : Unit → (R = bn + 40 ∨ R = bn + kN ∨ (bn + kN < R ∧ R < bn + T.length ∧ fxN (va_up (va_up F 81 (upd (F 81) (Int32.toNatClampNeg xq) xq)) 82 (upd (F 82) (Int32.toNatClampNeg xq) r_2)) R)) := fun _ => by rcases hRRU () with z | z | z; (exact Or.inl z); (exact Or.inr (Or.inl z)); (exact Or.inr (Or.inr ⟨z.1, z.2.1, by have z3 := z.2.2; unfold fxN at z3 ⊢; rw [of82 R (by omega)]; exact z3⟩))
    have hst2 : Unit → (R = bn + kN → stQn ((va_up (va_up F 81 (upd (F 81) (Int32.toNatClampNeg xq) xq)) 82 (upd (F 82) (Int32.toNatClampNeg xq) r_2))) bn kN T H fi se (((bs + ((F 6) (Int32.toNatClampNeg x1))) - 1).toInt)) := fun _ _ => st_mk (Or.inl ⟨by rw [t81_, ecx, updE, if_pos rfl]; exact hxq, fun z z1 z2 _ => by exfalso; omega⟩)
    have hou2 : outS F0 (va_up (va_up F 81 (upd (F 81) (Int32.toNatClampNeg xq) xq)) 82 (upd (F 82) (Int32.toNatClampNeg xq) r_2)) bn := outS_st (k := kN) hou (fun r hr i hi => by by_cases e : r = 81; (rw [e]; exact of81 i hi); (by_cases e2 : r = 82; (rw [e2]; exact of82 i hi); (exact congrFun (sm2 r e e2) i))) (by omega)
    exact l_X12_shortens2E (kk := kk) (xq := xq) hb hf hTl ⟨hkN.1, hxq⟩ hneU hxsU hq 83 ((bs + ((F 6) (Int32.toNatClampNeg x1))) - 1) _ _ _ _ _ hS_3 (fx_F (fx_F hx (by decide)) (by decide)) (RI_fx hR hxx (by decide) (by decide)) hfo hNf hW6 hou2 (by rw [hkN.1]; exact hnew) hE2 hen2 h822 hRR2 hst2 (by omega)
