theorem suX1_104 {l : Launch} {R : Room} {Qf : List Frame → Array Value → State → State → Prop} {Ex : State → Prop} {D : va_G} {cy : Nat → ClassId} {b : Nat} {cc : ByteArray} {nL : Nat} {ret : Option FieldType} {nm : String} {cells slots : Nat} {f : gMem} {pc : Nat} {lv : List (Nat × Value)} {st : List Value} {d' mc' ms' : Nat} {As st0 : List Value} {Pu : Nat → Nat → Option Value → gMem → Prop} {a : Nat} {fs : List Value} (hM : gU l D cy b yX1_enter cX1_enter 6 none d' mc' ms' (.ref a :: As) f gTt Pu) (hf : f a = some (.inr (1, fs))) (hR : d' + 1 ≤ R.frames ∧ 64 * (d' + 1) ≤ R.locals) (hcs : cells + mc' ≤ R.cells ∧ slots + ms' ≤ R.slots) (hn : As.length = 3) (hst : st0 = As.reverse ++ .ref a :: st) (hsum : (st.map fun v => v.category).sum ≤ 8) (hdg : decode cc pc = .ok (.invokevirtual 104, 3)) (k : ∀ (kk nn : Nat) (r : Option Value) (f2 : gMem), Pu kk nn r f2 → gG l R Qf Ex D cy b cc nL ret RX1 nm (cells + kk) (slots + nn) f2 (pc + 3) lv (r.toList ++ st)) : gG l R Qf Ex D cy b cc nL ret RX1 nm cells slots f pc lv st0 := gz_callVU (T := TX1) (N := 4) (n := 3) hM gEok_tt (fun _ _ => trivial) hf rfl wd_91 ⟨wd_92, wd_93, wd_94, wd_36⟩ ⟨rfl, by decide, by decide, by decide +kernel⟩ ⟨hR.1, by omega⟩ hcs hn hst hsum hdg k
theorem suX1_32 {l : Launch} {R : Room} {Qf : List Frame → Array Value → State → State → Prop} {Ex : State → Prop} {D : va_G} {cy : Nat → ClassId} {b : Nat} {cc : ByteArray} {nL : Nat} {ret : Option FieldType} {nm : String} {cells slots : Nat} {f : gMem} {pc : Nat} {lv : List (Nat × Value)} {st : List Value} {d' mc' ms' : Nat} {As st0 : List Value} {Pu : Nat → Nat → Option Value → gMem → Prop} {a : Nat} {fs : List Value} (hM : gU l D cy b yX1_acquire cX1_acquire 8 none d' mc' ms' (.ref a :: As) f gTt Pu) (hf : f a = some (.inr (1, fs))) (hR : d' + 1 ≤ R.frames ∧ 64 * (d' + 1) ≤ R.locals) (hcs : cells + mc' ≤ R.cells ∧ slots + ms' ≤ R.slots) (hn : As.length = 4) (hst : st0 = As.reverse ++ .ref a :: st) (hsum : (st.map fun v => v.category).sum ≤ 8) (hdg : decode cc pc = .ok (.invokevirtual 32, 3)) (k : ∀ (kk nn : Nat) (r : Option Value) (f2 : gMem), Pu kk nn r f2 → gG l R Qf Ex D cy b cc nL ret RX1 nm (cells + kk) (slots + nn) f2 (pc + 3) lv (r.toList ++ st)) : gG l R Qf Ex D cy b cc nL ret RX1 nm cells slots f pc lv st0 := gz_callVU (T := TX1) (N := 4) (n := 4) hM gEok_tt (fun _ _ => trivial) hf rfl wd_32 ⟨wd_33, wd_34, wd_35, wd_36⟩ ⟨rfl, by decide, by decide, by decide +kernel⟩ ⟨hR.1, by omega⟩ hcs hn hst hsum hdg k
theorem suX1_61 {l : Launch} {R : Room} {Qf : List Frame → Array Value → State → State → Prop} {Ex : State → Prop} {D : va_G} {cy : Nat → ClassId} {b : Nat} {cc : ByteArray} {nL : Nat} {ret : Option FieldType} {nm : String} {cells slots : Nat} {f : gMem} {pc : Nat} {lv : List (Nat × Value)} {st : List Value} {d' mc' ms' : Nat} {As st0 : List Value} {Pu : Nat → Nat → Option Value → gMem → Prop} {a : Nat} {fs : List Value} (hM : gU l D cy b yX4_pay cX4_pay 6 none d' mc' ms' (.ref a :: As) f gTt Pu) (hf : f a = some (.inr (4, fs))) (hR : d' + 1 ≤ R.frames ∧ 64 * (d' + 1) ≤ R.locals) (hcs : cells + mc' ≤ R.cells ∧ slots + ms' ≤ R.slots) (hn : As.length = 4) (hst : st0 = As.reverse ++ .ref a :: st) (hsum : (st.map fun v => v.category).sum ≤ 8) (hdg : decode cc pc = .ok (.invokevirtual 61, 3)) (k : ∀ (kk nn : Nat) (r : Option Value) (f2 : gMem), Pu kk nn r f2 → gG l R Qf Ex D cy b cc nL ret RX1 nm (cells + kk) (slots + nn) f2 (pc + 3) lv (r.toList ++ st)) : gG l R Qf Ex D cy b cc nL ret RX1 nm cells slots f pc lv st0 := gz_callVU (T := TX4) (N := 9) (n := 4) hM gEok_tt (fun _ _ => trivial) hf rfl wd_50 ⟨wd_51, wd_52, wd_53, wd_54⟩ ⟨rfl, by decide, by decide, by decide +kernel⟩ ⟨hR.1, by omega⟩ hcs hn hst hsum hdg k
theorem suX11_153 {l : Launch} {R : Room} {Qf : List Frame → Array Value → State → State → Prop} {Ex : State → Prop} {D : va_G} {cy : Nat → ClassId} {b : Nat} {cc : ByteArray} {nL : Nat} {ret : Option FieldType} {nm : String} {cells slots : Nat} {f : gMem} {pc : Nat} {lv : List (Nat × Value)} {st : List Value} {d' mc' ms' : Nat} {As st0 : List Value} {Pu : Nat → Nat → Option Value → gMem → Prop} {a : Nat} {fs : List Value} (hM : gU l D cy b yX1_open cX1_open 5 (some .int) d' mc' ms' (.ref a :: As) f gTt Pu) (hf : f a = some (.inr (1, fs))) (hR : d' + 1 ≤ R.frames ∧ 64 * (d' + 1) ≤ R.locals) (hcs : cells + mc' ≤ R.cells ∧ slots + ms' ≤ R.slots) (hn : As.length = 3) (hst : st0 = As.reverse ++ .ref a :: st) (hsum : (st.map fun v => v.category).sum ≤ 8) (hdg : decode cc pc = .ok (.invokevirtual 153, 3)) (k : ∀ (kk nn : Nat) (r : Option Value) (f2 : gMem), Pu kk nn r f2 → gG l R Qf Ex D cy b cc nL ret RX11 nm (cells + kk) (slots + nn) f2 (pc + 3) lv (r.toList ++ st)) : gG l R Qf Ex D cy b cc nL ret RX11 nm cells slots f pc lv st0 := gz_callVU (T := TX1) (N := 4) (n := 3) hM gEok_tt (fun _ _ => trivial) hf rfl wd_619 ⟨wd_620, wd_621, wd_622, wd_36⟩ ⟨rfl, by decide, by decide, by decide +kernel⟩ ⟨hR.1, by omega⟩ hcs hn hst hsum hdg k
theorem suX11_166 {l : Launch} {R : Room} {Qf : List Frame → Array Value → State → State → Prop} {Ex : State → Prop} {D : va_G} {cy : Nat → ClassId} {b : Nat} {cc : ByteArray} {nL : Nat} {ret : Option FieldType} {nm : String} {cells slots : Nat} {f : gMem} {pc : Nat} {lv : List (Nat × Value)} {st : List Value} {d' mc' ms' : Nat} {As st0 : List Value} {Pu : Nat → Nat → Option Value → gMem → Prop} {a : Nat} {fs : List Value} (hM : gU l D cy b yX1_wake cX1_wake 4 none d' mc' ms' (.ref a :: As) f gTt Pu) (hf : f a = some (.inr (1, fs))) (hR : d' + 1 ≤ R.frames ∧ 64 * (d' + 1) ≤ R.locals) (hcs : cells + mc' ≤ R.cells ∧ slots + ms' ≤ R.slots) (hn : As.length = 1) (hst : st0 = As.reverse ++ .ref a :: st) (hsum : (st.map fun v => v.category).sum ≤ 8) (hdg : decode cc pc = .ok (.invokevirtual 166, 3)) (k : ∀ (kk nn : Nat) (r : Option Value) (f2 : gMem), Pu kk nn r f2 → gG l R Qf Ex D cy b cc nL ret RX11 nm (cells + kk) (slots + nn) f2 (pc + 3) lv (r.toList ++ st)) : gG l R Qf Ex D cy b cc nL ret RX11 nm cells slots f pc lv st0 := gz_callVU (T := TX1) (N := 4) (n := 1) hM gEok_tt (fun _ _ => trivial) hf rfl wd_629 ⟨wd_630, wd_631, wd_632, wd_36⟩ ⟨rfl, by decide, by decide, by decide +kernel⟩ ⟨hR.1, by omega⟩ hcs hn hst hsum hdg k
theorem suX11_177 {l : Launch} {R : Room} {Qf : List Frame → Array Value → State → State → Prop} {Ex : State → Prop} {D : va_G} {cy : Nat → ClassId} {b : Nat} {cc : ByteArray} {nL : Nat} {ret : Option FieldType} {nm : String} {cells slots : Nat} {f : gMem} {pc : Nat} {lv : List (Nat × Value)} {st : List Value} {d' mc' ms' : Nat} {As st0 : List Value} {Pu : Nat → Nat → Option Value → gMem → Prop} {a : Nat} {fs : List Value} (hM : gU l D cy b yX1_decide cX1_decide 10 (some .int) d' mc' ms' (.ref a :: As) f gTt Pu) (hf : f a = some (.inr (1, fs))) (hR : d' + 1 ≤ R.frames ∧ 64 * (d' + 1) ≤ R.locals) (hcs : cells + mc' ≤ R.cells ∧ slots + ms' ≤ R.slots) (hn : As.length = 5) (hst : st0 = As.reverse ++ .ref a :: st) (hsum : (st.map fun v => v.category).sum ≤ 8) (hdg : decode cc pc = .ok (.invokevirtual 177, 3)) (k : ∀ (kk nn : Nat) (r : Option Value) (f2 : gMem), Pu kk nn r f2 → gG l R Qf Ex D cy b cc nL ret RX11 nm (cells + kk) (slots + nn) f2 (pc + 3) lv (r.toList ++ st)) : gG l R Qf Ex D cy b cc nL ret RX11 nm cells slots f pc lv st0 := gz_callVU (T := TX1) (N := 4) (n := 5) hM gEok_tt (fun _ _ => trivial) hf rfl wd_638 ⟨wd_639, wd_640, wd_641, wd_36⟩ ⟨rfl, by decide, by decide, by decide +kernel⟩ ⟨hR.1, by omega⟩ hcs hn hst hsum hdg k
theorem suX4_41 {l : Launch} {R : Room} {Qf : List Frame → Array Value → State → State → Prop} {Ex : State → Prop} {D : va_G} {cy : Nat → ClassId} {b : Nat} {cc : ByteArray} {nL : Nat} {ret : Option FieldType} {nm : String} {cells slots : Nat} {f : gMem} {pc : Nat} {lv : List (Nat × Value)} {st : List Value} {d' mc' ms' : Nat} {As st0 : List Value} {Pu : Nat → Nat → Option Value → gMem → Prop} {a : Nat} {fs : List Value} (hM : gU l D cy b yX4_makeRoom cX4_makeRoom 3 none d' mc' ms' (.ref a :: As) f gTt Pu) (hf : f a = some (.inr (4, fs))) (hR : d' + 1 ≤ R.frames ∧ 64 * (d' + 1) ≤ R.locals) (hcs : cells + mc' ≤ R.cells ∧ slots + ms' ≤ R.slots) (hn : As.length = 0) (hst : st0 = As.reverse ++ .ref a :: st) (hsum : (st.map fun v => v.category).sum ≤ 8) (hdg : decode cc pc = .ok (.invokevirtual 41, 3)) (k : ∀ (kk nn : Nat) (r : Option Value) (f2 : gMem), Pu kk nn r f2 → gG l R Qf Ex D cy b cc nL ret RX4 nm (cells + kk) (slots + nn) f2 (pc + 3) lv (r.toList ++ st)) : gG l R Qf Ex D cy b cc nL ret RX4 nm cells slots f pc lv st0 := gz_callVU (T := TX4) (N := 9) (n := 0) hM gEok_tt (fun _ _ => trivial) hf rfl wd_245 ⟨wd_246, wd_247, wd_248, wd_54⟩ ⟨rfl, by decide, by decide, by decide +kernel⟩ ⟨hR.1, by omega⟩ hcs hn hst hsum hdg k
theorem enn {f : gMem} {en e2 a : Nat} {e : va_E} (h : e2 = en ∨ f e2 = none) (ha : f a = some e) (hne : en ≠ a) : e2 ≠ a := by
  rcases h with h | h
  · rw [h]; exact hne
  · intro q; rw [q, ha] at h; cases h
theorem enx {f f1 : gMem} {S : List Nat} {en e2 e3 : Nat} {e : va_E} (h : e2 = en ∨ f e2 = none) (h1 : e3 = e2 ∨ f1 e3 = none) (hr : fr S f f1) (hS : ∀ x, x ∈ S → x ≠ e3 ∨ x = en) : e3 = en ∨ f e3 = none := by
  rcases h1 with h1 | h1
  · rw [h1]; exact h
  · cases q : f e3 with
    | none => exact Or.inr rfl
    | some y =>
      by_cases m : e3 ∈ S
      · rcases hS e3 m with z | z
        · exact absurd rfl z
        · exact Or.inl z
      · rw [hr _ _ q m] at h1; cases h1

set_option maxHeartbeats 4000000 in
set_option maxRecDepth 100000 in
theorem l_X4_makeRoom {l : Launch} {D : va_G} {cy : Nat → ClassId} {b : Nat} {f : gMem} {lg en ge re gv tk am ne : Nat} {sz lo gi : Int32} {eg : Nat → Int32}  {e2 n2 : Nat}  {mc ms cu su : Nat} (hl : 0 ≤ sz.toInt ∧ sz.toInt ≤ 2000 ∧ 6 * sz.toInt ≤ ne ∧ ne ≤ 24000) (hz : sz.toInt < 2000) (hN : n2 ≤ 24000 ∧ 6 * (sz.toInt + 1) ≤ n2) (hu : cu ≤ mc ∧ su ≤ ms ∧ cu + ne ≤ n2 ∧ su + 2 * ne ≤ 2 * n2) (hnn : f e2 = none) (hne2 : en ≠ e2) : ∀ (k : Nat) (i : Int32) (g2 : Nat → Int32) (fm : gMem), fr [lg, e2] f fm → (fm lg = some (.inr (4, [.ref en, .int sz, .int lo, .ref ge, .ref re, .ref gv, .ref tk, .ref am, .int gi]))) → (fm en = some (.inl (cy 0, ne, .inl (eg)))) → (fm e2 = some (.inl (cy 0, n2, .inl (g2)))) → (0 ≤ i.toInt ∧ 0 < k ∧ (i.toInt < ne → ne - i.toInt < (k : Int))) → gG l (gRm 1 mc ms) (gQuf D b (fun kk nn r f2 => ∃ (e3 n3 : Nat) (g4 : Nat → Int32), r = none ∧ f2 lg = some (.inr (4, [.ref e3, .int sz, .int lo, .ref ge, .ref re, .ref gv, .ref tk, .ref am, .int gi])) ∧ f2 e3 = some (.inl (cy 0, n3, .inl (g4))) ∧ (6 * (sz.toInt + 1) ≤ n3 ∧ n3 ≤ 24000) ∧ (kk + ne ≤ n3 ∧ nn + 2 * ne ≤ 2 * n3) ∧ (e3 = en ∨ f e3 = none) ∧ fr [lg] f f2) mc ms) gTt D cy b cX4_makeRoom 3 none RX4 "makeRoom" (cu) (su) fm 38 [(2, .int i), (1, .ref e2), (0, .ref lg)] [] := by
  intro k
  induction k with
  | zero =>
    intro i g2 fm hfr hlg hen he2 hk
    exfalso; omega
  | succ k ih =>
    intro i g2 fm hfr hlg hen he2 hk
    refine gz_iload_n dX4_makeRoom_38 rfl rfl ?_
    refine gz_aload_n dX4_makeRoom_39 rfl rfl ?_
    refine sgX4_9 hlg rfl dX4_makeRoom_40 ?_
    refine gz_alen0 (v := Int32.ofNat ne) hen rfl dX4_makeRoom_43 ?_
    refine gz_icmp_ge (tgt := 68) dX4_makeRoom_44 (by decide) (fun c_44 => ?_) (fun c_44 => ?_)
    ·
      refine gz_aload_n dX4_makeRoom_68 rfl rfl ?_
      refine gz_aload_n dX4_makeRoom_69 rfl rfl ?_
      refine spX4_9 hlg  (Nat.le_of_ble_eq_true rfl) dX4_makeRoom_70 ?_
      obtain ⟨f1, hf1⟩ : ∃ gg : gMem, gg = va_up fm lg (some (.inr (4, [.ref e2, .int sz, .int lo, .ref ge, .ref re, .ref gv, .ref tk, .ref am, .int gi]))) := ⟨_, rfl⟩
      refine gz_eq (f2 := f1) hf1.symm rfl rfl rfl ?_
      have hen_1 : f1 en = some (.inl (cy 0, ne, .inl (eg))) := by rw [hf1, va_up_ne _ _ (cne hen hlg (by simp))]; exact hen
      have he2_1 : f1 e2 = some (.inl (cy 0, n2, .inl (g2))) := by rw [hf1, va_up_ne _ _ (cne he2 hlg (by simp))]; exact he2
      have hlg_1 : f1 lg = some (.inr (4, [.ref e2, .int sz, .int lo, .ref ge, .ref re, .ref gv, .ref tk, .ref am, .int gi])) := by rw [hf1]; exact va_up_self _ _ _
      exact gz_vretU rfl dX4_makeRoom_73 hu.1 hu.2.1 (⟨_, _, _, rfl, hlg_1, he2_1, ⟨by omega, by omega⟩, ⟨by omega, by omega⟩, Or.inr hnn, (fr_le (by rw [hf1]; exact fr_up hfr (by simp)) (by intro z hz2; simp only [List.mem_cons, List.not_mem_nil, or_false] at hz2; rcases hz2 with rfl | rfl; exact Or.inl (by simp); exact Or.inr hnn))⟩)
    ·
      refine gz_iload_n dX4_makeRoom_47 rfl rfl ?_
      refine gz_aload_n dX4_makeRoom_48 rfl rfl ?_
      refine gz_alen0 (v := Int32.ofNat n2) he2 rfl dX4_makeRoom_49 ?_
      refine gz_icmp_ge (tgt := 68) dX4_makeRoom_50 (by decide) (fun c_50 => ?_) (fun c_50 => ?_)
      ·
        refine gz_aload_n dX4_makeRoom_68 rfl rfl ?_
        refine gz_aload_n dX4_makeRoom_69 rfl rfl ?_
        refine spX4_9 hlg  (Nat.le_of_ble_eq_true rfl) dX4_makeRoom_70 ?_
        obtain ⟨f2, hf2⟩ : ∃ gg : gMem, gg = va_up fm lg (some (.inr (4, [.ref e2, .int sz, .int lo, .ref ge, .ref re, .ref gv, .ref tk, .ref am, .int gi]))) := ⟨_, rfl⟩
        refine gz_eq (f2 := f2) hf2.symm rfl rfl rfl ?_
        have hen_2 : f2 en = some (.inl (cy 0, ne, .inl (eg))) := by rw [hf2, va_up_ne _ _ (cne hen hlg (by simp))]; exact hen
        have he2_2 : f2 e2 = some (.inl (cy 0, n2, .inl (g2))) := by rw [hf2, va_up_ne _ _ (cne he2 hlg (by simp))]; exact he2
        have hlg_2 : f2 lg = some (.inr (4, [.ref e2, .int sz, .int lo, .ref ge, .ref re, .ref gv, .ref tk, .ref am, .int gi])) := by rw [hf2]; exact va_up_self _ _ _
        exact gz_vretU rfl dX4_makeRoom_73 hu.1 hu.2.1 (⟨_, _, _, rfl, hlg_2, he2_2, ⟨by omega, by omega⟩, ⟨by omega, by omega⟩, Or.inr hnn, (fr_le (by rw [hf2]; exact fr_up hfr (by simp)) (by intro z hz2; simp only [List.mem_cons, List.not_mem_nil, or_false] at hz2; rcases hz2 with rfl | rfl; exact Or.inl (by simp); exact Or.inr hnn))⟩)
      ·
        refine gz_aload_n dX4_makeRoom_53 rfl rfl ?_
        refine gz_iload_n dX4_makeRoom_54 rfl rfl ?_
        refine gz_aload_n dX4_makeRoom_55 rfl rfl ?_
        refine sgX4_9 hlg rfl dX4_makeRoom_56 ?_
        refine gz_iload_n dX4_makeRoom_59 rfl rfl ?_
        refine gz_iald hen ((by have e13 : (13 : Int32).toInt = 13 := rfl; have e0 : (0 : Int32).toInt = 0 := rfl; have e2 : (2 : Int32).toInt = 2 := rfl; have e1 : (1 : Int32).toInt = 1 := rfl; have e6 : (6 : Int32).toInt = 6 := rfl; have em2 : (-2 : Int32).toInt = -2 := rfl; have e6 : (6 : Int32).toInt = 6 := rfl; have e8 : (8 : Int32).toInt = 8 := rfl; have e10 : (10 : Int32).toInt = 10 := rfl; have e18 : (18 : Int32).toInt = 18 := rfl; have eN : (Int32.ofNat ne).toInt = ne := ofN_toInt (by omega); have eM : (Int32.ofNat n2).toInt = n2 := ofN_toInt (by omega); simp only [fl_le] at c_44 c_50; exact vin_T (rfl : i.toInt = i.toInt) (by omega) (by omega))) dX4_makeRoom_60 ?_
        refine gz_iast he2 ((by have e13 : (13 : Int32).toInt = 13 := rfl; have e0 : (0 : Int32).toInt = 0 := rfl; have e2 : (2 : Int32).toInt = 2 := rfl; have e1 : (1 : Int32).toInt = 1 := rfl; have e6 : (6 : Int32).toInt = 6 := rfl; have em2 : (-2 : Int32).toInt = -2 := rfl; have e6 : (6 : Int32).toInt = 6 := rfl; have e8 : (8 : Int32).toInt = 8 := rfl; have e10 : (10 : Int32).toInt = 10 := rfl; have e18 : (18 : Int32).toInt = 18 := rfl; have eN : (Int32.ofNat ne).toInt = ne := ofN_toInt (by omega); have eM : (Int32.ofNat n2).toInt = n2 := ofN_toInt (by omega); simp only [fl_le] at c_44 c_50; exact vin_T (rfl : i.toInt = i.toInt) (by omega) (by omega))) dX4_makeRoom_61 ?_
        obtain ⟨f3, hf3⟩ : ∃ gg : gMem, gg = va_up fm e2 (some (.inl (cy 0, n2, .inl (upd g2 (Int32.toNatClampNeg i) (eg (Int32.toNatClampNeg i)))))) := ⟨_, rfl⟩
        refine gz_eq (f2 := f3) hf3.symm rfl rfl rfl ?_
        have hlg_3 : f3 lg = some (.inr (4, [.ref en, .int sz, .int lo, .ref ge, .ref re, .ref gv, .ref tk, .ref am, .int gi])) := by rw [hf3, va_up_ne _ _ (cne hlg he2 (by simp))]; exact hlg
        have hen_3 : f3 en = some (.inl (cy 0, ne, .inl (eg))) := by rw [hf3, va_up_ne _ _ (hne2)]; exact hen
        have he2_3 : f3 e2 = some (.inl (cy 0, n2, .inl (upd g2 (Int32.toNatClampNeg i) (eg (Int32.toNatClampNeg i))))) := by rw [hf3]; exact va_up_self _ _ _
        refine gz_iinc (v := (i + 1)) (lv' := [(2, .int (i + 1)), (1, .ref e2), (0, .ref lg)]) dX4_makeRoom_62 rfl rfl (by decide) rfl ?_
        refine gz_goto (tgt := 38) dX4_makeRoom_65 (by decide) ?_
        refine gz_sub (lv' := [(2, .int (i + 1)), (1, .ref e2), (0, .ref lg)]) (by simp [List.lookup]) ?_
        exact ih (i + 1) (upd g2 (Int32.toNatClampNeg i) (eg (Int32.toNatClampNeg i))) _ (by rw [hf3]; exact fr_up hfr (by simp)) hlg_3 hen_3 he2_3 (by have e13 : (13 : Int32).toInt = 13 := rfl; have e0 : (0 : Int32).toInt = 0 := rfl; have e2 : (2 : Int32).toInt = 2 := rfl; have e1 : (1 : Int32).toInt = 1 := rfl; have e6 : (6 : Int32).toInt = 6 := rfl; have em2 : (-2 : Int32).toInt = -2 := rfl; have e6 : (6 : Int32).toInt = 6 := rfl; have e8 : (8 : Int32).toInt = 8 := rfl; have e10 : (10 : Int32).toInt = 10 := rfl; have e18 : (18 : Int32).toInt = 18 := rfl; have eN : (Int32.ofNat ne).toInt = ne := ofN_toInt (by omega); simp only [fl_le] at c_44; have hx := T_add (rfl : i.toInt = i.toInt) e1 (by omega); omega)

set_option maxHeartbeats 4000000 in
set_option maxRecDepth 100000 in
theorem k_X4_makeRoom {l : Launch} {D : va_G} {cy : Nat → ClassId} {b : Nat} {f : gMem} {lg en ge re gv tk am ne : Nat} {sz lo gi : Int32} {eg : Nat → Int32} (hlg : f lg = some (.inr (4, [.ref en, .int sz, .int lo, .ref ge, .ref re, .ref gv, .ref tk, .ref am, .int gi]))) (hen : f en = some (.inl (cy 0, ne, .inl (eg)))) (hl : 0 ≤ sz.toInt ∧ sz.toInt ≤ 2000 ∧ 6 * sz.toInt ≤ ne ∧ ne ≤ 24000) (hz : sz.toInt < 2000) : gU l D cy b yX4_makeRoom cX4_makeRoom 3 none 1 (24000 - ne) (2 * (24000 - ne)) [.ref lg] f gTt (fun kk nn r f2 => ∃ (e2 n2 : Nat) (g2 : Nat → Int32), r = none ∧ f2 lg = some (.inr (4, [.ref e2, .int sz, .int lo, .ref ge, .ref re, .ref gv, .ref tk, .ref am, .int gi])) ∧ f2 e2 = some (.inl (cy 0, n2, .inl (g2))) ∧ (6 * (sz.toInt + 1) ≤ n2 ∧ n2 ≤ 24000) ∧ (kk + ne ≤ n2 ∧ nn + 2 * ne ≤ 2 * n2) ∧ (e2 = en ∨ f e2 = none) ∧ fr [lg] f f2) := by
  refine gU_of (by decide) (Nat.le_of_ble_eq_true rfl) ?_
  show gG l _ _ _ D cy b cX4_makeRoom 3 _ RX4 "makeRoom" 0 0 f 0 [(0, .ref lg)] []
  refine gz_aload_n dX4_makeRoom_0 rfl rfl ?_
  refine sgX4_35 hlg rfl dX4_makeRoom_1 ?_
  refine gz_iconst (v := 1) dX4_makeRoom_4 (by decide) ?_
  refine gz_iadd dX4_makeRoom_5 ?_
  refine gz_bipush (v := 6) dX4_makeRoom_6 (by decide) ?_
  refine gz_imul dX4_makeRoom_8 ?_
  refine gz_aload_n dX4_makeRoom_9 rfl rfl ?_
  refine sgX4_9 hlg rfl dX4_makeRoom_10 ?_
  refine gz_alen0 (v := Int32.ofNat ne) hen rfl dX4_makeRoom_13 ?_
  refine gz_icmp_gt (tgt := 18) dX4_makeRoom_14 (by decide) (fun c_14 => ?_) (fun c_14 => ?_)
  ·
    have hgr : (ne : Int) < 6 * (sz.toInt + 1) := by have e13 : (13 : Int32).toInt = 13 := rfl; have e0 : (0 : Int32).toInt = 0 := rfl; have e2 : (2 : Int32).toInt = 2 := rfl; have e1 : (1 : Int32).toInt = 1 := rfl; have e6 : (6 : Int32).toInt = 6 := rfl; have em2 : (-2 : Int32).toInt = -2 := rfl; have e6 : (6 : Int32).toInt = 6 := rfl; have e8 : (8 : Int32).toInt = 8 := rfl; have e10 : (10 : Int32).toInt = 10 := rfl; have e18 : (18 : Int32).toInt = 18 := rfl; have eN : (Int32.ofNat ne).toInt = ne := ofN_toInt (by omega); have hx := T_add (rfl : sz.toInt = sz.toInt) e1 (by omega); have hy := T_mul hx e6 (by omega); rw [fl_lt, eN, hy] at c_14; omega
    refine gz_aload_n dX4_makeRoom_18 rfl rfl ?_
    refine sgX4_35 hlg rfl dX4_makeRoom_19 ?_
    refine gz_iconst (v := 1) dX4_makeRoom_22 (by decide) ?_
    refine gz_iadd dX4_makeRoom_23 ?_
    refine gz_iconst (v := 2) dX4_makeRoom_24 (by decide) ?_
    refine gz_imul dX4_makeRoom_25 ?_
    refine gz_iconst (v := 1) dX4_makeRoom_26 (by decide) ?_
    refine scX4_63 (Nat.le_of_ble_eq_true rfl) (Nat.le_of_ble_eq_true rfl) (by simp only [gRm]; omega) (by simp only [gRm]; omega) (Nat.le_of_ble_eq_true rfl) dX4_makeRoom_27 ?_
    refine gz_bipush (v := 6) dX4_makeRoom_30 (by decide) ?_
    refine gz_imul dX4_makeRoom_32 ?_
    refine gz_newa0 (N' := (12 * (sz.toInt.toNat + 1))) (by have e13 : (13 : Int32).toInt = 13 := rfl; have e0 : (0 : Int32).toInt = 0 := rfl; have e2 : (2 : Int32).toInt = 2 := rfl; have e1 : (1 : Int32).toInt = 1 := rfl; have e6 : (6 : Int32).toInt = 6 := rfl; have em2 : (-2 : Int32).toInt = -2 := rfl; have e6 : (6 : Int32).toInt = 6 := rfl; have e8 : (8 : Int32).toInt = 8 := rfl; have e10 : (10 : Int32).toInt = 10 := rfl; have e18 : (18 : Int32).toInt = 18 := rfl; have hx := T_add (rfl : sz.toInt = sz.toInt) e1 (by omega); have hy := T_mul hx e2 (by omega); have hm : (if ((sz + 1) * 2) < 1 then (1 : Int32) else ((sz + 1) * 2)) = ((sz + 1) * 2) := (if_neg (by rw [fl_lt, hy]; omega)); have hz6 := T_mul hy e6 (by omega); rw [hm]; rw [fl_lt, hz6]; omega) (by have e13 : (13 : Int32).toInt = 13 := rfl; have e0 : (0 : Int32).toInt = 0 := rfl; have e2 : (2 : Int32).toInt = 2 := rfl; have e1 : (1 : Int32).toInt = 1 := rfl; have e6 : (6 : Int32).toInt = 6 := rfl; have em2 : (-2 : Int32).toInt = -2 := rfl; have e6 : (6 : Int32).toInt = 6 := rfl; have e8 : (8 : Int32).toInt = 8 := rfl; have e10 : (10 : Int32).toInt = 10 := rfl; have e18 : (18 : Int32).toInt = 18 := rfl; have hx := T_add (rfl : sz.toInt = sz.toInt) e1 (by omega); have hy := T_mul hx e2 (by omega); have hm : (if ((sz + 1) * 2) < 1 then (1 : Int32) else ((sz + 1) * 2)) = ((sz + 1) * 2) := (if_neg (by rw [fl_lt, hy]; omega)); have hz6 := T_mul hy e6 (by omega); rw [hm]; rw [cl_N hz6 (by omega)]; omega) (by show _ * 4 ≤ _; omega) (by simp only [gRm]; omega) (by simp only [gRm]; omega) wd_3 dX4_makeRoom_33 (fun q1 hq1n => ?_)
    obtain ⟨f1, hf1⟩ : ∃ gg : gMem, gg = va_up f q1 (some (.inl (cy 0, (12 * (sz.toInt.toNat + 1)), .inl (fun _ => 0)))) := ⟨_, rfl⟩
    refine gz_eq (f2 := f1) hf1.symm rfl rfl rfl ?_
    have hlg_1 : f1 lg = some (.inr (4, [.ref en, .int sz, .int lo, .ref ge, .ref re, .ref gv, .ref tk, .ref am, .int gi])) := by rw [hf1, va_up_ne _ _ (cnn hlg hq1n)]; exact hlg
    have hen_1 : f1 en = some (.inl (cy 0, ne, .inl (eg))) := by rw [hf1, va_up_ne _ _ (cnn hen hq1n)]; exact hen
    have hq1_1 : f1 q1 = some (.inl (cy 0, (12 * (sz.toInt.toNat + 1)), .inl (fun _ => 0))) := by rw [hf1]; exact va_up_self _ _ _
    refine gz_astore_n (lv' := [(1, .ref q1), (0, .ref lg)]) dX4_makeRoom_35 rfl (by decide) rfl ?_
    refine gz_iconst (v := 0) dX4_makeRoom_36 (by decide) ?_
    refine gz_istore_n (lv' := [(2, .int 0), (1, .ref q1), (0, .ref lg)]) dX4_makeRoom_37 rfl (by decide) rfl ?_
    refine gz_sub (lv' := [(2, .int 0), (1, .ref q1), (0, .ref lg)]) (by simp [List.lookup]) ?_
    exact l_X4_makeRoom hl hz (by omega) ⟨by omega, by omega, by omega, by omega⟩ hq1n (cnn hen hq1n) 24001 0 _ _ (by rw [hf1]; exact fr_up fr_rf (by simp)) hlg_1 hen_1 hq1_1 ⟨by decide, by decide, fun _ => by have e0 : (0 : Int32).toInt = 0 := rfl; omega⟩
  ·
    exact gz_vretU rfl dX4_makeRoom_17 (by omega) (by omega) (⟨_, _, _, rfl, hlg, hen, (by have e13 : (13 : Int32).toInt = 13 := rfl; have e0 : (0 : Int32).toInt = 0 := rfl; have e2 : (2 : Int32).toInt = 2 := rfl; have e1 : (1 : Int32).toInt = 1 := rfl; have e6 : (6 : Int32).toInt = 6 := rfl; have em2 : (-2 : Int32).toInt = -2 := rfl; have e6 : (6 : Int32).toInt = 6 := rfl; have e8 : (8 : Int32).toInt = 8 := rfl; have e10 : (10 : Int32).toInt = 10 := rfl; have e18 : (18 : Int32).toInt = 18 := rfl; have eN : (Int32.ofNat ne).toInt = ne := ofN_toInt (by omega); have hx := T_add (rfl : sz.toInt = sz.toInt) e1 (by omega); have hy := T_mul hx e6 (by omega); rw [fl_lt, eN, hy] at c_14; omega), ⟨by omega, by omega⟩, Or.inl rfl, fr_rf⟩)

set_option maxHeartbeats 4000000 in
set_option maxRecDepth 100000 in
theorem k_X4_pay {l : Launch} {D : va_G} {cy : Nat → ClassId} {b : Nat} {f : gMem} {lg en ge re gv tk am ne : Nat} {sz lo gi : Int32} {eg : Nat → Int32} {lf p so fc : Nat} {nu ho1 ho2 fs_ da co wd : Int32} {ga : Int64} (hlg : f lg = some (.inr (4, [.ref en, .int sz, .int lo, .ref ge, .ref re, .ref gv, .ref tk, .ref am, .int gi]))) (hen : f en = some (.inl (cy 0, ne, .inl (eg)))) (hlf : f lf = some (.inr (5, [.ref p, .int nu, .int ho1, .int ho2, .ref so, .ref fc, .int fs_, .long ga]))) (hl : 0 ≤ sz.toInt ∧ sz.toInt ≤ 2000 ∧ 6 * sz.toInt ≤ ne ∧ ne ≤ 24000) : gU l D cy b yX4_pay cX4_pay 6 none 2 (24000 - ne) (2 * (24000 - ne)) [.ref lg, .ref lf, .int da, .int co, .int wd] f gTt (fun kk nn r f2 => ∃ (e2 n2 : Nat) (g2 : Nat → Int32) (s2 l2 : Int32) (a2 : Int64), r = none ∧ f2 lg = some (.inr (4, [.ref e2, .int s2, .int l2, .ref ge, .ref re, .ref gv, .ref tk, .ref am, .int gi])) ∧ f2 e2 = some (.inl (cy 0, n2, .inl (g2))) ∧ f2 lf = some (.inr (5, [.ref p, .int nu, .int ho1, .int ho2, .ref so, .ref fc, .int fs_, .long a2])) ∧ (0 ≤ s2.toInt ∧ s2.toInt ≤ 2000 ∧ 6 * s2.toInt ≤ n2 ∧ n2 ≤ 24000) ∧ (kk + ne ≤ n2 ∧ nn + 2 * ne ≤ 2 * n2) ∧ (e2 = en ∨ f e2 = none) ∧ fr [lg, en, lf] f f2) := by
  refine gU_of (by decide) (Nat.le_of_ble_eq_true rfl) ?_
  show gG l _ _ _ D cy b cX4_pay 6 _ RX4 "pay" 0 0 f 0 [(0, .ref lg), (1, .ref lf), (2, .int da), (3, .int co), (4, .int wd)] []
  refine gz_iload_n dX4_pay_0 rfl rfl ?_
  refine gz_if_ne (tgt := 5) dX4_pay_1 (by decide) (fun c_1 => ?_) (fun c_1 => ?_)
  ·
    refine gz_aload_n dX4_pay_5 rfl rfl ?_
    refine sgX4_35 hlg rfl dX4_pay_6 ?_
    refine gz_sipush (v := 2000) dX4_pay_9 (by decide) ?_
    refine gz_icmp_lt (tgt := 26) dX4_pay_12 (by decide) (fun c_12 => ?_) (fun c_12 => ?_)
    ·
      refine gz_aload_n dX4_pay_26 rfl rfl ?_
      refine suX4_41 (k_X4_makeRoom hlg hen hl (by have e2k : (2000 : Int32).toInt = 2000 := rfl; simp only [fl_lt] at c_12; omega)) hlg ⟨(Nat.le_of_ble_eq_true rfl), (Nat.le_of_ble_eq_true rfl)⟩ ⟨(by simp only [gRm]; omega), (by simp only [gRm]; omega)⟩ rfl rfl (Nat.le_of_ble_eq_true rfl) dX4_pay_27 ?_
      rintro kk_1 nn_1 r_1 f1 ⟨e_1, n_1, g_1, rfl, hlg_1, he_1, hz_1, hu_1, hc_1, hr1⟩
      refine gz_eq (st2 := []) rfl rfl rfl rfl ?_
      have hen_1 : f1 en = some (.inl (cy 0, ne, .inl (eg))) := hr1 _ _ hen (by simp only [List.mem_cons, List.not_mem_nil, or_false, not_or]; exact cne hen hlg (by simp))
      have hlf_1 : f1 lf = some (.inr (5, [.ref p, .int nu, .int ho1, .int ho2, .ref so, .ref fc, .int fs_, .long ga])) := hr1 _ _ hlf (by simp only [List.mem_cons, List.not_mem_nil, or_false, not_or]; exact cne hlf hlg (by simp))
      refine gz_aload_n dX4_pay_30 rfl rfl ?_
      refine gz_dup dX4_pay_31 rfl ?_
      refine sgX4_35 hlg_1 rfl dX4_pay_32 ?_
      refine gz_iconst (v := 1) dX4_pay_35 (by decide) ?_
      refine gz_iadd dX4_pay_36 ?_
      refine spX4_35 hlg_1  (Nat.le_of_ble_eq_true rfl) dX4_pay_37 ?_
      obtain ⟨f2, hf2⟩ : ∃ gg : gMem, gg = va_up f1 lg (some (.inr (4, [.ref e_1, .int (sz + 1), .int lo, .ref ge, .ref re, .ref gv, .ref tk, .ref am, .int gi]))) := ⟨_, rfl⟩
      refine gz_eq (f2 := f2) hf2.symm rfl rfl rfl ?_
      have hlf_2 : f2 lf = some (.inr (5, [.ref p, .int nu, .int ho1, .int ho2, .ref so, .ref fc, .int fs_, .long ga])) := by rw [hf2, va_up_ne _ _ (cne hlf_1 hlg_1 (by simp))]; exact hlf_1
      have he_2 : f2 e_1 = some (.inl (cy 0, n_1, .inl (g_1))) := by rw [hf2, va_up_ne _ _ (cne he_1 hlg_1 (by simp))]; exact he_1
      have hlg_2 : f2 lg = some (.inr (4, [.ref e_1, .int (sz + 1), .int lo, .ref ge, .ref re, .ref gv, .ref tk, .ref am, .int gi])) := by rw [hf2]; exact va_up_self _ _ _
      refine gz_aload_n dX4_pay_40 rfl rfl ?_
      refine sgX4_35 hlg_2 rfl dX4_pay_41 ?_
      refine gz_iconst (v := 1) dX4_pay_44 (by decide) ?_
      refine gz_isub dX4_pay_45 ?_
      refine gz_istore (lv' := [(5, .int ((sz + 1) - 1)), (0, .ref lg), (1, .ref lf), (2, .int da), (3, .int co), (4, .int wd)]) dX4_pay_46 (by decide) rfl ?_
      refine gz_aload_n dX4_pay_48 rfl rfl ?_
      refine gz_iload dX4_pay_49 rfl ?_
      refine gz_iconst (v := 0) dX4_pay_51 (by decide) ?_
      refine gz_aload_n dX4_pay_52 rfl rfl ?_
      refine sgX4_44 hlf_2 rfl dX4_pay_53 ?_
      obtain ⟨x1, hx1⟩ : ∃ x0, (lsetF n_1 g_1 ((sz + 1) - 1) 0 nu) = x0 := ⟨_, rfl⟩
      refine scX4_49 (k_X4_set (k := ((sz + 1) - 1)) (x := 0) (y := nu) hlg_2 he_2 (by omega)) hlg_2 ⟨(Nat.le_of_ble_eq_true rfl), (Nat.le_of_ble_eq_true rfl)⟩ ⟨(by simp only [gRm]; omega), (by simp only [gRm]; omega)⟩ rfl rfl (Nat.le_of_ble_eq_true rfl) dX4_pay_56 ?_
      rintro f3 ⟨he_3, hr3⟩; rw [hx1] at he_3
      have hlf_3 : f3 lf = some (.inr (5, [.ref p, .int nu, .int ho1, .int ho2, .ref so, .ref fc, .int fs_, .long ga])) := hr3 _ _ hlf_2 (by simp only [List.mem_cons, List.not_mem_nil, or_false, not_or]; exact cne hlf_2 he_2 (by simp))
      have hlg_3 : f3 lg = some (.inr (4, [.ref e_1, .int (sz + 1), .int lo, .ref ge, .ref re, .ref gv, .ref tk, .ref am, .int gi])) := hr3 _ _ hlg_2 (by simp only [List.mem_cons, List.not_mem_nil, or_false, not_or]; exact cne hlg_2 he_2 (by simp))
      refine gz_aload_n dX4_pay_59 rfl rfl ?_
      refine gz_iload dX4_pay_60 rfl ?_
      refine gz_iconst (v := 1) dX4_pay_62 (by decide) ?_
      refine gz_iload_n dX4_pay_63 rfl rfl ?_
      obtain ⟨x2, hx2⟩ : ∃ x0, (lsetF n_1 x1 ((sz + 1) - 1) 1 da) = x0 := ⟨_, rfl⟩
      refine scX4_49 (k_X4_set (k := ((sz + 1) - 1)) (x := 1) (y := da) hlg_3 he_3 (by omega)) hlg_3 ⟨(Nat.le_of_ble_eq_true rfl), (Nat.le_of_ble_eq_true rfl)⟩ ⟨(by simp only [gRm]; omega), (by simp only [gRm]; omega)⟩ rfl rfl (Nat.le_of_ble_eq_true rfl) dX4_pay_64 ?_
      rintro f4 ⟨he_4, hr4⟩; rw [hx2] at he_4
      have hlf_4 : f4 lf = some (.inr (5, [.ref p, .int nu, .int ho1, .int ho2, .ref so, .ref fc, .int fs_, .long ga])) := hr4 _ _ hlf_3 (by simp only [List.mem_cons, List.not_mem_nil, or_false, not_or]; exact cne hlf_3 he_3 (by simp))
      have hlg_4 : f4 lg = some (.inr (4, [.ref e_1, .int (sz + 1), .int lo, .ref ge, .ref re, .ref gv, .ref tk, .ref am, .int gi])) := hr4 _ _ hlg_3 (by simp only [List.mem_cons, List.not_mem_nil, or_false, not_or]; exact cne hlg_3 he_3 (by simp))
      refine gz_aload_n dX4_pay_67 rfl rfl ?_
      refine gz_iload dX4_pay_68 rfl ?_
      refine gz_iconst (v := 2) dX4_pay_70 (by decide) ?_
      refine gz_iload_n dX4_pay_71 rfl rfl ?_
      obtain ⟨x3, hx3⟩ : ∃ x0, (lsetF n_1 x2 ((sz + 1) - 1) 2 co) = x0 := ⟨_, rfl⟩
      refine scX4_49 (k_X4_set (k := ((sz + 1) - 1)) (x := 2) (y := co) hlg_4 he_4 (by omega)) hlg_4 ⟨(Nat.le_of_ble_eq_true rfl), (Nat.le_of_ble_eq_true rfl)⟩ ⟨(by simp only [gRm]; omega), (by simp only [gRm]; omega)⟩ rfl rfl (Nat.le_of_ble_eq_true rfl) dX4_pay_72 ?_
      rintro f5 ⟨he_5, hr5⟩; rw [hx3] at he_5
      have hlf_5 : f5 lf = some (.inr (5, [.ref p, .int nu, .int ho1, .int ho2, .ref so, .ref fc, .int fs_, .long ga])) := hr5 _ _ hlf_4 (by simp only [List.mem_cons, List.not_mem_nil, or_false, not_or]; exact cne hlf_4 he_4 (by simp))
      have hlg_5 : f5 lg = some (.inr (4, [.ref e_1, .int (sz + 1), .int lo, .ref ge, .ref re, .ref gv, .ref tk, .ref am, .int gi])) := hr5 _ _ hlg_4 (by simp only [List.mem_cons, List.not_mem_nil, or_false, not_or]; exact cne hlg_4 he_4 (by simp))
      refine gz_aload_n dX4_pay_75 rfl rfl ?_
      refine gz_iload dX4_pay_76 rfl ?_
      refine gz_iconst (v := 3) dX4_pay_78 (by decide) ?_
      refine gz_iload dX4_pay_79 rfl ?_
      obtain ⟨x4, hx4⟩ : ∃ x0, (lsetF n_1 x3 ((sz + 1) - 1) 3 wd) = x0 := ⟨_, rfl⟩
      refine scX4_49 (k_X4_set (k := ((sz + 1) - 1)) (x := 3) (y := wd) hlg_5 he_5 (by omega)) hlg_5 ⟨(Nat.le_of_ble_eq_true rfl), (Nat.le_of_ble_eq_true rfl)⟩ ⟨(by simp only [gRm]; omega), (by simp only [gRm]; omega)⟩ rfl rfl (Nat.le_of_ble_eq_true rfl) dX4_pay_81 ?_
      rintro f6 ⟨he_6, hr6⟩; rw [hx4] at he_6
      have hlf_6 : f6 lf = some (.inr (5, [.ref p, .int nu, .int ho1, .int ho2, .ref so, .ref fc, .int fs_, .long ga])) := hr6 _ _ hlf_5 (by simp only [List.mem_cons, List.not_mem_nil, or_false, not_or]; exact cne hlf_5 he_5 (by simp))
      have hlg_6 : f6 lg = some (.inr (4, [.ref e_1, .int (sz + 1), .int lo, .ref ge, .ref re, .ref gv, .ref tk, .ref am, .int gi])) := hr6 _ _ hlg_5 (by simp only [List.mem_cons, List.not_mem_nil, or_false, not_or]; exact cne hlg_5 he_5 (by simp))
      refine gz_aload_n dX4_pay_84 rfl rfl ?_
      refine gz_iload dX4_pay_85 rfl ?_
      refine gz_iconst (v := 4) dX4_pay_87 (by decide) ?_
      refine gz_aload_n dX4_pay_88 rfl rfl ?_
      refine sgX4_53 hlf_6 rfl dX4_pay_89 ?_
      obtain ⟨x5, hx5⟩ : ∃ x0, (lsetF n_1 x4 ((sz + 1) - 1) 4 ho1) = x0 := ⟨_, rfl⟩
      refine scX4_49 (k_X4_set (k := ((sz + 1) - 1)) (x := 4) (y := ho1) hlg_6 he_6 (by omega)) hlg_6 ⟨(Nat.le_of_ble_eq_true rfl), (Nat.le_of_ble_eq_true rfl)⟩ ⟨(by simp only [gRm]; omega), (by simp only [gRm]; omega)⟩ rfl rfl (Nat.le_of_ble_eq_true rfl) dX4_pay_92 ?_
      rintro f7 ⟨he_7, hr7⟩; rw [hx5] at he_7
      have hlf_7 : f7 lf = some (.inr (5, [.ref p, .int nu, .int ho1, .int ho2, .ref so, .ref fc, .int fs_, .long ga])) := hr7 _ _ hlf_6 (by simp only [List.mem_cons, List.not_mem_nil, or_false, not_or]; exact cne hlf_6 he_6 (by simp))
      have hlg_7 : f7 lg = some (.inr (4, [.ref e_1, .int (sz + 1), .int lo, .ref ge, .ref re, .ref gv, .ref tk, .ref am, .int gi])) := hr7 _ _ hlg_6 (by simp only [List.mem_cons, List.not_mem_nil, or_false, not_or]; exact cne hlg_6 he_6 (by simp))
      refine gz_aload_n dX4_pay_95 rfl rfl ?_
      refine gz_iload dX4_pay_96 rfl ?_
      refine gz_iconst (v := 5) dX4_pay_98 (by decide) ?_
      refine gz_aload_n dX4_pay_99 rfl rfl ?_
      refine sgX4_56 hlf_7 rfl dX4_pay_100 ?_
      obtain ⟨x6, hx6⟩ : ∃ x0, (lsetF n_1 x5 ((sz + 1) - 1) 5 ho2) = x0 := ⟨_, rfl⟩
      refine scX4_49 (k_X4_set (k := ((sz + 1) - 1)) (x := 5) (y := ho2) hlg_7 he_7 (by omega)) hlg_7 ⟨(Nat.le_of_ble_eq_true rfl), (Nat.le_of_ble_eq_true rfl)⟩ ⟨(by simp only [gRm]; omega), (by simp only [gRm]; omega)⟩ rfl rfl (Nat.le_of_ble_eq_true rfl) dX4_pay_103 ?_
      rintro f8 ⟨he_8, hr8⟩; rw [hx6] at he_8
      have hlf_8 : f8 lf = some (.inr (5, [.ref p, .int nu, .int ho1, .int ho2, .ref so, .ref fc, .int fs_, .long ga])) := hr8 _ _ hlf_7 (by simp only [List.mem_cons, List.not_mem_nil, or_false, not_or]; exact cne hlf_7 he_7 (by simp))
      have hlg_8 : f8 lg = some (.inr (4, [.ref e_1, .int (sz + 1), .int lo, .ref ge, .ref re, .ref gv, .ref tk, .ref am, .int gi])) := hr8 _ _ hlg_7 (by simp only [List.mem_cons, List.not_mem_nil, or_false, not_or]; exact cne hlg_7 he_7 (by simp))
      refine gz_aload_n dX4_pay_106 rfl rfl ?_
      refine gz_dup dX4_pay_107 rfl ?_
      refine sgX4_59 hlf_8 rfl dX4_pay_108 ?_
      refine gz_iload_n dX4_pay_111 rfl rfl ?_
      refine gz_i2l dX4_pay_112 ?_
      refine gz_ladd dX4_pay_113 ?_
      refine spX4_59 hlf_8  (Nat.le_of_ble_eq_true rfl) dX4_pay_114 ?_
      obtain ⟨f9, hf9⟩ : ∃ gg : gMem, gg = va_up f8 lf (some (.inr (5, [.ref p, .int nu, .int ho1, .int ho2, .ref so, .ref fc, .int fs_, .long (ga + co.toInt64)]))) := ⟨_, rfl⟩
      refine gz_eq (f2 := f9) hf9.symm rfl rfl rfl ?_
      have hlg_9 : f9 lg = some (.inr (4, [.ref e_1, .int (sz + 1), .int lo, .ref ge, .ref re, .ref gv, .ref tk, .ref am, .int gi])) := by rw [hf9, va_up_ne _ _ (cne hlg_8 hlf_8 (by simp))]; exact hlg_8
      have he_9 : f9 e_1 = some (.inl (cy 0, n_1, .inl (x6))) := by rw [hf9, va_up_ne _ _ (cne he_8 hlf_8 (by simp))]; exact he_8
      have hlf_9 : f9 lf = some (.inr (5, [.ref p, .int nu, .int ho1, .int ho2, .ref so, .ref fc, .int fs_, .long (ga + co.toInt64)])) := by rw [hf9]; exact va_up_self _ _ _
      exact gz_vretU rfl dX4_pay_117 (by omega) (by omega) (⟨_, _, _, _, _, _, rfl, hlg_9, he_9, hlf_9, (by have e1 : (1 : Int32).toInt = 1 := rfl; have e2k : (2000 : Int32).toInt = 2000 := rfl; simp only [fl_lt] at c_12; have hx := T_add (rfl : sz.toInt = sz.toInt) e1 (by omega); rw [hx]; omega), ⟨by omega, by omega⟩, hc_1, (fr_le (S := [lg, e_1, lf]) (by rw [hf9]; exact fr_up (fr_tr (fr_tr (fr_tr (fr_tr (fr_tr (fr_tr (by rw [hf2]; exact fr_up (fr_tr fr_rf (fr_mo hr1 (by simp))) (by simp)) (fr_mo hr3 (by simp))) (fr_mo hr4 (by simp))) (fr_mo hr5 (by simp))) (fr_mo hr6 (by simp))) (fr_mo hr7 (by simp))) (fr_mo hr8 (by simp))) (by simp)) (by intro z hz2; simp only [List.mem_cons, List.not_mem_nil, or_false] at hz2; rcases hz2 with rfl | rfl | rfl; exact Or.inl (by simp); (rcases hc_1 with hq | hq; exact Or.inl (by rw [hq]; simp); exact Or.inr hq); exact Or.inl (by simp)))⟩)
    ·
      refine gz_aload_n dX4_pay_15 rfl rfl ?_
      refine gz_dup dX4_pay_16 rfl ?_
      refine sgX4_38 hlg rfl dX4_pay_17 ?_
      refine gz_iconst (v := 1) dX4_pay_20 (by decide) ?_
      refine gz_iadd dX4_pay_21 ?_
      refine spX4_38 hlg  (Nat.le_of_ble_eq_true rfl) dX4_pay_22 ?_
      obtain ⟨f10, hf10⟩ : ∃ gg : gMem, gg = va_up f lg (some (.inr (4, [.ref en, .int sz, .int (lo + 1), .ref ge, .ref re, .ref gv, .ref tk, .ref am, .int gi]))) := ⟨_, rfl⟩
      refine gz_eq (f2 := f10) hf10.symm rfl rfl rfl ?_
      have hen_10 : f10 en = some (.inl (cy 0, ne, .inl (eg))) := by rw [hf10, va_up_ne _ _ (cne hen hlg (by simp))]; exact hen
      have hlf_10 : f10 lf = some (.inr (5, [.ref p, .int nu, .int ho1, .int ho2, .ref so, .ref fc, .int fs_, .long ga])) := by rw [hf10, va_up_ne _ _ (cne hlf hlg (by simp))]; exact hlf
      have hlg_10 : f10 lg = some (.inr (4, [.ref en, .int sz, .int (lo + 1), .ref ge, .ref re, .ref gv, .ref tk, .ref am, .int gi])) := by rw [hf10]; exact va_up_self _ _ _
      exact gz_vretU rfl dX4_pay_25 (by omega) (by omega) (⟨_, _, _, _, _, _, rfl, hlg_10, hen_10, hlf_10, hl, ⟨by omega, by omega⟩, Or.inl rfl, (by rw [hf10]; exact fr_up fr_rf (by simp))⟩)
  ·
    exact gz_vretU rfl dX4_pay_4 (by omega) (by omega) (⟨_, _, _, _, _, _, rfl, hlg, hen, hlf, hl, ⟨by omega, by omega⟩, Or.inl rfl, fr_rf⟩)
