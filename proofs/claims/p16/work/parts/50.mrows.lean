/-! the reference by registers: n ints, z longs, F rows of ints, bytes and booleans, G rows of longs, each by the number of its field -/
def mTys : List Nat := [0, 0, 1, 2, 0, 0, 1, 1, 1, 1, 1, 1, 1, 1, 1, 1, 1, 1, 1, 1, 1, 0, 0, 0, 0, 1, 1, 3, 3, 0, 0, 1, 1, 1, 3, 1, 1, 3, 0, 1, 1, 1, 1, 0, 1, 3, 0, 0, 1, 1, 3, 3, 3, 0, 1, 1, 1, 0, 1, 1, 1, 3, 1, 3, 4, 3, 1, 0, 1, 4, 0, 1, 0, 1, 3, 3, 1, 1, 1, 1, 1, 1, 1, 0, 1, 1, 4, 2, 0, 0]
def mLens : List Nat := [0, 0, 2400, 400, 0, 0, 22, 880, 880, 880, 880, 880, 880, 880, 880, 880, 880, 22, 880, 880, 880, 0, 0, 0, 0, 40, 40, 11, 6, 0, 0, 40, 40, 40, 40, 40, 1600, 1600, 0, 2000, 2000, 2000, 2000, 0, 64, 64, 0, 0, 8, 8, 8, 8, 8, 0, 3, 18, 6, 0, 80, 80, 80, 80, 80, 80, 80, 80, 80, 0, 13, 5265, 0, 5265, 0, 64, 64, 5, 82, 82, 82, 82, 82, 82, 82, 0, 120, 120, 120, 1000, 0, 0]
def mTy (k : Nat) : Nat := mTys.getD k 0
def mLen (k : Nat) : Nat := mLens.getD k 0
def mFo (a : Nat → Option Nat) (n : Nat → Int32) (z : Nat → Int64) : List Value := [.int (n 0), .int (n 1), va_rf (a 2), va_rf (a 3), .int (n 4), .int (n 5), va_rf (a 6), va_rf (a 7), va_rf (a 8), va_rf (a 9), va_rf (a 10), va_rf (a 11), va_rf (a 12), va_rf (a 13), va_rf (a 14), va_rf (a 15), va_rf (a 16), va_rf (a 17), va_rf (a 18), va_rf (a 19), va_rf (a 20), .int (n 21), .int (n 22), .int (n 23), .int (n 24), va_rf (a 25), va_rf (a 26), va_rf (a 27), va_rf (a 28), .long (z 29), .int (n 30), va_rf (a 31), va_rf (a 32), va_rf (a 33), va_rf (a 34), va_rf (a 35), va_rf (a 36), va_rf (a 37), .int (n 38), va_rf (a 39), va_rf (a 40), va_rf (a 41), va_rf (a 42), .int (n 43), va_rf (a 44), va_rf (a 45), .int (n 46), .int (n 47), va_rf (a 48), va_rf (a 49), va_rf (a 50), va_rf (a 51), va_rf (a 52), .int (n 53), va_rf (a 54), va_rf (a 55), va_rf (a 56), .int (n 57), va_rf (a 58), va_rf (a 59), va_rf (a 60), va_rf (a 61), va_rf (a 62), va_rf (a 63), va_rf (a 64), va_rf (a 65), va_rf (a 66), .long (z 67), va_rf (a 68), va_rf (a 69), .int (n 70), va_rf (a 71), .int (n 72), va_rf (a 73), va_rf (a 74), va_rf (a 75), va_rf (a 76), va_rf (a 77), va_rf (a 78), va_rf (a 79), va_rf (a 80), va_rf (a 81), va_rf (a 82), .int (n 83), va_rf (a 84), va_rf (a 85), va_rf (a 86), va_rf (a 87), .int (n 88), .int (n 89)]
abbrev mFs (a : Nat → Nat) (n : Nat → Int32) (z : Nat → Int64) : List Value := mFo (fun k => some (a k)) n z
def mCell (cy : Nat → ClassId) (F : Nat → Nat → Int32) (G : Nat → Nat → Int64) (k : Nat) : Option va_E := if mTy k = 1 then some (.inl (cy 0, mLen k, .inl (F k))) else if mTy k = 2 then some (.inl (cy 1, mLen k, .inl (F k))) else if mTy k = 3 then some (.inl (cy 2, mLen k, .inr (.inl (G k)))) else if mTy k = 4 then some (.inl (cy 3, mLen k, .inl (F k))) else none
def mL (h : Nat) (a : Nat → Nat) : List Nat := h :: ((List.range 90).filter (fun k => decide (mTy k ≠ 0))).map a
def mI (h : Nat) (a : Nat → Nat) : Prop := (∀ i j, mTy i ≠ 0 → mTy j ≠ 0 → a i = a j → i = j) ∧ ∀ i, mTy i ≠ 0 → a i ≠ h
/-- the reference stands at h, its rows at a; beyond them all is as in f0 -/
def mS (cy : Nat → ClassId) (h : Nat) (a : Nat → Nat) (f0 : gMem) (n : Nat → Int32) (z : Nat → Int64) (F : Nat → Nat → Int32) (G : Nat → Nat → Int64) (f : gMem) : Prop := f h = some (.inr (12, mFs a n z)) ∧ (∀ k e, mCell cy F G k = some e → f (a k) = some e) ∧ mI h a ∧ fr (mL h a) f0 f
theorem mTy_lt {k : Nat} (h : mTy k ≠ 0) : k < 90 := by
  rcases Nat.lt_or_ge k 90 with q | q
  · exact q
  · exact absurd (by unfold mTy; rw [List.getD_eq_getElem?_getD, List.getElem?_eq_none (show mTys.length ≤ k from q)]; rfl) h
theorem mCell_ty {cy : Nat → ClassId} {F : Nat → Nat → Int32} {G : Nat → Nat → Int64} {k : Nat} {e : va_E} (h : mCell cy F G k = some e) : mTy k ≠ 0 := by
  intro q
  simp [mCell, q] at h
theorem mC_1 {cy : Nat → ClassId} {F : Nat → Nat → Int32} {G : Nat → Nat → Int64} {k : Nat} (ht : mTy k = 1) : mCell cy F G k = some (.inl (cy 0, mLen k, .inl (F k))) := by simp [mCell, ht]
theorem mC_2 {cy : Nat → ClassId} {F : Nat → Nat → Int32} {G : Nat → Nat → Int64} {k : Nat} (ht : mTy k = 2) : mCell cy F G k = some (.inl (cy 1, mLen k, .inl (F k))) := by simp [mCell, ht]
theorem mC_3 {cy : Nat → ClassId} {F : Nat → Nat → Int32} {G : Nat → Nat → Int64} {k : Nat} (ht : mTy k = 3) : mCell cy F G k = some (.inl (cy 2, mLen k, .inr (.inl (G k)))) := by simp [mCell, ht]
theorem mC_4 {cy : Nat → ClassId} {F : Nat → Nat → Int32} {G : Nat → Nat → Int64} {k : Nat} (ht : mTy k = 4) : mCell cy F G k = some (.inl (cy 3, mLen k, .inl (F k))) := by simp [mCell, ht]
theorem mL_h {h : Nat} {a : Nat → Nat} : h ∈ mL h a := List.mem_cons_self
theorem mL_a {h k : Nat} {a : Nat → Nat} (hk : mTy k ≠ 0) : a k ∈ mL h a := List.mem_cons_of_mem _ (List.mem_map.mpr ⟨k, List.mem_filter.mpr ⟨List.mem_range.mpr (mTy_lt hk), decide_eq_true hk⟩, rfl⟩)
theorem mL_no {h y : Nat} {a : Nat → Nat} (hy : y ≠ h) (ha : ∀ k, mTy k ≠ 0 → a k ≠ y) : y ∉ mL h a := by
  intro q
  rcases List.mem_cons.mp q with q | q
  · exact hy q
  · obtain ⟨k, hk, e⟩ := List.mem_map.mp q
    exact ha k (of_decide_eq_true (List.mem_filter.mp hk).2) e
section MS
variable {cy : Nat → ClassId} {h : Nat} {a : Nat → Nat} {f0 f : gMem} {n : Nat → Int32} {z : Nat → Int64} {F : Nat → Nat → Int32} {G : Nat → Nat → Int64}
theorem mS_obj (hS : mS cy h a f0 n z F G f) {n2 : Nat → Int32} {z2 : Nat → Int64} : mS cy h a f0 n2 z2 F G (va_up f h (some (.inr (12, mFs a n2 z2)))) := by
  obtain ⟨h1, h2, h3, h4⟩ := hS
  refine ⟨va_up_self _ _ _, fun k e he => ?_, h3, fr_up h4 mL_h⟩
  rw [va_up_ne _ _ (h3.2 k (mCell_ty he))]
  exact h2 k e he
theorem mS_rowF (hS : mS cy h a f0 n z F G f) (k : Nat) {g : Nat → Int32} {e : va_E} (he : mCell cy (va_up F k g) G k = some e) : mS cy h a f0 n z (va_up F k g) G (va_up f (a k) (some e)) := by
  obtain ⟨h1, h2, h3, h4⟩ := hS
  have hk := mCell_ty he
  refine ⟨by rw [va_up_ne _ _ (Ne.symm (h3.2 k hk))]; exact h1, fun j e' he' => ?_, h3, fr_up h4 (mL_a hk)⟩
  by_cases hj : j = k
  · subst hj
    rw [va_up_self, ← he', ← he]
  · rw [va_up_ne _ _ (fun q => hj (h3.1 j k (mCell_ty he') hk q))]
    refine h2 j e' ?_
    rw [← he']
    unfold mCell
    rw [va_up_ne _ _ hj]
theorem mS_rowG (hS : mS cy h a f0 n z F G f) (k : Nat) {g : Nat → Int64} {e : va_E} (he : mCell cy F (va_up G k g) k = some e) : mS cy h a f0 n z F (va_up G k g) (va_up f (a k) (some e)) := by
  obtain ⟨h1, h2, h3, h4⟩ := hS
  have hk := mCell_ty he
  refine ⟨by rw [va_up_ne _ _ (Ne.symm (h3.2 k hk))]; exact h1, fun j e' he' => ?_, h3, fr_up h4 (mL_a hk)⟩
  by_cases hj : j = k
  · subst hj
    rw [va_up_self, ← he', ← he]
  · rw [va_up_ne _ _ (fun q => hj (h3.1 j k (mCell_ty he') hk q))]
    refine h2 j e' ?_
    rw [← he']
    unfold mCell
    rw [va_up_ne _ _ hj]
variable {l : Launch} {R : Room} {Qf : List Frame → Array Value → State → State → Prop} {Ex : State → Prop} {D : va_G} {b : Nat} {cc : ByteArray} {nL : Nat} {ret : Option FieldType} {nm : String} {cells slots : Nat} {pc : Nat} {lv : List (Nat × Value)} {st : List Value}
theorem m_iald (k0 : Nat) {i : Int32} (hS : mS cy h a f0 n z F G f) (ht : mTy k0 = 1) {N : Nat} (hN : mLen k0 = N) (hin : vp_in i N) (hdg : decode cc pc = .ok (.iaload, 1)) (k : gG l R Qf Ex D cy b cc nL ret RX12 nm cells slots f (pc + 1) lv (.int (F k0 i.toNatClampNeg) :: st)) : gG l R Qf Ex D cy b cc nL ret RX12 nm cells slots f pc lv (.int i :: .ref (a k0) :: st) := gz_iald (hS.2.1 k0 _ (mC_1 ht)) (by rw [hN]; exact hin) hdg k
theorem m_bald (k0 : Nat) {i : Int32} (hS : mS cy h a f0 n z F G f) (ht : mTy k0 = 2) {N : Nat} (hN : mLen k0 = N) (hin : vp_in i N) (hdg : decode cc pc = .ok (.baload, 1)) (k : gG l R Qf Ex D cy b cc nL ret RX12 nm cells slots f (pc + 1) lv (.int (F k0 i.toNatClampNeg) :: st)) : gG l R Qf Ex D cy b cc nL ret RX12 nm cells slots f pc lv (.int i :: .ref (a k0) :: st) := gz_bald (hS.2.1 k0 _ (mC_2 ht)) (by rw [hN]; exact hin) hdg k
theorem m_lald (k0 : Nat) {i : Int32} (hS : mS cy h a f0 n z F G f) (ht : mTy k0 = 3) {N : Nat} (hN : mLen k0 = N) (hin : vp_in i N) (hdg : decode cc pc = .ok (.laload, 1)) (k : gG l R Qf Ex D cy b cc nL ret RX12 nm cells slots f (pc + 1) lv (.long (G k0 i.toNatClampNeg) :: st)) : gG l R Qf Ex D cy b cc nL ret RX12 nm cells slots f pc lv (.int i :: .ref (a k0) :: st) := gz_lald (hS.2.1 k0 _ (mC_3 ht)) (by rw [hN]; exact hin) hdg k
theorem m_zald (k0 : Nat) {i : Int32} (hS : mS cy h a f0 n z F G f) (ht : mTy k0 = 4) {N : Nat} (hN : mLen k0 = N) (hin : vp_in i N) (hdg : decode cc pc = .ok (.baload, 1)) (k : gG l R Qf Ex D cy b cc nL ret RX12 nm cells slots f (pc + 1) lv (.int (F k0 i.toNatClampNeg) :: st)) : gG l R Qf Ex D cy b cc nL ret RX12 nm cells slots f pc lv (.int i :: .ref (a k0) :: st) := gz_zald (hS.2.1 k0 _ (mC_4 ht)) (by rw [hN]; exact hin) hdg k
theorem m_iast (k0 : Nat) {i : Int32} {x : Int32} (hS : mS cy h a f0 n z F G f) (ht : mTy k0 = 1) {N : Nat} (hN : mLen k0 = N) (hin : vp_in i N) (hdg : decode cc pc = .ok (.iastore, 1)) (k : ∀ f2, mS cy h a f0 n z (va_up F k0 (upd (F k0) i.toNatClampNeg x)) G f2 → gG l R Qf Ex D cy b cc nL ret RX12 nm cells slots f2 (pc + 1) lv st) : gG l R Qf Ex D cy b cc nL ret RX12 nm cells slots f pc lv (.int x :: .int i :: .ref (a k0) :: st) := gz_iast (hS.2.1 k0 _ (mC_1 ht)) (by rw [hN]; exact hin) hdg (k _ (mS_rowF hS k0 (by rw [mC_1 ht, va_up_self])))
theorem m_bast (k0 : Nat) {i : Int32} {x : Int32} (hS : mS cy h a f0 n z F G f) (ht : mTy k0 = 2) {N : Nat} (hN : mLen k0 = N) (hin : vp_in i N) (hdg : decode cc pc = .ok (.bastore, 1)) (k : ∀ f2, mS cy h a f0 n z (va_up F k0 (upd (F k0) i.toNatClampNeg (vp_nar .byte x))) G f2 → gG l R Qf Ex D cy b cc nL ret RX12 nm cells slots f2 (pc + 1) lv st) : gG l R Qf Ex D cy b cc nL ret RX12 nm cells slots f pc lv (.int x :: .int i :: .ref (a k0) :: st) := gz_bast (hS.2.1 k0 _ (mC_2 ht)) (by rw [hN]; exact hin) hdg (k _ (mS_rowF hS k0 (by rw [mC_2 ht, va_up_self])))
theorem m_last (k0 : Nat) {i : Int32} {x : Int64} (hS : mS cy h a f0 n z F G f) (ht : mTy k0 = 3) {N : Nat} (hN : mLen k0 = N) (hin : vp_in i N) (hdg : decode cc pc = .ok (.lastore, 1)) (k : ∀ f2, mS cy h a f0 n z F (va_up G k0 (vp_updL (G k0) i.toNatClampNeg x)) f2 → gG l R Qf Ex D cy b cc nL ret RX12 nm cells slots f2 (pc + 1) lv st) : gG l R Qf Ex D cy b cc nL ret RX12 nm cells slots f pc lv (.long x :: .int i :: .ref (a k0) :: st) := gz_last (hS.2.1 k0 _ (mC_3 ht)) (by rw [hN]; exact hin) hdg (k _ (mS_rowG hS k0 (by rw [mC_3 ht, va_up_self])))
theorem m_zast (k0 : Nat) {i : Int32} {x : Int32} (hS : mS cy h a f0 n z F G f) (ht : mTy k0 = 4) {N : Nat} (hN : mLen k0 = N) (hin : vp_in i N) (hdg : decode cc pc = .ok (.bastore, 1)) (k : ∀ f2, mS cy h a f0 n z (va_up F k0 (upd (F k0) i.toNatClampNeg (vp_nar .boolean x))) G f2 → gG l R Qf Ex D cy b cc nL ret RX12 nm cells slots f2 (pc + 1) lv st) : gG l R Qf Ex D cy b cc nL ret RX12 nm cells slots f pc lv (.int x :: .int i :: .ref (a k0) :: st) := gz_zast (hS.2.1 k0 _ (mC_4 ht)) (by rw [hN]; exact hin) hdg (k _ (mS_rowF hS k0 (by rw [mC_4 ht, va_up_self])))
theorem m_alen (k0 : Nat) {v : Int32} (hS : mS cy h a f0 n z F G f) (ht : mTy k0 = 1) (hv : Int32.ofNat (mLen k0) = v) (hdg : decode cc pc = .ok (.arraylength, 1)) (k : gG l R Qf Ex D cy b cc nL ret RX12 nm cells slots f (pc + 1) lv (.int v :: st)) : gG l R Qf Ex D cy b cc nL ret RX12 nm cells slots f pc lv (.ref (a k0) :: st) := gz_alen0 (hS.2.1 k0 _ (mC_1 ht)) hv hdg k
theorem mg_7 (hS : mS cy h a f0 n z F G f) (hdg : decode cc pc = .ok (.getfield 7, 3)) (k : gG l R Qf Ex D cy b cc nL ret RX12 nm cells slots f (pc + 3) lv (.ref (a 2) :: st)) : gG l R Qf Ex D cy b cc nL ret RX12 nm cells slots f pc lv (.ref h :: st) := sgX12_7 hS.1 rfl hdg k
theorem mg_13 (hS : mS cy h a f0 n z F G f) (hdg : decode cc pc = .ok (.getfield 13, 3)) (k : gG l R Qf Ex D cy b cc nL ret RX12 nm cells slots f (pc + 3) lv (.ref (a 3) :: st)) : gG l R Qf Ex D cy b cc nL ret RX12 nm cells slots f pc lv (.ref h :: st) := sgX12_13 hS.1 rfl hdg k
theorem mg_17 (hS : mS cy h a f0 n z F G f) (hdg : decode cc pc = .ok (.getfield 17, 3)) (k : gG l R Qf Ex D cy b cc nL ret RX12 nm cells slots f (pc + 3) lv (.ref (a 6) :: st)) : gG l R Qf Ex D cy b cc nL ret RX12 nm cells slots f pc lv (.ref h :: st) := sgX12_17 hS.1 rfl hdg k
theorem mg_20 (hS : mS cy h a f0 n z F G f) (hdg : decode cc pc = .ok (.getfield 20, 3)) (k : gG l R Qf Ex D cy b cc nL ret RX12 nm cells slots f (pc + 3) lv (.ref (a 7) :: st)) : gG l R Qf Ex D cy b cc nL ret RX12 nm cells slots f pc lv (.ref h :: st) := sgX12_20 hS.1 rfl hdg k
theorem mg_23 (hS : mS cy h a f0 n z F G f) (hdg : decode cc pc = .ok (.getfield 23, 3)) (k : gG l R Qf Ex D cy b cc nL ret RX12 nm cells slots f (pc + 3) lv (.ref (a 8) :: st)) : gG l R Qf Ex D cy b cc nL ret RX12 nm cells slots f pc lv (.ref h :: st) := sgX12_23 hS.1 rfl hdg k
theorem mg_26 (hS : mS cy h a f0 n z F G f) (hdg : decode cc pc = .ok (.getfield 26, 3)) (k : gG l R Qf Ex D cy b cc nL ret RX12 nm cells slots f (pc + 3) lv (.ref (a 9) :: st)) : gG l R Qf Ex D cy b cc nL ret RX12 nm cells slots f pc lv (.ref h :: st) := sgX12_26 hS.1 rfl hdg k
theorem mg_29 (hS : mS cy h a f0 n z F G f) (hdg : decode cc pc = .ok (.getfield 29, 3)) (k : gG l R Qf Ex D cy b cc nL ret RX12 nm cells slots f (pc + 3) lv (.ref (a 10) :: st)) : gG l R Qf Ex D cy b cc nL ret RX12 nm cells slots f pc lv (.ref h :: st) := sgX12_29 hS.1 rfl hdg k
theorem mg_32 (hS : mS cy h a f0 n z F G f) (hdg : decode cc pc = .ok (.getfield 32, 3)) (k : gG l R Qf Ex D cy b cc nL ret RX12 nm cells slots f (pc + 3) lv (.ref (a 11) :: st)) : gG l R Qf Ex D cy b cc nL ret RX12 nm cells slots f pc lv (.ref h :: st) := sgX12_32 hS.1 rfl hdg k
theorem mg_35 (hS : mS cy h a f0 n z F G f) (hdg : decode cc pc = .ok (.getfield 35, 3)) (k : gG l R Qf Ex D cy b cc nL ret RX12 nm cells slots f (pc + 3) lv (.ref (a 12) :: st)) : gG l R Qf Ex D cy b cc nL ret RX12 nm cells slots f pc lv (.ref h :: st) := sgX12_35 hS.1 rfl hdg k
theorem mg_38 (hS : mS cy h a f0 n z F G f) (hdg : decode cc pc = .ok (.getfield 38, 3)) (k : gG l R Qf Ex D cy b cc nL ret RX12 nm cells slots f (pc + 3) lv (.ref (a 13) :: st)) : gG l R Qf Ex D cy b cc nL ret RX12 nm cells slots f pc lv (.ref h :: st) := sgX12_38 hS.1 rfl hdg k
theorem mg_41 (hS : mS cy h a f0 n z F G f) (hdg : decode cc pc = .ok (.getfield 41, 3)) (k : gG l R Qf Ex D cy b cc nL ret RX12 nm cells slots f (pc + 3) lv (.ref (a 14) :: st)) : gG l R Qf Ex D cy b cc nL ret RX12 nm cells slots f pc lv (.ref h :: st) := sgX12_41 hS.1 rfl hdg k
theorem mg_44 (hS : mS cy h a f0 n z F G f) (hdg : decode cc pc = .ok (.getfield 44, 3)) (k : gG l R Qf Ex D cy b cc nL ret RX12 nm cells slots f (pc + 3) lv (.ref (a 15) :: st)) : gG l R Qf Ex D cy b cc nL ret RX12 nm cells slots f pc lv (.ref h :: st) := sgX12_44 hS.1 rfl hdg k
theorem mg_47 (hS : mS cy h a f0 n z F G f) (hdg : decode cc pc = .ok (.getfield 47, 3)) (k : gG l R Qf Ex D cy b cc nL ret RX12 nm cells slots f (pc + 3) lv (.ref (a 16) :: st)) : gG l R Qf Ex D cy b cc nL ret RX12 nm cells slots f pc lv (.ref h :: st) := sgX12_47 hS.1 rfl hdg k
theorem mg_50 (hS : mS cy h a f0 n z F G f) (hdg : decode cc pc = .ok (.getfield 50, 3)) (k : gG l R Qf Ex D cy b cc nL ret RX12 nm cells slots f (pc + 3) lv (.ref (a 17) :: st)) : gG l R Qf Ex D cy b cc nL ret RX12 nm cells slots f pc lv (.ref h :: st) := sgX12_50 hS.1 rfl hdg k
theorem mg_53 (hS : mS cy h a f0 n z F G f) (hdg : decode cc pc = .ok (.getfield 53, 3)) (k : gG l R Qf Ex D cy b cc nL ret RX12 nm cells slots f (pc + 3) lv (.ref (a 18) :: st)) : gG l R Qf Ex D cy b cc nL ret RX12 nm cells slots f pc lv (.ref h :: st) := sgX12_53 hS.1 rfl hdg k
theorem mg_56 (hS : mS cy h a f0 n z F G f) (hdg : decode cc pc = .ok (.getfield 56, 3)) (k : gG l R Qf Ex D cy b cc nL ret RX12 nm cells slots f (pc + 3) lv (.ref (a 19) :: st)) : gG l R Qf Ex D cy b cc nL ret RX12 nm cells slots f pc lv (.ref h :: st) := sgX12_56 hS.1 rfl hdg k
theorem mg_59 (hS : mS cy h a f0 n z F G f) (hdg : decode cc pc = .ok (.getfield 59, 3)) (k : gG l R Qf Ex D cy b cc nL ret RX12 nm cells slots f (pc + 3) lv (.ref (a 20) :: st)) : gG l R Qf Ex D cy b cc nL ret RX12 nm cells slots f pc lv (.ref h :: st) := sgX12_59 hS.1 rfl hdg k
theorem mg_62 (hS : mS cy h a f0 n z F G f) (hdg : decode cc pc = .ok (.getfield 62, 3)) (k : gG l R Qf Ex D cy b cc nL ret RX12 nm cells slots f (pc + 3) lv (.ref (a 25) :: st)) : gG l R Qf Ex D cy b cc nL ret RX12 nm cells slots f pc lv (.ref h :: st) := sgX12_62 hS.1 rfl hdg k
theorem mg_65 (hS : mS cy h a f0 n z F G f) (hdg : decode cc pc = .ok (.getfield 65, 3)) (k : gG l R Qf Ex D cy b cc nL ret RX12 nm cells slots f (pc + 3) lv (.ref (a 26) :: st)) : gG l R Qf Ex D cy b cc nL ret RX12 nm cells slots f pc lv (.ref h :: st) := sgX12_65 hS.1 rfl hdg k
theorem mg_90 (hS : mS cy h a f0 n z F G f) (hdg : decode cc pc = .ok (.getfield 90, 3)) (k : gG l R Qf Ex D cy b cc nL ret RX12 nm cells slots f (pc + 3) lv (.ref (a 27) :: st)) : gG l R Qf Ex D cy b cc nL ret RX12 nm cells slots f pc lv (.ref h :: st) := sgX12_90 hS.1 rfl hdg k
theorem mg_94 (hS : mS cy h a f0 n z F G f) (hdg : decode cc pc = .ok (.getfield 94, 3)) (k : gG l R Qf Ex D cy b cc nL ret RX12 nm cells slots f (pc + 3) lv (.ref (a 28) :: st)) : gG l R Qf Ex D cy b cc nL ret RX12 nm cells slots f pc lv (.ref h :: st) := sgX12_94 hS.1 rfl hdg k
theorem mg_97 (hS : mS cy h a f0 n z F G f) (hdg : decode cc pc = .ok (.getfield 97, 3)) (k : gG l R Qf Ex D cy b cc nL ret RX12 nm cells slots f (pc + 3) lv (.ref (a 31) :: st)) : gG l R Qf Ex D cy b cc nL ret RX12 nm cells slots f pc lv (.ref h :: st) := sgX12_97 hS.1 rfl hdg k
theorem mg_100 (hS : mS cy h a f0 n z F G f) (hdg : decode cc pc = .ok (.getfield 100, 3)) (k : gG l R Qf Ex D cy b cc nL ret RX12 nm cells slots f (pc + 3) lv (.ref (a 32) :: st)) : gG l R Qf Ex D cy b cc nL ret RX12 nm cells slots f pc lv (.ref h :: st) := sgX12_100 hS.1 rfl hdg k
theorem mg_103 (hS : mS cy h a f0 n z F G f) (hdg : decode cc pc = .ok (.getfield 103, 3)) (k : gG l R Qf Ex D cy b cc nL ret RX12 nm cells slots f (pc + 3) lv (.ref (a 33) :: st)) : gG l R Qf Ex D cy b cc nL ret RX12 nm cells slots f pc lv (.ref h :: st) := sgX12_103 hS.1 rfl hdg k
theorem mg_106 (hS : mS cy h a f0 n z F G f) (hdg : decode cc pc = .ok (.getfield 106, 3)) (k : gG l R Qf Ex D cy b cc nL ret RX12 nm cells slots f (pc + 3) lv (.ref (a 34) :: st)) : gG l R Qf Ex D cy b cc nL ret RX12 nm cells slots f pc lv (.ref h :: st) := sgX12_106 hS.1 rfl hdg k
theorem mg_109 (hS : mS cy h a f0 n z F G f) (hdg : decode cc pc = .ok (.getfield 109, 3)) (k : gG l R Qf Ex D cy b cc nL ret RX12 nm cells slots f (pc + 3) lv (.ref (a 35) :: st)) : gG l R Qf Ex D cy b cc nL ret RX12 nm cells slots f pc lv (.ref h :: st) := sgX12_109 hS.1 rfl hdg k
theorem mg_112 (hS : mS cy h a f0 n z F G f) (hdg : decode cc pc = .ok (.getfield 112, 3)) (k : gG l R Qf Ex D cy b cc nL ret RX12 nm cells slots f (pc + 3) lv (.ref (a 36) :: st)) : gG l R Qf Ex D cy b cc nL ret RX12 nm cells slots f pc lv (.ref h :: st) := sgX12_112 hS.1 rfl hdg k
theorem mg_115 (hS : mS cy h a f0 n z F G f) (hdg : decode cc pc = .ok (.getfield 115, 3)) (k : gG l R Qf Ex D cy b cc nL ret RX12 nm cells slots f (pc + 3) lv (.ref (a 37) :: st)) : gG l R Qf Ex D cy b cc nL ret RX12 nm cells slots f pc lv (.ref h :: st) := sgX12_115 hS.1 rfl hdg k
theorem mg_118 (hS : mS cy h a f0 n z F G f) (hdg : decode cc pc = .ok (.getfield 118, 3)) (k : gG l R Qf Ex D cy b cc nL ret RX12 nm cells slots f (pc + 3) lv (.ref (a 39) :: st)) : gG l R Qf Ex D cy b cc nL ret RX12 nm cells slots f pc lv (.ref h :: st) := sgX12_118 hS.1 rfl hdg k
theorem mg_121 (hS : mS cy h a f0 n z F G f) (hdg : decode cc pc = .ok (.getfield 121, 3)) (k : gG l R Qf Ex D cy b cc nL ret RX12 nm cells slots f (pc + 3) lv (.ref (a 40) :: st)) : gG l R Qf Ex D cy b cc nL ret RX12 nm cells slots f pc lv (.ref h :: st) := sgX12_121 hS.1 rfl hdg k
theorem mg_124 (hS : mS cy h a f0 n z F G f) (hdg : decode cc pc = .ok (.getfield 124, 3)) (k : gG l R Qf Ex D cy b cc nL ret RX12 nm cells slots f (pc + 3) lv (.ref (a 41) :: st)) : gG l R Qf Ex D cy b cc nL ret RX12 nm cells slots f pc lv (.ref h :: st) := sgX12_124 hS.1 rfl hdg k
theorem mg_127 (hS : mS cy h a f0 n z F G f) (hdg : decode cc pc = .ok (.getfield 127, 3)) (k : gG l R Qf Ex D cy b cc nL ret RX12 nm cells slots f (pc + 3) lv (.ref (a 42) :: st)) : gG l R Qf Ex D cy b cc nL ret RX12 nm cells slots f pc lv (.ref h :: st) := sgX12_127 hS.1 rfl hdg k
theorem mg_130 (hS : mS cy h a f0 n z F G f) (hdg : decode cc pc = .ok (.getfield 130, 3)) (k : gG l R Qf Ex D cy b cc nL ret RX12 nm cells slots f (pc + 3) lv (.ref (a 44) :: st)) : gG l R Qf Ex D cy b cc nL ret RX12 nm cells slots f pc lv (.ref h :: st) := sgX12_130 hS.1 rfl hdg k
theorem mg_133 (hS : mS cy h a f0 n z F G f) (hdg : decode cc pc = .ok (.getfield 133, 3)) (k : gG l R Qf Ex D cy b cc nL ret RX12 nm cells slots f (pc + 3) lv (.ref (a 45) :: st)) : gG l R Qf Ex D cy b cc nL ret RX12 nm cells slots f pc lv (.ref h :: st) := sgX12_133 hS.1 rfl hdg k
theorem mg_136 (hS : mS cy h a f0 n z F G f) (hdg : decode cc pc = .ok (.getfield 136, 3)) (k : gG l R Qf Ex D cy b cc nL ret RX12 nm cells slots f (pc + 3) lv (.ref (a 48) :: st)) : gG l R Qf Ex D cy b cc nL ret RX12 nm cells slots f pc lv (.ref h :: st) := sgX12_136 hS.1 rfl hdg k
theorem mg_139 (hS : mS cy h a f0 n z F G f) (hdg : decode cc pc = .ok (.getfield 139, 3)) (k : gG l R Qf Ex D cy b cc nL ret RX12 nm cells slots f (pc + 3) lv (.ref (a 49) :: st)) : gG l R Qf Ex D cy b cc nL ret RX12 nm cells slots f pc lv (.ref h :: st) := sgX12_139 hS.1 rfl hdg k
theorem mg_142 (hS : mS cy h a f0 n z F G f) (hdg : decode cc pc = .ok (.getfield 142, 3)) (k : gG l R Qf Ex D cy b cc nL ret RX12 nm cells slots f (pc + 3) lv (.ref (a 50) :: st)) : gG l R Qf Ex D cy b cc nL ret RX12 nm cells slots f pc lv (.ref h :: st) := sgX12_142 hS.1 rfl hdg k
theorem mg_145 (hS : mS cy h a f0 n z F G f) (hdg : decode cc pc = .ok (.getfield 145, 3)) (k : gG l R Qf Ex D cy b cc nL ret RX12 nm cells slots f (pc + 3) lv (.ref (a 51) :: st)) : gG l R Qf Ex D cy b cc nL ret RX12 nm cells slots f pc lv (.ref h :: st) := sgX12_145 hS.1 rfl hdg k
theorem mg_148 (hS : mS cy h a f0 n z F G f) (hdg : decode cc pc = .ok (.getfield 148, 3)) (k : gG l R Qf Ex D cy b cc nL ret RX12 nm cells slots f (pc + 3) lv (.ref (a 52) :: st)) : gG l R Qf Ex D cy b cc nL ret RX12 nm cells slots f pc lv (.ref h :: st) := sgX12_148 hS.1 rfl hdg k
theorem mg_151 (hS : mS cy h a f0 n z F G f) (hdg : decode cc pc = .ok (.getfield 151, 3)) (k : gG l R Qf Ex D cy b cc nL ret RX12 nm cells slots f (pc + 3) lv (.int (n 53) :: st)) : gG l R Qf Ex D cy b cc nL ret RX12 nm cells slots f pc lv (.ref h :: st) := sgX12_151 hS.1 rfl hdg k
theorem mg_155 (hS : mS cy h a f0 n z F G f) (hdg : decode cc pc = .ok (.getfield 155, 3)) (k : gG l R Qf Ex D cy b cc nL ret RX12 nm cells slots f (pc + 3) lv (.ref (a 54) :: st)) : gG l R Qf Ex D cy b cc nL ret RX12 nm cells slots f pc lv (.ref h :: st) := sgX12_155 hS.1 rfl hdg k
theorem mg_158 (hS : mS cy h a f0 n z F G f) (hdg : decode cc pc = .ok (.getfield 158, 3)) (k : gG l R Qf Ex D cy b cc nL ret RX12 nm cells slots f (pc + 3) lv (.ref (a 55) :: st)) : gG l R Qf Ex D cy b cc nL ret RX12 nm cells slots f pc lv (.ref h :: st) := sgX12_158 hS.1 rfl hdg k
theorem mg_161 (hS : mS cy h a f0 n z F G f) (hdg : decode cc pc = .ok (.getfield 161, 3)) (k : gG l R Qf Ex D cy b cc nL ret RX12 nm cells slots f (pc + 3) lv (.ref (a 56) :: st)) : gG l R Qf Ex D cy b cc nL ret RX12 nm cells slots f pc lv (.ref h :: st) := sgX12_161 hS.1 rfl hdg k
theorem mg_164 (hS : mS cy h a f0 n z F G f) (hdg : decode cc pc = .ok (.getfield 164, 3)) (k : gG l R Qf Ex D cy b cc nL ret RX12 nm cells slots f (pc + 3) lv (.ref (a 58) :: st)) : gG l R Qf Ex D cy b cc nL ret RX12 nm cells slots f pc lv (.ref h :: st) := sgX12_164 hS.1 rfl hdg k
theorem mg_167 (hS : mS cy h a f0 n z F G f) (hdg : decode cc pc = .ok (.getfield 167, 3)) (k : gG l R Qf Ex D cy b cc nL ret RX12 nm cells slots f (pc + 3) lv (.ref (a 59) :: st)) : gG l R Qf Ex D cy b cc nL ret RX12 nm cells slots f pc lv (.ref h :: st) := sgX12_167 hS.1 rfl hdg k
theorem mg_170 (hS : mS cy h a f0 n z F G f) (hdg : decode cc pc = .ok (.getfield 170, 3)) (k : gG l R Qf Ex D cy b cc nL ret RX12 nm cells slots f (pc + 3) lv (.ref (a 60) :: st)) : gG l R Qf Ex D cy b cc nL ret RX12 nm cells slots f pc lv (.ref h :: st) := sgX12_170 hS.1 rfl hdg k
theorem mg_173 (hS : mS cy h a f0 n z F G f) (hdg : decode cc pc = .ok (.getfield 173, 3)) (k : gG l R Qf Ex D cy b cc nL ret RX12 nm cells slots f (pc + 3) lv (.ref (a 61) :: st)) : gG l R Qf Ex D cy b cc nL ret RX12 nm cells slots f pc lv (.ref h :: st) := sgX12_173 hS.1 rfl hdg k
theorem mg_176 (hS : mS cy h a f0 n z F G f) (hdg : decode cc pc = .ok (.getfield 176, 3)) (k : gG l R Qf Ex D cy b cc nL ret RX12 nm cells slots f (pc + 3) lv (.ref (a 62) :: st)) : gG l R Qf Ex D cy b cc nL ret RX12 nm cells slots f pc lv (.ref h :: st) := sgX12_176 hS.1 rfl hdg k
theorem mg_179 (hS : mS cy h a f0 n z F G f) (hdg : decode cc pc = .ok (.getfield 179, 3)) (k : gG l R Qf Ex D cy b cc nL ret RX12 nm cells slots f (pc + 3) lv (.ref (a 63) :: st)) : gG l R Qf Ex D cy b cc nL ret RX12 nm cells slots f pc lv (.ref h :: st) := sgX12_179 hS.1 rfl hdg k
theorem mg_182 (hS : mS cy h a f0 n z F G f) (hdg : decode cc pc = .ok (.getfield 182, 3)) (k : gG l R Qf Ex D cy b cc nL ret RX12 nm cells slots f (pc + 3) lv (.ref (a 64) :: st)) : gG l R Qf Ex D cy b cc nL ret RX12 nm cells slots f pc lv (.ref h :: st) := sgX12_182 hS.1 rfl hdg k
theorem mg_186 (hS : mS cy h a f0 n z F G f) (hdg : decode cc pc = .ok (.getfield 186, 3)) (k : gG l R Qf Ex D cy b cc nL ret RX12 nm cells slots f (pc + 3) lv (.ref (a 65) :: st)) : gG l R Qf Ex D cy b cc nL ret RX12 nm cells slots f pc lv (.ref h :: st) := sgX12_186 hS.1 rfl hdg k
theorem mg_189 (hS : mS cy h a f0 n z F G f) (hdg : decode cc pc = .ok (.getfield 189, 3)) (k : gG l R Qf Ex D cy b cc nL ret RX12 nm cells slots f (pc + 3) lv (.ref (a 66) :: st)) : gG l R Qf Ex D cy b cc nL ret RX12 nm cells slots f pc lv (.ref h :: st) := sgX12_189 hS.1 rfl hdg k
theorem mg_192 (hS : mS cy h a f0 n z F G f) (hdg : decode cc pc = .ok (.getfield 192, 3)) (k : gG l R Qf Ex D cy b cc nL ret RX12 nm cells slots f (pc + 3) lv (.ref (a 68) :: st)) : gG l R Qf Ex D cy b cc nL ret RX12 nm cells slots f pc lv (.ref h :: st) := sgX12_192 hS.1 rfl hdg k
theorem mg_195 (hS : mS cy h a f0 n z F G f) (hdg : decode cc pc = .ok (.getfield 195, 3)) (k : gG l R Qf Ex D cy b cc nL ret RX12 nm cells slots f (pc + 3) lv (.ref (a 69) :: st)) : gG l R Qf Ex D cy b cc nL ret RX12 nm cells slots f pc lv (.ref h :: st) := sgX12_195 hS.1 rfl hdg k
theorem mg_198 (hS : mS cy h a f0 n z F G f) (hdg : decode cc pc = .ok (.getfield 198, 3)) (k : gG l R Qf Ex D cy b cc nL ret RX12 nm cells slots f (pc + 3) lv (.ref (a 71) :: st)) : gG l R Qf Ex D cy b cc nL ret RX12 nm cells slots f pc lv (.ref h :: st) := sgX12_198 hS.1 rfl hdg k
theorem mg_201 (hS : mS cy h a f0 n z F G f) (hdg : decode cc pc = .ok (.getfield 201, 3)) (k : gG l R Qf Ex D cy b cc nL ret RX12 nm cells slots f (pc + 3) lv (.ref (a 73) :: st)) : gG l R Qf Ex D cy b cc nL ret RX12 nm cells slots f pc lv (.ref h :: st) := sgX12_201 hS.1 rfl hdg k
theorem mg_204 (hS : mS cy h a f0 n z F G f) (hdg : decode cc pc = .ok (.getfield 204, 3)) (k : gG l R Qf Ex D cy b cc nL ret RX12 nm cells slots f (pc + 3) lv (.ref (a 74) :: st)) : gG l R Qf Ex D cy b cc nL ret RX12 nm cells slots f pc lv (.ref h :: st) := sgX12_204 hS.1 rfl hdg k
theorem mg_207 (hS : mS cy h a f0 n z F G f) (hdg : decode cc pc = .ok (.getfield 207, 3)) (k : gG l R Qf Ex D cy b cc nL ret RX12 nm cells slots f (pc + 3) lv (.ref (a 75) :: st)) : gG l R Qf Ex D cy b cc nL ret RX12 nm cells slots f pc lv (.ref h :: st) := sgX12_207 hS.1 rfl hdg k
theorem mg_210 (hS : mS cy h a f0 n z F G f) (hdg : decode cc pc = .ok (.getfield 210, 3)) (k : gG l R Qf Ex D cy b cc nL ret RX12 nm cells slots f (pc + 3) lv (.ref (a 76) :: st)) : gG l R Qf Ex D cy b cc nL ret RX12 nm cells slots f pc lv (.ref h :: st) := sgX12_210 hS.1 rfl hdg k
theorem mg_213 (hS : mS cy h a f0 n z F G f) (hdg : decode cc pc = .ok (.getfield 213, 3)) (k : gG l R Qf Ex D cy b cc nL ret RX12 nm cells slots f (pc + 3) lv (.ref (a 77) :: st)) : gG l R Qf Ex D cy b cc nL ret RX12 nm cells slots f pc lv (.ref h :: st) := sgX12_213 hS.1 rfl hdg k
theorem mg_216 (hS : mS cy h a f0 n z F G f) (hdg : decode cc pc = .ok (.getfield 216, 3)) (k : gG l R Qf Ex D cy b cc nL ret RX12 nm cells slots f (pc + 3) lv (.ref (a 78) :: st)) : gG l R Qf Ex D cy b cc nL ret RX12 nm cells slots f pc lv (.ref h :: st) := sgX12_216 hS.1 rfl hdg k
theorem mg_219 (hS : mS cy h a f0 n z F G f) (hdg : decode cc pc = .ok (.getfield 219, 3)) (k : gG l R Qf Ex D cy b cc nL ret RX12 nm cells slots f (pc + 3) lv (.ref (a 79) :: st)) : gG l R Qf Ex D cy b cc nL ret RX12 nm cells slots f pc lv (.ref h :: st) := sgX12_219 hS.1 rfl hdg k
theorem mg_222 (hS : mS cy h a f0 n z F G f) (hdg : decode cc pc = .ok (.getfield 222, 3)) (k : gG l R Qf Ex D cy b cc nL ret RX12 nm cells slots f (pc + 3) lv (.ref (a 80) :: st)) : gG l R Qf Ex D cy b cc nL ret RX12 nm cells slots f pc lv (.ref h :: st) := sgX12_222 hS.1 rfl hdg k
theorem mg_225 (hS : mS cy h a f0 n z F G f) (hdg : decode cc pc = .ok (.getfield 225, 3)) (k : gG l R Qf Ex D cy b cc nL ret RX12 nm cells slots f (pc + 3) lv (.ref (a 81) :: st)) : gG l R Qf Ex D cy b cc nL ret RX12 nm cells slots f pc lv (.ref h :: st) := sgX12_225 hS.1 rfl hdg k
theorem mg_228 (hS : mS cy h a f0 n z F G f) (hdg : decode cc pc = .ok (.getfield 228, 3)) (k : gG l R Qf Ex D cy b cc nL ret RX12 nm cells slots f (pc + 3) lv (.ref (a 82) :: st)) : gG l R Qf Ex D cy b cc nL ret RX12 nm cells slots f pc lv (.ref h :: st) := sgX12_228 hS.1 rfl hdg k
theorem mg_231 (hS : mS cy h a f0 n z F G f) (hdg : decode cc pc = .ok (.getfield 231, 3)) (k : gG l R Qf Ex D cy b cc nL ret RX12 nm cells slots f (pc + 3) lv (.ref (a 84) :: st)) : gG l R Qf Ex D cy b cc nL ret RX12 nm cells slots f pc lv (.ref h :: st) := sgX12_231 hS.1 rfl hdg k
theorem mg_234 (hS : mS cy h a f0 n z F G f) (hdg : decode cc pc = .ok (.getfield 234, 3)) (k : gG l R Qf Ex D cy b cc nL ret RX12 nm cells slots f (pc + 3) lv (.ref (a 85) :: st)) : gG l R Qf Ex D cy b cc nL ret RX12 nm cells slots f pc lv (.ref h :: st) := sgX12_234 hS.1 rfl hdg k
theorem mg_237 (hS : mS cy h a f0 n z F G f) (hdg : decode cc pc = .ok (.getfield 237, 3)) (k : gG l R Qf Ex D cy b cc nL ret RX12 nm cells slots f (pc + 3) lv (.ref (a 86) :: st)) : gG l R Qf Ex D cy b cc nL ret RX12 nm cells slots f pc lv (.ref h :: st) := sgX12_237 hS.1 rfl hdg k
theorem mg_240 (hS : mS cy h a f0 n z F G f) (hdg : decode cc pc = .ok (.getfield 240, 3)) (k : gG l R Qf Ex D cy b cc nL ret RX12 nm cells slots f (pc + 3) lv (.ref (a 87) :: st)) : gG l R Qf Ex D cy b cc nL ret RX12 nm cells slots f pc lv (.ref h :: st) := sgX12_240 hS.1 rfl hdg k
theorem mg_249 (hS : mS cy h a f0 n z F G f) (hdg : decode cc pc = .ok (.getfield 249, 3)) (k : gG l R Qf Ex D cy b cc nL ret RX12 nm cells slots f (pc + 3) lv (.int (n 0) :: st)) : gG l R Qf Ex D cy b cc nL ret RX12 nm cells slots f pc lv (.ref h :: st) := sgX12_249 hS.1 rfl hdg k
theorem mg_262 (hS : mS cy h a f0 n z F G f) (hdg : decode cc pc = .ok (.getfield 262, 3)) (k : gG l R Qf Ex D cy b cc nL ret RX12 nm cells slots f (pc + 3) lv (.int (n 4) :: st)) : gG l R Qf Ex D cy b cc nL ret RX12 nm cells slots f pc lv (.ref h :: st) := sgX12_262 hS.1 rfl hdg k
theorem mg_269 (hS : mS cy h a f0 n z F G f) (hdg : decode cc pc = .ok (.getfield 269, 3)) (k : gG l R Qf Ex D cy b cc nL ret RX12 nm cells slots f (pc + 3) lv (.int (n 22) :: st)) : gG l R Qf Ex D cy b cc nL ret RX12 nm cells slots f pc lv (.ref h :: st) := sgX12_269 hS.1 rfl hdg k
theorem mg_272 (hS : mS cy h a f0 n z F G f) (hdg : decode cc pc = .ok (.getfield 272, 3)) (k : gG l R Qf Ex D cy b cc nL ret RX12 nm cells slots f (pc + 3) lv (.int (n 21) :: st)) : gG l R Qf Ex D cy b cc nL ret RX12 nm cells slots f pc lv (.ref h :: st) := sgX12_272 hS.1 rfl hdg k
theorem mg_287 (hS : mS cy h a f0 n z F G f) (hdg : decode cc pc = .ok (.getfield 287, 3)) (k : gG l R Qf Ex D cy b cc nL ret RX12 nm cells slots f (pc + 3) lv (.int (n 23) :: st)) : gG l R Qf Ex D cy b cc nL ret RX12 nm cells slots f pc lv (.ref h :: st) := sgX12_287 hS.1 rfl hdg k
theorem mg_307 (hS : mS cy h a f0 n z F G f) (hdg : decode cc pc = .ok (.getfield 307, 3)) (k : gG l R Qf Ex D cy b cc nL ret RX12 nm cells slots f (pc + 3) lv (.int (n 5) :: st)) : gG l R Qf Ex D cy b cc nL ret RX12 nm cells slots f pc lv (.ref h :: st) := sgX12_307 hS.1 rfl hdg k
theorem mg_319 (hS : mS cy h a f0 n z F G f) (hdg : decode cc pc = .ok (.getfield 319, 3)) (k : gG l R Qf Ex D cy b cc nL ret RX12 nm cells slots f (pc + 3) lv (.int (n 24) :: st)) : gG l R Qf Ex D cy b cc nL ret RX12 nm cells slots f pc lv (.ref h :: st) := sgX12_319 hS.1 rfl hdg k
theorem mg_340 (hS : mS cy h a f0 n z F G f) (hdg : decode cc pc = .ok (.getfield 340, 3)) (k : gG l R Qf Ex D cy b cc nL ret RX12 nm cells slots f (pc + 3) lv (.long (z 29) :: st)) : gG l R Qf Ex D cy b cc nL ret RX12 nm cells slots f pc lv (.ref h :: st) := sgX12_340 hS.1 rfl hdg k
theorem mg_361 (hS : mS cy h a f0 n z F G f) (hdg : decode cc pc = .ok (.getfield 361, 3)) (k : gG l R Qf Ex D cy b cc nL ret RX12 nm cells slots f (pc + 3) lv (.int (n 43) :: st)) : gG l R Qf Ex D cy b cc nL ret RX12 nm cells slots f pc lv (.ref h :: st) := sgX12_361 hS.1 rfl hdg k
theorem mg_364 (hS : mS cy h a f0 n z F G f) (hdg : decode cc pc = .ok (.getfield 364, 3)) (k : gG l R Qf Ex D cy b cc nL ret RX12 nm cells slots f (pc + 3) lv (.int (n 38) :: st)) : gG l R Qf Ex D cy b cc nL ret RX12 nm cells slots f pc lv (.ref h :: st) := sgX12_364 hS.1 rfl hdg k
theorem mg_367 (hS : mS cy h a f0 n z F G f) (hdg : decode cc pc = .ok (.getfield 367, 3)) (k : gG l R Qf Ex D cy b cc nL ret RX12 nm cells slots f (pc + 3) lv (.int (n 1) :: st)) : gG l R Qf Ex D cy b cc nL ret RX12 nm cells slots f pc lv (.ref h :: st) := sgX12_367 hS.1 rfl hdg k
theorem mg_394 (hS : mS cy h a f0 n z F G f) (hdg : decode cc pc = .ok (.getfield 394, 3)) (k : gG l R Qf Ex D cy b cc nL ret RX12 nm cells slots f (pc + 3) lv (.int (n 30) :: st)) : gG l R Qf Ex D cy b cc nL ret RX12 nm cells slots f pc lv (.ref h :: st) := sgX12_394 hS.1 rfl hdg k
theorem mg_426 (hS : mS cy h a f0 n z F G f) (hdg : decode cc pc = .ok (.getfield 426, 3)) (k : gG l R Qf Ex D cy b cc nL ret RX12 nm cells slots f (pc + 3) lv (.int (n 46) :: st)) : gG l R Qf Ex D cy b cc nL ret RX12 nm cells slots f pc lv (.ref h :: st) := sgX12_426 hS.1 rfl hdg k
theorem mg_430 (hS : mS cy h a f0 n z F G f) (hdg : decode cc pc = .ok (.getfield 430, 3)) (k : gG l R Qf Ex D cy b cc nL ret RX12 nm cells slots f (pc + 3) lv (.int (n 47) :: st)) : gG l R Qf Ex D cy b cc nL ret RX12 nm cells slots f pc lv (.ref h :: st) := sgX12_430 hS.1 rfl hdg k
theorem mg_447 (hS : mS cy h a f0 n z F G f) (hdg : decode cc pc = .ok (.getfield 447, 3)) (k : gG l R Qf Ex D cy b cc nL ret RX12 nm cells slots f (pc + 3) lv (.int (n 57) :: st)) : gG l R Qf Ex D cy b cc nL ret RX12 nm cells slots f pc lv (.ref h :: st) := sgX12_447 hS.1 rfl hdg k
theorem mg_450 (hS : mS cy h a f0 n z F G f) (hdg : decode cc pc = .ok (.getfield 450, 3)) (k : gG l R Qf Ex D cy b cc nL ret RX12 nm cells slots f (pc + 3) lv (.long (z 67) :: st)) : gG l R Qf Ex D cy b cc nL ret RX12 nm cells slots f pc lv (.ref h :: st) := sgX12_450 hS.1 rfl hdg k
theorem mg_489 (hS : mS cy h a f0 n z F G f) (hdg : decode cc pc = .ok (.getfield 489, 3)) (k : gG l R Qf Ex D cy b cc nL ret RX12 nm cells slots f (pc + 3) lv (.int (n 70) :: st)) : gG l R Qf Ex D cy b cc nL ret RX12 nm cells slots f pc lv (.ref h :: st) := sgX12_489 hS.1 rfl hdg k
theorem mg_495 (hS : mS cy h a f0 n z F G f) (hdg : decode cc pc = .ok (.getfield 495, 3)) (k : gG l R Qf Ex D cy b cc nL ret RX12 nm cells slots f (pc + 3) lv (.int (n 72) :: st)) : gG l R Qf Ex D cy b cc nL ret RX12 nm cells slots f pc lv (.ref h :: st) := sgX12_495 hS.1 rfl hdg k
theorem mg_524 (hS : mS cy h a f0 n z F G f) (hdg : decode cc pc = .ok (.getfield 524, 3)) (k : gG l R Qf Ex D cy b cc nL ret RX12 nm cells slots f (pc + 3) lv (.int (n 83) :: st)) : gG l R Qf Ex D cy b cc nL ret RX12 nm cells slots f pc lv (.ref h :: st) := sgX12_524 hS.1 rfl hdg k
theorem mg_541 (hS : mS cy h a f0 n z F G f) (hdg : decode cc pc = .ok (.getfield 541, 3)) (k : gG l R Qf Ex D cy b cc nL ret RX12 nm cells slots f (pc + 3) lv (.int (n 88) :: st)) : gG l R Qf Ex D cy b cc nL ret RX12 nm cells slots f pc lv (.ref h :: st) := sgX12_541 hS.1 rfl hdg k
theorem mg_544 (hS : mS cy h a f0 n z F G f) (hdg : decode cc pc = .ok (.getfield 544, 3)) (k : gG l R Qf Ex D cy b cc nL ret RX12 nm cells slots f (pc + 3) lv (.int (n 89) :: st)) : gG l R Qf Ex D cy b cc nL ret RX12 nm cells slots f pc lv (.ref h :: st) := sgX12_544 hS.1 rfl hdg k
theorem mp_151 {x : Int32} (hS : mS cy h a f0 n z F G f) (hdg : decode cc pc = .ok (.putfield 151, 3)) (k : ∀ f2, mS cy h a f0 (va_up n 53 x) z F G f2 → gG l R Qf Ex D cy b cc nL ret RX12 nm cells slots f2 (pc + 3) lv st) : gG l R Qf Ex D cy b cc nL ret RX12 nm cells slots f pc lv (.int x :: .ref h :: st) := spX12_151 hS.1 (Nat.le_of_ble_eq_true rfl) hdg (k _ (mS_obj hS))
theorem mp_249 {x : Int32} (hS : mS cy h a f0 n z F G f) (hdg : decode cc pc = .ok (.putfield 249, 3)) (k : ∀ f2, mS cy h a f0 (va_up n 0 x) z F G f2 → gG l R Qf Ex D cy b cc nL ret RX12 nm cells slots f2 (pc + 3) lv st) : gG l R Qf Ex D cy b cc nL ret RX12 nm cells slots f pc lv (.int x :: .ref h :: st) := spX12_249 hS.1 (Nat.le_of_ble_eq_true rfl) hdg (k _ (mS_obj hS))
theorem mp_262 {x : Int32} (hS : mS cy h a f0 n z F G f) (hdg : decode cc pc = .ok (.putfield 262, 3)) (k : ∀ f2, mS cy h a f0 (va_up n 4 x) z F G f2 → gG l R Qf Ex D cy b cc nL ret RX12 nm cells slots f2 (pc + 3) lv st) : gG l R Qf Ex D cy b cc nL ret RX12 nm cells slots f pc lv (.int x :: .ref h :: st) := spX12_262 hS.1 (Nat.le_of_ble_eq_true rfl) hdg (k _ (mS_obj hS))
theorem mp_269 {x : Int32} (hS : mS cy h a f0 n z F G f) (hdg : decode cc pc = .ok (.putfield 269, 3)) (k : ∀ f2, mS cy h a f0 (va_up n 22 x) z F G f2 → gG l R Qf Ex D cy b cc nL ret RX12 nm cells slots f2 (pc + 3) lv st) : gG l R Qf Ex D cy b cc nL ret RX12 nm cells slots f pc lv (.int x :: .ref h :: st) := spX12_269 hS.1 (Nat.le_of_ble_eq_true rfl) hdg (k _ (mS_obj hS))
theorem mp_272 {x : Int32} (hS : mS cy h a f0 n z F G f) (hdg : decode cc pc = .ok (.putfield 272, 3)) (k : ∀ f2, mS cy h a f0 (va_up n 21 x) z F G f2 → gG l R Qf Ex D cy b cc nL ret RX12 nm cells slots f2 (pc + 3) lv st) : gG l R Qf Ex D cy b cc nL ret RX12 nm cells slots f pc lv (.int x :: .ref h :: st) := spX12_272 hS.1 (Nat.le_of_ble_eq_true rfl) hdg (k _ (mS_obj hS))
theorem mp_287 {x : Int32} (hS : mS cy h a f0 n z F G f) (hdg : decode cc pc = .ok (.putfield 287, 3)) (k : ∀ f2, mS cy h a f0 (va_up n 23 x) z F G f2 → gG l R Qf Ex D cy b cc nL ret RX12 nm cells slots f2 (pc + 3) lv st) : gG l R Qf Ex D cy b cc nL ret RX12 nm cells slots f pc lv (.int x :: .ref h :: st) := spX12_287 hS.1 (Nat.le_of_ble_eq_true rfl) hdg (k _ (mS_obj hS))
theorem mp_307 {x : Int32} (hS : mS cy h a f0 n z F G f) (hdg : decode cc pc = .ok (.putfield 307, 3)) (k : ∀ f2, mS cy h a f0 (va_up n 5 x) z F G f2 → gG l R Qf Ex D cy b cc nL ret RX12 nm cells slots f2 (pc + 3) lv st) : gG l R Qf Ex D cy b cc nL ret RX12 nm cells slots f pc lv (.int x :: .ref h :: st) := spX12_307 hS.1 (Nat.le_of_ble_eq_true rfl) hdg (k _ (mS_obj hS))
theorem mp_319 {x : Int32} (hS : mS cy h a f0 n z F G f) (hdg : decode cc pc = .ok (.putfield 319, 3)) (k : ∀ f2, mS cy h a f0 (va_up n 24 x) z F G f2 → gG l R Qf Ex D cy b cc nL ret RX12 nm cells slots f2 (pc + 3) lv st) : gG l R Qf Ex D cy b cc nL ret RX12 nm cells slots f pc lv (.int x :: .ref h :: st) := spX12_319 hS.1 (Nat.le_of_ble_eq_true rfl) hdg (k _ (mS_obj hS))
theorem mp_340 {x : Int64} (hS : mS cy h a f0 n z F G f) (hdg : decode cc pc = .ok (.putfield 340, 3)) (k : ∀ f2, mS cy h a f0 n (va_up z 29 x) F G f2 → gG l R Qf Ex D cy b cc nL ret RX12 nm cells slots f2 (pc + 3) lv st) : gG l R Qf Ex D cy b cc nL ret RX12 nm cells slots f pc lv (.long x :: .ref h :: st) := spX12_340 hS.1 (Nat.le_of_ble_eq_true rfl) hdg (k _ (mS_obj hS))
theorem mp_361 {x : Int32} (hS : mS cy h a f0 n z F G f) (hdg : decode cc pc = .ok (.putfield 361, 3)) (k : ∀ f2, mS cy h a f0 (va_up n 43 x) z F G f2 → gG l R Qf Ex D cy b cc nL ret RX12 nm cells slots f2 (pc + 3) lv st) : gG l R Qf Ex D cy b cc nL ret RX12 nm cells slots f pc lv (.int x :: .ref h :: st) := spX12_361 hS.1 (Nat.le_of_ble_eq_true rfl) hdg (k _ (mS_obj hS))
theorem mp_364 {x : Int32} (hS : mS cy h a f0 n z F G f) (hdg : decode cc pc = .ok (.putfield 364, 3)) (k : ∀ f2, mS cy h a f0 (va_up n 38 x) z F G f2 → gG l R Qf Ex D cy b cc nL ret RX12 nm cells slots f2 (pc + 3) lv st) : gG l R Qf Ex D cy b cc nL ret RX12 nm cells slots f pc lv (.int x :: .ref h :: st) := spX12_364 hS.1 (Nat.le_of_ble_eq_true rfl) hdg (k _ (mS_obj hS))
theorem mp_367 {x : Int32} (hS : mS cy h a f0 n z F G f) (hdg : decode cc pc = .ok (.putfield 367, 3)) (k : ∀ f2, mS cy h a f0 (va_up n 1 x) z F G f2 → gG l R Qf Ex D cy b cc nL ret RX12 nm cells slots f2 (pc + 3) lv st) : gG l R Qf Ex D cy b cc nL ret RX12 nm cells slots f pc lv (.int x :: .ref h :: st) := spX12_367 hS.1 (Nat.le_of_ble_eq_true rfl) hdg (k _ (mS_obj hS))
theorem mp_394 {x : Int32} (hS : mS cy h a f0 n z F G f) (hdg : decode cc pc = .ok (.putfield 394, 3)) (k : ∀ f2, mS cy h a f0 (va_up n 30 x) z F G f2 → gG l R Qf Ex D cy b cc nL ret RX12 nm cells slots f2 (pc + 3) lv st) : gG l R Qf Ex D cy b cc nL ret RX12 nm cells slots f pc lv (.int x :: .ref h :: st) := spX12_394 hS.1 (Nat.le_of_ble_eq_true rfl) hdg (k _ (mS_obj hS))
theorem mp_426 {x : Int32} (hS : mS cy h a f0 n z F G f) (hz : narrow .boolean (.int x) = .int x ∧ fits .boolean (.int x) = true) (hdg : decode cc pc = .ok (.putfield 426, 3)) (k : ∀ f2, mS cy h a f0 (va_up n 46 x) z F G f2 → gG l R Qf Ex D cy b cc nL ret RX12 nm cells slots f2 (pc + 3) lv st) : gG l R Qf Ex D cy b cc nL ret RX12 nm cells slots f pc lv (.int x :: .ref h :: st) := spX12_426 hS.1 hz (Nat.le_of_ble_eq_true rfl) hdg (k _ (mS_obj hS))
theorem mp_430 {x : Int32} (hS : mS cy h a f0 n z F G f) (hdg : decode cc pc = .ok (.putfield 430, 3)) (k : ∀ f2, mS cy h a f0 (va_up n 47 x) z F G f2 → gG l R Qf Ex D cy b cc nL ret RX12 nm cells slots f2 (pc + 3) lv st) : gG l R Qf Ex D cy b cc nL ret RX12 nm cells slots f pc lv (.int x :: .ref h :: st) := spX12_430 hS.1 (Nat.le_of_ble_eq_true rfl) hdg (k _ (mS_obj hS))
theorem mp_447 {x : Int32} (hS : mS cy h a f0 n z F G f) (hdg : decode cc pc = .ok (.putfield 447, 3)) (k : ∀ f2, mS cy h a f0 (va_up n 57 x) z F G f2 → gG l R Qf Ex D cy b cc nL ret RX12 nm cells slots f2 (pc + 3) lv st) : gG l R Qf Ex D cy b cc nL ret RX12 nm cells slots f pc lv (.int x :: .ref h :: st) := spX12_447 hS.1 (Nat.le_of_ble_eq_true rfl) hdg (k _ (mS_obj hS))
theorem mp_450 {x : Int64} (hS : mS cy h a f0 n z F G f) (hdg : decode cc pc = .ok (.putfield 450, 3)) (k : ∀ f2, mS cy h a f0 n (va_up z 67 x) F G f2 → gG l R Qf Ex D cy b cc nL ret RX12 nm cells slots f2 (pc + 3) lv st) : gG l R Qf Ex D cy b cc nL ret RX12 nm cells slots f pc lv (.long x :: .ref h :: st) := spX12_450 hS.1 (Nat.le_of_ble_eq_true rfl) hdg (k _ (mS_obj hS))
theorem mp_489 {x : Int32} (hS : mS cy h a f0 n z F G f) (hdg : decode cc pc = .ok (.putfield 489, 3)) (k : ∀ f2, mS cy h a f0 (va_up n 70 x) z F G f2 → gG l R Qf Ex D cy b cc nL ret RX12 nm cells slots f2 (pc + 3) lv st) : gG l R Qf Ex D cy b cc nL ret RX12 nm cells slots f pc lv (.int x :: .ref h :: st) := spX12_489 hS.1 (Nat.le_of_ble_eq_true rfl) hdg (k _ (mS_obj hS))
theorem mp_495 {x : Int32} (hS : mS cy h a f0 n z F G f) (hdg : decode cc pc = .ok (.putfield 495, 3)) (k : ∀ f2, mS cy h a f0 (va_up n 72 x) z F G f2 → gG l R Qf Ex D cy b cc nL ret RX12 nm cells slots f2 (pc + 3) lv st) : gG l R Qf Ex D cy b cc nL ret RX12 nm cells slots f pc lv (.int x :: .ref h :: st) := spX12_495 hS.1 (Nat.le_of_ble_eq_true rfl) hdg (k _ (mS_obj hS))
theorem mp_524 {x : Int32} (hS : mS cy h a f0 n z F G f) (hdg : decode cc pc = .ok (.putfield 524, 3)) (k : ∀ f2, mS cy h a f0 (va_up n 83 x) z F G f2 → gG l R Qf Ex D cy b cc nL ret RX12 nm cells slots f2 (pc + 3) lv st) : gG l R Qf Ex D cy b cc nL ret RX12 nm cells slots f pc lv (.int x :: .ref h :: st) := spX12_524 hS.1 (Nat.le_of_ble_eq_true rfl) hdg (k _ (mS_obj hS))
theorem mp_541 {x : Int32} (hS : mS cy h a f0 n z F G f) (hdg : decode cc pc = .ok (.putfield 541, 3)) (k : ∀ f2, mS cy h a f0 (va_up n 88 x) z F G f2 → gG l R Qf Ex D cy b cc nL ret RX12 nm cells slots f2 (pc + 3) lv st) : gG l R Qf Ex D cy b cc nL ret RX12 nm cells slots f pc lv (.int x :: .ref h :: st) := spX12_541 hS.1 (Nat.le_of_ble_eq_true rfl) hdg (k _ (mS_obj hS))
theorem mp_544 {x : Int32} (hS : mS cy h a f0 n z F G f) (hz : narrow .boolean (.int x) = .int x ∧ fits .boolean (.int x) = true) (hdg : decode cc pc = .ok (.putfield 544, 3)) (k : ∀ f2, mS cy h a f0 (va_up n 89 x) z F G f2 → gG l R Qf Ex D cy b cc nL ret RX12 nm cells slots f2 (pc + 3) lv st) : gG l R Qf Ex D cy b cc nL ret RX12 nm cells slots f pc lv (.int x :: .ref h :: st) := spX12_544 hS.1 hz (Nat.le_of_ble_eq_true rfl) hdg (k _ (mS_obj hS))
end MS
/-- the reference as it is being made: the rows of the fields below j stand -/
def mB (cy : Nat → ClassId) (h : Nat) (f0 : gMem) (j : Nat) (a : Nat → Option Nat) (n : Nat → Int32) (z : Nat → Int64) (F : Nat → Nat → Int32) (G : Nat → Nat → Int64) (f : gMem) : Prop := f h = some (.inr (12, mFo a n z)) ∧ (∀ k q, a k = some q → q ≠ h ∧ (f0 q = none) ∧ ∃ e, mCell cy F G k = some e ∧ f q = some e) ∧ (∀ i k q, a i = some q → a k = some q → i = k) ∧ (∀ k, j ≤ k → a k = none) ∧ (∀ k, k < j → mTy k ≠ 0 → ∃ q, a k = some q) ∧ fr [h] f0 f
theorem mB_h {cy : Nat → ClassId} {h : Nat} {f0 : gMem} {j : Nat} {a : Nat → Option Nat} {n : Nat → Int32} {z : Nat → Int64} {F : Nat → Nat → Int32} {G : Nat → Nat → Int64} {f : gMem} {q : Nat} {e : Option va_E} (hB : mB cy h f0 j a n z F G f) (hq : f q = none) : va_up f q e h = some (.inr (12, mFo a n z)) := by
  rw [va_up_ne _ _ (cnn hB.1 hq)]
  exact hB.1
theorem mB_alloc {cy : Nat → ClassId} {h : Nat} {f0 : gMem} {j : Nat} {a : Nat → Option Nat} {n : Nat → Int32} {z : Nat → Int64} {F : Nat → Nat → Int32} {G : Nat → Nat → Int64} {f : gMem} {q : Nat} {e : va_E} (k : Nat) (hB : mB cy h f0 j a n z F G f) (hq : f q = none) (hc : mCell cy F G k = some e) (hj : j ≤ k) (hg : ∀ i, i < 90 → j ≤ i → i < k → mTy i = 0) : mB cy h f0 (k + 1) (va_up a k (some q)) n z F G (va_up (va_up f q (some e)) h (some (.inr (12, mFo (va_up a k (some q)) n z)))) := by
  have hh := mB_h (e := some e) hB hq
  obtain ⟨h1, h2, h3, h4, h5, h6⟩ := hB
  have hne : q ≠ h := Ne.symm (cnn h1 hq)
  refine ⟨va_up_self _ _ _, fun i p hp => ?_, fun i i2 p hp hp2 => ?_, fun i hi => ?_, fun i hi ht => ?_, ?_⟩
  · by_cases hik : i = k
    · subst hik
      rw [va_up_self] at hp
      cases hp
      refine ⟨hne, ?_, e, hc, ?_⟩
      · cases h0 : f0 q with
        | none => rfl
        | some e0 =>
          have := h6 q e0 h0 (by simp [hne])
          rw [hq] at this
          cases this
      · rw [va_up_ne _ _ hne, va_up_self]
    · rw [va_up_ne _ _ hik] at hp
      obtain ⟨g1, g2, e', g3, g4⟩ := h2 i p hp
      refine ⟨g1, g2, e', g3, ?_⟩
      rw [va_up_ne _ _ g1, va_up_ne _ _ (cnn g4 hq)]
      exact g4
  · by_cases hik : i = k
    · by_cases hik2 : i2 = k
      · rw [hik, hik2]
      · subst hik
        rw [va_up_self] at hp
        cases hp
        rw [va_up_ne _ _ hik2] at hp2
        obtain ⟨g1, g2, e', g3, g4⟩ := h2 i2 q hp2
        rw [hq] at g4
        cases g4
    · by_cases hik2 : i2 = k
      · subst hik2
        rw [va_up_self] at hp2
        cases hp2
        rw [va_up_ne _ _ hik] at hp
        obtain ⟨g1, g2, e', g3, g4⟩ := h2 i q hp
        rw [hq] at g4
        cases g4
      · rw [va_up_ne _ _ hik] at hp
        rw [va_up_ne _ _ hik2] at hp2
        exact h3 i i2 p hp hp2
  · rw [va_up_ne _ _ (by omega)]
    exact h4 i (by omega)
  · by_cases hik : i = k
    · subst hik
      exact ⟨q, va_up_self _ _ _⟩
    · rw [va_up_ne _ _ hik]
      rcases Nat.lt_or_ge i j with hl | hl
      · exact h5 i hl ht
      · exact absurd (hg i (mTy_lt ht) hl (by omega)) ht
  · exact fr_up (fr_new h6 hq) (by simp)
theorem mB_n {cy : Nat → ClassId} {h : Nat} {f0 : gMem} {j : Nat} {a : Nat → Option Nat} {n n2 : Nat → Int32} {z : Nat → Int64} {F : Nat → Nat → Int32} {G : Nat → Nat → Int64} {f : gMem} (hB : mB cy h f0 j a n z F G f) : mB cy h f0 j a n2 z F G (va_up f h (some (.inr (12, mFo a n2 z)))) := by
  obtain ⟨h1, h2, h3, h4, h5, h6⟩ := hB
  refine ⟨va_up_self _ _ _, fun i p hp => ?_, h3, h4, h5, fr_up h6 (by simp)⟩
  obtain ⟨g1, g2, e', g3, g4⟩ := h2 i p hp
  exact ⟨g1, g2, e', g3, by rw [va_up_ne _ _ g1]; exact g4⟩
theorem mFo_cg {a a2 : Nat → Option Nat} {n : Nat → Int32} {z : Nat → Int64} (h : ∀ k, mTy k ≠ 0 → a k = a2 k) : mFo a n z = mFo a2 n z := by
  unfold mFo
  rw [h 2 (by decide), h 3 (by decide), h 6 (by decide), h 7 (by decide), h 8 (by decide), h 9 (by decide), h 10 (by decide), h 11 (by decide), h 12 (by decide), h 13 (by decide), h 14 (by decide), h 15 (by decide), h 16 (by decide), h 17 (by decide), h 18 (by decide), h 19 (by decide), h 20 (by decide), h 25 (by decide), h 26 (by decide), h 27 (by decide), h 28 (by decide), h 31 (by decide), h 32 (by decide), h 33 (by decide), h 34 (by decide), h 35 (by decide), h 36 (by decide), h 37 (by decide), h 39 (by decide), h 40 (by decide), h 41 (by decide), h 42 (by decide), h 44 (by decide), h 45 (by decide), h 48 (by decide), h 49 (by decide), h 50 (by decide), h 51 (by decide), h 52 (by decide), h 54 (by decide), h 55 (by decide), h 56 (by decide), h 58 (by decide), h 59 (by decide), h 60 (by decide), h 61 (by decide), h 62 (by decide), h 63 (by decide), h 64 (by decide), h 65 (by decide), h 66 (by decide), h 68 (by decide), h 69 (by decide), h 71 (by decide), h 73 (by decide), h 74 (by decide), h 75 (by decide), h 76 (by decide), h 77 (by decide), h 78 (by decide), h 79 (by decide), h 80 (by decide), h 81 (by decide), h 82 (by decide), h 84 (by decide), h 85 (by decide), h 86 (by decide), h 87 (by decide)]
theorem mB_S {cy : Nat → ClassId} {h : Nat} {f0 : gMem} {a : Nat → Option Nat} {n : Nat → Int32} {z : Nat → Int64} {F : Nat → Nat → Int32} {G : Nat → Nat → Int64} {f : gMem} (hB : mB cy h f0 90 a n z F G f) : ∃ a2 : Nat → Nat, mS cy h a2 f0 n z F G f ∧ ∀ k, mTy k ≠ 0 → f0 (a2 k) = none := by
  obtain ⟨h1, h2, h3, h4, h5, h6⟩ := hB
  have key : ∀ k, mTy k ≠ 0 → a k = some ((a k).getD 0) := by
    intro k hk
    obtain ⟨q, hq⟩ := h5 k (mTy_lt hk) hk
    rw [hq]
    rfl
  refine ⟨fun k => (a k).getD 0, ⟨?_, fun k e he => ?_, ⟨fun i j hi hj e => ?_, fun i hi => ?_⟩, fr_mo h6 (fun x hx => by rw [List.mem_singleton.mp hx]; exact mL_h)⟩, fun k hk => (h2 k _ (key k hk)).2.1⟩
  · rw [h1]
    exact congrArg (fun l => some (Sum.inr (12, l))) (mFo_cg key)
  · obtain ⟨-, -, e', g3, g4⟩ := h2 k _ (key k (mCell_ty he))
    rw [he] at g3
    cases g3
    exact g4
  · exact h3 i j _ (key i hi) ((key j hj).trans (congrArg some e.symm))
  · exact (h2 i _ (key i hi)).1

/-! the reference: what a method leaves as it was -/
def fx (Kn Kz KF KG : List Nat) (n : Nat → Int32) (z : Nat → Int64) (F : Nat → Nat → Int32) (G : Nat → Nat → Int64) (n2 : Nat → Int32) (z2 : Nat → Int64) (F2 : Nat → Nat → Int32) (G2 : Nat → Nat → Int64) : Prop := (∀ k, k ∉ Kn → n2 k = n k) ∧ (∀ k, k ∉ Kz → z2 k = z k) ∧ (∀ k, k ∉ KF → F2 k = F k) ∧ (∀ k, k ∉ KG → G2 k = G k)
theorem tm1 : (-1 : Int32).toInt = -1 := rfl
theorem tm99 : (-99 : Int64).toInt = -99 := rfl
theorem tm9 : (-9999 : Int64).toInt = -9999 := rfl
theorem tm10k : (-10000 : Int32).toInt = -10000 := rfl
section FX
variable {Kn Kz KF KG Jn Jz JF JG : List Nat} {n n2 n3 : Nat → Int32} {z z2 z3 : Nat → Int64} {F F2 F3 : Nat → Nat → Int32} {G G2 G3 : Nat → Nat → Int64}
theorem fx_rf : fx Kn Kz KF KG n z F G n z F G := ⟨fun _ _ => rfl, fun _ _ => rfl, fun _ _ => rfl, fun _ _ => rfl⟩
theorem up_out {α : Type} {f g : Nat → α} {K : List Nat} {k : Nat} {x : α} (h : ∀ j, j ∉ K → g j = f j) (hk : k ∈ K) : ∀ j, j ∉ K → va_up g k x j = f j := fun j hj => by
  rw [va_up_ne _ _ (fun e => hj (by rw [e]; exact hk))]; exact h j hj
theorem fx_n {k : Nat} {x : Int32} (h : fx Kn Kz KF KG n z F G n2 z2 F2 G2) (hk : k ∈ Kn) : fx Kn Kz KF KG n z F G (va_up n2 k x) z2 F2 G2 := ⟨up_out h.1 hk, h.2⟩
theorem fx_z {k : Nat} {x : Int64} (h : fx Kn Kz KF KG n z F G n2 z2 F2 G2) (hk : k ∈ Kz) : fx Kn Kz KF KG n z F G n2 (va_up z2 k x) F2 G2 := ⟨h.1, up_out h.2.1 hk, h.2.2⟩
theorem fx_F {k : Nat} {x : Nat → Int32} (h : fx Kn Kz KF KG n z F G n2 z2 F2 G2) (hk : k ∈ KF) : fx Kn Kz KF KG n z F G n2 z2 (va_up F2 k x) G2 := ⟨h.1, h.2.1, up_out h.2.2.1 hk, h.2.2.2⟩
theorem fx_G {k : Nat} {x : Nat → Int64} (h : fx Kn Kz KF KG n z F G n2 z2 F2 G2) (hk : k ∈ KG) : fx Kn Kz KF KG n z F G n2 z2 F2 (va_up G2 k x) := ⟨h.1, h.2.1, h.2.2.1, up_out h.2.2.2 hk⟩
theorem fx_tr (h : fx Kn Kz KF KG n z F G n2 z2 F2 G2) (h2 : fx Jn Jz JF JG n2 z2 F2 G2 n3 z3 F3 G3) (hs : (∀ j, j ∈ Jn → j ∈ Kn) ∧ (∀ j, j ∈ Jz → j ∈ Kz) ∧ (∀ j, j ∈ JF → j ∈ KF) ∧ (∀ j, j ∈ JG → j ∈ KG)) : fx Kn Kz KF KG n z F G n3 z3 F3 G3 :=
  ⟨fun k hk => (h2.1 k (fun q => hk (hs.1 k q))).trans (h.1 k hk), fun k hk => (h2.2.1 k (fun q => hk (hs.2.1 k q))).trans (h.2.1 k hk), fun k hk => (h2.2.2.1 k (fun q => hk (hs.2.2.1 k q))).trans (h.2.2.1 k hk), fun k hk => (h2.2.2.2 k (fun q => hk (hs.2.2.2 k q))).trans (h.2.2.2 k hk)⟩
end FX
