/-! gU: a contract that tells what it took of the room, with more known of the start (Ex) -/
def gMu (H : Heap) : Nat := (H.toList.map (fun c => c.slots.size)).sum
theorem gMu_same {s T : State} {locs : List Loc} {c n : Nat} (h : s.sameButNew (T.setVm s.vm) locs c n) : gMu T.heap = gMu s.heap + ((T.heap.toList.drop s.heap.size).map (fun c => c.slots.size)).sum := by
  obtain ⟨-, h1, -, -, -, h5⟩ := h
  have e : (T.heap.toList.take s.heap.size).map (fun c => c.slots.size) = s.heap.toList.map (fun c => c.slots.size) := by
    apply List.ext_getElem?
    intro i
    rw [List.getElem?_map, List.getElem?_map, List.getElem?_take]
    by_cases hi : i < s.heap.size
    · rw [if_pos hi]
      have hc : s.heap[i]? = some s.heap[i] := Array.getElem?_eq_getElem hi
      obtain ⟨c', h6, -, h7, -⟩ := h5 i _ hc
      rw [Array.getElem?_toList, Array.getElem?_toList, hc, show T.heap[i]? = some c' from h6]
      exact congrArg some h7
    · rw [if_neg hi]
      rw [Array.getElem?_toList, Array.getElem?_eq_none (by omega)]
  unfold gMu
  rw [← e, ← List.sum_append, ← List.map_append, List.take_append_drop]
theorem gMu_le {s T : State} {locs : List Loc} {c n : Nat} (h : s.sameButNew (T.setVm s.vm) locs c n) : gMu T.heap ≤ gMu s.heap + n := by
  rw [gMu_same h]
  have h2 : ((T.heap.toList.drop s.heap.size).map (fun c => c.slots.size)).sum ≤ n := h.2.2.2.2.1
  omega
theorem stand_narrow {p : Program} {l : Launch} {e : Env} {R : Room} {s : State} {m : MethodId} {args : Array Value} {below : List Frame} {meth : Method} {c : Code} {T T' : State} {locs L : List Loc} {cells slots mc ms k n : Nat} (X : Stand p l e R s m args below meth c T locs cells slots) (X' : Stand p l e R s m args below meth c T' (locs ++ L) (cells + mc) (slots + ms)) (h1 : T'.heap.size ≤ T.heap.size + k) (h2 : gMu T'.heap ≤ gMu T.heap + n) : Stand p l e R s m args below meth c T' (locs ++ L) (cells + k) (slots + n) := by
  have a := X.same
  have a' := X'.same
  have m1 := gMu_le a
  have m2 := gMu_same a'
  have h3 : T.heap.size ≤ s.heap.size + cells := a.2.2.1
  exact { X' with same := ⟨a'.1, a'.2.1, (show T'.heap.size ≤ s.heap.size + (cells + k) by omega), a'.2.2.2.1, (show ((T'.heap.toList.drop s.heap.size).map (fun c => c.slots.size)).sum ≤ slots + n by omega), a'.2.2.2.2.2⟩ }
def gQu (D : va_G) (b : Nat) (Pu : Nat → Nat → Option Value → gMem → Prop) : Array Value → State → Outcome → State → Prop := fun _ st oc t => (∃ (r : Option Value) (f' : gMem) (k n : Nat), oc = .returned r ∧ Pu k n r f' ∧ pw D b f' t.heap ∧ t.heap.size ≤ st.heap.size + k ∧ gMu t.heap ≤ gMu st.heap + n) ∧ va_F (fun q : Nat => b ≤ q) st t
abbrev gQuf (D : va_G) (b : Nat) (Pu : Nat → Nat → Option Value → gMem → Prop) (mc ms : Nat) : List Frame → Array Value → State → State → Prop := fun below args s => MQ below (gQu D b Pu) args s mc ms (fun q : Nat => b ≤ q)
def gU (l : Launch) (D : va_G) (cy : Nat → ClassId) (b : Nat) (y : MethodName) (cc : ByteArray) (nL : Nat) (ret : Option FieldType) (d mc ms : Nat) (av : List Value) (f : gMem) (Ex : State → Prop) (Pu : Nat → Nat → Option Value → gMem → Prop) : Prop :=
  Met l y (.code y cc nL ret :: gW) (gRm d mc ms) (va_Pc av (fun U => b ≤ U.heap.size ∧ pw D b f U.heap ∧ gK D cy b U ∧ Ex U)) (gQu D b Pu) mc ms (fun q : Nat => b ≤ q)
theorem gU_of {l : Launch} {D : va_G} {cy : Nat → ClassId} {b : Nat} {y : MethodName} {cc : ByteArray} {nL : Nat} {ret : Option FieldType} {d mc ms : Nat} {av : List Value} {f : gMem} {Ex : State → Prop} {Pu : Nat → Nat → Option Value → gMem → Prop} (hy : plainName y.cls = true) (hn : (lg_sl av).length ≤ nL)
    (h : gG l (gRm d mc ms) (gQuf D b Pu mc ms) Ex D cy b cc nL ret y.cls y.name 0 0 f 0 (lv_args 0 av) []) : gU l D cy b y cc nL ret d mc ms av f Ex Pu := by
  refine Met.ofW (cc := cc) (maxL := nL) (ret := ret) hy rfl ?_
  intro p e s m args below meth c s₁ B hml hv
  obtain ⟨rfl, hb, hP, hK, hE⟩ := hv
  have hts := atoms_spec (ws := .code y cc nL ret :: gW) B.pre
  have hl := lv_entry av (n := nL) hn
  rw [lg_entry_eq]
  exact h p e s m _ below meth c s.heap [] _ ⟨B.exec, B.bytes, hml, B.returns, findClass_of_methodNamed B.named, fun w hw => hts w (List.mem_cons_of_mem _ hw), B.notSynchronized, (name_of_methodNamed B.named B.method).1, hK, hb, hE⟩ hP va_S.rf hl
/-- what is known of the start goes on to hold -/
def gEok (b : Nat) (Ex : State → Prop) : Prop := (∀ s U : State, s.WarmedH U.vm → (∀ q : Nat, q < s.heap.size → ¬ b ≤ q → U.heap[q]? = s.heap[q]?) → Ex s → Ex U) ∧ ∀ s U : State, s.vm = U.vm → U.heap = s.heap → Ex s → Ex U
theorem gEok_tt {b : Nat} : gEok b gTt := ⟨fun _ _ _ _ _ => trivial, fun _ _ _ _ _ => trivial⟩
/-- the place q holds the string constant -/
def gStr (b q : Nat) (U : State) : Prop := ∃ t : Nat, va_O "java/lang/String" q (fun x : Nat => b ≤ x) U U.heap ∧ va_OF "java/lang/String" "coder" "B" (.int 0) q (fun x : Nat => b ≤ x) U U.heap ∧ va_OF "java/lang/String" "value" "[B" (.ref t) q (fun x : Nat => b ≤ x) U U.heap ∧ va_T .byte t 88 (fun j => .int (gBy.getD j 0)) (fun x : Nat => b ≤ x) U U.heap
theorem gEok_str {b q : Nat} : gEok b (gStr b q) := by
  refine ⟨fun s U hW hq h => ?_, fun s U hvm hh h => ?_⟩
  · obtain ⟨t, h1, h2, h3, h4⟩ := h
    exact ⟨t, (va_O.moved hW.alike h1).kept hq, (va_OF.moved hW.alike h2).kept hq, (va_OF.moved hW.alike h3).kept hq, (va_T.moved hW.alike h4).kept hq⟩
  · obtain ⟨t, h1, h2, h3, h4⟩ := h
    have A := Vm.Alike.refl s.vm
    refine ⟨t, ?_, ?_, ?_, ?_⟩
    · rw [hh]; exact va_O.moved (hvm ▸ A) h1
    · rw [hh]; exact va_OF.moved (hvm ▸ A) h2
    · rw [hh]; exact va_OF.moved (hvm ▸ A) h3
    · rw [hh]; exact va_T.moved (hvm ▸ A) h4
section GU
variable {l : Launch} {R : Room} {Qf : List Frame → Array Value → State → State → Prop} {Ex Ex' : State → Prop} {D : va_G} {cy : Nat → ClassId} {b : Nat} {cc : ByteArray} {nL : Nat} {ret : Option FieldType} {own nm : String} {cells slots : Nat} {f : gMem} {pc : Nat} {lv lv' : List (Nat × Value)} {st : List Value}
theorem gz_iretU {Pu : Nat → Nat → Option Value → gMem → Prop} {mc ms : Nat} {v : Int32} (hr : ret = some .int) (hdg : decode cc pc = .ok (.ireturn, 1)) (h1 : cells ≤ mc) (h2 : slots ≤ ms) (hp : Pu cells slots (some (.int v)) f) : gG l R (gQuf D b Pu mc ms) Ex D cy b cc nL ret own nm cells slots f pc lv [.int v] := fun p e s m args below meth c H locs ls F hP hS hl T hT X => by
  have u1 : H.size ≤ s.heap.size + cells := by rw [← hT]; exact X.same.2.2.1
  have u2 : gMu H ≤ gMu s.heap + slots := by rw [← hT]; exact gMu_le X.same
  exact W.widen h1 h2 (W.iret F.1 F.2.1 (F.2.2.2.1.trans hr) (fun t ht hW => ⟨⟨_, f, cells, slots, rfl, hp, by rw [ht]; exact hP, by rw [ht]; exact u1, by rw [ht]; exact u2⟩, hS.F ht⟩) hS.2.2 hdg F.2.2.2.2.2.2.1) T hT X
theorem gz_zretU {Pu : Nat → Nat → Option Value → gMem → Prop} {mc ms : Nat} {v : Int32} {ty : FieldType} (hr : ret = some ty) (hn : narrow ty (.int v) = .int v) (hdg : decode cc pc = .ok (.ireturn, 1)) (h1 : cells ≤ mc) (h2 : slots ≤ ms) (hp : Pu cells slots (some (.int v)) f) : gG l R (gQuf D b Pu mc ms) Ex D cy b cc nL ret own nm cells slots f pc lv [.int v] := fun p e s m args below meth c H locs ls F hP hS hl T hT X => by
  have u1 : H.size ≤ s.heap.size + cells := by rw [← hT]; exact X.same.2.2.1
  have u2 : gMu H ≤ gMu s.heap + slots := by rw [← hT]; exact gMu_le X.same
  exact W.widen h1 h2 (W.zret F.1 F.2.1 (F.2.2.2.1.trans hr) hn (fun t ht hW => ⟨⟨_, f, cells, slots, rfl, hp, by rw [ht]; exact hP, by rw [ht]; exact u1, by rw [ht]; exact u2⟩, hS.F ht⟩) hS.2.2 hdg F.2.2.2.2.2.2.1) T hT X
theorem gz_vretU {Pu : Nat → Nat → Option Value → gMem → Prop} {mc ms : Nat} (hr : ret = none) (hdg : decode cc pc = .ok (.return_, 1)) (h1 : cells ≤ mc) (h2 : slots ≤ ms) (hp : Pu cells slots none f) : gG l R (gQuf D b Pu mc ms) Ex D cy b cc nL ret own nm cells slots f pc lv [] := fun p e s m args below meth c H locs ls F hP hS hl T hT X => by
  have u1 : H.size ≤ s.heap.size + cells := by rw [← hT]; exact X.same.2.2.1
  have u2 : gMu H ≤ gMu s.heap + slots := by rw [← hT]; exact gMu_le X.same
  exact W.widen h1 h2 (W.vret F.1 F.2.1 (F.2.2.2.1.trans hr) (fun t ht hW => ⟨⟨_, f, cells, slots, rfl, hp, by rw [ht]; exact hP, by rw [ht]; exact u1, by rw [ht]; exact u2⟩, hS.F ht⟩) hS.2.2 hdg F.2.2.2.2.2.2.1) T hT X
theorem g_callU {p : Program} {e : Env} {s : State} {m : MethodId} {args : Array Value} {below : List Frame} {meth : Method} {c : Code} {H : Heap} {locs : List Loc} {ls : Array Slot} {st0 : List Value} {mc' ms' : Nat} {av : Array Value} {Pu' : Nat → Nat → Option Value → gMem → Prop} (F : gFx p s m args meth c Ex D cy b cc nL ret own nm) (hS : va_S (fun q : Nat => b ≤ q) s.heap H locs) (hl : lv_has ls nL lv)
    (hr : va_Run p l e R s m args below meth c H locs cells slots mc' ms' (F0 m pc ls st0) st (gQu D b Pu' av) (fun q : Nat => b ≤ q))
    (k : ∀ kk nn r f', Pu' kk nn r f' → gG l R Qf Ex D cy b cc nL ret own nm (cells + kk) (slots + nn) f' (pc + 3) lv (r.toList ++ st)) : W p l e R s m args below meth c H locs cells slots (Qf below args s) (F0 m pc ls st0) := by
  intro T hT X
  obtain ⟨v, st₀, t, T', L, h0, X', hL, e1, e2, ⟨⟨r, f', kk, nn, hv, hp, hw, u1, u2⟩, hz, hk⟩, stp⟩ := hr T hT X
  cases hv
  rw [h0] at hz hk u1 u2
  have X2 := stand_narrow (k := kk) (n := nn) X X' (by rw [e1, hT]; exact u1) (by rw [e1, hT]; exact u2)
  obtain ⟨t2, a1, b1⟩ := k kk nn v f' hp p e s m args below meth c T'.heap (locs ++ L) ls F (by rw [e1]; exact hw)
    ⟨Nat.le_trans hS.1 (by rw [e1]; exact hz), fun q h1 h2 => by rw [e1, hk q (Nat.lt_of_lt_of_le h1 hS.1) h2]; exact hS.2.1 q h1 h2, fun q hq => by
      rcases List.mem_append.mp hq with h | h
      · exact hS.2.2 q h
      · exact hL q h⟩ hl T' rfl X2
  exact ⟨t2, stp t2 a1, b1⟩
theorem gBlindU {av : List Value} (hE : gEok b Ex) : FrameBlind (va_Pc av (fun U => b ≤ U.heap.size ∧ pw D b f U.heap ∧ gK D cy b U ∧ Ex U)) := fun a U g mk q => ⟨q.1, q.2.1, q.2.2.1, gK_same (s := U) (U := U.calling g mk a) rfl rfl q.2.2.2.1, hE.2 U (U.calling g mk a) rfl rfl q.2.2.2.2⟩
theorem gz_callVU {y : MethodName} {cc' : ByteArray} {nL' d' mc' ms' idx n : Nat} {ret' : Option FieldType} {As st0 : List Value} {Pu' : Nat → Nat → Option Value → gMem → Prop} {a ci N : Nat} {C : String} {T : u_T} {fs : List Value} (hM : gU l D cy b y cc' nL' ret' d' mc' ms' (.ref a :: As) f Ex' Pu') (hE : gEok b Ex') (hX : ∀ U : State, Ex U → Ex' U) (hf : f a = some (.inr (ci, fs))) (hc : vwCl[ci]? = some (C, T, N)) (hw : Cond.code y cc' nL' ret' ∈ gW) (hw2 : Cond.methodLink own idx y ∈ gW ∧ Cond.instanceMethod y ∈ gW ∧ Cond.selects C y y ∈ gW ∧ Cond.initialized C ∈ gW) (hy : y.cls = C ∧ y.cls ≠ "java/lang/invoke/MethodHandle" ∧ y.cls ≠ "java/lang/invoke/VarHandle" ∧ (parseMethodDescriptor y.desc).map (fun d => d.parameters.length) = some n) (hR : d' + 1 ≤ R.frames ∧ 8 + (nL' + 11) + 64 * d' ≤ R.locals) (hcs : cells + mc' ≤ R.cells ∧ slots + ms' ≤ R.slots) (hn : As.length = n) (hst : st0 = As.reverse ++ .ref a :: st) (hsum : (st.map fun v => v.category).sum ≤ 8) (hdg : decode cc pc = .ok (.invokevirtual idx, 3)) (k : ∀ kk nn r f', Pu' kk nn r f' → gG l R Qf Ex D cy b cc nL ret own nm (cells + kk) (slots + nn) f' (pc + 3) lv (r.toList ++ st)) : gG l R Qf Ex D cy b cc nL ret own nm cells slots f pc lv st0 := fun p e s m args below meth c H locs ls F hP hS hl => by
  obtain ⟨L, g, q, h1, h2, h3, h4, h5, h6⟩ := pw_at hP hf
  refine g_callU F hS hl (va_runV (As := As) (rest := st) (nL := nL) (C := C) (n := n) (bytes := cc') (maxL := nL') (ret := ret') ⟨F.1, F.2.1, F.2.2.1, F.2.2.2.2.1, F.2.2.2.2.2.1⟩ hM ?_ ⟨gBlindU hE, va_recv F.2.2.2.2.2.2.2.2.1.1 h2 (q := (C, T, N)) hc h4, fun U hU hW => ⟨rfl, Nat.le_trans F.2.2.2.2.2.2.2.2.2.1 (by rw [hU]; exact hS.1), by rw [hU]; exact hP, gK_warm hW (fun q z1 z2 => by rw [hU]; exact hS.2.1 q z1 z2) F.2.2.2.2.2.2.2.2.1, hE.1 s U hW (fun q z1 z2 => by rw [hU]; exact hS.2.1 q z1 z2) (hX s F.2.2.2.2.2.2.2.2.2.2)⟩⟩ rfl hn hl.1 hst (lv_room hsum) hdg hcs) k
  refine cwV (Ts := gW) n F.2.2.2.2.2.1 ?_ rfl rfl rfl hy hR
  intro w hw'
  rcases List.mem_append.mp hw' with h | h
  · have hm : w ∈ gW := by
      rcases List.mem_cons.mp h with h | h
      · subst h; exact hw2.1
      · rcases List.mem_cons.mp h with h | h
        · subst h; exact hw2.2.1
        · rcases List.mem_cons.mp h with h | h
          · subst h; exact hw2.2.2.1
          · rcases List.mem_cons.mp h with h | h
            · subst h; exact hw2.2.2.2
            · cases h
    exact ⟨hm, good_of_word (List.all_eq_true.mp gGood w hm)⟩
  · exact gIn hw w h
theorem gz_callVS {y : MethodName} {cc' : ByteArray} {nL' d' mc' ms' idx n : Nat} {ret' : Option FieldType} {As st0 : List Value} {Pu' : Nat → Nat → Option Value → gMem → Prop} {a : Nat} {C : String} (hM : gU l D cy b y cc' nL' ret' d' mc' ms' (.ref a :: As) f Ex' Pu') (hE : gEok b Ex') (hX : ∀ U : State, Ex U → Ex' U) (hrec : ∀ U : State, Ex U → va_O C a (fun x : Nat => b ≤ x) U U.heap) (hw : Cond.code y cc' nL' ret' ∈ gW) (hw2 : Cond.methodLink own idx y ∈ gW ∧ Cond.instanceMethod y ∈ gW ∧ Cond.selects C y y ∈ gW ∧ Cond.initialized C ∈ gW) (hy : y.cls = C ∧ y.cls ≠ "java/lang/invoke/MethodHandle" ∧ y.cls ≠ "java/lang/invoke/VarHandle" ∧ (parseMethodDescriptor y.desc).map (fun d => d.parameters.length) = some n) (hR : d' + 1 ≤ R.frames ∧ 8 + (nL' + 11) + 64 * d' ≤ R.locals) (hcs : cells + mc' ≤ R.cells ∧ slots + ms' ≤ R.slots) (hn : As.length = n) (hst : st0 = As.reverse ++ .ref a :: st) (hsum : (st.map fun v => v.category).sum ≤ 8) (hdg : decode cc pc = .ok (.invokevirtual idx, 3)) (k : ∀ kk nn r f', Pu' kk nn r f' → gG l R Qf Ex D cy b cc nL ret own nm (cells + kk) (slots + nn) f' (pc + 3) lv (r.toList ++ st)) : gG l R Qf Ex D cy b cc nL ret own nm cells slots f pc lv st0 := fun p e s m args below meth c H locs ls F hP hS hl => by
  obtain ⟨cell, g1, g2, g3, -⟩ := (hrec s F.2.2.2.2.2.2.2.2.2.2).kept hS.2.1
  refine g_callU F hS hl (va_runV (As := As) (rest := st) (nL := nL) (C := C) (n := n) (bytes := cc') (maxL := nL') (ret := ret') ⟨F.1, F.2.1, F.2.2.1, F.2.2.2.2.1, F.2.2.2.2.2.1⟩ hM ?_ ⟨gBlindU hE, ⟨cell, g1, g2, g3⟩, fun U hU hW => ⟨rfl, Nat.le_trans F.2.2.2.2.2.2.2.2.2.1 (by rw [hU]; exact hS.1), by rw [hU]; exact hP, gK_warm hW (fun q z1 z2 => by rw [hU]; exact hS.2.1 q z1 z2) F.2.2.2.2.2.2.2.2.1, hE.1 s U hW (fun q z1 z2 => by rw [hU]; exact hS.2.1 q z1 z2) (hX s F.2.2.2.2.2.2.2.2.2.2)⟩⟩ rfl hn hl.1 hst (lv_room hsum) hdg hcs) k
  refine cwV (Ts := gW) n F.2.2.2.2.2.1 ?_ rfl rfl rfl hy hR
  intro w hw'
  rcases List.mem_append.mp hw' with h | h
  · have hm : w ∈ gW := by
      rcases List.mem_cons.mp h with h | h
      · subst h; exact hw2.1
      · rcases List.mem_cons.mp h with h | h
        · subst h; exact hw2.2.1
        · rcases List.mem_cons.mp h with h | h
          · subst h; exact hw2.2.2.1
          · rcases List.mem_cons.mp h with h | h
            · subst h; exact hw2.2.2.2
            · cases h
    exact ⟨hm, good_of_word (List.all_eq_true.mp gGood w hm)⟩
  · exact gIn hw w h
theorem gz_callSU {y : MethodName} {cc' : ByteArray} {nL' d' mc' ms' idx n : Nat} {ret' : Option FieldType} {As st0 : List Value} {Pu' : Nat → Nat → Option Value → gMem → Prop} (hM : gU l D cy b y cc' nL' ret' d' mc' ms' As f Ex' Pu') (hE : gEok b Ex') (hX : ∀ U : State, Ex U → Ex' U) (hw : Cond.code y cc' nL' ret' ∈ gW) (hw2 : Cond.methodLink own idx y ∈ gW ∧ Cond.static y ∈ gW ∧ Cond.initialized y.cls ∈ gW) (hy : y.cls ≠ "java/lang/invoke/MethodHandle" ∧ y.cls ≠ "java/lang/invoke/VarHandle" ∧ (parseMethodDescriptor y.desc).map (fun d => d.parameters.length) = some n) (hR : d' + 1 ≤ R.frames ∧ 8 + (nL' + 11) + 64 * d' ≤ R.locals) (hcs : cells + mc' ≤ R.cells ∧ slots + ms' ≤ R.slots) (hn : As.length = n) (hst : st0 = As.reverse ++ st) (hsum : (st.map fun v => v.category).sum ≤ 8) (hdg : decode cc pc = .ok (.invokestatic idx, 3)) (k : ∀ kk nn r f', Pu' kk nn r f' → gG l R Qf Ex D cy b cc nL ret own nm (cells + kk) (slots + nn) f' (pc + 3) lv (r.toList ++ st)) : gG l R Qf Ex D cy b cc nL ret own nm cells slots f pc lv st0 := fun p e s m args below meth c H locs ls F hP hS hl => by
  refine g_callU F hS hl (va_runS (As := As) (rest := st) (nL := nL) (n := n) (bytes := cc') (maxL := nL') (ret := ret') ⟨F.1, F.2.1, F.2.2.1, F.2.2.2.2.1, F.2.2.2.2.2.1⟩ hM ?_ ⟨gBlindU hE, fun U hU hW => ⟨rfl, Nat.le_trans F.2.2.2.2.2.2.2.2.2.1 (by rw [hU]; exact hS.1), by rw [hU]; exact hP, gK_warm hW (fun q z1 z2 => by rw [hU]; exact hS.2.1 q z1 z2) F.2.2.2.2.2.2.2.2.1, hE.1 s U hW (fun q z1 z2 => by rw [hU]; exact hS.2.1 q z1 z2) (hX s F.2.2.2.2.2.2.2.2.2.2)⟩⟩ rfl hn hl.1 hst (lv_room hsum) hdg hcs) k
  refine va_cwS (Ts := gW) n F.2.2.2.2.2.1 ?_ rfl rfl rfl hy hR
  intro w hw'
  rcases List.mem_append.mp hw' with h | h
  · have hm : w ∈ gW := by
      rcases List.mem_cons.mp h with h | h
      · subst h; exact hw2.1
      · rcases List.mem_cons.mp h with h | h
        · subst h; exact hw2.2.1
        · rcases List.mem_cons.mp h with h | h
          · subst h; exact hw2.2.2
          · cases h
    exact ⟨hm, good_of_word (List.all_eq_true.mp gGood w hm)⟩
  · exact gIn hw w h
theorem gz_ldcS (hown : own = "DeedTongue") (hdg : decode cc pc = .ok (.ldc 251, 2)) (k : ∀ q : Nat, gG l R Qf (gStr b q) D cy b cc nL ret own nm cells slots f (pc + 2) lv (.ref q :: st)) : gG l R Qf Ex D cy b cc nL ret own nm cells slots f pc lv st := fun p e s m args below meth c H locs ls F hP hS hl => by
  subst hown
  obtain ⟨ak, av, h1, h2, -⟩ := F.2.2.2.2.2.2.2.2.1.2.2.2.2
  have hq : gStr b (ak 0) s := ⟨av 0, (h1.1 0 Nat.one_pos).1, (h1.1 0 Nat.one_pos).2.1, (h1.1 0 Nat.one_pos).2.2.1, (h1.1 0 Nat.one_pos).2.2.2⟩
  exact va_ldcS F.1 F.2.1 F.2.2.2.2.1 h2 hdg (k (ak 0) p e s m args below meth c H locs ls ⟨F.1, F.2.1, F.2.2.1, F.2.2.2.1, F.2.2.2.2.1, F.2.2.2.2.2.1, F.2.2.2.2.2.2.1, F.2.2.2.2.2.2.2.1, F.2.2.2.2.2.2.2.2.1, F.2.2.2.2.2.2.2.2.2.1, hq⟩ hP hS hl)
theorem gz_coder {q idx : Nat} (hlk : Cond.fieldLink own idx "java/lang/String" "coder" "B" ∈ gW) (hdg : decode cc pc = .ok (.getfield idx, 3)) (k : gG l R Qf (gStr b q) D cy b cc nL ret own nm cells slots f (pc + 3) lv (.int 0 :: st)) : gG l R Qf (gStr b q) D cy b cc nL ret own nm cells slots f pc lv (.ref q :: st) := fun p e s m args below meth c H locs ls F hP hS hl => by
  obtain ⟨t, h1, h2, h3, h4⟩ := F.2.2.2.2.2.2.2.2.2.2
  exact vk_getf F.1 F.2.1 h2 hS F.2.2.2.2.1 (F.2.2.2.2.2.1 _ hlk) (fun x h => h) hdg (k p e s m args below meth c H locs ls F hP hS hl)
theorem gz_svalue {q idx : Nat} (hlk : Cond.fieldLink own idx "java/lang/String" "value" "[B" ∈ gW) (hdg : decode cc pc = .ok (.getfield idx, 3)) (k : ∀ t : Nat, gG l R Qf (fun U => gStr b q U ∧ va_T .byte t 88 (fun j => .int (gBy.getD j 0)) (fun x : Nat => b ≤ x) U U.heap) D cy b cc nL ret own nm cells slots f (pc + 3) lv (.ref t :: st)) : gG l R Qf (gStr b q) D cy b cc nL ret own nm cells slots f pc lv (.ref q :: st) := fun p e s m args below meth c H locs ls F hP hS hl => by
  obtain ⟨t, h1, h2, h3, h4⟩ := F.2.2.2.2.2.2.2.2.2.2
  exact vk_getf F.1 F.2.1 h3 hS F.2.2.2.2.1 (F.2.2.2.2.2.1 _ hlk) (fun x h => h) hdg (k t p e s m args below meth c H locs ls ⟨F.1, F.2.1, F.2.2.1, F.2.2.2.1, F.2.2.2.2.1, F.2.2.2.2.2.1, F.2.2.2.2.2.2.1, F.2.2.2.2.2.2.2.1, F.2.2.2.2.2.2.2.2.1, F.2.2.2.2.2.2.2.2.2.1, ⟨t, h1, h2, h3, h4⟩, h4⟩ hP hS hl)
theorem gz_stlen {t : Nat} (hx : ∀ U : State, Ex U → va_T .byte t 88 (fun j => .int (gBy.getD j 0)) (fun x : Nat => b ≤ x) U U.heap) (hdg : decode cc pc = .ok (.arraylength, 1)) (k : gG l R Qf Ex D cy b cc nL ret own nm cells slots f (pc + 1) lv (.int 88 :: st)) : gG l R Qf Ex D cy b cc nL ret own nm cells slots f pc lv (.ref t :: st) := fun p e s m args below meth c H locs ls F hP hS hl => va_tlen F.1 F.2.1 (hx s F.2.2.2.2.2.2.2.2.2.2) hS rfl hdg (k p e s m args below meth c H locs ls F hP hS hl)
theorem gz_stb {t : Nat} {i : Int32} (hx : ∀ U : State, Ex U → va_T .byte t 88 (fun j => .int (gBy.getD j 0)) (fun x : Nat => b ≤ x) U U.heap) (hin : vp_in i 88) (hdg : decode cc pc = .ok (.baload, 1)) (k : gG l R Qf Ex D cy b cc nL ret own nm cells slots f (pc + 1) lv (.int (gBy.getD i.toNatClampNeg 0) :: st)) : gG l R Qf Ex D cy b cc nL ret own nm cells slots f pc lv (.int i :: .ref t :: st) := fun p e s m args below meth c H locs ls F hP hS hl => va_tb F.1 F.2.1 (hx s F.2.2.2.2.2.2.2.2.2.2) hS hin rfl hdg (k p e s m args below meth c H locs ls F hP hS hl)
theorem gz_compact {idx : Nat} (hlk : Cond.fieldLink own idx "java/lang/String" "COMPACT_STRINGS" "Z" ∈ gW) (hdg : decode cc pc = .ok (.getstatic idx, 3)) (k : gG l R Qf Ex D cy b cc nL ret own nm cells slots f (pc + 3) lv (.int 1 :: st)) : gG l R Qf Ex D cy b cc nL ret own nm cells slots f pc lv st := fun p e s m args below meth c H locs ls F hP hS hl => by
  obtain ⟨ak, av, h1, h2, h3, -⟩ := F.2.2.2.2.2.2.2.2.1.2.2.2.2
  exact va_gets F.1 F.2.1 h3 hS F.2.2.2.2.1 (F.2.2.2.2.2.1 _ hlk) (fun x h => h) hdg (k p e s m args below meth c H locs ls F hP hS hl)
theorem gz_fmt {idx : Nat} (hlk : Cond.fieldLink own idx "jdk/internal/util/Preconditions" "SIOOBE_FORMATTER" "Ljava/util/function/BiFunction;" ∈ gW) (hdg : decode cc pc = .ok (.getstatic idx, 3)) (k : ∀ o : Option Nat, gG l R Qf Ex D cy b cc nL ret own nm cells slots f (pc + 3) lv (va_rf o :: st)) : gG l R Qf Ex D cy b cc nL ret own nm cells slots f pc lv st := fun p e s m args below meth c H locs ls F hP hS hl => by
  obtain ⟨ak, av, h1, h2, h3, h4⟩ := F.2.2.2.2.2.2.2.2.1.2.2.2.2
  rcases h4 with h4 | ⟨t, h4⟩
  · exact va_gets F.1 F.2.1 h4 hS F.2.2.2.2.1 (F.2.2.2.2.2.1 _ hlk) (fun x h => h) hdg (k none p e s m args below meth c H locs ls F hP hS hl)
  · exact va_gets F.1 F.2.1 h4 hS F.2.2.2.2.1 (F.2.2.2.2.2.1 _ hlk) (fun x h => h) hdg (k (some t) p e s m args below meth c H locs ls F hP hS hl)
theorem gz_i2c {x v : Int32} (hdg : decode cc pc = .ok (.i2c, 1)) (hv : (x.toUInt32 % 65536).toInt32 = v) (k : gG l R Qf Ex D cy b cc nL ret own nm cells slots f (pc + 1) lv (.int v :: st)) : gG l R Qf Ex D cy b cc nL ret own nm cells slots f pc lv (.int x :: st) := fun p e s m args below meth c H locs ls F hP hS hl => lv_i2c F.1 F.2.1 hdg hv (k p e s m args below meth c H locs ls F hP hS hl)
theorem gz_ex (hx : ∀ U : State, Ex U → Ex' U) (k : gG l R Qf Ex' D cy b cc nL ret own nm cells slots f pc lv st) : gG l R Qf Ex D cy b cc nL ret own nm cells slots f pc lv st := fun p e s m args below meth c H locs ls F hP hS hl => k p e s m args below meth c H locs ls ⟨F.1, F.2.1, F.2.2.1, F.2.2.2.1, F.2.2.2.2.1, F.2.2.2.2.2.1, F.2.2.2.2.2.2.1, F.2.2.2.2.2.2.2.1, F.2.2.2.2.2.2.2.2.1, F.2.2.2.2.2.2.2.2.2.1, hx s F.2.2.2.2.2.2.2.2.2.2⟩ hP hS hl
end GU
