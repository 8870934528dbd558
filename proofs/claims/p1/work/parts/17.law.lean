abbrev lwQf : List Frame → Array Value → State → State → Prop := fun below args s => lw_Z below args s
abbrev lwEx (bs L b : Nat) (xs : Nat → Int32) : State → Prop := fun s => (va_X bs L xs s s.heap ∧ bs < b ∧ bs < s.heap.size) ∧ s.heap.size ≤ b
theorem lw_ret2 {p : Program} {l : Launch} {e : Env} {s : State} {m : MethodId} {args : Array Value} {below : List Frame} {meth : Method} {c : Code} (hx : p.tables.exec = Jvm.exec) (hb : c.code = code) (hr : meth.sig.returnType = ret) (hlocks : meth.locks = false) {pc : Nat} {H : Heap} {ls : Array Slot} (hdg : decode code pc = .ok (.ireturn, 1)) : W p l e room_1 s m args below meth c H [] 600000 7302250 (lw_Z below args s) (F0 m pc ls [.int 1]) := by
  intro T hT X
  obtain ⟨fs, hret, hrun, hended, hW, hframe⟩ := X.leave (v := some (.int 1)) (hlocks := hlocks) (fun h => by rw [hr] at h; cases h)
  have hmeth' : T.vm.method? m = some meth := X.method'
  refine ⟨T.setFrames fs, ?_, .returned (some (.int 1)), hrun, hended, rfl, ⟨_, rfl⟩, hW, hframe⟩
  jvm_step X.here [X.here.top, hx, hb, hdg, hmeth', hr, ret, narrow_b1]
  (try refine ⟨rfl, ?_⟩); (try refine ⟨rfl, ?_⟩)
  first | (intro acts; rw [hret _ acts rfl rfl rfl]) | rw [hret _ _ rfl rfl rfl]
  exact Steps.refl _
section LW
variable {l : Launch} {D : va_G} {cy : Nat → ClassId} {b bs L : Nat} {xs : Nat → Int32} {nm : String} {cells slots : Nat} {f : gMem} {pc : Nat} {lv : List (Nat × Value)} {st : List Value}
theorem lz_ret (hdg : decode code pc = .ok (.ireturn, 1)) (h1 : cells ≤ 600000) (h2 : slots ≤ 7302250) : gG l room_1 lwQf (lwEx bs L b xs) D cy b code 4 ret RL nm cells slots f pc lv [.int 1] := fun p e s m args below meth c H locs ls F hP hS hl => W.widen h1 h2 (va_forget (fun q hq => Nat.le_trans F.2.2.2.2.2.2.2.2.2.2.2 (hS.2.2 q hq)) (lw_ret2 F.1 F.2.1 F.2.2.2.1 F.2.2.2.2.2.2.1 hdg))
theorem lz_slen (hdg : decode code pc = .ok (.arraylength, 1)) (k : gG l room_1 lwQf (lwEx bs L b xs) D cy b code 4 ret RL nm cells slots f (pc + 1) lv (.int (Int32.ofNat L) :: st)) : gG l room_1 lwQf (lwEx bs L b xs) D cy b code 4 ret RL nm cells slots f pc lv (.ref bs :: st) := fun p e s m args below meth c H locs ls F hP hS hl => va_slen F.1 F.2.1 F.2.2.2.2.2.2.2.2.2.2.1.1 F.2.2.2.2.2.2.2.2.2.2.1.2.2 (Nat.not_le.mpr F.2.2.2.2.2.2.2.2.2.2.1.2.1) hS hdg (k p e s m args below meth c H locs ls F hP hS hl)
theorem lz_sld {i : Int32} (hin : vp_in i L) (hdg : decode code pc = .ok (.iaload, 1)) (k : gG l room_1 lwQf (lwEx bs L b xs) D cy b code 4 ret RL nm cells slots f (pc + 1) lv (.int (xs i.toNatClampNeg) :: st)) : gG l room_1 lwQf (lwEx bs L b xs) D cy b code 4 ret RL nm cells slots f pc lv (.int i :: .ref bs :: st) := fun p e s m args below meth c H locs ls F hP hS hl => va_sld F.1 F.2.1 F.2.2.2.2.2.2.2.2.2.2.1.1 F.2.2.2.2.2.2.2.2.2.2.1.2.2 (Nat.not_le.mpr F.2.2.2.2.2.2.2.2.2.2.1.2.1) hS hin hdg (k p e s m args below meth c H locs ls F hP hS hl)
end LW
/-- the reference stands as it stood, behind a call of the class -/
theorem mS_fr {cy : Nat → ClassId} {m : Nat} {a : Nat → Nat} {f0 g f f2 : gMem} {n : Nat → Int32} {z : Nat → Int64} {F : Nat → Nat → Int32} {G : Nat → Nat → Int64} {S : List Nat} (hS : mS cy m a f0 n z F G f) (hm : g m = none) (ha : ∀ k, mTy k ≠ 0 → g (a k) = none) (hf : fr S f f2) (hs : ∀ y, y ∈ S → ∃ e, g y = some e) : mS cy m a f2 n z F G f2 := by
  obtain ⟨h1, h2, h3, h4⟩ := hS
  have no : ∀ q, g q = none → q ∉ S := fun q hq hin => by
    obtain ⟨e, he⟩ := hs q hin
    rw [hq] at he
    cases he
  exact ⟨hf _ _ h1 (no _ hm), fun k e he => hf _ _ (h2 k e he) (no _ (ha k (mCell_ty he))), h3, fr_rf⟩

set_option maxHeartbeats 4000000 in
set_option maxRecDepth 100000 in
theorem lw_end {l : Launch} {D : va_G} {cy : Nat → ClassId} {b bs m x : Nat} {xs : Nat → Int32} {nm : String} {f : gMem} : gG l room_1 lwQf (lwEx bs 6 b xs) D cy b code 4 ret RL nm 119 44855 f 1087 [(3, .int 0), (2, .ref m), (1, .ref x), (0, .ref bs)] [] := by
  refine gz_iinc (v := 6) (lv' := [(3, .int 6), (2, .ref m), (1, .ref x), (0, .ref bs)]) dL_law_1087 rfl (by decide) (by decide) rfl ?_
  refine gz_goto (tgt := 18) dL_law_1090 (by decide) ?_
  refine gz_iload_n dL_law_18 rfl rfl ?_
  refine gz_aload_n dL_law_19 rfl rfl ?_
  refine lz_slen dL_law_20 ?_
  refine gz_ev (w := .int 6) (by decide) ?_
  refine gz_bipush (v := 6) dL_law_21 (by decide) ?_
  refine gz_isub dL_law_23 ?_
  refine gz_ev (w := .int 0) (by decide) ?_
  refine gz_icmp_gt (tgt := 1093) dL_law_24 (by decide) (fun c_24 => ?_) (fun c_24 => ?_)
  ·
    refine gz_iconst (v := 1) dL_law_1093 (by decide) ?_
    exact lz_ret dL_law_1094 (Nat.le_of_ble_eq_true rfl) (Nat.le_of_ble_eq_true rfl)
  · exact absurd c_24 (by decide)

set_option maxHeartbeats 4000000 in
set_option maxRecDepth 100000 in
theorem lw_case_0 {l : Launch} {D : va_G} {cy : Nat → ClassId} {b bs x q1 q2 q3 q4 q5 q6 q7 q8 q9 q10 q11 q12 q13 q14 q15 q16 q17 q18 q19 q20 q21 q22 q23 q24 q25 q26 q27 q28 q29 q30 q31 q32 q33 q34 q35 q36 q37 q38 q39 q40 q41 q42 q43 q44 q45 q46 q47 q48 q49 m : Nat} {xs : Nat → Int32} {nm : String} {f g h0m : gMem} {a : Nat → Nat} {n : Nat → Int32} {z : Nat → Int64} {F : Nat → Nat → Int32} {G : Nat → Nat → Int64} (hA : aW [(x, .inr (11, [.ref q1, .ref q5, .ref q7, .ref q9, .ref q10, .ref q13, .ref q16, .ref q17, .ref q18, .ref q23, .ref q30, .ref q32, .int 0])), (q1, .inr (0, [.ref q2, .ref q3])), (q2, .inl (cy 0, 2400, .inl (fun _ => 0))), (q3, .inr (7, [.ref q4, .int 0])), (q4, .inl (cy 0, 6, .inl (fun _ => 0))), (q5, .inr (9, [.ref q6, .int 0])), (q6, .inl (cy 1, 400, .inl (fun _ => 0))), (q7, .inr (9, [.ref q8, .int 0])), (q8, .inl (cy 1, 480, .inl (fun _ => 0))), (q9, .inl (cy 4, 20, .inr (.inr (.inr (.inr (fun _ => none)))))), (q10, .inr (2, [.ref q11, .ref q12, .int 0, .int 0])), (q11, .inl (cy 0, 520, .inl (fun _ => 0))), (q12, .inl (cy 0, 80, .inl (fun _ => 0))), (q13, .inr (2, [.ref q14, .ref q15, .int 0, .int 0])), (q14, .inl (cy 0, 520, .inl (fun _ => 0))), (q15, .inl (cy 0, 80, .inl (fun _ => 0))), (q16, .inr (6, [.ref q5, .ref q10, .int 0, .int 0])), (q17, .inr (8, [.ref q7])), (q18, .inr (3, [.ref q19, .ref q22])), (q19, .inr (2, [.ref q20, .ref q21, .int 0, .int 0])), (q20, .inl (cy 0, 520, .inl (fun _ => 0))), (q21, .inl (cy 0, 80, .inl (fun _ => 0))), (q22, .inl (cy 0, 40, .inl (fun _ => 0))), (q23, .inr (4, [.ref q24, .int 0, .int 0, .ref q25, .ref q26, .ref q27, .ref q28, .ref q29, .int (-1)])), (q24, .inl (cy 0, 96, .inl (fun _ => 0))), (q25, .inl (cy 2, 8, .inr (.inl (fun _ => 0)))), (q26, .inl (cy 2, 8, .inr (.inl (fun _ => 0)))), (q27, .inl (cy 0, 8, .inl (fun _ => 0))), (q28, .inl (cy 0, 8, .inl (fun _ => 0))), (q29, .inl (cy 2, 8, .inr (.inl (fun _ => 0)))), (q30, .inr (1, [.ref q31, .ref q3, .ref q23, .int 0])), (q31, .inl (cy 5, 40, .inr (.inr (.inr (.inr (fun _ => none)))))), (q32, .inr (10, [.int 1, .ref q33, .ref q34, .ref q35, .ref q36, .ref q3, .ref q37, .int 0, .int 0])), (q33, .inl (cy 0, 3, .inl (upd (fun _ => 0) (Int32.toNatClampNeg 0) 1))), (q34, .inl (cy 0, 18, .inl (fun _ => 0))), (q35, .inl (cy 6, 5, .inr (.inr (.inr (.inr (va_up (va_up (va_up (va_up (va_up (fun _ => none) (Int32.toNatClampNeg 0) (some q40)) (Int32.toNatClampNeg 1) (some q42)) (Int32.toNatClampNeg 2) (some q44)) (Int32.toNatClampNeg 3) (some q46)) (Int32.toNatClampNeg 4) (some q48))))))), (q36, .inl (cy 2, 5, .inr (.inl (fun _ => 0)))), (q37, .inr (2, [.ref q38, .ref q39, .int 0, .int 0])), (q38, .inl (cy 0, 0, .inl (fun _ => 0))), (q39, .inl (cy 0, 0, .inl (fun _ => 0))), (q40, .inr (7, [.ref q41, .int 0])), (q41, .inl (cy 0, 6, .inl (fun _ => 0))), (q42, .inr (7, [.ref q43, .int 0])), (q43, .inl (cy 0, 6, .inl (fun _ => 0))), (q44, .inr (7, [.ref q45, .int 0])), (q45, .inl (cy 0, 6, .inl (fun _ => 0))), (q46, .inr (7, [.ref q47, .int 0])), (q47, .inl (cy 0, 6, .inl (fun _ => 0))), (q48, .inr (7, [.ref q49, .int 0])), (q49, .inl (cy 0, 6, .inl (fun _ => 0)))] f) (hA2 : aW [(x, .inr (11, [.ref q1, .ref q5, .ref q7, .ref q9, .ref q10, .ref q13, .ref q16, .ref q17, .ref q18, .ref q23, .ref q30, .ref q32, .int 0])), (q1, .inr (0, [.ref q2, .ref q3])), (q2, .inl (cy 0, 2400, .inl (fun _ => 0))), (q3, .inr (7, [.ref q4, .int 0])), (q4, .inl (cy 0, 6, .inl (fun _ => 0))), (q5, .inr (9, [.ref q6, .int 0])), (q6, .inl (cy 1, 400, .inl (fun _ => 0))), (q7, .inr (9, [.ref q8, .int 0])), (q8, .inl (cy 1, 480, .inl (fun _ => 0))), (q9, .inl (cy 4, 20, .inr (.inr (.inr (.inr (fun _ => none)))))), (q10, .inr (2, [.ref q11, .ref q12, .int 0, .int 0])), (q11, .inl (cy 0, 520, .inl (fun _ => 0))), (q12, .inl (cy 0, 80, .inl (fun _ => 0))), (q13, .inr (2, [.ref q14, .ref q15, .int 0, .int 0])), (q14, .inl (cy 0, 520, .inl (fun _ => 0))), (q15, .inl (cy 0, 80, .inl (fun _ => 0))), (q16, .inr (6, [.ref q5, .ref q10, .int 0, .int 0])), (q17, .inr (8, [.ref q7])), (q18, .inr (3, [.ref q19, .ref q22])), (q19, .inr (2, [.ref q20, .ref q21, .int 0, .int 0])), (q20, .inl (cy 0, 520, .inl (fun _ => 0))), (q21, .inl (cy 0, 80, .inl (fun _ => 0))), (q22, .inl (cy 0, 40, .inl (fun _ => 0))), (q23, .inr (4, [.ref q24, .int 0, .int 0, .ref q25, .ref q26, .ref q27, .ref q28, .ref q29, .int (-1)])), (q24, .inl (cy 0, 96, .inl (fun _ => 0))), (q25, .inl (cy 2, 8, .inr (.inl (fun _ => 0)))), (q26, .inl (cy 2, 8, .inr (.inl (fun _ => 0)))), (q27, .inl (cy 0, 8, .inl (fun _ => 0))), (q28, .inl (cy 0, 8, .inl (fun _ => 0))), (q29, .inl (cy 2, 8, .inr (.inl (fun _ => 0)))), (q30, .inr (1, [.ref q31, .ref q3, .ref q23, .int 0])), (q31, .inl (cy 5, 40, .inr (.inr (.inr (.inr (fun _ => none)))))), (q32, .inr (10, [.int 1, .ref q33, .ref q34, .ref q35, .ref q36, .ref q3, .ref q37, .int 0, .int 0])), (q33, .inl (cy 0, 3, .inl (upd (fun _ => 0) (Int32.toNatClampNeg 0) 1))), (q34, .inl (cy 0, 18, .inl (fun _ => 0))), (q35, .inl (cy 6, 5, .inr (.inr (.inr (.inr (va_up (va_up (va_up (va_up (va_up (fun _ => none) (Int32.toNatClampNeg 0) (some q40)) (Int32.toNatClampNeg 1) (some q42)) (Int32.toNatClampNeg 2) (some q44)) (Int32.toNatClampNeg 3) (some q46)) (Int32.toNatClampNeg 4) (some q48))))))), (q36, .inl (cy 2, 5, .inr (.inl (fun _ => 0)))), (q37, .inr (2, [.ref q38, .ref q39, .int 0, .int 0])), (q38, .inl (cy 0, 0, .inl (fun _ => 0))), (q39, .inl (cy 0, 0, .inl (fun _ => 0))), (q40, .inr (7, [.ref q41, .int 0])), (q41, .inl (cy 0, 6, .inl (fun _ => 0))), (q42, .inr (7, [.ref q43, .int 0])), (q43, .inl (cy 0, 6, .inl (fun _ => 0))), (q44, .inr (7, [.ref q45, .int 0])), (q45, .inl (cy 0, 6, .inl (fun _ => 0))), (q46, .inr (7, [.ref q47, .int 0])), (q47, .inl (cy 0, 6, .inl (fun _ => 0))), (q48, .inr (7, [.ref q49, .int 0])), (q49, .inl (cy 0, 6, .inl (fun _ => 0)))] g) (hS : mS cy m a h0m n z F G f) (hm : g m = none) (ha : ∀ k, mTy k ≠ 0 → g (a k) = none) (hF : ∀ i, i < 2400 → F 2 i = -10000) (h0 : n 0 = 0) (h1 : n 1 = 0) (h4 : n 4 = 0) (h5 : n 5 = 0) (h30 : n 30 = 0) (h38 : n 38 = 0) (h46 : n 46 = 0) (h53 : n 53 = 1) (h88 : n 88 = 0) (hG : ∀ i, i < 11 → G 27 i ≠ 0) : gG l room_1 lwQf (lwEx bs 6 b xs) D cy b code 4 ret RL nm 119 44855 f 160 [(3, .int 0), (2, .ref m), (1, .ref x), (0, .ref bs)] [] := by
  have kx : f x = some (.inr (11, [.ref q1, .ref q5, .ref q7, .ref q9, .ref q10, .ref q13, .ref q16, .ref q17, .ref q18, .ref q23, .ref q30, .ref q32, .int 0])) := hA.1 0 _ rfl
  have kch : f q1 = some (.inr (0, [.ref q2, .ref q3])) := hA.1 1 _ rfl
  have kto : f q2 = some (.inl (cy 0, 2400, .inl (fun _ => 0))) := hA.1 2 _ rfl
  have ktd : f q3 = some (.inr (7, [.ref q4, .int 0])) := hA.1 3 _ rfl
  have kth : f q4 = some (.inl (cy 0, 6, .inl (fun _ => 0))) := hA.1 4 _ rfl
  refine gz_aload_n dL_law_160 rfl rfl ?_
  refine gz_aload_n dL_law_161 rfl rfl ?_
  refine gz_iload_n dL_law_162 rfl rfl ?_
  refine gz_iconst (v := 1) dL_law_163 (by decide) ?_
  refine gz_iadd dL_law_164 ?_
  refine gz_ev (w := .int 1) (by decide) ?_
  refine lz_sld (vin_T (v := 1) rfl (by decide) (by decide)) dL_law_165 ?_
  refine gz_ev (w := .int (xs 1)) rfl ?_
  refine gz_aload_n dL_law_166 rfl rfl ?_
  refine gz_iload_n dL_law_167 rfl rfl ?_
  refine gz_iconst (v := 2) dL_law_168 (by decide) ?_
  refine gz_iadd dL_law_169 ?_
  refine gz_ev (w := .int 2) (by decide) ?_
  refine lz_sld (vin_T (v := 2) rfl (by decide) (by decide)) dL_law_170 ?_
  refine gz_ev (w := .int (xs 2)) rfl ?_
  refine gz_aload_n dL_law_171 rfl rfl ?_
  refine gz_iload_n dL_law_172 rfl rfl ?_
  refine gz_iconst (v := 3) dL_law_173 (by decide) ?_
  refine gz_iadd dL_law_174 ?_
  refine gz_ev (w := .int 3) (by decide) ?_
  refine lz_sld (vin_T (v := 3) rfl (by decide) (by decide)) dL_law_175 ?_
  refine gz_ev (w := .int (xs 3)) rfl ?_
  refine scL_13 (k_X11_see (x1 := (xs 1)) (x2 := (xs 2)) (x3 := (xs 3)) kx kch kto ktd kth) kx ⟨(Nat.le_of_ble_eq_true rfl), (Nat.le_of_ble_eq_true rfl)⟩ ⟨(Nat.le_of_ble_eq_true rfl), (Nat.le_of_ble_eq_true rfl)⟩ rfl rfl (Nat.le_of_ble_eq_true rfl) dL_law_176 ?_
  rintro v9 f9 ⟨z1, z2⟩; rw [z1]
  have hs9 : ∀ y, y ∈ [q2, q4] → ∃ e, g y = some e := by
    intro y hy; simp only [List.mem_cons, List.not_mem_nil, or_false] at hy; rcases hy with rfl | rfl
    · exact ⟨_, hA2.1 2 _ rfl⟩
    · exact ⟨_, hA2.1 4 _ rfl⟩
  have hS9 := mS_fr hS hm ha z2 hs9
  refine gz_aload_n dL_law_179 rfl rfl ?_
  refine gz_aload_n dL_law_180 rfl rfl ?_
  refine gz_iload_n dL_law_181 rfl rfl ?_
  refine gz_iconst (v := 1) dL_law_182 (by decide) ?_
  refine gz_iadd dL_law_183 ?_
  refine gz_ev (w := .int 1) (by decide) ?_
  refine lz_sld (vin_T (v := 1) rfl (by decide) (by decide)) dL_law_184 ?_
  refine gz_ev (w := .int (xs 1)) rfl ?_
  refine gz_aload_n dL_law_185 rfl rfl ?_
  refine gz_iload_n dL_law_186 rfl rfl ?_
  refine gz_iconst (v := 2) dL_law_187 (by decide) ?_
  refine gz_iadd dL_law_188 ?_
  refine gz_ev (w := .int 2) (by decide) ?_
  refine lz_sld (vin_T (v := 2) rfl (by decide) (by decide)) dL_law_189 ?_
  refine gz_ev (w := .int (xs 2)) rfl ?_
  refine gz_aload_n dL_law_190 rfl rfl ?_
  refine gz_iload_n dL_law_191 rfl rfl ?_
  refine gz_iconst (v := 3) dL_law_192 (by decide) ?_
  refine gz_iadd dL_law_193 ?_
  refine gz_ev (w := .int 3) (by decide) ?_
  refine lz_sld (vin_T (v := 3) rfl (by decide) (by decide)) dL_law_194 ?_
  refine gz_ev (w := .int (xs 3)) rfl ?_
  refine scL_17 (k_X12_see (t := (xs 1)) (d := (xs 2)) (v := (xs 3)) hS9 h0) hS9.1 ⟨(Nat.le_of_ble_eq_true rfl), (Nat.le_of_ble_eq_true rfl)⟩ ⟨(Nat.le_of_ble_eq_true rfl), (Nat.le_of_ble_eq_true rfl)⟩ rfl rfl (Nat.le_of_ble_eq_true rfl) dL_law_195 ?_
  intro v8 f8 z8; rw [show v8 = _ from z8]
  refine gz_icmp_eq (tgt := 1087) dL_law_198 (by decide) (fun c_198 => ?_) (fun c_198 => ?_)
  ·
    exact lw_end
  · exact absurd rfl c_198

set_option maxHeartbeats 4000000 in
set_option maxRecDepth 100000 in
theorem lw_case_1 {l : Launch} {D : va_G} {cy : Nat → ClassId} {b bs x q1 q2 q3 q4 q5 q6 q7 q8 q9 q10 q11 q12 q13 q14 q15 q16 q17 q18 q19 q20 q21 q22 q23 q24 q25 q26 q27 q28 q29 q30 q31 q32 q33 q34 q35 q36 q37 q38 q39 q40 q41 q42 q43 q44 q45 q46 q47 q48 q49 m : Nat} {xs : Nat → Int32} {nm : String} {f g h0m : gMem} {a : Nat → Nat} {n : Nat → Int32} {z : Nat → Int64} {F : Nat → Nat → Int32} {G : Nat → Nat → Int64} (hA : aW [(x, .inr (11, [.ref q1, .ref q5, .ref q7, .ref q9, .ref q10, .ref q13, .ref q16, .ref q17, .ref q18, .ref q23, .ref q30, .ref q32, .int 0])), (q1, .inr (0, [.ref q2, .ref q3])), (q2, .inl (cy 0, 2400, .inl (fun _ => 0))), (q3, .inr (7, [.ref q4, .int 0])), (q4, .inl (cy 0, 6, .inl (fun _ => 0))), (q5, .inr (9, [.ref q6, .int 0])), (q6, .inl (cy 1, 400, .inl (fun _ => 0))), (q7, .inr (9, [.ref q8, .int 0])), (q8, .inl (cy 1, 480, .inl (fun _ => 0))), (q9, .inl (cy 4, 20, .inr (.inr (.inr (.inr (fun _ => none)))))), (q10, .inr (2, [.ref q11, .ref q12, .int 0, .int 0])), (q11, .inl (cy 0, 520, .inl (fun _ => 0))), (q12, .inl (cy 0, 80, .inl (fun _ => 0))), (q13, .inr (2, [.ref q14, .ref q15, .int 0, .int 0])), (q14, .inl (cy 0, 520, .inl (fun _ => 0))), (q15, .inl (cy 0, 80, .inl (fun _ => 0))), (q16, .inr (6, [.ref q5, .ref q10, .int 0, .int 0])), (q17, .inr (8, [.ref q7])), (q18, .inr (3, [.ref q19, .ref q22])), (q19, .inr (2, [.ref q20, .ref q21, .int 0, .int 0])), (q20, .inl (cy 0, 520, .inl (fun _ => 0))), (q21, .inl (cy 0, 80, .inl (fun _ => 0))), (q22, .inl (cy 0, 40, .inl (fun _ => 0))), (q23, .inr (4, [.ref q24, .int 0, .int 0, .ref q25, .ref q26, .ref q27, .ref q28, .ref q29, .int (-1)])), (q24, .inl (cy 0, 96, .inl (fun _ => 0))), (q25, .inl (cy 2, 8, .inr (.inl (fun _ => 0)))), (q26, .inl (cy 2, 8, .inr (.inl (fun _ => 0)))), (q27, .inl (cy 0, 8, .inl (fun _ => 0))), (q28, .inl (cy 0, 8, .inl (fun _ => 0))), (q29, .inl (cy 2, 8, .inr (.inl (fun _ => 0)))), (q30, .inr (1, [.ref q31, .ref q3, .ref q23, .int 0])), (q31, .inl (cy 5, 40, .inr (.inr (.inr (.inr (fun _ => none)))))), (q32, .inr (10, [.int 1, .ref q33, .ref q34, .ref q35, .ref q36, .ref q3, .ref q37, .int 0, .int 0])), (q33, .inl (cy 0, 3, .inl (upd (fun _ => 0) (Int32.toNatClampNeg 0) 1))), (q34, .inl (cy 0, 18, .inl (fun _ => 0))), (q35, .inl (cy 6, 5, .inr (.inr (.inr (.inr (va_up (va_up (va_up (va_up (va_up (fun _ => none) (Int32.toNatClampNeg 0) (some q40)) (Int32.toNatClampNeg 1) (some q42)) (Int32.toNatClampNeg 2) (some q44)) (Int32.toNatClampNeg 3) (some q46)) (Int32.toNatClampNeg 4) (some q48))))))), (q36, .inl (cy 2, 5, .inr (.inl (fun _ => 0)))), (q37, .inr (2, [.ref q38, .ref q39, .int 0, .int 0])), (q38, .inl (cy 0, 0, .inl (fun _ => 0))), (q39, .inl (cy 0, 0, .inl (fun _ => 0))), (q40, .inr (7, [.ref q41, .int 0])), (q41, .inl (cy 0, 6, .inl (fun _ => 0))), (q42, .inr (7, [.ref q43, .int 0])), (q43, .inl (cy 0, 6, .inl (fun _ => 0))), (q44, .inr (7, [.ref q45, .int 0])), (q45, .inl (cy 0, 6, .inl (fun _ => 0))), (q46, .inr (7, [.ref q47, .int 0])), (q47, .inl (cy 0, 6, .inl (fun _ => 0))), (q48, .inr (7, [.ref q49, .int 0])), (q49, .inl (cy 0, 6, .inl (fun _ => 0)))] f) (hA2 : aW [(x, .inr (11, [.ref q1, .ref q5, .ref q7, .ref q9, .ref q10, .ref q13, .ref q16, .ref q17, .ref q18, .ref q23, .ref q30, .ref q32, .int 0])), (q1, .inr (0, [.ref q2, .ref q3])), (q2, .inl (cy 0, 2400, .inl (fun _ => 0))), (q3, .inr (7, [.ref q4, .int 0])), (q4, .inl (cy 0, 6, .inl (fun _ => 0))), (q5, .inr (9, [.ref q6, .int 0])), (q6, .inl (cy 1, 400, .inl (fun _ => 0))), (q7, .inr (9, [.ref q8, .int 0])), (q8, .inl (cy 1, 480, .inl (fun _ => 0))), (q9, .inl (cy 4, 20, .inr (.inr (.inr (.inr (fun _ => none)))))), (q10, .inr (2, [.ref q11, .ref q12, .int 0, .int 0])), (q11, .inl (cy 0, 520, .inl (fun _ => 0))), (q12, .inl (cy 0, 80, .inl (fun _ => 0))), (q13, .inr (2, [.ref q14, .ref q15, .int 0, .int 0])), (q14, .inl (cy 0, 520, .inl (fun _ => 0))), (q15, .inl (cy 0, 80, .inl (fun _ => 0))), (q16, .inr (6, [.ref q5, .ref q10, .int 0, .int 0])), (q17, .inr (8, [.ref q7])), (q18, .inr (3, [.ref q19, .ref q22])), (q19, .inr (2, [.ref q20, .ref q21, .int 0, .int 0])), (q20, .inl (cy 0, 520, .inl (fun _ => 0))), (q21, .inl (cy 0, 80, .inl (fun _ => 0))), (q22, .inl (cy 0, 40, .inl (fun _ => 0))), (q23, .inr (4, [.ref q24, .int 0, .int 0, .ref q25, .ref q26, .ref q27, .ref q28, .ref q29, .int (-1)])), (q24, .inl (cy 0, 96, .inl (fun _ => 0))), (q25, .inl (cy 2, 8, .inr (.inl (fun _ => 0)))), (q26, .inl (cy 2, 8, .inr (.inl (fun _ => 0)))), (q27, .inl (cy 0, 8, .inl (fun _ => 0))), (q28, .inl (cy 0, 8, .inl (fun _ => 0))), (q29, .inl (cy 2, 8, .inr (.inl (fun _ => 0)))), (q30, .inr (1, [.ref q31, .ref q3, .ref q23, .int 0])), (q31, .inl (cy 5, 40, .inr (.inr (.inr (.inr (fun _ => none)))))), (q32, .inr (10, [.int 1, .ref q33, .ref q34, .ref q35, .ref q36, .ref q3, .ref q37, .int 0, .int 0])), (q33, .inl (cy 0, 3, .inl (upd (fun _ => 0) (Int32.toNatClampNeg 0) 1))), (q34, .inl (cy 0, 18, .inl (fun _ => 0))), (q35, .inl (cy 6, 5, .inr (.inr (.inr (.inr (va_up (va_up (va_up (va_up (va_up (fun _ => none) (Int32.toNatClampNeg 0) (some q40)) (Int32.toNatClampNeg 1) (some q42)) (Int32.toNatClampNeg 2) (some q44)) (Int32.toNatClampNeg 3) (some q46)) (Int32.toNatClampNeg 4) (some q48))))))), (q36, .inl (cy 2, 5, .inr (.inl (fun _ => 0)))), (q37, .inr (2, [.ref q38, .ref q39, .int 0, .int 0])), (q38, .inl (cy 0, 0, .inl (fun _ => 0))), (q39, .inl (cy 0, 0, .inl (fun _ => 0))), (q40, .inr (7, [.ref q41, .int 0])), (q41, .inl (cy 0, 6, .inl (fun _ => 0))), (q42, .inr (7, [.ref q43, .int 0])), (q43, .inl (cy 0, 6, .inl (fun _ => 0))), (q44, .inr (7, [.ref q45, .int 0])), (q45, .inl (cy 0, 6, .inl (fun _ => 0))), (q46, .inr (7, [.ref q47, .int 0])), (q47, .inl (cy 0, 6, .inl (fun _ => 0))), (q48, .inr (7, [.ref q49, .int 0])), (q49, .inl (cy 0, 6, .inl (fun _ => 0)))] g) (hS : mS cy m a h0m n z F G f) (hm : g m = none) (ha : ∀ k, mTy k ≠ 0 → g (a k) = none) (hF : ∀ i, i < 2400 → F 2 i = -10000) (h0 : n 0 = 0) (h1 : n 1 = 0) (h4 : n 4 = 0) (h5 : n 5 = 0) (h30 : n 30 = 0) (h38 : n 38 = 0) (h46 : n 46 = 0) (h53 : n 53 = 1) (h88 : n 88 = 0) (hG : ∀ i, i < 11 → G 27 i ≠ 0) : gG l room_1 lwQf (lwEx bs 6 b xs) D cy b code 4 ret RL nm 119 44855 f 203 [(3, .int 0), (2, .ref m), (1, .ref x), (0, .ref bs)] [] := by
  have kx : f x = some (.inr (11, [.ref q1, .ref q5, .ref q7, .ref q9, .ref q10, .ref q13, .ref q16, .ref q17, .ref q18, .ref q23, .ref q30, .ref q32, .int 0])) := hA.1 0 _ rfl
  have kch : f q1 = some (.inr (0, [.ref q2, .ref q3])) := hA.1 1 _ rfl
  have kto : f q2 = some (.inl (cy 0, 2400, .inl (fun _ => 0))) := hA.1 2 _ rfl
  refine gz_aload_n dL_law_203 rfl rfl ?_
  refine gz_aload_n dL_law_204 rfl rfl ?_
  refine gz_iload_n dL_law_205 rfl rfl ?_
  refine gz_iconst (v := 1) dL_law_206 (by decide) ?_
  refine gz_iadd dL_law_207 ?_
  refine gz_ev (w := .int 1) (by decide) ?_
  refine lz_sld (vin_T (v := 1) rfl (by decide) (by decide)) dL_law_208 ?_
  refine gz_ev (w := .int (xs 1)) rfl ?_
  refine gz_aload_n dL_law_209 rfl rfl ?_
  refine gz_iload_n dL_law_210 rfl rfl ?_
  refine gz_iconst (v := 2) dL_law_211 (by decide) ?_
  refine gz_iadd dL_law_212 ?_
  refine gz_ev (w := .int 2) (by decide) ?_
  refine lz_sld (vin_T (v := 2) rfl (by decide) (by decide)) dL_law_213 ?_
  refine gz_ev (w := .int (xs 2)) rfl ?_
  refine scL_18 (k_X11_seen (x1 := (xs 1)) (x2 := (xs 2)) kx kch kto) kx ⟨(Nat.le_of_ble_eq_true rfl), (Nat.le_of_ble_eq_true rfl)⟩ ⟨(Nat.le_of_ble_eq_true rfl), (Nat.le_of_ble_eq_true rfl)⟩ rfl rfl (Nat.le_of_ble_eq_true rfl) dL_law_214 ?_
  rintro v9 f9 ⟨z1, z2⟩; rw [z1]
  have hs9 : ∀ y, y ∈ ([] : List Nat) → ∃ e, g y = some e := fun y hy => absurd hy List.not_mem_nil
  have hS9 := mS_fr hS hm ha z2 hs9
  refine gz_aload_n dL_law_217 rfl rfl ?_
  refine gz_aload_n dL_law_218 rfl rfl ?_
  refine gz_iload_n dL_law_219 rfl rfl ?_
  refine gz_iconst (v := 1) dL_law_220 (by decide) ?_
  refine gz_iadd dL_law_221 ?_
  refine gz_ev (w := .int 1) (by decide) ?_
  refine lz_sld (vin_T (v := 1) rfl (by decide) (by decide)) dL_law_222 ?_
  refine gz_ev (w := .int (xs 1)) rfl ?_
  refine gz_aload_n dL_law_223 rfl rfl ?_
  refine gz_iload_n dL_law_224 rfl rfl ?_
  refine gz_iconst (v := 2) dL_law_225 (by decide) ?_
  refine gz_iadd dL_law_226 ?_
  refine gz_ev (w := .int 2) (by decide) ?_
  refine lz_sld (vin_T (v := 2) rfl (by decide) (by decide)) dL_law_227 ?_
  refine gz_ev (w := .int (xs 2)) rfl ?_
  refine scL_22 (k_X12_seen (t := (xs 1)) (d := (xs 2)) hS9 hF) hS9.1 ⟨(Nat.le_of_ble_eq_true rfl), (Nat.le_of_ble_eq_true rfl)⟩ ⟨(Nat.le_of_ble_eq_true rfl), (Nat.le_of_ble_eq_true rfl)⟩ rfl rfl (Nat.le_of_ble_eq_true rfl) dL_law_228 ?_
  intro v8 f8 z8; rw [show v8 = _ from z8]
  refine gz_icmp_eq (tgt := 1087) dL_law_231 (by decide) (fun c_231 => ?_) (fun c_231 => ?_)
  ·
    exact lw_end
  · exact absurd rfl c_231

set_option maxHeartbeats 4000000 in
set_option maxRecDepth 100000 in
theorem lw_case_2 {l : Launch} {D : va_G} {cy : Nat → ClassId} {b bs x q1 q2 q3 q4 q5 q6 q7 q8 q9 q10 q11 q12 q13 q14 q15 q16 q17 q18 q19 q20 q21 q22 q23 q24 q25 q26 q27 q28 q29 q30 q31 q32 q33 q34 q35 q36 q37 q38 q39 q40 q41 q42 q43 q44 q45 q46 q47 q48 q49 m : Nat} {xs : Nat → Int32} {nm : String} {f g h0m : gMem} {a : Nat → Nat} {n : Nat → Int32} {z : Nat → Int64} {F : Nat → Nat → Int32} {G : Nat → Nat → Int64} (hA : aW [(x, .inr (11, [.ref q1, .ref q5, .ref q7, .ref q9, .ref q10, .ref q13, .ref q16, .ref q17, .ref q18, .ref q23, .ref q30, .ref q32, .int 0])), (q1, .inr (0, [.ref q2, .ref q3])), (q2, .inl (cy 0, 2400, .inl (fun _ => 0))), (q3, .inr (7, [.ref q4, .int 0])), (q4, .inl (cy 0, 6, .inl (fun _ => 0))), (q5, .inr (9, [.ref q6, .int 0])), (q6, .inl (cy 1, 400, .inl (fun _ => 0))), (q7, .inr (9, [.ref q8, .int 0])), (q8, .inl (cy 1, 480, .inl (fun _ => 0))), (q9, .inl (cy 4, 20, .inr (.inr (.inr (.inr (fun _ => none)))))), (q10, .inr (2, [.ref q11, .ref q12, .int 0, .int 0])), (q11, .inl (cy 0, 520, .inl (fun _ => 0))), (q12, .inl (cy 0, 80, .inl (fun _ => 0))), (q13, .inr (2, [.ref q14, .ref q15, .int 0, .int 0])), (q14, .inl (cy 0, 520, .inl (fun _ => 0))), (q15, .inl (cy 0, 80, .inl (fun _ => 0))), (q16, .inr (6, [.ref q5, .ref q10, .int 0, .int 0])), (q17, .inr (8, [.ref q7])), (q18, .inr (3, [.ref q19, .ref q22])), (q19, .inr (2, [.ref q20, .ref q21, .int 0, .int 0])), (q20, .inl (cy 0, 520, .inl (fun _ => 0))), (q21, .inl (cy 0, 80, .inl (fun _ => 0))), (q22, .inl (cy 0, 40, .inl (fun _ => 0))), (q23, .inr (4, [.ref q24, .int 0, .int 0, .ref q25, .ref q26, .ref q27, .ref q28, .ref q29, .int (-1)])), (q24, .inl (cy 0, 96, .inl (fun _ => 0))), (q25, .inl (cy 2, 8, .inr (.inl (fun _ => 0)))), (q26, .inl (cy 2, 8, .inr (.inl (fun _ => 0)))), (q27, .inl (cy 0, 8, .inl (fun _ => 0))), (q28, .inl (cy 0, 8, .inl (fun _ => 0))), (q29, .inl (cy 2, 8, .inr (.inl (fun _ => 0)))), (q30, .inr (1, [.ref q31, .ref q3, .ref q23, .int 0])), (q31, .inl (cy 5, 40, .inr (.inr (.inr (.inr (fun _ => none)))))), (q32, .inr (10, [.int 1, .ref q33, .ref q34, .ref q35, .ref q36, .ref q3, .ref q37, .int 0, .int 0])), (q33, .inl (cy 0, 3, .inl (upd (fun _ => 0) (Int32.toNatClampNeg 0) 1))), (q34, .inl (cy 0, 18, .inl (fun _ => 0))), (q35, .inl (cy 6, 5, .inr (.inr (.inr (.inr (va_up (va_up (va_up (va_up (va_up (fun _ => none) (Int32.toNatClampNeg 0) (some q40)) (Int32.toNatClampNeg 1) (some q42)) (Int32.toNatClampNeg 2) (some q44)) (Int32.toNatClampNeg 3) (some q46)) (Int32.toNatClampNeg 4) (some q48))))))), (q36, .inl (cy 2, 5, .inr (.inl (fun _ => 0)))), (q37, .inr (2, [.ref q38, .ref q39, .int 0, .int 0])), (q38, .inl (cy 0, 0, .inl (fun _ => 0))), (q39, .inl (cy 0, 0, .inl (fun _ => 0))), (q40, .inr (7, [.ref q41, .int 0])), (q41, .inl (cy 0, 6, .inl (fun _ => 0))), (q42, .inr (7, [.ref q43, .int 0])), (q43, .inl (cy 0, 6, .inl (fun _ => 0))), (q44, .inr (7, [.ref q45, .int 0])), (q45, .inl (cy 0, 6, .inl (fun _ => 0))), (q46, .inr (7, [.ref q47, .int 0])), (q47, .inl (cy 0, 6, .inl (fun _ => 0))), (q48, .inr (7, [.ref q49, .int 0])), (q49, .inl (cy 0, 6, .inl (fun _ => 0)))] f) (hA2 : aW [(x, .inr (11, [.ref q1, .ref q5, .ref q7, .ref q9, .ref q10, .ref q13, .ref q16, .ref q17, .ref q18, .ref q23, .ref q30, .ref q32, .int 0])), (q1, .inr (0, [.ref q2, .ref q3])), (q2, .inl (cy 0, 2400, .inl (fun _ => 0))), (q3, .inr (7, [.ref q4, .int 0])), (q4, .inl (cy 0, 6, .inl (fun _ => 0))), (q5, .inr (9, [.ref q6, .int 0])), (q6, .inl (cy 1, 400, .inl (fun _ => 0))), (q7, .inr (9, [.ref q8, .int 0])), (q8, .inl (cy 1, 480, .inl (fun _ => 0))), (q9, .inl (cy 4, 20, .inr (.inr (.inr (.inr (fun _ => none)))))), (q10, .inr (2, [.ref q11, .ref q12, .int 0, .int 0])), (q11, .inl (cy 0, 520, .inl (fun _ => 0))), (q12, .inl (cy 0, 80, .inl (fun _ => 0))), (q13, .inr (2, [.ref q14, .ref q15, .int 0, .int 0])), (q14, .inl (cy 0, 520, .inl (fun _ => 0))), (q15, .inl (cy 0, 80, .inl (fun _ => 0))), (q16, .inr (6, [.ref q5, .ref q10, .int 0, .int 0])), (q17, .inr (8, [.ref q7])), (q18, .inr (3, [.ref q19, .ref q22])), (q19, .inr (2, [.ref q20, .ref q21, .int 0, .int 0])), (q20, .inl (cy 0, 520, .inl (fun _ => 0))), (q21, .inl (cy 0, 80, .inl (fun _ => 0))), (q22, .inl (cy 0, 40, .inl (fun _ => 0))), (q23, .inr (4, [.ref q24, .int 0, .int 0, .ref q25, .ref q26, .ref q27, .ref q28, .ref q29, .int (-1)])), (q24, .inl (cy 0, 96, .inl (fun _ => 0))), (q25, .inl (cy 2, 8, .inr (.inl (fun _ => 0)))), (q26, .inl (cy 2, 8, .inr (.inl (fun _ => 0)))), (q27, .inl (cy 0, 8, .inl (fun _ => 0))), (q28, .inl (cy 0, 8, .inl (fun _ => 0))), (q29, .inl (cy 2, 8, .inr (.inl (fun _ => 0)))), (q30, .inr (1, [.ref q31, .ref q3, .ref q23, .int 0])), (q31, .inl (cy 5, 40, .inr (.inr (.inr (.inr (fun _ => none)))))), (q32, .inr (10, [.int 1, .ref q33, .ref q34, .ref q35, .ref q36, .ref q3, .ref q37, .int 0, .int 0])), (q33, .inl (cy 0, 3, .inl (upd (fun _ => 0) (Int32.toNatClampNeg 0) 1))), (q34, .inl (cy 0, 18, .inl (fun _ => 0))), (q35, .inl (cy 6, 5, .inr (.inr (.inr (.inr (va_up (va_up (va_up (va_up (va_up (fun _ => none) (Int32.toNatClampNeg 0) (some q40)) (Int32.toNatClampNeg 1) (some q42)) (Int32.toNatClampNeg 2) (some q44)) (Int32.toNatClampNeg 3) (some q46)) (Int32.toNatClampNeg 4) (some q48))))))), (q36, .inl (cy 2, 5, .inr (.inl (fun _ => 0)))), (q37, .inr (2, [.ref q38, .ref q39, .int 0, .int 0])), (q38, .inl (cy 0, 0, .inl (fun _ => 0))), (q39, .inl (cy 0, 0, .inl (fun _ => 0))), (q40, .inr (7, [.ref q41, .int 0])), (q41, .inl (cy 0, 6, .inl (fun _ => 0))), (q42, .inr (7, [.ref q43, .int 0])), (q43, .inl (cy 0, 6, .inl (fun _ => 0))), (q44, .inr (7, [.ref q45, .int 0])), (q45, .inl (cy 0, 6, .inl (fun _ => 0))), (q46, .inr (7, [.ref q47, .int 0])), (q47, .inl (cy 0, 6, .inl (fun _ => 0))), (q48, .inr (7, [.ref q49, .int 0])), (q49, .inl (cy 0, 6, .inl (fun _ => 0)))] g) (hS : mS cy m a h0m n z F G f) (hm : g m = none) (ha : ∀ k, mTy k ≠ 0 → g (a k) = none) (hF : ∀ i, i < 2400 → F 2 i = -10000) (h0 : n 0 = 0) (h1 : n 1 = 0) (h4 : n 4 = 0) (h5 : n 5 = 0) (h30 : n 30 = 0) (h38 : n 38 = 0) (h46 : n 46 = 0) (h53 : n 53 = 1) (h88 : n 88 = 0) (hG : ∀ i, i < 11 → G 27 i ≠ 0) : gG l room_1 lwQf (lwEx bs 6 b xs) D cy b code 4 ret RL nm 119 44855 f 236 [(3, .int 0), (2, .ref m), (1, .ref x), (0, .ref bs)] [] := by
  have kx : f x = some (.inr (11, [.ref q1, .ref q5, .ref q7, .ref q9, .ref q10, .ref q13, .ref q16, .ref q17, .ref q18, .ref q23, .ref q30, .ref q32, .int 0])) := hA.1 0 _ rfl
  have ktp : f q5 = some (.inr (9, [.ref q6, .int 0])) := hA.1 5 _ rfl
  have kby_ : f q6 = some (.inl (cy 1, 400, .inl (fun _ => 0))) := hA.1 6 _ rfl
  refine gz_aload_n dL_law_236 rfl rfl ?_
  refine gz_aload_n dL_law_237 rfl rfl ?_
  refine gz_iload_n dL_law_238 rfl rfl ?_
  refine gz_iconst (v := 1) dL_law_239 (by decide) ?_
  refine gz_iadd dL_law_240 ?_
  refine gz_ev (w := .int 1) (by decide) ?_
  refine lz_sld (vin_T (v := 1) rfl (by decide) (by decide)) dL_law_241 ?_
  refine gz_ev (w := .int (xs 1)) rfl ?_
  refine gz_aload_n dL_law_242 rfl rfl ?_
  refine gz_iload_n dL_law_243 rfl rfl ?_
  refine gz_iconst (v := 2) dL_law_244 (by decide) ?_
  refine gz_iadd dL_law_245 ?_
  refine gz_ev (w := .int 2) (by decide) ?_
  refine lz_sld (vin_T (v := 2) rfl (by decide) (by decide)) dL_law_246 ?_
  refine gz_ev (w := .int (xs 2)) rfl ?_
  refine gz_aload_n dL_law_247 rfl rfl ?_
  refine gz_iload_n dL_law_248 rfl rfl ?_
  refine gz_iconst (v := 3) dL_law_249 (by decide) ?_
  refine gz_iadd dL_law_250 ?_
  refine gz_ev (w := .int 3) (by decide) ?_
  refine lz_sld (vin_T (v := 3) rfl (by decide) (by decide)) dL_law_251 ?_
  refine gz_ev (w := .int (xs 3)) rfl ?_
  refine gz_aload_n dL_law_252 rfl rfl ?_
  refine gz_iload_n dL_law_253 rfl rfl ?_
  refine gz_iconst (v := 4) dL_law_254 (by decide) ?_
  refine gz_iadd dL_law_255 ?_
  refine gz_ev (w := .int 4) (by decide) ?_
  refine lz_sld (vin_T (v := 4) rfl (by decide) (by decide)) dL_law_256 ?_
  refine gz_ev (w := .int (xs 4)) rfl ?_
  refine gz_aload_n dL_law_257 rfl rfl ?_
  refine gz_iload_n dL_law_258 rfl rfl ?_
  refine gz_iconst (v := 5) dL_law_259 (by decide) ?_
  refine gz_iadd dL_law_260 ?_
  refine gz_ev (w := .int 5) (by decide) ?_
  refine lz_sld (vin_T (v := 5) rfl (by decide) (by decide)) dL_law_261 ?_
  refine gz_ev (w := .int (xs 5)) rfl ?_
  refine scL_23 (k_X11_feed (x1 := (xs 1)) (x2 := (xs 2)) (x3 := (xs 3)) (x4 := (xs 4)) (x5 := (xs 5)) kx ktp kby_) kx ⟨(Nat.le_of_ble_eq_true rfl), (Nat.le_of_ble_eq_true rfl)⟩ ⟨(Nat.le_of_ble_eq_true rfl), (Nat.le_of_ble_eq_true rfl)⟩ rfl rfl (Nat.le_of_ble_eq_true rfl) dL_law_262 ?_
  rintro v9 f9 ⟨z1, z2⟩; rw [z1]
  have hs9 : ∀ y, y ∈ [q5, q6] → ∃ e, g y = some e := by
    intro y hy; simp only [List.mem_cons, List.not_mem_nil, or_false] at hy; rcases hy with rfl | rfl
    · exact ⟨_, hA2.1 5 _ rfl⟩
    · exact ⟨_, hA2.1 6 _ rfl⟩
  have hS9 := mS_fr hS hm ha z2 hs9
  refine gz_aload_n dL_law_265 rfl rfl ?_
  refine gz_aload_n dL_law_266 rfl rfl ?_
  refine gz_iload_n dL_law_267 rfl rfl ?_
  refine gz_iconst (v := 1) dL_law_268 (by decide) ?_
  refine gz_iadd dL_law_269 ?_
  refine gz_ev (w := .int 1) (by decide) ?_
  refine lz_sld (vin_T (v := 1) rfl (by decide) (by decide)) dL_law_270 ?_
  refine gz_ev (w := .int (xs 1)) rfl ?_
  refine gz_aload_n dL_law_271 rfl rfl ?_
  refine gz_iload_n dL_law_272 rfl rfl ?_
  refine gz_iconst (v := 2) dL_law_273 (by decide) ?_
  refine gz_iadd dL_law_274 ?_
  refine gz_ev (w := .int 2) (by decide) ?_
  refine lz_sld (vin_T (v := 2) rfl (by decide) (by decide)) dL_law_275 ?_
  refine gz_ev (w := .int (xs 2)) rfl ?_
  refine gz_aload_n dL_law_276 rfl rfl ?_
  refine gz_iload_n dL_law_277 rfl rfl ?_
  refine gz_iconst (v := 3) dL_law_278 (by decide) ?_
  refine gz_iadd dL_law_279 ?_
  refine gz_ev (w := .int 3) (by decide) ?_
  refine lz_sld (vin_T (v := 3) rfl (by decide) (by decide)) dL_law_280 ?_
  refine gz_ev (w := .int (xs 3)) rfl ?_
  refine gz_aload_n dL_law_281 rfl rfl ?_
  refine gz_iload_n dL_law_282 rfl rfl ?_
  refine gz_iconst (v := 4) dL_law_283 (by decide) ?_
  refine gz_iadd dL_law_284 ?_
  refine gz_ev (w := .int 4) (by decide) ?_
  refine lz_sld (vin_T (v := 4) rfl (by decide) (by decide)) dL_law_285 ?_
  refine gz_ev (w := .int (xs 4)) rfl ?_
  refine gz_aload_n dL_law_286 rfl rfl ?_
  refine gz_iload_n dL_law_287 rfl rfl ?_
  refine gz_iconst (v := 5) dL_law_288 (by decide) ?_
  refine gz_iadd dL_law_289 ?_
  refine gz_ev (w := .int 5) (by decide) ?_
  refine lz_sld (vin_T (v := 5) rfl (by decide) (by decide)) dL_law_290 ?_
  refine gz_ev (w := .int (xs 5)) rfl ?_
  refine scL_27 (k_X12_feed (x1 := (xs 1)) (x2 := (xs 2)) (x3 := (xs 3)) (x4 := (xs 4)) (x5 := (xs 5)) hS9 h4) hS9.1 ⟨(Nat.le_of_ble_eq_true rfl), (Nat.le_of_ble_eq_true rfl)⟩ ⟨(Nat.le_of_ble_eq_true rfl), (Nat.le_of_ble_eq_true rfl)⟩ rfl rfl (Nat.le_of_ble_eq_true rfl) dL_law_291 ?_
  intro v8 f8 z8; rw [show v8 = _ from z8]
  refine gz_icmp_eq (tgt := 1087) dL_law_294 (by decide) (fun c_294 => ?_) (fun c_294 => ?_)
  ·
    exact lw_end
  · exact absurd rfl c_294

set_option maxHeartbeats 4000000 in
set_option maxRecDepth 100000 in
theorem lw_case_3 {l : Launch} {D : va_G} {cy : Nat → ClassId} {b bs x q1 q2 q3 q4 q5 q6 q7 q8 q9 q10 q11 q12 q13 q14 q15 q16 q17 q18 q19 q20 q21 q22 q23 q24 q25 q26 q27 q28 q29 q30 q31 q32 q33 q34 q35 q36 q37 q38 q39 q40 q41 q42 q43 q44 q45 q46 q47 q48 q49 m : Nat} {xs : Nat → Int32} {nm : String} {f g h0m : gMem} {a : Nat → Nat} {n : Nat → Int32} {z : Nat → Int64} {F : Nat → Nat → Int32} {G : Nat → Nat → Int64} (hA : aW [(x, .inr (11, [.ref q1, .ref q5, .ref q7, .ref q9, .ref q10, .ref q13, .ref q16, .ref q17, .ref q18, .ref q23, .ref q30, .ref q32, .int 0])), (q1, .inr (0, [.ref q2, .ref q3])), (q2, .inl (cy 0, 2400, .inl (fun _ => 0))), (q3, .inr (7, [.ref q4, .int 0])), (q4, .inl (cy 0, 6, .inl (fun _ => 0))), (q5, .inr (9, [.ref q6, .int 0])), (q6, .inl (cy 1, 400, .inl (fun _ => 0))), (q7, .inr (9, [.ref q8, .int 0])), (q8, .inl (cy 1, 480, .inl (fun _ => 0))), (q9, .inl (cy 4, 20, .inr (.inr (.inr (.inr (fun _ => none)))))), (q10, .inr (2, [.ref q11, .ref q12, .int 0, .int 0])), (q11, .inl (cy 0, 520, .inl (fun _ => 0))), (q12, .inl (cy 0, 80, .inl (fun _ => 0))), (q13, .inr (2, [.ref q14, .ref q15, .int 0, .int 0])), (q14, .inl (cy 0, 520, .inl (fun _ => 0))), (q15, .inl (cy 0, 80, .inl (fun _ => 0))), (q16, .inr (6, [.ref q5, .ref q10, .int 0, .int 0])), (q17, .inr (8, [.ref q7])), (q18, .inr (3, [.ref q19, .ref q22])), (q19, .inr (2, [.ref q20, .ref q21, .int 0, .int 0])), (q20, .inl (cy 0, 520, .inl (fun _ => 0))), (q21, .inl (cy 0, 80, .inl (fun _ => 0))), (q22, .inl (cy 0, 40, .inl (fun _ => 0))), (q23, .inr (4, [.ref q24, .int 0, .int 0, .ref q25, .ref q26, .ref q27, .ref q28, .ref q29, .int (-1)])), (q24, .inl (cy 0, 96, .inl (fun _ => 0))), (q25, .inl (cy 2, 8, .inr (.inl (fun _ => 0)))), (q26, .inl (cy 2, 8, .inr (.inl (fun _ => 0)))), (q27, .inl (cy 0, 8, .inl (fun _ => 0))), (q28, .inl (cy 0, 8, .inl (fun _ => 0))), (q29, .inl (cy 2, 8, .inr (.inl (fun _ => 0)))), (q30, .inr (1, [.ref q31, .ref q3, .ref q23, .int 0])), (q31, .inl (cy 5, 40, .inr (.inr (.inr (.inr (fun _ => none)))))), (q32, .inr (10, [.int 1, .ref q33, .ref q34, .ref q35, .ref q36, .ref q3, .ref q37, .int 0, .int 0])), (q33, .inl (cy 0, 3, .inl (upd (fun _ => 0) (Int32.toNatClampNeg 0) 1))), (q34, .inl (cy 0, 18, .inl (fun _ => 0))), (q35, .inl (cy 6, 5, .inr (.inr (.inr (.inr (va_up (va_up (va_up (va_up (va_up (fun _ => none) (Int32.toNatClampNeg 0) (some q40)) (Int32.toNatClampNeg 1) (some q42)) (Int32.toNatClampNeg 2) (some q44)) (Int32.toNatClampNeg 3) (some q46)) (Int32.toNatClampNeg 4) (some q48))))))), (q36, .inl (cy 2, 5, .inr (.inl (fun _ => 0)))), (q37, .inr (2, [.ref q38, .ref q39, .int 0, .int 0])), (q38, .inl (cy 0, 0, .inl (fun _ => 0))), (q39, .inl (cy 0, 0, .inl (fun _ => 0))), (q40, .inr (7, [.ref q41, .int 0])), (q41, .inl (cy 0, 6, .inl (fun _ => 0))), (q42, .inr (7, [.ref q43, .int 0])), (q43, .inl (cy 0, 6, .inl (fun _ => 0))), (q44, .inr (7, [.ref q45, .int 0])), (q45, .inl (cy 0, 6, .inl (fun _ => 0))), (q46, .inr (7, [.ref q47, .int 0])), (q47, .inl (cy 0, 6, .inl (fun _ => 0))), (q48, .inr (7, [.ref q49, .int 0])), (q49, .inl (cy 0, 6, .inl (fun _ => 0)))] f) (hA2 : aW [(x, .inr (11, [.ref q1, .ref q5, .ref q7, .ref q9, .ref q10, .ref q13, .ref q16, .ref q17, .ref q18, .ref q23, .ref q30, .ref q32, .int 0])), (q1, .inr (0, [.ref q2, .ref q3])), (q2, .inl (cy 0, 2400, .inl (fun _ => 0))), (q3, .inr (7, [.ref q4, .int 0])), (q4, .inl (cy 0, 6, .inl (fun _ => 0))), (q5, .inr (9, [.ref q6, .int 0])), (q6, .inl (cy 1, 400, .inl (fun _ => 0))), (q7, .inr (9, [.ref q8, .int 0])), (q8, .inl (cy 1, 480, .inl (fun _ => 0))), (q9, .inl (cy 4, 20, .inr (.inr (.inr (.inr (fun _ => none)))))), (q10, .inr (2, [.ref q11, .ref q12, .int 0, .int 0])), (q11, .inl (cy 0, 520, .inl (fun _ => 0))), (q12, .inl (cy 0, 80, .inl (fun _ => 0))), (q13, .inr (2, [.ref q14, .ref q15, .int 0, .int 0])), (q14, .inl (cy 0, 520, .inl (fun _ => 0))), (q15, .inl (cy 0, 80, .inl (fun _ => 0))), (q16, .inr (6, [.ref q5, .ref q10, .int 0, .int 0])), (q17, .inr (8, [.ref q7])), (q18, .inr (3, [.ref q19, .ref q22])), (q19, .inr (2, [.ref q20, .ref q21, .int 0, .int 0])), (q20, .inl (cy 0, 520, .inl (fun _ => 0))), (q21, .inl (cy 0, 80, .inl (fun _ => 0))), (q22, .inl (cy 0, 40, .inl (fun _ => 0))), (q23, .inr (4, [.ref q24, .int 0, .int 0, .ref q25, .ref q26, .ref q27, .ref q28, .ref q29, .int (-1)])), (q24, .inl (cy 0, 96, .inl (fun _ => 0))), (q25, .inl (cy 2, 8, .inr (.inl (fun _ => 0)))), (q26, .inl (cy 2, 8, .inr (.inl (fun _ => 0)))), (q27, .inl (cy 0, 8, .inl (fun _ => 0))), (q28, .inl (cy 0, 8, .inl (fun _ => 0))), (q29, .inl (cy 2, 8, .inr (.inl (fun _ => 0)))), (q30, .inr (1, [.ref q31, .ref q3, .ref q23, .int 0])), (q31, .inl (cy 5, 40, .inr (.inr (.inr (.inr (fun _ => none)))))), (q32, .inr (10, [.int 1, .ref q33, .ref q34, .ref q35, .ref q36, .ref q3, .ref q37, .int 0, .int 0])), (q33, .inl (cy 0, 3, .inl (upd (fun _ => 0) (Int32.toNatClampNeg 0) 1))), (q34, .inl (cy 0, 18, .inl (fun _ => 0))), (q35, .inl (cy 6, 5, .inr (.inr (.inr (.inr (va_up (va_up (va_up (va_up (va_up (fun _ => none) (Int32.toNatClampNeg 0) (some q40)) (Int32.toNatClampNeg 1) (some q42)) (Int32.toNatClampNeg 2) (some q44)) (Int32.toNatClampNeg 3) (some q46)) (Int32.toNatClampNeg 4) (some q48))))))), (q36, .inl (cy 2, 5, .inr (.inl (fun _ => 0)))), (q37, .inr (2, [.ref q38, .ref q39, .int 0, .int 0])), (q38, .inl (cy 0, 0, .inl (fun _ => 0))), (q39, .inl (cy 0, 0, .inl (fun _ => 0))), (q40, .inr (7, [.ref q41, .int 0])), (q41, .inl (cy 0, 6, .inl (fun _ => 0))), (q42, .inr (7, [.ref q43, .int 0])), (q43, .inl (cy 0, 6, .inl (fun _ => 0))), (q44, .inr (7, [.ref q45, .int 0])), (q45, .inl (cy 0, 6, .inl (fun _ => 0))), (q46, .inr (7, [.ref q47, .int 0])), (q47, .inl (cy 0, 6, .inl (fun _ => 0))), (q48, .inr (7, [.ref q49, .int 0])), (q49, .inl (cy 0, 6, .inl (fun _ => 0)))] g) (hS : mS cy m a h0m n z F G f) (hm : g m = none) (ha : ∀ k, mTy k ≠ 0 → g (a k) = none) (hF : ∀ i, i < 2400 → F 2 i = -10000) (h0 : n 0 = 0) (h1 : n 1 = 0) (h4 : n 4 = 0) (h5 : n 5 = 0) (h30 : n 30 = 0) (h38 : n 38 = 0) (h46 : n 46 = 0) (h53 : n 53 = 1) (h88 : n 88 = 0) (hG : ∀ i, i < 11 → G 27 i ≠ 0) : gG l room_1 lwQf (lwEx bs 6 b xs) D cy b code 4 ret RL nm 119 44855 f 299 [(3, .int 0), (2, .ref m), (1, .ref x), (0, .ref bs)] [] := by
  have kx : f x = some (.inr (11, [.ref q1, .ref q5, .ref q7, .ref q9, .ref q10, .ref q13, .ref q16, .ref q17, .ref q18, .ref q23, .ref q30, .ref q32, .int 0])) := hA.1 0 _ rfl
  have ktp : f q5 = some (.inr (9, [.ref q6, .int 0])) := hA.1 5 _ rfl
  refine gz_aload_n dL_law_299 rfl rfl ?_
  refine gz_aload_n dL_law_300 rfl rfl ?_
  refine gz_iload_n dL_law_301 rfl rfl ?_
  refine gz_iconst (v := 1) dL_law_302 (by decide) ?_
  refine gz_iadd dL_law_303 ?_
  refine gz_ev (w := .int 1) (by decide) ?_
  refine lz_sld (vin_T (v := 1) rfl (by decide) (by decide)) dL_law_304 ?_
  refine gz_ev (w := .int (xs 1)) rfl ?_
  refine scL_28 (k_X11_end (x1 := (xs 1)) kx ktp) kx ⟨(Nat.le_of_ble_eq_true rfl), (Nat.le_of_ble_eq_true rfl)⟩ ⟨(Nat.le_of_ble_eq_true rfl), (Nat.le_of_ble_eq_true rfl)⟩ rfl rfl (Nat.le_of_ble_eq_true rfl) dL_law_305 ?_
  rintro v9 f9 ⟨z1, z2⟩; rw [z1]
  have hs9 : ∀ y, y ∈ [q5] → ∃ e, g y = some e := by
    intro y hy; simp only [List.mem_cons, List.not_mem_nil, or_false] at hy; rcases hy with rfl
    · exact ⟨_, hA2.1 5 _ rfl⟩
  have hS9 := mS_fr hS hm ha z2 hs9
  refine gz_aload_n dL_law_308 rfl rfl ?_
  refine gz_aload_n dL_law_309 rfl rfl ?_
  refine gz_iload_n dL_law_310 rfl rfl ?_
  refine gz_iconst (v := 1) dL_law_311 (by decide) ?_
  refine gz_iadd dL_law_312 ?_
  refine gz_ev (w := .int 1) (by decide) ?_
  refine lz_sld (vin_T (v := 1) rfl (by decide) (by decide)) dL_law_313 ?_
  refine gz_ev (w := .int (xs 1)) rfl ?_
  refine scL_32 (k_X12_end (x := xs 1) hS9 h4) hS9.1 ⟨(Nat.le_of_ble_eq_true rfl), (Nat.le_of_ble_eq_true rfl)⟩ ⟨(Nat.le_of_ble_eq_true rfl), (Nat.le_of_ble_eq_true rfl)⟩ rfl rfl (Nat.le_of_ble_eq_true rfl) dL_law_314 ?_
  intro v8 f8 z8; rw [show v8 = _ from z8]
  refine gz_icmp_eq (tgt := 1087) dL_law_317 (by decide) (fun c_317 => ?_) (fun c_317 => ?_)
  ·
    exact lw_end
  · exact absurd rfl c_317

set_option maxHeartbeats 4000000 in
set_option maxRecDepth 100000 in
theorem lw_case_4 {l : Launch} {D : va_G} {cy : Nat → ClassId} {b bs x q1 q2 q3 q4 q5 q6 q7 q8 q9 q10 q11 q12 q13 q14 q15 q16 q17 q18 q19 q20 q21 q22 q23 q24 q25 q26 q27 q28 q29 q30 q31 q32 q33 q34 q35 q36 q37 q38 q39 q40 q41 q42 q43 q44 q45 q46 q47 q48 q49 m : Nat} {xs : Nat → Int32} {nm : String} {f g h0m : gMem} {a : Nat → Nat} {n : Nat → Int32} {z : Nat → Int64} {F : Nat → Nat → Int32} {G : Nat → Nat → Int64} (hA : aW [(x, .inr (11, [.ref q1, .ref q5, .ref q7, .ref q9, .ref q10, .ref q13, .ref q16, .ref q17, .ref q18, .ref q23, .ref q30, .ref q32, .int 0])), (q1, .inr (0, [.ref q2, .ref q3])), (q2, .inl (cy 0, 2400, .inl (fun _ => 0))), (q3, .inr (7, [.ref q4, .int 0])), (q4, .inl (cy 0, 6, .inl (fun _ => 0))), (q5, .inr (9, [.ref q6, .int 0])), (q6, .inl (cy 1, 400, .inl (fun _ => 0))), (q7, .inr (9, [.ref q8, .int 0])), (q8, .inl (cy 1, 480, .inl (fun _ => 0))), (q9, .inl (cy 4, 20, .inr (.inr (.inr (.inr (fun _ => none)))))), (q10, .inr (2, [.ref q11, .ref q12, .int 0, .int 0])), (q11, .inl (cy 0, 520, .inl (fun _ => 0))), (q12, .inl (cy 0, 80, .inl (fun _ => 0))), (q13, .inr (2, [.ref q14, .ref q15, .int 0, .int 0])), (q14, .inl (cy 0, 520, .inl (fun _ => 0))), (q15, .inl (cy 0, 80, .inl (fun _ => 0))), (q16, .inr (6, [.ref q5, .ref q10, .int 0, .int 0])), (q17, .inr (8, [.ref q7])), (q18, .inr (3, [.ref q19, .ref q22])), (q19, .inr (2, [.ref q20, .ref q21, .int 0, .int 0])), (q20, .inl (cy 0, 520, .inl (fun _ => 0))), (q21, .inl (cy 0, 80, .inl (fun _ => 0))), (q22, .inl (cy 0, 40, .inl (fun _ => 0))), (q23, .inr (4, [.ref q24, .int 0, .int 0, .ref q25, .ref q26, .ref q27, .ref q28, .ref q29, .int (-1)])), (q24, .inl (cy 0, 96, .inl (fun _ => 0))), (q25, .inl (cy 2, 8, .inr (.inl (fun _ => 0)))), (q26, .inl (cy 2, 8, .inr (.inl (fun _ => 0)))), (q27, .inl (cy 0, 8, .inl (fun _ => 0))), (q28, .inl (cy 0, 8, .inl (fun _ => 0))), (q29, .inl (cy 2, 8, .inr (.inl (fun _ => 0)))), (q30, .inr (1, [.ref q31, .ref q3, .ref q23, .int 0])), (q31, .inl (cy 5, 40, .inr (.inr (.inr (.inr (fun _ => none)))))), (q32, .inr (10, [.int 1, .ref q33, .ref q34, .ref q35, .ref q36, .ref q3, .ref q37, .int 0, .int 0])), (q33, .inl (cy 0, 3, .inl (upd (fun _ => 0) (Int32.toNatClampNeg 0) 1))), (q34, .inl (cy 0, 18, .inl (fun _ => 0))), (q35, .inl (cy 6, 5, .inr (.inr (.inr (.inr (va_up (va_up (va_up (va_up (va_up (fun _ => none) (Int32.toNatClampNeg 0) (some q40)) (Int32.toNatClampNeg 1) (some q42)) (Int32.toNatClampNeg 2) (some q44)) (Int32.toNatClampNeg 3) (some q46)) (Int32.toNatClampNeg 4) (some q48))))))), (q36, .inl (cy 2, 5, .inr (.inl (fun _ => 0)))), (q37, .inr (2, [.ref q38, .ref q39, .int 0, .int 0])), (q38, .inl (cy 0, 0, .inl (fun _ => 0))), (q39, .inl (cy 0, 0, .inl (fun _ => 0))), (q40, .inr (7, [.ref q41, .int 0])), (q41, .inl (cy 0, 6, .inl (fun _ => 0))), (q42, .inr (7, [.ref q43, .int 0])), (q43, .inl (cy 0, 6, .inl (fun _ => 0))), (q44, .inr (7, [.ref q45, .int 0])), (q45, .inl (cy 0, 6, .inl (fun _ => 0))), (q46, .inr (7, [.ref q47, .int 0])), (q47, .inl (cy 0, 6, .inl (fun _ => 0))), (q48, .inr (7, [.ref q49, .int 0])), (q49, .inl (cy 0, 6, .inl (fun _ => 0)))] f) (hA2 : aW [(x, .inr (11, [.ref q1, .ref q5, .ref q7, .ref q9, .ref q10, .ref q13, .ref q16, .ref q17, .ref q18, .ref q23, .ref q30, .ref q32, .int 0])), (q1, .inr (0, [.ref q2, .ref q3])), (q2, .inl (cy 0, 2400, .inl (fun _ => 0))), (q3, .inr (7, [.ref q4, .int 0])), (q4, .inl (cy 0, 6, .inl (fun _ => 0))), (q5, .inr (9, [.ref q6, .int 0])), (q6, .inl (cy 1, 400, .inl (fun _ => 0))), (q7, .inr (9, [.ref q8, .int 0])), (q8, .inl (cy 1, 480, .inl (fun _ => 0))), (q9, .inl (cy 4, 20, .inr (.inr (.inr (.inr (fun _ => none)))))), (q10, .inr (2, [.ref q11, .ref q12, .int 0, .int 0])), (q11, .inl (cy 0, 520, .inl (fun _ => 0))), (q12, .inl (cy 0, 80, .inl (fun _ => 0))), (q13, .inr (2, [.ref q14, .ref q15, .int 0, .int 0])), (q14, .inl (cy 0, 520, .inl (fun _ => 0))), (q15, .inl (cy 0, 80, .inl (fun _ => 0))), (q16, .inr (6, [.ref q5, .ref q10, .int 0, .int 0])), (q17, .inr (8, [.ref q7])), (q18, .inr (3, [.ref q19, .ref q22])), (q19, .inr (2, [.ref q20, .ref q21, .int 0, .int 0])), (q20, .inl (cy 0, 520, .inl (fun _ => 0))), (q21, .inl (cy 0, 80, .inl (fun _ => 0))), (q22, .inl (cy 0, 40, .inl (fun _ => 0))), (q23, .inr (4, [.ref q24, .int 0, .int 0, .ref q25, .ref q26, .ref q27, .ref q28, .ref q29, .int (-1)])), (q24, .inl (cy 0, 96, .inl (fun _ => 0))), (q25, .inl (cy 2, 8, .inr (.inl (fun _ => 0)))), (q26, .inl (cy 2, 8, .inr (.inl (fun _ => 0)))), (q27, .inl (cy 0, 8, .inl (fun _ => 0))), (q28, .inl (cy 0, 8, .inl (fun _ => 0))), (q29, .inl (cy 2, 8, .inr (.inl (fun _ => 0)))), (q30, .inr (1, [.ref q31, .ref q3, .ref q23, .int 0])), (q31, .inl (cy 5, 40, .inr (.inr (.inr (.inr (fun _ => none)))))), (q32, .inr (10, [.int 1, .ref q33, .ref q34, .ref q35, .ref q36, .ref q3, .ref q37, .int 0, .int 0])), (q33, .inl (cy 0, 3, .inl (upd (fun _ => 0) (Int32.toNatClampNeg 0) 1))), (q34, .inl (cy 0, 18, .inl (fun _ => 0))), (q35, .inl (cy 6, 5, .inr (.inr (.inr (.inr (va_up (va_up (va_up (va_up (va_up (fun _ => none) (Int32.toNatClampNeg 0) (some q40)) (Int32.toNatClampNeg 1) (some q42)) (Int32.toNatClampNeg 2) (some q44)) (Int32.toNatClampNeg 3) (some q46)) (Int32.toNatClampNeg 4) (some q48))))))), (q36, .inl (cy 2, 5, .inr (.inl (fun _ => 0)))), (q37, .inr (2, [.ref q38, .ref q39, .int 0, .int 0])), (q38, .inl (cy 0, 0, .inl (fun _ => 0))), (q39, .inl (cy 0, 0, .inl (fun _ => 0))), (q40, .inr (7, [.ref q41, .int 0])), (q41, .inl (cy 0, 6, .inl (fun _ => 0))), (q42, .inr (7, [.ref q43, .int 0])), (q43, .inl (cy 0, 6, .inl (fun _ => 0))), (q44, .inr (7, [.ref q45, .int 0])), (q45, .inl (cy 0, 6, .inl (fun _ => 0))), (q46, .inr (7, [.ref q47, .int 0])), (q47, .inl (cy 0, 6, .inl (fun _ => 0))), (q48, .inr (7, [.ref q49, .int 0])), (q49, .inl (cy 0, 6, .inl (fun _ => 0)))] g) (hS : mS cy m a h0m n z F G f) (hm : g m = none) (ha : ∀ k, mTy k ≠ 0 → g (a k) = none) (hF : ∀ i, i < 2400 → F 2 i = -10000) (h0 : n 0 = 0) (h1 : n 1 = 0) (h4 : n 4 = 0) (h5 : n 5 = 0) (h30 : n 30 = 0) (h38 : n 38 = 0) (h46 : n 46 = 0) (h53 : n 53 = 1) (h88 : n 88 = 0) (hG : ∀ i, i < 11 → G 27 i ≠ 0) : gG l room_1 lwQf (lwEx bs 6 b xs) D cy b code 4 ret RL nm 119 44855 f 322 [(3, .int 0), (2, .ref m), (1, .ref x), (0, .ref bs)] [] := by
  have kx : f x = some (.inr (11, [.ref q1, .ref q5, .ref q7, .ref q9, .ref q10, .ref q13, .ref q16, .ref q17, .ref q18, .ref q23, .ref q30, .ref q32, .int 0])) := hA.1 0 _ rfl
  have krd : f q16 = some (.inr (6, [.ref q5, .ref q10, .int 0, .int 0])) := hA.1 16 _ rfl
  have ktp : f q5 = some (.inr (9, [.ref q6, .int 0])) := hA.1 5 _ rfl
  have kby_ : f q6 = some (.inl (cy 1, 400, .inl (fun _ => 0))) := hA.1 6 _ rfl
  have kdr : f q10 = some (.inr (2, [.ref q11, .ref q12, .int 0, .int 0])) := hA.1 10 _ rfl
  refine gz_aload_n dL_law_322 rfl rfl ?_
  refine scL_33 (k_X11_form  kx krd ktp kby_ kdr) kx ⟨(Nat.le_of_ble_eq_true rfl), (Nat.le_of_ble_eq_true rfl)⟩ ⟨(Nat.le_of_ble_eq_true rfl), (Nat.le_of_ble_eq_true rfl)⟩ rfl rfl (Nat.le_of_ble_eq_true rfl) dL_law_323 ?_
  rintro v9 f9 ⟨z1, z2⟩; rw [z1]
  have hs9 : ∀ y, y ∈ [q16, q10, q5] → ∃ e, g y = some e := by
    intro y hy; simp only [List.mem_cons, List.not_mem_nil, or_false] at hy; rcases hy with rfl | rfl | rfl
    · exact ⟨_, hA2.1 16 _ rfl⟩
    · exact ⟨_, hA2.1 10 _ rfl⟩
    · exact ⟨_, hA2.1 5 _ rfl⟩
  have hS9 := mS_fr hS hm ha z2 hs9
  refine gz_aload_n dL_law_326 rfl rfl ?_
  refine scL_37 (k_X12_form  hS9 h4 h5 hG) hS9.1 ⟨(Nat.le_of_ble_eq_true rfl), (Nat.le_of_ble_eq_true rfl)⟩ ⟨(Nat.le_of_ble_eq_true rfl), (Nat.le_of_ble_eq_true rfl)⟩ rfl rfl (Nat.le_of_ble_eq_true rfl) dL_law_327 ?_
  intro v8 f8 z8; rw [show v8 = _ from z8]
  refine gz_icmp_eq (tgt := 1087) dL_law_330 (by decide) (fun c_330 => ?_) (fun c_330 => ?_)
  ·
    exact lw_end
  · exact absurd rfl c_330

set_option maxHeartbeats 4000000 in
set_option maxRecDepth 100000 in
theorem lw_case_5 {l : Launch} {D : va_G} {cy : Nat → ClassId} {b bs x q1 q2 q3 q4 q5 q6 q7 q8 q9 q10 q11 q12 q13 q14 q15 q16 q17 q18 q19 q20 q21 q22 q23 q24 q25 q26 q27 q28 q29 q30 q31 q32 q33 q34 q35 q36 q37 q38 q39 q40 q41 q42 q43 q44 q45 q46 q47 q48 q49 m : Nat} {xs : Nat → Int32} {nm : String} {f g h0m : gMem} {a : Nat → Nat} {n : Nat → Int32} {z : Nat → Int64} {F : Nat → Nat → Int32} {G : Nat → Nat → Int64} (hA : aW [(x, .inr (11, [.ref q1, .ref q5, .ref q7, .ref q9, .ref q10, .ref q13, .ref q16, .ref q17, .ref q18, .ref q23, .ref q30, .ref q32, .int 0])), (q1, .inr (0, [.ref q2, .ref q3])), (q2, .inl (cy 0, 2400, .inl (fun _ => 0))), (q3, .inr (7, [.ref q4, .int 0])), (q4, .inl (cy 0, 6, .inl (fun _ => 0))), (q5, .inr (9, [.ref q6, .int 0])), (q6, .inl (cy 1, 400, .inl (fun _ => 0))), (q7, .inr (9, [.ref q8, .int 0])), (q8, .inl (cy 1, 480, .inl (fun _ => 0))), (q9, .inl (cy 4, 20, .inr (.inr (.inr (.inr (fun _ => none)))))), (q10, .inr (2, [.ref q11, .ref q12, .int 0, .int 0])), (q11, .inl (cy 0, 520, .inl (fun _ => 0))), (q12, .inl (cy 0, 80, .inl (fun _ => 0))), (q13, .inr (2, [.ref q14, .ref q15, .int 0, .int 0])), (q14, .inl (cy 0, 520, .inl (fun _ => 0))), (q15, .inl (cy 0, 80, .inl (fun _ => 0))), (q16, .inr (6, [.ref q5, .ref q10, .int 0, .int 0])), (q17, .inr (8, [.ref q7])), (q18, .inr (3, [.ref q19, .ref q22])), (q19, .inr (2, [.ref q20, .ref q21, .int 0, .int 0])), (q20, .inl (cy 0, 520, .inl (fun _ => 0))), (q21, .inl (cy 0, 80, .inl (fun _ => 0))), (q22, .inl (cy 0, 40, .inl (fun _ => 0))), (q23, .inr (4, [.ref q24, .int 0, .int 0, .ref q25, .ref q26, .ref q27, .ref q28, .ref q29, .int (-1)])), (q24, .inl (cy 0, 96, .inl (fun _ => 0))), (q25, .inl (cy 2, 8, .inr (.inl (fun _ => 0)))), (q26, .inl (cy 2, 8, .inr (.inl (fun _ => 0)))), (q27, .inl (cy 0, 8, .inl (fun _ => 0))), (q28, .inl (cy 0, 8, .inl (fun _ => 0))), (q29, .inl (cy 2, 8, .inr (.inl (fun _ => 0)))), (q30, .inr (1, [.ref q31, .ref q3, .ref q23, .int 0])), (q31, .inl (cy 5, 40, .inr (.inr (.inr (.inr (fun _ => none)))))), (q32, .inr (10, [.int 1, .ref q33, .ref q34, .ref q35, .ref q36, .ref q3, .ref q37, .int 0, .int 0])), (q33, .inl (cy 0, 3, .inl (upd (fun _ => 0) (Int32.toNatClampNeg 0) 1))), (q34, .inl (cy 0, 18, .inl (fun _ => 0))), (q35, .inl (cy 6, 5, .inr (.inr (.inr (.inr (va_up (va_up (va_up (va_up (va_up (fun _ => none) (Int32.toNatClampNeg 0) (some q40)) (Int32.toNatClampNeg 1) (some q42)) (Int32.toNatClampNeg 2) (some q44)) (Int32.toNatClampNeg 3) (some q46)) (Int32.toNatClampNeg 4) (some q48))))))), (q36, .inl (cy 2, 5, .inr (.inl (fun _ => 0)))), (q37, .inr (2, [.ref q38, .ref q39, .int 0, .int 0])), (q38, .inl (cy 0, 0, .inl (fun _ => 0))), (q39, .inl (cy 0, 0, .inl (fun _ => 0))), (q40, .inr (7, [.ref q41, .int 0])), (q41, .inl (cy 0, 6, .inl (fun _ => 0))), (q42, .inr (7, [.ref q43, .int 0])), (q43, .inl (cy 0, 6, .inl (fun _ => 0))), (q44, .inr (7, [.ref q45, .int 0])), (q45, .inl (cy 0, 6, .inl (fun _ => 0))), (q46, .inr (7, [.ref q47, .int 0])), (q47, .inl (cy 0, 6, .inl (fun _ => 0))), (q48, .inr (7, [.ref q49, .int 0])), (q49, .inl (cy 0, 6, .inl (fun _ => 0)))] f) (hA2 : aW [(x, .inr (11, [.ref q1, .ref q5, .ref q7, .ref q9, .ref q10, .ref q13, .ref q16, .ref q17, .ref q18, .ref q23, .ref q30, .ref q32, .int 0])), (q1, .inr (0, [.ref q2, .ref q3])), (q2, .inl (cy 0, 2400, .inl (fun _ => 0))), (q3, .inr (7, [.ref q4, .int 0])), (q4, .inl (cy 0, 6, .inl (fun _ => 0))), (q5, .inr (9, [.ref q6, .int 0])), (q6, .inl (cy 1, 400, .inl (fun _ => 0))), (q7, .inr (9, [.ref q8, .int 0])), (q8, .inl (cy 1, 480, .inl (fun _ => 0))), (q9, .inl (cy 4, 20, .inr (.inr (.inr (.inr (fun _ => none)))))), (q10, .inr (2, [.ref q11, .ref q12, .int 0, .int 0])), (q11, .inl (cy 0, 520, .inl (fun _ => 0))), (q12, .inl (cy 0, 80, .inl (fun _ => 0))), (q13, .inr (2, [.ref q14, .ref q15, .int 0, .int 0])), (q14, .inl (cy 0, 520, .inl (fun _ => 0))), (q15, .inl (cy 0, 80, .inl (fun _ => 0))), (q16, .inr (6, [.ref q5, .ref q10, .int 0, .int 0])), (q17, .inr (8, [.ref q7])), (q18, .inr (3, [.ref q19, .ref q22])), (q19, .inr (2, [.ref q20, .ref q21, .int 0, .int 0])), (q20, .inl (cy 0, 520, .inl (fun _ => 0))), (q21, .inl (cy 0, 80, .inl (fun _ => 0))), (q22, .inl (cy 0, 40, .inl (fun _ => 0))), (q23, .inr (4, [.ref q24, .int 0, .int 0, .ref q25, .ref q26, .ref q27, .ref q28, .ref q29, .int (-1)])), (q24, .inl (cy 0, 96, .inl (fun _ => 0))), (q25, .inl (cy 2, 8, .inr (.inl (fun _ => 0)))), (q26, .inl (cy 2, 8, .inr (.inl (fun _ => 0)))), (q27, .inl (cy 0, 8, .inl (fun _ => 0))), (q28, .inl (cy 0, 8, .inl (fun _ => 0))), (q29, .inl (cy 2, 8, .inr (.inl (fun _ => 0)))), (q30, .inr (1, [.ref q31, .ref q3, .ref q23, .int 0])), (q31, .inl (cy 5, 40, .inr (.inr (.inr (.inr (fun _ => none)))))), (q32, .inr (10, [.int 1, .ref q33, .ref q34, .ref q35, .ref q36, .ref q3, .ref q37, .int 0, .int 0])), (q33, .inl (cy 0, 3, .inl (upd (fun _ => 0) (Int32.toNatClampNeg 0) 1))), (q34, .inl (cy 0, 18, .inl (fun _ => 0))), (q35, .inl (cy 6, 5, .inr (.inr (.inr (.inr (va_up (va_up (va_up (va_up (va_up (fun _ => none) (Int32.toNatClampNeg 0) (some q40)) (Int32.toNatClampNeg 1) (some q42)) (Int32.toNatClampNeg 2) (some q44)) (Int32.toNatClampNeg 3) (some q46)) (Int32.toNatClampNeg 4) (some q48))))))), (q36, .inl (cy 2, 5, .inr (.inl (fun _ => 0)))), (q37, .inr (2, [.ref q38, .ref q39, .int 0, .int 0])), (q38, .inl (cy 0, 0, .inl (fun _ => 0))), (q39, .inl (cy 0, 0, .inl (fun _ => 0))), (q40, .inr (7, [.ref q41, .int 0])), (q41, .inl (cy 0, 6, .inl (fun _ => 0))), (q42, .inr (7, [.ref q43, .int 0])), (q43, .inl (cy 0, 6, .inl (fun _ => 0))), (q44, .inr (7, [.ref q45, .int 0])), (q45, .inl (cy 0, 6, .inl (fun _ => 0))), (q46, .inr (7, [.ref q47, .int 0])), (q47, .inl (cy 0, 6, .inl (fun _ => 0))), (q48, .inr (7, [.ref q49, .int 0])), (q49, .inl (cy 0, 6, .inl (fun _ => 0)))] g) (hS : mS cy m a h0m n z F G f) (hm : g m = none) (ha : ∀ k, mTy k ≠ 0 → g (a k) = none) (hF : ∀ i, i < 2400 → F 2 i = -10000) (h0 : n 0 = 0) (h1 : n 1 = 0) (h4 : n 4 = 0) (h5 : n 5 = 0) (h30 : n 30 = 0) (h38 : n 38 = 0) (h46 : n 46 = 0) (h53 : n 53 = 1) (h88 : n 88 = 0) (hG : ∀ i, i < 11 → G 27 i ≠ 0) : gG l room_1 lwQf (lwEx bs 6 b xs) D cy b code 4 ret RL nm 119 44855 f 335 [(3, .int 0), (2, .ref m), (1, .ref x), (0, .ref bs)] [] := by
  have kx : f x = some (.inr (11, [.ref q1, .ref q5, .ref q7, .ref q9, .ref q10, .ref q13, .ref q16, .ref q17, .ref q18, .ref q23, .ref q30, .ref q32, .int 0])) := hA.1 0 _ rfl
  refine gz_aload_n dL_law_335 rfl rfl ?_
  refine gz_aload_n dL_law_336 rfl rfl ?_
  refine gz_iload_n dL_law_337 rfl rfl ?_
  refine gz_iconst (v := 1) dL_law_338 (by decide) ?_
  refine gz_iadd dL_law_339 ?_
  refine gz_ev (w := .int 1) (by decide) ?_
  refine lz_sld (vin_T (v := 1) rfl (by decide) (by decide)) dL_law_340 ?_
  refine gz_ev (w := .int (xs 1)) rfl ?_
  refine gz_aload_n dL_law_341 rfl rfl ?_
  refine gz_iload_n dL_law_342 rfl rfl ?_
  refine gz_iconst (v := 2) dL_law_343 (by decide) ?_
  refine gz_iadd dL_law_344 ?_
  refine gz_ev (w := .int 2) (by decide) ?_
  refine lz_sld (vin_T (v := 2) rfl (by decide) (by decide)) dL_law_345 ?_
  refine gz_ev (w := .int (xs 2)) rfl ?_
  refine gz_aload_n dL_law_346 rfl rfl ?_
  refine gz_iload_n dL_law_347 rfl rfl ?_
  refine gz_iconst (v := 3) dL_law_348 (by decide) ?_
  refine gz_iadd dL_law_349 ?_
  refine gz_ev (w := .int 3) (by decide) ?_
  refine lz_sld (vin_T (v := 3) rfl (by decide) (by decide)) dL_law_350 ?_
  refine gz_ev (w := .int (xs 3)) rfl ?_
  refine scL_38 (k_X11_word (x1 := (xs 1)) (x2 := (xs 2)) (x3 := (xs 3)) kx) kx ⟨(Nat.le_of_ble_eq_true rfl), (Nat.le_of_ble_eq_true rfl)⟩ ⟨(Nat.le_of_ble_eq_true rfl), (Nat.le_of_ble_eq_true rfl)⟩ rfl rfl (Nat.le_of_ble_eq_true rfl) dL_law_351 ?_
  rintro v9 f9 ⟨z1, z2⟩; rw [z1]
  have hs9 : ∀ y, y ∈ ([] : List Nat) → ∃ e, g y = some e := fun y hy => absurd hy List.not_mem_nil
  have hS9 := mS_fr hS hm ha z2 hs9
  refine gz_aload_n dL_law_354 rfl rfl ?_
  refine gz_aload_n dL_law_355 rfl rfl ?_
  refine gz_iload_n dL_law_356 rfl rfl ?_
  refine gz_iconst (v := 1) dL_law_357 (by decide) ?_
  refine gz_iadd dL_law_358 ?_
  refine gz_ev (w := .int 1) (by decide) ?_
  refine lz_sld (vin_T (v := 1) rfl (by decide) (by decide)) dL_law_359 ?_
  refine gz_ev (w := .int (xs 1)) rfl ?_
  refine gz_aload_n dL_law_360 rfl rfl ?_
  refine gz_iload_n dL_law_361 rfl rfl ?_
  refine gz_iconst (v := 2) dL_law_362 (by decide) ?_
  refine gz_iadd dL_law_363 ?_
  refine gz_ev (w := .int 2) (by decide) ?_
  refine lz_sld (vin_T (v := 2) rfl (by decide) (by decide)) dL_law_364 ?_
  refine gz_ev (w := .int (xs 2)) rfl ?_
  refine gz_aload_n dL_law_365 rfl rfl ?_
  refine gz_iload_n dL_law_366 rfl rfl ?_
  refine gz_iconst (v := 3) dL_law_367 (by decide) ?_
  refine gz_iadd dL_law_368 ?_
  refine gz_ev (w := .int 3) (by decide) ?_
  refine lz_sld (vin_T (v := 3) rfl (by decide) (by decide)) dL_law_369 ?_
  refine gz_ev (w := .int (xs 3)) rfl ?_
  refine scL_42 (k_X12_word (x1 := (xs 1)) (x2 := (xs 2)) (x3 := (xs 3)) hS9 h5) hS9.1 ⟨(Nat.le_of_ble_eq_true rfl), (Nat.le_of_ble_eq_true rfl)⟩ ⟨(Nat.le_of_ble_eq_true rfl), (Nat.le_of_ble_eq_true rfl)⟩ rfl rfl (Nat.le_of_ble_eq_true rfl) dL_law_370 ?_
  intro v8 f8 z8; rw [show v8 = _ from z8]
  refine gz_icmp_eq (tgt := 1087) dL_law_373 (by decide) (fun c_373 => ?_) (fun c_373 => ?_)
  ·
    exact lw_end
  · exact absurd rfl c_373

set_option maxHeartbeats 4000000 in
set_option maxRecDepth 100000 in
theorem lw_case_6 {l : Launch} {D : va_G} {cy : Nat → ClassId} {b bs x q1 q2 q3 q4 q5 q6 q7 q8 q9 q10 q11 q12 q13 q14 q15 q16 q17 q18 q19 q20 q21 q22 q23 q24 q25 q26 q27 q28 q29 q30 q31 q32 q33 q34 q35 q36 q37 q38 q39 q40 q41 q42 q43 q44 q45 q46 q47 q48 q49 m : Nat} {xs : Nat → Int32} {nm : String} {f g h0m : gMem} {a : Nat → Nat} {n : Nat → Int32} {z : Nat → Int64} {F : Nat → Nat → Int32} {G : Nat → Nat → Int64} (hA : aW [(x, .inr (11, [.ref q1, .ref q5, .ref q7, .ref q9, .ref q10, .ref q13, .ref q16, .ref q17, .ref q18, .ref q23, .ref q30, .ref q32, .int 0])), (q1, .inr (0, [.ref q2, .ref q3])), (q2, .inl (cy 0, 2400, .inl (fun _ => 0))), (q3, .inr (7, [.ref q4, .int 0])), (q4, .inl (cy 0, 6, .inl (fun _ => 0))), (q5, .inr (9, [.ref q6, .int 0])), (q6, .inl (cy 1, 400, .inl (fun _ => 0))), (q7, .inr (9, [.ref q8, .int 0])), (q8, .inl (cy 1, 480, .inl (fun _ => 0))), (q9, .inl (cy 4, 20, .inr (.inr (.inr (.inr (fun _ => none)))))), (q10, .inr (2, [.ref q11, .ref q12, .int 0, .int 0])), (q11, .inl (cy 0, 520, .inl (fun _ => 0))), (q12, .inl (cy 0, 80, .inl (fun _ => 0))), (q13, .inr (2, [.ref q14, .ref q15, .int 0, .int 0])), (q14, .inl (cy 0, 520, .inl (fun _ => 0))), (q15, .inl (cy 0, 80, .inl (fun _ => 0))), (q16, .inr (6, [.ref q5, .ref q10, .int 0, .int 0])), (q17, .inr (8, [.ref q7])), (q18, .inr (3, [.ref q19, .ref q22])), (q19, .inr (2, [.ref q20, .ref q21, .int 0, .int 0])), (q20, .inl (cy 0, 520, .inl (fun _ => 0))), (q21, .inl (cy 0, 80, .inl (fun _ => 0))), (q22, .inl (cy 0, 40, .inl (fun _ => 0))), (q23, .inr (4, [.ref q24, .int 0, .int 0, .ref q25, .ref q26, .ref q27, .ref q28, .ref q29, .int (-1)])), (q24, .inl (cy 0, 96, .inl (fun _ => 0))), (q25, .inl (cy 2, 8, .inr (.inl (fun _ => 0)))), (q26, .inl (cy 2, 8, .inr (.inl (fun _ => 0)))), (q27, .inl (cy 0, 8, .inl (fun _ => 0))), (q28, .inl (cy 0, 8, .inl (fun _ => 0))), (q29, .inl (cy 2, 8, .inr (.inl (fun _ => 0)))), (q30, .inr (1, [.ref q31, .ref q3, .ref q23, .int 0])), (q31, .inl (cy 5, 40, .inr (.inr (.inr (.inr (fun _ => none)))))), (q32, .inr (10, [.int 1, .ref q33, .ref q34, .ref q35, .ref q36, .ref q3, .ref q37, .int 0, .int 0])), (q33, .inl (cy 0, 3, .inl (upd (fun _ => 0) (Int32.toNatClampNeg 0) 1))), (q34, .inl (cy 0, 18, .inl (fun _ => 0))), (q35, .inl (cy 6, 5, .inr (.inr (.inr (.inr (va_up (va_up (va_up (va_up (va_up (fun _ => none) (Int32.toNatClampNeg 0) (some q40)) (Int32.toNatClampNeg 1) (some q42)) (Int32.toNatClampNeg 2) (some q44)) (Int32.toNatClampNeg 3) (some q46)) (Int32.toNatClampNeg 4) (some q48))))))), (q36, .inl (cy 2, 5, .inr (.inl (fun _ => 0)))), (q37, .inr (2, [.ref q38, .ref q39, .int 0, .int 0])), (q38, .inl (cy 0, 0, .inl (fun _ => 0))), (q39, .inl (cy 0, 0, .inl (fun _ => 0))), (q40, .inr (7, [.ref q41, .int 0])), (q41, .inl (cy 0, 6, .inl (fun _ => 0))), (q42, .inr (7, [.ref q43, .int 0])), (q43, .inl (cy 0, 6, .inl (fun _ => 0))), (q44, .inr (7, [.ref q45, .int 0])), (q45, .inl (cy 0, 6, .inl (fun _ => 0))), (q46, .inr (7, [.ref q47, .int 0])), (q47, .inl (cy 0, 6, .inl (fun _ => 0))), (q48, .inr (7, [.ref q49, .int 0])), (q49, .inl (cy 0, 6, .inl (fun _ => 0)))] f) (hA2 : aW [(x, .inr (11, [.ref q1, .ref q5, .ref q7, .ref q9, .ref q10, .ref q13, .ref q16, .ref q17, .ref q18, .ref q23, .ref q30, .ref q32, .int 0])), (q1, .inr (0, [.ref q2, .ref q3])), (q2, .inl (cy 0, 2400, .inl (fun _ => 0))), (q3, .inr (7, [.ref q4, .int 0])), (q4, .inl (cy 0, 6, .inl (fun _ => 0))), (q5, .inr (9, [.ref q6, .int 0])), (q6, .inl (cy 1, 400, .inl (fun _ => 0))), (q7, .inr (9, [.ref q8, .int 0])), (q8, .inl (cy 1, 480, .inl (fun _ => 0))), (q9, .inl (cy 4, 20, .inr (.inr (.inr (.inr (fun _ => none)))))), (q10, .inr (2, [.ref q11, .ref q12, .int 0, .int 0])), (q11, .inl (cy 0, 520, .inl (fun _ => 0))), (q12, .inl (cy 0, 80, .inl (fun _ => 0))), (q13, .inr (2, [.ref q14, .ref q15, .int 0, .int 0])), (q14, .inl (cy 0, 520, .inl (fun _ => 0))), (q15, .inl (cy 0, 80, .inl (fun _ => 0))), (q16, .inr (6, [.ref q5, .ref q10, .int 0, .int 0])), (q17, .inr (8, [.ref q7])), (q18, .inr (3, [.ref q19, .ref q22])), (q19, .inr (2, [.ref q20, .ref q21, .int 0, .int 0])), (q20, .inl (cy 0, 520, .inl (fun _ => 0))), (q21, .inl (cy 0, 80, .inl (fun _ => 0))), (q22, .inl (cy 0, 40, .inl (fun _ => 0))), (q23, .inr (4, [.ref q24, .int 0, .int 0, .ref q25, .ref q26, .ref q27, .ref q28, .ref q29, .int (-1)])), (q24, .inl (cy 0, 96, .inl (fun _ => 0))), (q25, .inl (cy 2, 8, .inr (.inl (fun _ => 0)))), (q26, .inl (cy 2, 8, .inr (.inl (fun _ => 0)))), (q27, .inl (cy 0, 8, .inl (fun _ => 0))), (q28, .inl (cy 0, 8, .inl (fun _ => 0))), (q29, .inl (cy 2, 8, .inr (.inl (fun _ => 0)))), (q30, .inr (1, [.ref q31, .ref q3, .ref q23, .int 0])), (q31, .inl (cy 5, 40, .inr (.inr (.inr (.inr (fun _ => none)))))), (q32, .inr (10, [.int 1, .ref q33, .ref q34, .ref q35, .ref q36, .ref q3, .ref q37, .int 0, .int 0])), (q33, .inl (cy 0, 3, .inl (upd (fun _ => 0) (Int32.toNatClampNeg 0) 1))), (q34, .inl (cy 0, 18, .inl (fun _ => 0))), (q35, .inl (cy 6, 5, .inr (.inr (.inr (.inr (va_up (va_up (va_up (va_up (va_up (fun _ => none) (Int32.toNatClampNeg 0) (some q40)) (Int32.toNatClampNeg 1) (some q42)) (Int32.toNatClampNeg 2) (some q44)) (Int32.toNatClampNeg 3) (some q46)) (Int32.toNatClampNeg 4) (some q48))))))), (q36, .inl (cy 2, 5, .inr (.inl (fun _ => 0)))), (q37, .inr (2, [.ref q38, .ref q39, .int 0, .int 0])), (q38, .inl (cy 0, 0, .inl (fun _ => 0))), (q39, .inl (cy 0, 0, .inl (fun _ => 0))), (q40, .inr (7, [.ref q41, .int 0])), (q41, .inl (cy 0, 6, .inl (fun _ => 0))), (q42, .inr (7, [.ref q43, .int 0])), (q43, .inl (cy 0, 6, .inl (fun _ => 0))), (q44, .inr (7, [.ref q45, .int 0])), (q45, .inl (cy 0, 6, .inl (fun _ => 0))), (q46, .inr (7, [.ref q47, .int 0])), (q47, .inl (cy 0, 6, .inl (fun _ => 0))), (q48, .inr (7, [.ref q49, .int 0])), (q49, .inl (cy 0, 6, .inl (fun _ => 0)))] g) (hS : mS cy m a h0m n z F G f) (hm : g m = none) (ha : ∀ k, mTy k ≠ 0 → g (a k) = none) (hF : ∀ i, i < 2400 → F 2 i = -10000) (h0 : n 0 = 0) (h1 : n 1 = 0) (h4 : n 4 = 0) (h5 : n 5 = 0) (h30 : n 30 = 0) (h38 : n 38 = 0) (h46 : n 46 = 0) (h53 : n 53 = 1) (h88 : n 88 = 0) (hG : ∀ i, i < 11 → G 27 i ≠ 0) : gG l room_1 lwQf (lwEx bs 6 b xs) D cy b code 4 ret RL nm 119 44855 f 378 [(3, .int 0), (2, .ref m), (1, .ref x), (0, .ref bs)] [] := by
  have kx : f x = some (.inr (11, [.ref q1, .ref q5, .ref q7, .ref q9, .ref q10, .ref q13, .ref q16, .ref q17, .ref q18, .ref q23, .ref q30, .ref q32, .int 0])) := hA.1 0 _ rfl
  refine gz_aload_n dL_law_378 rfl rfl ?_
  refine gz_aload_n dL_law_379 rfl rfl ?_
  refine gz_iload_n dL_law_380 rfl rfl ?_
  refine gz_iconst (v := 1) dL_law_381 (by decide) ?_
  refine gz_iadd dL_law_382 ?_
  refine gz_ev (w := .int 1) (by decide) ?_
  refine lz_sld (vin_T (v := 1) rfl (by decide) (by decide)) dL_law_383 ?_
  refine gz_ev (w := .int (xs 1)) rfl ?_
  refine scL_43 (k_X11_words (x1 := (xs 1)) kx) kx ⟨(Nat.le_of_ble_eq_true rfl), (Nat.le_of_ble_eq_true rfl)⟩ ⟨(Nat.le_of_ble_eq_true rfl), (Nat.le_of_ble_eq_true rfl)⟩ rfl rfl (Nat.le_of_ble_eq_true rfl) dL_law_384 ?_
  rintro v9 f9 ⟨z1, z2⟩; rw [z1]
  have hs9 : ∀ y, y ∈ ([] : List Nat) → ∃ e, g y = some e := fun y hy => absurd hy List.not_mem_nil
  have hS9 := mS_fr hS hm ha z2 hs9
  refine gz_aload_n dL_law_387 rfl rfl ?_
  refine gz_aload_n dL_law_388 rfl rfl ?_
  refine gz_iload_n dL_law_389 rfl rfl ?_
  refine gz_iconst (v := 1) dL_law_390 (by decide) ?_
  refine gz_iadd dL_law_391 ?_
  refine gz_ev (w := .int 1) (by decide) ?_
  refine lz_sld (vin_T (v := 1) rfl (by decide) (by decide)) dL_law_392 ?_
  refine gz_ev (w := .int (xs 1)) rfl ?_
  refine scL_46 (k_X12_words (x1 := (xs 1)) hS9 h5) hS9.1 ⟨(Nat.le_of_ble_eq_true rfl), (Nat.le_of_ble_eq_true rfl)⟩ ⟨(Nat.le_of_ble_eq_true rfl), (Nat.le_of_ble_eq_true rfl)⟩ rfl rfl (Nat.le_of_ble_eq_true rfl) dL_law_393 ?_
  intro v8 f8 z8; rw [show v8 = _ from z8]
  refine gz_icmp_eq (tgt := 1087) dL_law_396 (by decide) (fun c_396 => ?_) (fun c_396 => ?_)
  ·
    exact lw_end
  · exact absurd rfl c_396

set_option maxHeartbeats 4000000 in
set_option maxRecDepth 100000 in
theorem lw_case_7 {l : Launch} {D : va_G} {cy : Nat → ClassId} {b bs x q1 q2 q3 q4 q5 q6 q7 q8 q9 q10 q11 q12 q13 q14 q15 q16 q17 q18 q19 q20 q21 q22 q23 q24 q25 q26 q27 q28 q29 q30 q31 q32 q33 q34 q35 q36 q37 q38 q39 q40 q41 q42 q43 q44 q45 q46 q47 q48 q49 m : Nat} {xs : Nat → Int32} {nm : String} {f g h0m : gMem} {a : Nat → Nat} {n : Nat → Int32} {z : Nat → Int64} {F : Nat → Nat → Int32} {G : Nat → Nat → Int64} (hA : aW [(x, .inr (11, [.ref q1, .ref q5, .ref q7, .ref q9, .ref q10, .ref q13, .ref q16, .ref q17, .ref q18, .ref q23, .ref q30, .ref q32, .int 0])), (q1, .inr (0, [.ref q2, .ref q3])), (q2, .inl (cy 0, 2400, .inl (fun _ => 0))), (q3, .inr (7, [.ref q4, .int 0])), (q4, .inl (cy 0, 6, .inl (fun _ => 0))), (q5, .inr (9, [.ref q6, .int 0])), (q6, .inl (cy 1, 400, .inl (fun _ => 0))), (q7, .inr (9, [.ref q8, .int 0])), (q8, .inl (cy 1, 480, .inl (fun _ => 0))), (q9, .inl (cy 4, 20, .inr (.inr (.inr (.inr (fun _ => none)))))), (q10, .inr (2, [.ref q11, .ref q12, .int 0, .int 0])), (q11, .inl (cy 0, 520, .inl (fun _ => 0))), (q12, .inl (cy 0, 80, .inl (fun _ => 0))), (q13, .inr (2, [.ref q14, .ref q15, .int 0, .int 0])), (q14, .inl (cy 0, 520, .inl (fun _ => 0))), (q15, .inl (cy 0, 80, .inl (fun _ => 0))), (q16, .inr (6, [.ref q5, .ref q10, .int 0, .int 0])), (q17, .inr (8, [.ref q7])), (q18, .inr (3, [.ref q19, .ref q22])), (q19, .inr (2, [.ref q20, .ref q21, .int 0, .int 0])), (q20, .inl (cy 0, 520, .inl (fun _ => 0))), (q21, .inl (cy 0, 80, .inl (fun _ => 0))), (q22, .inl (cy 0, 40, .inl (fun _ => 0))), (q23, .inr (4, [.ref q24, .int 0, .int 0, .ref q25, .ref q26, .ref q27, .ref q28, .ref q29, .int (-1)])), (q24, .inl (cy 0, 96, .inl (fun _ => 0))), (q25, .inl (cy 2, 8, .inr (.inl (fun _ => 0)))), (q26, .inl (cy 2, 8, .inr (.inl (fun _ => 0)))), (q27, .inl (cy 0, 8, .inl (fun _ => 0))), (q28, .inl (cy 0, 8, .inl (fun _ => 0))), (q29, .inl (cy 2, 8, .inr (.inl (fun _ => 0)))), (q30, .inr (1, [.ref q31, .ref q3, .ref q23, .int 0])), (q31, .inl (cy 5, 40, .inr (.inr (.inr (.inr (fun _ => none)))))), (q32, .inr (10, [.int 1, .ref q33, .ref q34, .ref q35, .ref q36, .ref q3, .ref q37, .int 0, .int 0])), (q33, .inl (cy 0, 3, .inl (upd (fun _ => 0) (Int32.toNatClampNeg 0) 1))), (q34, .inl (cy 0, 18, .inl (fun _ => 0))), (q35, .inl (cy 6, 5, .inr (.inr (.inr (.inr (va_up (va_up (va_up (va_up (va_up (fun _ => none) (Int32.toNatClampNeg 0) (some q40)) (Int32.toNatClampNeg 1) (some q42)) (Int32.toNatClampNeg 2) (some q44)) (Int32.toNatClampNeg 3) (some q46)) (Int32.toNatClampNeg 4) (some q48))))))), (q36, .inl (cy 2, 5, .inr (.inl (fun _ => 0)))), (q37, .inr (2, [.ref q38, .ref q39, .int 0, .int 0])), (q38, .inl (cy 0, 0, .inl (fun _ => 0))), (q39, .inl (cy 0, 0, .inl (fun _ => 0))), (q40, .inr (7, [.ref q41, .int 0])), (q41, .inl (cy 0, 6, .inl (fun _ => 0))), (q42, .inr (7, [.ref q43, .int 0])), (q43, .inl (cy 0, 6, .inl (fun _ => 0))), (q44, .inr (7, [.ref q45, .int 0])), (q45, .inl (cy 0, 6, .inl (fun _ => 0))), (q46, .inr (7, [.ref q47, .int 0])), (q47, .inl (cy 0, 6, .inl (fun _ => 0))), (q48, .inr (7, [.ref q49, .int 0])), (q49, .inl (cy 0, 6, .inl (fun _ => 0)))] f) (hA2 : aW [(x, .inr (11, [.ref q1, .ref q5, .ref q7, .ref q9, .ref q10, .ref q13, .ref q16, .ref q17, .ref q18, .ref q23, .ref q30, .ref q32, .int 0])), (q1, .inr (0, [.ref q2, .ref q3])), (q2, .inl (cy 0, 2400, .inl (fun _ => 0))), (q3, .inr (7, [.ref q4, .int 0])), (q4, .inl (cy 0, 6, .inl (fun _ => 0))), (q5, .inr (9, [.ref q6, .int 0])), (q6, .inl (cy 1, 400, .inl (fun _ => 0))), (q7, .inr (9, [.ref q8, .int 0])), (q8, .inl (cy 1, 480, .inl (fun _ => 0))), (q9, .inl (cy 4, 20, .inr (.inr (.inr (.inr (fun _ => none)))))), (q10, .inr (2, [.ref q11, .ref q12, .int 0, .int 0])), (q11, .inl (cy 0, 520, .inl (fun _ => 0))), (q12, .inl (cy 0, 80, .inl (fun _ => 0))), (q13, .inr (2, [.ref q14, .ref q15, .int 0, .int 0])), (q14, .inl (cy 0, 520, .inl (fun _ => 0))), (q15, .inl (cy 0, 80, .inl (fun _ => 0))), (q16, .inr (6, [.ref q5, .ref q10, .int 0, .int 0])), (q17, .inr (8, [.ref q7])), (q18, .inr (3, [.ref q19, .ref q22])), (q19, .inr (2, [.ref q20, .ref q21, .int 0, .int 0])), (q20, .inl (cy 0, 520, .inl (fun _ => 0))), (q21, .inl (cy 0, 80, .inl (fun _ => 0))), (q22, .inl (cy 0, 40, .inl (fun _ => 0))), (q23, .inr (4, [.ref q24, .int 0, .int 0, .ref q25, .ref q26, .ref q27, .ref q28, .ref q29, .int (-1)])), (q24, .inl (cy 0, 96, .inl (fun _ => 0))), (q25, .inl (cy 2, 8, .inr (.inl (fun _ => 0)))), (q26, .inl (cy 2, 8, .inr (.inl (fun _ => 0)))), (q27, .inl (cy 0, 8, .inl (fun _ => 0))), (q28, .inl (cy 0, 8, .inl (fun _ => 0))), (q29, .inl (cy 2, 8, .inr (.inl (fun _ => 0)))), (q30, .inr (1, [.ref q31, .ref q3, .ref q23, .int 0])), (q31, .inl (cy 5, 40, .inr (.inr (.inr (.inr (fun _ => none)))))), (q32, .inr (10, [.int 1, .ref q33, .ref q34, .ref q35, .ref q36, .ref q3, .ref q37, .int 0, .int 0])), (q33, .inl (cy 0, 3, .inl (upd (fun _ => 0) (Int32.toNatClampNeg 0) 1))), (q34, .inl (cy 0, 18, .inl (fun _ => 0))), (q35, .inl (cy 6, 5, .inr (.inr (.inr (.inr (va_up (va_up (va_up (va_up (va_up (fun _ => none) (Int32.toNatClampNeg 0) (some q40)) (Int32.toNatClampNeg 1) (some q42)) (Int32.toNatClampNeg 2) (some q44)) (Int32.toNatClampNeg 3) (some q46)) (Int32.toNatClampNeg 4) (some q48))))))), (q36, .inl (cy 2, 5, .inr (.inl (fun _ => 0)))), (q37, .inr (2, [.ref q38, .ref q39, .int 0, .int 0])), (q38, .inl (cy 0, 0, .inl (fun _ => 0))), (q39, .inl (cy 0, 0, .inl (fun _ => 0))), (q40, .inr (7, [.ref q41, .int 0])), (q41, .inl (cy 0, 6, .inl (fun _ => 0))), (q42, .inr (7, [.ref q43, .int 0])), (q43, .inl (cy 0, 6, .inl (fun _ => 0))), (q44, .inr (7, [.ref q45, .int 0])), (q45, .inl (cy 0, 6, .inl (fun _ => 0))), (q46, .inr (7, [.ref q47, .int 0])), (q47, .inl (cy 0, 6, .inl (fun _ => 0))), (q48, .inr (7, [.ref q49, .int 0])), (q49, .inl (cy 0, 6, .inl (fun _ => 0)))] g) (hS : mS cy m a h0m n z F G f) (hm : g m = none) (ha : ∀ k, mTy k ≠ 0 → g (a k) = none) (hF : ∀ i, i < 2400 → F 2 i = -10000) (h0 : n 0 = 0) (h1 : n 1 = 0) (h4 : n 4 = 0) (h5 : n 5 = 0) (h30 : n 30 = 0) (h38 : n 38 = 0) (h46 : n 46 = 0) (h53 : n 53 = 1) (h88 : n 88 = 0) (hG : ∀ i, i < 11 → G 27 i ≠ 0) : gG l room_1 lwQf (lwEx bs 6 b xs) D cy b code 4 ret RL nm 119 44855 f 401 [(3, .int 0), (2, .ref m), (1, .ref x), (0, .ref bs)] [] := by
  have kx : f x = some (.inr (11, [.ref q1, .ref q5, .ref q7, .ref q9, .ref q10, .ref q13, .ref q16, .ref q17, .ref q18, .ref q23, .ref q30, .ref q32, .int 0])) := hA.1 0 _ rfl
  refine gz_aload_n dL_law_401 rfl rfl ?_
  refine gz_aload_n dL_law_402 rfl rfl ?_
  refine gz_iload_n dL_law_403 rfl rfl ?_
  refine gz_iconst (v := 1) dL_law_404 (by decide) ?_
  refine gz_iadd dL_law_405 ?_
  refine gz_ev (w := .int 1) (by decide) ?_
  refine lz_sld (vin_T (v := 1) rfl (by decide) (by decide)) dL_law_406 ?_
  refine gz_ev (w := .int (xs 1)) rfl ?_
  refine scL_47 (k_X11_shorter (x1 := (xs 1)) kx) kx ⟨(Nat.le_of_ble_eq_true rfl), (Nat.le_of_ble_eq_true rfl)⟩ ⟨(Nat.le_of_ble_eq_true rfl), (Nat.le_of_ble_eq_true rfl)⟩ rfl rfl (Nat.le_of_ble_eq_true rfl) dL_law_407 ?_
  rintro v9 f9 ⟨z1, z2⟩; rw [z1]
  have hs9 : ∀ y, y ∈ ([] : List Nat) → ∃ e, g y = some e := fun y hy => absurd hy List.not_mem_nil
  have hS9 := mS_fr hS hm ha z2 hs9
  refine gz_aload_n dL_law_410 rfl rfl ?_
  refine gz_aload_n dL_law_411 rfl rfl ?_
  refine gz_iload_n dL_law_412 rfl rfl ?_
  refine gz_iconst (v := 1) dL_law_413 (by decide) ?_
  refine gz_iadd dL_law_414 ?_
  refine gz_ev (w := .int 1) (by decide) ?_
  refine lz_sld (vin_T (v := 1) rfl (by decide) (by decide)) dL_law_415 ?_
  refine gz_ev (w := .int (xs 1)) rfl ?_
  refine scL_50 (k_X12_shorter (x1 := (xs 1)) hS9 h5) hS9.1 ⟨(Nat.le_of_ble_eq_true rfl), (Nat.le_of_ble_eq_true rfl)⟩ ⟨(Nat.le_of_ble_eq_true rfl), (Nat.le_of_ble_eq_true rfl)⟩ rfl rfl (Nat.le_of_ble_eq_true rfl) dL_law_416 ?_
  intro v8 f8 z8; rw [show v8 = _ from z8]
  refine gz_icmp_eq (tgt := 1087) dL_law_419 (by decide) (fun c_419 => ?_) (fun c_419 => ?_)
  ·
    exact lw_end
  · exact absurd rfl c_419

set_option maxHeartbeats 4000000 in
set_option maxRecDepth 100000 in
theorem lw_case_8 {l : Launch} {D : va_G} {cy : Nat → ClassId} {b bs x q1 q2 q3 q4 q5 q6 q7 q8 q9 q10 q11 q12 q13 q14 q15 q16 q17 q18 q19 q20 q21 q22 q23 q24 q25 q26 q27 q28 q29 q30 q31 q32 q33 q34 q35 q36 q37 q38 q39 q40 q41 q42 q43 q44 q45 q46 q47 q48 q49 m : Nat} {xs : Nat → Int32} {nm : String} {f g h0m : gMem} {a : Nat → Nat} {n : Nat → Int32} {z : Nat → Int64} {F : Nat → Nat → Int32} {G : Nat → Nat → Int64} (hA : aW [(x, .inr (11, [.ref q1, .ref q5, .ref q7, .ref q9, .ref q10, .ref q13, .ref q16, .ref q17, .ref q18, .ref q23, .ref q30, .ref q32, .int 0])), (q1, .inr (0, [.ref q2, .ref q3])), (q2, .inl (cy 0, 2400, .inl (fun _ => 0))), (q3, .inr (7, [.ref q4, .int 0])), (q4, .inl (cy 0, 6, .inl (fun _ => 0))), (q5, .inr (9, [.ref q6, .int 0])), (q6, .inl (cy 1, 400, .inl (fun _ => 0))), (q7, .inr (9, [.ref q8, .int 0])), (q8, .inl (cy 1, 480, .inl (fun _ => 0))), (q9, .inl (cy 4, 20, .inr (.inr (.inr (.inr (fun _ => none)))))), (q10, .inr (2, [.ref q11, .ref q12, .int 0, .int 0])), (q11, .inl (cy 0, 520, .inl (fun _ => 0))), (q12, .inl (cy 0, 80, .inl (fun _ => 0))), (q13, .inr (2, [.ref q14, .ref q15, .int 0, .int 0])), (q14, .inl (cy 0, 520, .inl (fun _ => 0))), (q15, .inl (cy 0, 80, .inl (fun _ => 0))), (q16, .inr (6, [.ref q5, .ref q10, .int 0, .int 0])), (q17, .inr (8, [.ref q7])), (q18, .inr (3, [.ref q19, .ref q22])), (q19, .inr (2, [.ref q20, .ref q21, .int 0, .int 0])), (q20, .inl (cy 0, 520, .inl (fun _ => 0))), (q21, .inl (cy 0, 80, .inl (fun _ => 0))), (q22, .inl (cy 0, 40, .inl (fun _ => 0))), (q23, .inr (4, [.ref q24, .int 0, .int 0, .ref q25, .ref q26, .ref q27, .ref q28, .ref q29, .int (-1)])), (q24, .inl (cy 0, 96, .inl (fun _ => 0))), (q25, .inl (cy 2, 8, .inr (.inl (fun _ => 0)))), (q26, .inl (cy 2, 8, .inr (.inl (fun _ => 0)))), (q27, .inl (cy 0, 8, .inl (fun _ => 0))), (q28, .inl (cy 0, 8, .inl (fun _ => 0))), (q29, .inl (cy 2, 8, .inr (.inl (fun _ => 0)))), (q30, .inr (1, [.ref q31, .ref q3, .ref q23, .int 0])), (q31, .inl (cy 5, 40, .inr (.inr (.inr (.inr (fun _ => none)))))), (q32, .inr (10, [.int 1, .ref q33, .ref q34, .ref q35, .ref q36, .ref q3, .ref q37, .int 0, .int 0])), (q33, .inl (cy 0, 3, .inl (upd (fun _ => 0) (Int32.toNatClampNeg 0) 1))), (q34, .inl (cy 0, 18, .inl (fun _ => 0))), (q35, .inl (cy 6, 5, .inr (.inr (.inr (.inr (va_up (va_up (va_up (va_up (va_up (fun _ => none) (Int32.toNatClampNeg 0) (some q40)) (Int32.toNatClampNeg 1) (some q42)) (Int32.toNatClampNeg 2) (some q44)) (Int32.toNatClampNeg 3) (some q46)) (Int32.toNatClampNeg 4) (some q48))))))), (q36, .inl (cy 2, 5, .inr (.inl (fun _ => 0)))), (q37, .inr (2, [.ref q38, .ref q39, .int 0, .int 0])), (q38, .inl (cy 0, 0, .inl (fun _ => 0))), (q39, .inl (cy 0, 0, .inl (fun _ => 0))), (q40, .inr (7, [.ref q41, .int 0])), (q41, .inl (cy 0, 6, .inl (fun _ => 0))), (q42, .inr (7, [.ref q43, .int 0])), (q43, .inl (cy 0, 6, .inl (fun _ => 0))), (q44, .inr (7, [.ref q45, .int 0])), (q45, .inl (cy 0, 6, .inl (fun _ => 0))), (q46, .inr (7, [.ref q47, .int 0])), (q47, .inl (cy 0, 6, .inl (fun _ => 0))), (q48, .inr (7, [.ref q49, .int 0])), (q49, .inl (cy 0, 6, .inl (fun _ => 0)))] f) (hA2 : aW [(x, .inr (11, [.ref q1, .ref q5, .ref q7, .ref q9, .ref q10, .ref q13, .ref q16, .ref q17, .ref q18, .ref q23, .ref q30, .ref q32, .int 0])), (q1, .inr (0, [.ref q2, .ref q3])), (q2, .inl (cy 0, 2400, .inl (fun _ => 0))), (q3, .inr (7, [.ref q4, .int 0])), (q4, .inl (cy 0, 6, .inl (fun _ => 0))), (q5, .inr (9, [.ref q6, .int 0])), (q6, .inl (cy 1, 400, .inl (fun _ => 0))), (q7, .inr (9, [.ref q8, .int 0])), (q8, .inl (cy 1, 480, .inl (fun _ => 0))), (q9, .inl (cy 4, 20, .inr (.inr (.inr (.inr (fun _ => none)))))), (q10, .inr (2, [.ref q11, .ref q12, .int 0, .int 0])), (q11, .inl (cy 0, 520, .inl (fun _ => 0))), (q12, .inl (cy 0, 80, .inl (fun _ => 0))), (q13, .inr (2, [.ref q14, .ref q15, .int 0, .int 0])), (q14, .inl (cy 0, 520, .inl (fun _ => 0))), (q15, .inl (cy 0, 80, .inl (fun _ => 0))), (q16, .inr (6, [.ref q5, .ref q10, .int 0, .int 0])), (q17, .inr (8, [.ref q7])), (q18, .inr (3, [.ref q19, .ref q22])), (q19, .inr (2, [.ref q20, .ref q21, .int 0, .int 0])), (q20, .inl (cy 0, 520, .inl (fun _ => 0))), (q21, .inl (cy 0, 80, .inl (fun _ => 0))), (q22, .inl (cy 0, 40, .inl (fun _ => 0))), (q23, .inr (4, [.ref q24, .int 0, .int 0, .ref q25, .ref q26, .ref q27, .ref q28, .ref q29, .int (-1)])), (q24, .inl (cy 0, 96, .inl (fun _ => 0))), (q25, .inl (cy 2, 8, .inr (.inl (fun _ => 0)))), (q26, .inl (cy 2, 8, .inr (.inl (fun _ => 0)))), (q27, .inl (cy 0, 8, .inl (fun _ => 0))), (q28, .inl (cy 0, 8, .inl (fun _ => 0))), (q29, .inl (cy 2, 8, .inr (.inl (fun _ => 0)))), (q30, .inr (1, [.ref q31, .ref q3, .ref q23, .int 0])), (q31, .inl (cy 5, 40, .inr (.inr (.inr (.inr (fun _ => none)))))), (q32, .inr (10, [.int 1, .ref q33, .ref q34, .ref q35, .ref q36, .ref q3, .ref q37, .int 0, .int 0])), (q33, .inl (cy 0, 3, .inl (upd (fun _ => 0) (Int32.toNatClampNeg 0) 1))), (q34, .inl (cy 0, 18, .inl (fun _ => 0))), (q35, .inl (cy 6, 5, .inr (.inr (.inr (.inr (va_up (va_up (va_up (va_up (va_up (fun _ => none) (Int32.toNatClampNeg 0) (some q40)) (Int32.toNatClampNeg 1) (some q42)) (Int32.toNatClampNeg 2) (some q44)) (Int32.toNatClampNeg 3) (some q46)) (Int32.toNatClampNeg 4) (some q48))))))), (q36, .inl (cy 2, 5, .inr (.inl (fun _ => 0)))), (q37, .inr (2, [.ref q38, .ref q39, .int 0, .int 0])), (q38, .inl (cy 0, 0, .inl (fun _ => 0))), (q39, .inl (cy 0, 0, .inl (fun _ => 0))), (q40, .inr (7, [.ref q41, .int 0])), (q41, .inl (cy 0, 6, .inl (fun _ => 0))), (q42, .inr (7, [.ref q43, .int 0])), (q43, .inl (cy 0, 6, .inl (fun _ => 0))), (q44, .inr (7, [.ref q45, .int 0])), (q45, .inl (cy 0, 6, .inl (fun _ => 0))), (q46, .inr (7, [.ref q47, .int 0])), (q47, .inl (cy 0, 6, .inl (fun _ => 0))), (q48, .inr (7, [.ref q49, .int 0])), (q49, .inl (cy 0, 6, .inl (fun _ => 0)))] g) (hS : mS cy m a h0m n z F G f) (hm : g m = none) (ha : ∀ k, mTy k ≠ 0 → g (a k) = none) (hF : ∀ i, i < 2400 → F 2 i = -10000) (h0 : n 0 = 0) (h1 : n 1 = 0) (h4 : n 4 = 0) (h5 : n 5 = 0) (h30 : n 30 = 0) (h38 : n 38 = 0) (h46 : n 46 = 0) (h53 : n 53 = 1) (h88 : n 88 = 0) (hG : ∀ i, i < 11 → G 27 i ≠ 0) : gG l room_1 lwQf (lwEx bs 6 b xs) D cy b code 4 ret RL nm 119 44855 f 424 [(3, .int 0), (2, .ref m), (1, .ref x), (0, .ref bs)] [] := by
  have kx : f x = some (.inr (11, [.ref q1, .ref q5, .ref q7, .ref q9, .ref q10, .ref q13, .ref q16, .ref q17, .ref q18, .ref q23, .ref q30, .ref q32, .int 0])) := hA.1 0 _ rfl
  refine gz_aload_n dL_law_424 rfl rfl ?_
  refine gz_aload_n dL_law_425 rfl rfl ?_
  refine gz_iload_n dL_law_426 rfl rfl ?_
  refine gz_iconst (v := 1) dL_law_427 (by decide) ?_
  refine gz_iadd dL_law_428 ?_
  refine gz_ev (w := .int 1) (by decide) ?_
  refine lz_sld (vin_T (v := 1) rfl (by decide) (by decide)) dL_law_429 ?_
  refine gz_ev (w := .int (xs 1)) rfl ?_
  refine gz_aload_n dL_law_430 rfl rfl ?_
  refine gz_iload_n dL_law_431 rfl rfl ?_
  refine gz_iconst (v := 2) dL_law_432 (by decide) ?_
  refine gz_iadd dL_law_433 ?_
  refine gz_ev (w := .int 2) (by decide) ?_
  refine lz_sld (vin_T (v := 2) rfl (by decide) (by decide)) dL_law_434 ?_
  refine gz_ev (w := .int (xs 2)) rfl ?_
  refine scL_51 (k_X11_same (x1 := (xs 1)) (x2 := (xs 2)) kx) kx ⟨(Nat.le_of_ble_eq_true rfl), (Nat.le_of_ble_eq_true rfl)⟩ ⟨(Nat.le_of_ble_eq_true rfl), (Nat.le_of_ble_eq_true rfl)⟩ rfl rfl (Nat.le_of_ble_eq_true rfl) dL_law_435 ?_
  rintro v9 f9 ⟨z1, z2⟩; rw [z1]
  have hs9 : ∀ y, y ∈ ([] : List Nat) → ∃ e, g y = some e := fun y hy => absurd hy List.not_mem_nil
  have hS9 := mS_fr hS hm ha z2 hs9
  refine gz_aload_n dL_law_438 rfl rfl ?_
  refine gz_aload_n dL_law_439 rfl rfl ?_
  refine gz_iload_n dL_law_440 rfl rfl ?_
  refine gz_iconst (v := 1) dL_law_441 (by decide) ?_
  refine gz_iadd dL_law_442 ?_
  refine gz_ev (w := .int 1) (by decide) ?_
  refine lz_sld (vin_T (v := 1) rfl (by decide) (by decide)) dL_law_443 ?_
  refine gz_ev (w := .int (xs 1)) rfl ?_
  refine gz_aload_n dL_law_444 rfl rfl ?_
  refine gz_iload_n dL_law_445 rfl rfl ?_
  refine gz_iconst (v := 2) dL_law_446 (by decide) ?_
  refine gz_iadd dL_law_447 ?_
  refine gz_ev (w := .int 2) (by decide) ?_
  refine lz_sld (vin_T (v := 2) rfl (by decide) (by decide)) dL_law_448 ?_
  refine gz_ev (w := .int (xs 2)) rfl ?_
  refine scL_54 (k_X12_same (x1 := (xs 1)) (x2 := (xs 2)) hS9 h5) hS9.1 ⟨(Nat.le_of_ble_eq_true rfl), (Nat.le_of_ble_eq_true rfl)⟩ ⟨(Nat.le_of_ble_eq_true rfl), (Nat.le_of_ble_eq_true rfl)⟩ rfl rfl (Nat.le_of_ble_eq_true rfl) dL_law_449 ?_
  intro v8 f8 z8; rw [show v8 = _ from z8]
  refine gz_icmp_eq (tgt := 1087) dL_law_452 (by decide) (fun c_452 => ?_) (fun c_452 => ?_)
  ·
    exact lw_end
  · exact absurd rfl c_452

set_option maxHeartbeats 4000000 in
set_option maxRecDepth 100000 in
theorem lw_case_9 {l : Launch} {D : va_G} {cy : Nat → ClassId} {b bs x q1 q2 q3 q4 q5 q6 q7 q8 q9 q10 q11 q12 q13 q14 q15 q16 q17 q18 q19 q20 q21 q22 q23 q24 q25 q26 q27 q28 q29 q30 q31 q32 q33 q34 q35 q36 q37 q38 q39 q40 q41 q42 q43 q44 q45 q46 q47 q48 q49 m : Nat} {xs : Nat → Int32} {nm : String} {f g h0m : gMem} {a : Nat → Nat} {n : Nat → Int32} {z : Nat → Int64} {F : Nat → Nat → Int32} {G : Nat → Nat → Int64} (hA : aW [(x, .inr (11, [.ref q1, .ref q5, .ref q7, .ref q9, .ref q10, .ref q13, .ref q16, .ref q17, .ref q18, .ref q23, .ref q30, .ref q32, .int 0])), (q1, .inr (0, [.ref q2, .ref q3])), (q2, .inl (cy 0, 2400, .inl (fun _ => 0))), (q3, .inr (7, [.ref q4, .int 0])), (q4, .inl (cy 0, 6, .inl (fun _ => 0))), (q5, .inr (9, [.ref q6, .int 0])), (q6, .inl (cy 1, 400, .inl (fun _ => 0))), (q7, .inr (9, [.ref q8, .int 0])), (q8, .inl (cy 1, 480, .inl (fun _ => 0))), (q9, .inl (cy 4, 20, .inr (.inr (.inr (.inr (fun _ => none)))))), (q10, .inr (2, [.ref q11, .ref q12, .int 0, .int 0])), (q11, .inl (cy 0, 520, .inl (fun _ => 0))), (q12, .inl (cy 0, 80, .inl (fun _ => 0))), (q13, .inr (2, [.ref q14, .ref q15, .int 0, .int 0])), (q14, .inl (cy 0, 520, .inl (fun _ => 0))), (q15, .inl (cy 0, 80, .inl (fun _ => 0))), (q16, .inr (6, [.ref q5, .ref q10, .int 0, .int 0])), (q17, .inr (8, [.ref q7])), (q18, .inr (3, [.ref q19, .ref q22])), (q19, .inr (2, [.ref q20, .ref q21, .int 0, .int 0])), (q20, .inl (cy 0, 520, .inl (fun _ => 0))), (q21, .inl (cy 0, 80, .inl (fun _ => 0))), (q22, .inl (cy 0, 40, .inl (fun _ => 0))), (q23, .inr (4, [.ref q24, .int 0, .int 0, .ref q25, .ref q26, .ref q27, .ref q28, .ref q29, .int (-1)])), (q24, .inl (cy 0, 96, .inl (fun _ => 0))), (q25, .inl (cy 2, 8, .inr (.inl (fun _ => 0)))), (q26, .inl (cy 2, 8, .inr (.inl (fun _ => 0)))), (q27, .inl (cy 0, 8, .inl (fun _ => 0))), (q28, .inl (cy 0, 8, .inl (fun _ => 0))), (q29, .inl (cy 2, 8, .inr (.inl (fun _ => 0)))), (q30, .inr (1, [.ref q31, .ref q3, .ref q23, .int 0])), (q31, .inl (cy 5, 40, .inr (.inr (.inr (.inr (fun _ => none)))))), (q32, .inr (10, [.int 1, .ref q33, .ref q34, .ref q35, .ref q36, .ref q3, .ref q37, .int 0, .int 0])), (q33, .inl (cy 0, 3, .inl (upd (fun _ => 0) (Int32.toNatClampNeg 0) 1))), (q34, .inl (cy 0, 18, .inl (fun _ => 0))), (q35, .inl (cy 6, 5, .inr (.inr (.inr (.inr (va_up (va_up (va_up (va_up (va_up (fun _ => none) (Int32.toNatClampNeg 0) (some q40)) (Int32.toNatClampNeg 1) (some q42)) (Int32.toNatClampNeg 2) (some q44)) (Int32.toNatClampNeg 3) (some q46)) (Int32.toNatClampNeg 4) (some q48))))))), (q36, .inl (cy 2, 5, .inr (.inl (fun _ => 0)))), (q37, .inr (2, [.ref q38, .ref q39, .int 0, .int 0])), (q38, .inl (cy 0, 0, .inl (fun _ => 0))), (q39, .inl (cy 0, 0, .inl (fun _ => 0))), (q40, .inr (7, [.ref q41, .int 0])), (q41, .inl (cy 0, 6, .inl (fun _ => 0))), (q42, .inr (7, [.ref q43, .int 0])), (q43, .inl (cy 0, 6, .inl (fun _ => 0))), (q44, .inr (7, [.ref q45, .int 0])), (q45, .inl (cy 0, 6, .inl (fun _ => 0))), (q46, .inr (7, [.ref q47, .int 0])), (q47, .inl (cy 0, 6, .inl (fun _ => 0))), (q48, .inr (7, [.ref q49, .int 0])), (q49, .inl (cy 0, 6, .inl (fun _ => 0)))] f) (hA2 : aW [(x, .inr (11, [.ref q1, .ref q5, .ref q7, .ref q9, .ref q10, .ref q13, .ref q16, .ref q17, .ref q18, .ref q23, .ref q30, .ref q32, .int 0])), (q1, .inr (0, [.ref q2, .ref q3])), (q2, .inl (cy 0, 2400, .inl (fun _ => 0))), (q3, .inr (7, [.ref q4, .int 0])), (q4, .inl (cy 0, 6, .inl (fun _ => 0))), (q5, .inr (9, [.ref q6, .int 0])), (q6, .inl (cy 1, 400, .inl (fun _ => 0))), (q7, .inr (9, [.ref q8, .int 0])), (q8, .inl (cy 1, 480, .inl (fun _ => 0))), (q9, .inl (cy 4, 20, .inr (.inr (.inr (.inr (fun _ => none)))))), (q10, .inr (2, [.ref q11, .ref q12, .int 0, .int 0])), (q11, .inl (cy 0, 520, .inl (fun _ => 0))), (q12, .inl (cy 0, 80, .inl (fun _ => 0))), (q13, .inr (2, [.ref q14, .ref q15, .int 0, .int 0])), (q14, .inl (cy 0, 520, .inl (fun _ => 0))), (q15, .inl (cy 0, 80, .inl (fun _ => 0))), (q16, .inr (6, [.ref q5, .ref q10, .int 0, .int 0])), (q17, .inr (8, [.ref q7])), (q18, .inr (3, [.ref q19, .ref q22])), (q19, .inr (2, [.ref q20, .ref q21, .int 0, .int 0])), (q20, .inl (cy 0, 520, .inl (fun _ => 0))), (q21, .inl (cy 0, 80, .inl (fun _ => 0))), (q22, .inl (cy 0, 40, .inl (fun _ => 0))), (q23, .inr (4, [.ref q24, .int 0, .int 0, .ref q25, .ref q26, .ref q27, .ref q28, .ref q29, .int (-1)])), (q24, .inl (cy 0, 96, .inl (fun _ => 0))), (q25, .inl (cy 2, 8, .inr (.inl (fun _ => 0)))), (q26, .inl (cy 2, 8, .inr (.inl (fun _ => 0)))), (q27, .inl (cy 0, 8, .inl (fun _ => 0))), (q28, .inl (cy 0, 8, .inl (fun _ => 0))), (q29, .inl (cy 2, 8, .inr (.inl (fun _ => 0)))), (q30, .inr (1, [.ref q31, .ref q3, .ref q23, .int 0])), (q31, .inl (cy 5, 40, .inr (.inr (.inr (.inr (fun _ => none)))))), (q32, .inr (10, [.int 1, .ref q33, .ref q34, .ref q35, .ref q36, .ref q3, .ref q37, .int 0, .int 0])), (q33, .inl (cy 0, 3, .inl (upd (fun _ => 0) (Int32.toNatClampNeg 0) 1))), (q34, .inl (cy 0, 18, .inl (fun _ => 0))), (q35, .inl (cy 6, 5, .inr (.inr (.inr (.inr (va_up (va_up (va_up (va_up (va_up (fun _ => none) (Int32.toNatClampNeg 0) (some q40)) (Int32.toNatClampNeg 1) (some q42)) (Int32.toNatClampNeg 2) (some q44)) (Int32.toNatClampNeg 3) (some q46)) (Int32.toNatClampNeg 4) (some q48))))))), (q36, .inl (cy 2, 5, .inr (.inl (fun _ => 0)))), (q37, .inr (2, [.ref q38, .ref q39, .int 0, .int 0])), (q38, .inl (cy 0, 0, .inl (fun _ => 0))), (q39, .inl (cy 0, 0, .inl (fun _ => 0))), (q40, .inr (7, [.ref q41, .int 0])), (q41, .inl (cy 0, 6, .inl (fun _ => 0))), (q42, .inr (7, [.ref q43, .int 0])), (q43, .inl (cy 0, 6, .inl (fun _ => 0))), (q44, .inr (7, [.ref q45, .int 0])), (q45, .inl (cy 0, 6, .inl (fun _ => 0))), (q46, .inr (7, [.ref q47, .int 0])), (q47, .inl (cy 0, 6, .inl (fun _ => 0))), (q48, .inr (7, [.ref q49, .int 0])), (q49, .inl (cy 0, 6, .inl (fun _ => 0)))] g) (hS : mS cy m a h0m n z F G f) (hm : g m = none) (ha : ∀ k, mTy k ≠ 0 → g (a k) = none) (hF : ∀ i, i < 2400 → F 2 i = -10000) (h0 : n 0 = 0) (h1 : n 1 = 0) (h4 : n 4 = 0) (h5 : n 5 = 0) (h30 : n 30 = 0) (h38 : n 38 = 0) (h46 : n 46 = 0) (h53 : n 53 = 1) (h88 : n 88 = 0) (hG : ∀ i, i < 11 → G 27 i ≠ 0) : gG l room_1 lwQf (lwEx bs 6 b xs) D cy b code 4 ret RL nm 119 44855 f 457 [(3, .int 0), (2, .ref m), (1, .ref x), (0, .ref bs)] [] := by
  have kx : f x = some (.inr (11, [.ref q1, .ref q5, .ref q7, .ref q9, .ref q10, .ref q13, .ref q16, .ref q17, .ref q18, .ref q23, .ref q30, .ref q32, .int 0])) := hA.1 0 _ rfl
  refine gz_aload_n dL_law_457 rfl rfl ?_
  refine gz_aload_n dL_law_458 rfl rfl ?_
  refine gz_iload_n dL_law_459 rfl rfl ?_
  refine gz_iconst (v := 1) dL_law_460 (by decide) ?_
  refine gz_iadd dL_law_461 ?_
  refine gz_ev (w := .int 1) (by decide) ?_
  refine lz_sld (vin_T (v := 1) rfl (by decide) (by decide)) dL_law_462 ?_
  refine gz_ev (w := .int (xs 1)) rfl ?_
  refine scL_55 (k_X11_tell (x1 := (xs 1)) kx) kx ⟨(Nat.le_of_ble_eq_true rfl), (Nat.le_of_ble_eq_true rfl)⟩ ⟨(Nat.le_of_ble_eq_true rfl), (Nat.le_of_ble_eq_true rfl)⟩ rfl rfl (Nat.le_of_ble_eq_true rfl) dL_law_463 ?_
  rintro v9 f9 ⟨z1, z2⟩; rw [z1]
  have hs9 : ∀ y, y ∈ ([] : List Nat) → ∃ e, g y = some e := fun y hy => absurd hy List.not_mem_nil
  have hS9 := mS_fr hS hm ha z2 hs9
  refine gz_aload_n dL_law_466 rfl rfl ?_
  refine gz_aload_n dL_law_467 rfl rfl ?_
  refine gz_iload_n dL_law_468 rfl rfl ?_
  refine gz_iconst (v := 1) dL_law_469 (by decide) ?_
  refine gz_iadd dL_law_470 ?_
  refine gz_ev (w := .int 1) (by decide) ?_
  refine lz_sld (vin_T (v := 1) rfl (by decide) (by decide)) dL_law_471 ?_
  refine gz_ev (w := .int (xs 1)) rfl ?_
  refine scL_58 (k_X12_tell (x1 := (xs 1)) hS9 h5) hS9.1 ⟨(Nat.le_of_ble_eq_true rfl), (Nat.le_of_ble_eq_true rfl)⟩ ⟨(Nat.le_of_ble_eq_true rfl), (Nat.le_of_ble_eq_true rfl)⟩ rfl rfl (Nat.le_of_ble_eq_true rfl) dL_law_472 ?_
  intro v8 f8 z8; rw [show v8 = _ from z8]
  refine gz_icmp_eq (tgt := 1087) dL_law_475 (by decide) (fun c_475 => ?_) (fun c_475 => ?_)
  ·
    exact lw_end
  · exact absurd rfl c_475

set_option maxHeartbeats 4000000 in
set_option maxRecDepth 100000 in
theorem lw_case_10 {l : Launch} {D : va_G} {cy : Nat → ClassId} {b bs x q1 q2 q3 q4 q5 q6 q7 q8 q9 q10 q11 q12 q13 q14 q15 q16 q17 q18 q19 q20 q21 q22 q23 q24 q25 q26 q27 q28 q29 q30 q31 q32 q33 q34 q35 q36 q37 q38 q39 q40 q41 q42 q43 q44 q45 q46 q47 q48 q49 m : Nat} {xs : Nat → Int32} {nm : String} {f g h0m : gMem} {a : Nat → Nat} {n : Nat → Int32} {z : Nat → Int64} {F : Nat → Nat → Int32} {G : Nat → Nat → Int64} (hA : aW [(x, .inr (11, [.ref q1, .ref q5, .ref q7, .ref q9, .ref q10, .ref q13, .ref q16, .ref q17, .ref q18, .ref q23, .ref q30, .ref q32, .int 0])), (q1, .inr (0, [.ref q2, .ref q3])), (q2, .inl (cy 0, 2400, .inl (fun _ => 0))), (q3, .inr (7, [.ref q4, .int 0])), (q4, .inl (cy 0, 6, .inl (fun _ => 0))), (q5, .inr (9, [.ref q6, .int 0])), (q6, .inl (cy 1, 400, .inl (fun _ => 0))), (q7, .inr (9, [.ref q8, .int 0])), (q8, .inl (cy 1, 480, .inl (fun _ => 0))), (q9, .inl (cy 4, 20, .inr (.inr (.inr (.inr (fun _ => none)))))), (q10, .inr (2, [.ref q11, .ref q12, .int 0, .int 0])), (q11, .inl (cy 0, 520, .inl (fun _ => 0))), (q12, .inl (cy 0, 80, .inl (fun _ => 0))), (q13, .inr (2, [.ref q14, .ref q15, .int 0, .int 0])), (q14, .inl (cy 0, 520, .inl (fun _ => 0))), (q15, .inl (cy 0, 80, .inl (fun _ => 0))), (q16, .inr (6, [.ref q5, .ref q10, .int 0, .int 0])), (q17, .inr (8, [.ref q7])), (q18, .inr (3, [.ref q19, .ref q22])), (q19, .inr (2, [.ref q20, .ref q21, .int 0, .int 0])), (q20, .inl (cy 0, 520, .inl (fun _ => 0))), (q21, .inl (cy 0, 80, .inl (fun _ => 0))), (q22, .inl (cy 0, 40, .inl (fun _ => 0))), (q23, .inr (4, [.ref q24, .int 0, .int 0, .ref q25, .ref q26, .ref q27, .ref q28, .ref q29, .int (-1)])), (q24, .inl (cy 0, 96, .inl (fun _ => 0))), (q25, .inl (cy 2, 8, .inr (.inl (fun _ => 0)))), (q26, .inl (cy 2, 8, .inr (.inl (fun _ => 0)))), (q27, .inl (cy 0, 8, .inl (fun _ => 0))), (q28, .inl (cy 0, 8, .inl (fun _ => 0))), (q29, .inl (cy 2, 8, .inr (.inl (fun _ => 0)))), (q30, .inr (1, [.ref q31, .ref q3, .ref q23, .int 0])), (q31, .inl (cy 5, 40, .inr (.inr (.inr (.inr (fun _ => none)))))), (q32, .inr (10, [.int 1, .ref q33, .ref q34, .ref q35, .ref q36, .ref q3, .ref q37, .int 0, .int 0])), (q33, .inl (cy 0, 3, .inl (upd (fun _ => 0) (Int32.toNatClampNeg 0) 1))), (q34, .inl (cy 0, 18, .inl (fun _ => 0))), (q35, .inl (cy 6, 5, .inr (.inr (.inr (.inr (va_up (va_up (va_up (va_up (va_up (fun _ => none) (Int32.toNatClampNeg 0) (some q40)) (Int32.toNatClampNeg 1) (some q42)) (Int32.toNatClampNeg 2) (some q44)) (Int32.toNatClampNeg 3) (some q46)) (Int32.toNatClampNeg 4) (some q48))))))), (q36, .inl (cy 2, 5, .inr (.inl (fun _ => 0)))), (q37, .inr (2, [.ref q38, .ref q39, .int 0, .int 0])), (q38, .inl (cy 0, 0, .inl (fun _ => 0))), (q39, .inl (cy 0, 0, .inl (fun _ => 0))), (q40, .inr (7, [.ref q41, .int 0])), (q41, .inl (cy 0, 6, .inl (fun _ => 0))), (q42, .inr (7, [.ref q43, .int 0])), (q43, .inl (cy 0, 6, .inl (fun _ => 0))), (q44, .inr (7, [.ref q45, .int 0])), (q45, .inl (cy 0, 6, .inl (fun _ => 0))), (q46, .inr (7, [.ref q47, .int 0])), (q47, .inl (cy 0, 6, .inl (fun _ => 0))), (q48, .inr (7, [.ref q49, .int 0])), (q49, .inl (cy 0, 6, .inl (fun _ => 0)))] f) (hA2 : aW [(x, .inr (11, [.ref q1, .ref q5, .ref q7, .ref q9, .ref q10, .ref q13, .ref q16, .ref q17, .ref q18, .ref q23, .ref q30, .ref q32, .int 0])), (q1, .inr (0, [.ref q2, .ref q3])), (q2, .inl (cy 0, 2400, .inl (fun _ => 0))), (q3, .inr (7, [.ref q4, .int 0])), (q4, .inl (cy 0, 6, .inl (fun _ => 0))), (q5, .inr (9, [.ref q6, .int 0])), (q6, .inl (cy 1, 400, .inl (fun _ => 0))), (q7, .inr (9, [.ref q8, .int 0])), (q8, .inl (cy 1, 480, .inl (fun _ => 0))), (q9, .inl (cy 4, 20, .inr (.inr (.inr (.inr (fun _ => none)))))), (q10, .inr (2, [.ref q11, .ref q12, .int 0, .int 0])), (q11, .inl (cy 0, 520, .inl (fun _ => 0))), (q12, .inl (cy 0, 80, .inl (fun _ => 0))), (q13, .inr (2, [.ref q14, .ref q15, .int 0, .int 0])), (q14, .inl (cy 0, 520, .inl (fun _ => 0))), (q15, .inl (cy 0, 80, .inl (fun _ => 0))), (q16, .inr (6, [.ref q5, .ref q10, .int 0, .int 0])), (q17, .inr (8, [.ref q7])), (q18, .inr (3, [.ref q19, .ref q22])), (q19, .inr (2, [.ref q20, .ref q21, .int 0, .int 0])), (q20, .inl (cy 0, 520, .inl (fun _ => 0))), (q21, .inl (cy 0, 80, .inl (fun _ => 0))), (q22, .inl (cy 0, 40, .inl (fun _ => 0))), (q23, .inr (4, [.ref q24, .int 0, .int 0, .ref q25, .ref q26, .ref q27, .ref q28, .ref q29, .int (-1)])), (q24, .inl (cy 0, 96, .inl (fun _ => 0))), (q25, .inl (cy 2, 8, .inr (.inl (fun _ => 0)))), (q26, .inl (cy 2, 8, .inr (.inl (fun _ => 0)))), (q27, .inl (cy 0, 8, .inl (fun _ => 0))), (q28, .inl (cy 0, 8, .inl (fun _ => 0))), (q29, .inl (cy 2, 8, .inr (.inl (fun _ => 0)))), (q30, .inr (1, [.ref q31, .ref q3, .ref q23, .int 0])), (q31, .inl (cy 5, 40, .inr (.inr (.inr (.inr (fun _ => none)))))), (q32, .inr (10, [.int 1, .ref q33, .ref q34, .ref q35, .ref q36, .ref q3, .ref q37, .int 0, .int 0])), (q33, .inl (cy 0, 3, .inl (upd (fun _ => 0) (Int32.toNatClampNeg 0) 1))), (q34, .inl (cy 0, 18, .inl (fun _ => 0))), (q35, .inl (cy 6, 5, .inr (.inr (.inr (.inr (va_up (va_up (va_up (va_up (va_up (fun _ => none) (Int32.toNatClampNeg 0) (some q40)) (Int32.toNatClampNeg 1) (some q42)) (Int32.toNatClampNeg 2) (some q44)) (Int32.toNatClampNeg 3) (some q46)) (Int32.toNatClampNeg 4) (some q48))))))), (q36, .inl (cy 2, 5, .inr (.inl (fun _ => 0)))), (q37, .inr (2, [.ref q38, .ref q39, .int 0, .int 0])), (q38, .inl (cy 0, 0, .inl (fun _ => 0))), (q39, .inl (cy 0, 0, .inl (fun _ => 0))), (q40, .inr (7, [.ref q41, .int 0])), (q41, .inl (cy 0, 6, .inl (fun _ => 0))), (q42, .inr (7, [.ref q43, .int 0])), (q43, .inl (cy 0, 6, .inl (fun _ => 0))), (q44, .inr (7, [.ref q45, .int 0])), (q45, .inl (cy 0, 6, .inl (fun _ => 0))), (q46, .inr (7, [.ref q47, .int 0])), (q47, .inl (cy 0, 6, .inl (fun _ => 0))), (q48, .inr (7, [.ref q49, .int 0])), (q49, .inl (cy 0, 6, .inl (fun _ => 0)))] g) (hS : mS cy m a h0m n z F G f) (hm : g m = none) (ha : ∀ k, mTy k ≠ 0 → g (a k) = none) (hF : ∀ i, i < 2400 → F 2 i = -10000) (h0 : n 0 = 0) (h1 : n 1 = 0) (h4 : n 4 = 0) (h5 : n 5 = 0) (h30 : n 30 = 0) (h38 : n 38 = 0) (h46 : n 46 = 0) (h53 : n 53 = 1) (h88 : n 88 = 0) (hG : ∀ i, i < 11 → G 27 i ≠ 0) : gG l room_1 lwQf (lwEx bs 6 b xs) D cy b code 4 ret RL nm 119 44855 f 480 [(3, .int 0), (2, .ref m), (1, .ref x), (0, .ref bs)] [] := by
  have kx : f x = some (.inr (11, [.ref q1, .ref q5, .ref q7, .ref q9, .ref q10, .ref q13, .ref q16, .ref q17, .ref q18, .ref q23, .ref q30, .ref q32, .int 0])) := hA.1 0 _ rfl
  have kou : f q7 = some (.inr (9, [.ref q8, .int 0])) := hA.1 7 _ rfl
  have kbo : f q8 = some (.inl (cy 1, 480, .inl (fun _ => 0))) := hA.1 8 _ rfl
  refine gz_aload_n dL_law_480 rfl rfl ?_
  refine gz_aload_n dL_law_481 rfl rfl ?_
  refine gz_iload_n dL_law_482 rfl rfl ?_
  refine gz_iconst (v := 1) dL_law_483 (by decide) ?_
  refine gz_iadd dL_law_484 ?_
  refine gz_ev (w := .int 1) (by decide) ?_
  refine lz_sld (vin_T (v := 1) rfl (by decide) (by decide)) dL_law_485 ?_
  refine gz_ev (w := .int (xs 1)) rfl ?_
  refine scL_59 (k_X11_octet (x1 := (xs 1)) kx kou kbo) kx ⟨(Nat.le_of_ble_eq_true rfl), (Nat.le_of_ble_eq_true rfl)⟩ ⟨(Nat.le_of_ble_eq_true rfl), (Nat.le_of_ble_eq_true rfl)⟩ rfl rfl (Nat.le_of_ble_eq_true rfl) dL_law_486 ?_
  rintro v9 f9 ⟨z1, z2⟩; rw [z1]
  have hs9 : ∀ y, y ∈ ([] : List Nat) → ∃ e, g y = some e := fun y hy => absurd hy List.not_mem_nil
  have hS9 := mS_fr hS hm ha z2 hs9
  refine gz_aload_n dL_law_489 rfl rfl ?_
  refine gz_aload_n dL_law_490 rfl rfl ?_
  refine gz_iload_n dL_law_491 rfl rfl ?_
  refine gz_iconst (v := 1) dL_law_492 (by decide) ?_
  refine gz_iadd dL_law_493 ?_
  refine gz_ev (w := .int 1) (by decide) ?_
  refine lz_sld (vin_T (v := 1) rfl (by decide) (by decide)) dL_law_494 ?_
  refine gz_ev (w := .int (xs 1)) rfl ?_
  refine scL_62 (k_X12_octet (x1 := (xs 1)) hS9 h88) hS9.1 ⟨(Nat.le_of_ble_eq_true rfl), (Nat.le_of_ble_eq_true rfl)⟩ ⟨(Nat.le_of_ble_eq_true rfl), (Nat.le_of_ble_eq_true rfl)⟩ rfl rfl (Nat.le_of_ble_eq_true rfl) dL_law_495 ?_
  intro v8 f8 z8; rw [show v8 = _ from z8]
  refine gz_icmp_eq (tgt := 1087) dL_law_498 (by decide) (fun c_498 => ?_) (fun c_498 => ?_)
  ·
    exact lw_end
  · exact absurd rfl c_498

set_option maxHeartbeats 4000000 in
set_option maxRecDepth 100000 in
theorem lw_case_11 {l : Launch} {D : va_G} {cy : Nat → ClassId} {b bs x q1 q2 q3 q4 q5 q6 q7 q8 q9 q10 q11 q12 q13 q14 q15 q16 q17 q18 q19 q20 q21 q22 q23 q24 q25 q26 q27 q28 q29 q30 q31 q32 q33 q34 q35 q36 q37 q38 q39 q40 q41 q42 q43 q44 q45 q46 q47 q48 q49 m : Nat} {xs : Nat → Int32} {nm : String} {f g h0m : gMem} {a : Nat → Nat} {n : Nat → Int32} {z : Nat → Int64} {F : Nat → Nat → Int32} {G : Nat → Nat → Int64} (hA : aW [(x, .inr (11, [.ref q1, .ref q5, .ref q7, .ref q9, .ref q10, .ref q13, .ref q16, .ref q17, .ref q18, .ref q23, .ref q30, .ref q32, .int 0])), (q1, .inr (0, [.ref q2, .ref q3])), (q2, .inl (cy 0, 2400, .inl (fun _ => 0))), (q3, .inr (7, [.ref q4, .int 0])), (q4, .inl (cy 0, 6, .inl (fun _ => 0))), (q5, .inr (9, [.ref q6, .int 0])), (q6, .inl (cy 1, 400, .inl (fun _ => 0))), (q7, .inr (9, [.ref q8, .int 0])), (q8, .inl (cy 1, 480, .inl (fun _ => 0))), (q9, .inl (cy 4, 20, .inr (.inr (.inr (.inr (fun _ => none)))))), (q10, .inr (2, [.ref q11, .ref q12, .int 0, .int 0])), (q11, .inl (cy 0, 520, .inl (fun _ => 0))), (q12, .inl (cy 0, 80, .inl (fun _ => 0))), (q13, .inr (2, [.ref q14, .ref q15, .int 0, .int 0])), (q14, .inl (cy 0, 520, .inl (fun _ => 0))), (q15, .inl (cy 0, 80, .inl (fun _ => 0))), (q16, .inr (6, [.ref q5, .ref q10, .int 0, .int 0])), (q17, .inr (8, [.ref q7])), (q18, .inr (3, [.ref q19, .ref q22])), (q19, .inr (2, [.ref q20, .ref q21, .int 0, .int 0])), (q20, .inl (cy 0, 520, .inl (fun _ => 0))), (q21, .inl (cy 0, 80, .inl (fun _ => 0))), (q22, .inl (cy 0, 40, .inl (fun _ => 0))), (q23, .inr (4, [.ref q24, .int 0, .int 0, .ref q25, .ref q26, .ref q27, .ref q28, .ref q29, .int (-1)])), (q24, .inl (cy 0, 96, .inl (fun _ => 0))), (q25, .inl (cy 2, 8, .inr (.inl (fun _ => 0)))), (q26, .inl (cy 2, 8, .inr (.inl (fun _ => 0)))), (q27, .inl (cy 0, 8, .inl (fun _ => 0))), (q28, .inl (cy 0, 8, .inl (fun _ => 0))), (q29, .inl (cy 2, 8, .inr (.inl (fun _ => 0)))), (q30, .inr (1, [.ref q31, .ref q3, .ref q23, .int 0])), (q31, .inl (cy 5, 40, .inr (.inr (.inr (.inr (fun _ => none)))))), (q32, .inr (10, [.int 1, .ref q33, .ref q34, .ref q35, .ref q36, .ref q3, .ref q37, .int 0, .int 0])), (q33, .inl (cy 0, 3, .inl (upd (fun _ => 0) (Int32.toNatClampNeg 0) 1))), (q34, .inl (cy 0, 18, .inl (fun _ => 0))), (q35, .inl (cy 6, 5, .inr (.inr (.inr (.inr (va_up (va_up (va_up (va_up (va_up (fun _ => none) (Int32.toNatClampNeg 0) (some q40)) (Int32.toNatClampNeg 1) (some q42)) (Int32.toNatClampNeg 2) (some q44)) (Int32.toNatClampNeg 3) (some q46)) (Int32.toNatClampNeg 4) (some q48))))))), (q36, .inl (cy 2, 5, .inr (.inl (fun _ => 0)))), (q37, .inr (2, [.ref q38, .ref q39, .int 0, .int 0])), (q38, .inl (cy 0, 0, .inl (fun _ => 0))), (q39, .inl (cy 0, 0, .inl (fun _ => 0))), (q40, .inr (7, [.ref q41, .int 0])), (q41, .inl (cy 0, 6, .inl (fun _ => 0))), (q42, .inr (7, [.ref q43, .int 0])), (q43, .inl (cy 0, 6, .inl (fun _ => 0))), (q44, .inr (7, [.ref q45, .int 0])), (q45, .inl (cy 0, 6, .inl (fun _ => 0))), (q46, .inr (7, [.ref q47, .int 0])), (q47, .inl (cy 0, 6, .inl (fun _ => 0))), (q48, .inr (7, [.ref q49, .int 0])), (q49, .inl (cy 0, 6, .inl (fun _ => 0)))] f) (hA2 : aW [(x, .inr (11, [.ref q1, .ref q5, .ref q7, .ref q9, .ref q10, .ref q13, .ref q16, .ref q17, .ref q18, .ref q23, .ref q30, .ref q32, .int 0])), (q1, .inr (0, [.ref q2, .ref q3])), (q2, .inl (cy 0, 2400, .inl (fun _ => 0))), (q3, .inr (7, [.ref q4, .int 0])), (q4, .inl (cy 0, 6, .inl (fun _ => 0))), (q5, .inr (9, [.ref q6, .int 0])), (q6, .inl (cy 1, 400, .inl (fun _ => 0))), (q7, .inr (9, [.ref q8, .int 0])), (q8, .inl (cy 1, 480, .inl (fun _ => 0))), (q9, .inl (cy 4, 20, .inr (.inr (.inr (.inr (fun _ => none)))))), (q10, .inr (2, [.ref q11, .ref q12, .int 0, .int 0])), (q11, .inl (cy 0, 520, .inl (fun _ => 0))), (q12, .inl (cy 0, 80, .inl (fun _ => 0))), (q13, .inr (2, [.ref q14, .ref q15, .int 0, .int 0])), (q14, .inl (cy 0, 520, .inl (fun _ => 0))), (q15, .inl (cy 0, 80, .inl (fun _ => 0))), (q16, .inr (6, [.ref q5, .ref q10, .int 0, .int 0])), (q17, .inr (8, [.ref q7])), (q18, .inr (3, [.ref q19, .ref q22])), (q19, .inr (2, [.ref q20, .ref q21, .int 0, .int 0])), (q20, .inl (cy 0, 520, .inl (fun _ => 0))), (q21, .inl (cy 0, 80, .inl (fun _ => 0))), (q22, .inl (cy 0, 40, .inl (fun _ => 0))), (q23, .inr (4, [.ref q24, .int 0, .int 0, .ref q25, .ref q26, .ref q27, .ref q28, .ref q29, .int (-1)])), (q24, .inl (cy 0, 96, .inl (fun _ => 0))), (q25, .inl (cy 2, 8, .inr (.inl (fun _ => 0)))), (q26, .inl (cy 2, 8, .inr (.inl (fun _ => 0)))), (q27, .inl (cy 0, 8, .inl (fun _ => 0))), (q28, .inl (cy 0, 8, .inl (fun _ => 0))), (q29, .inl (cy 2, 8, .inr (.inl (fun _ => 0)))), (q30, .inr (1, [.ref q31, .ref q3, .ref q23, .int 0])), (q31, .inl (cy 5, 40, .inr (.inr (.inr (.inr (fun _ => none)))))), (q32, .inr (10, [.int 1, .ref q33, .ref q34, .ref q35, .ref q36, .ref q3, .ref q37, .int 0, .int 0])), (q33, .inl (cy 0, 3, .inl (upd (fun _ => 0) (Int32.toNatClampNeg 0) 1))), (q34, .inl (cy 0, 18, .inl (fun _ => 0))), (q35, .inl (cy 6, 5, .inr (.inr (.inr (.inr (va_up (va_up (va_up (va_up (va_up (fun _ => none) (Int32.toNatClampNeg 0) (some q40)) (Int32.toNatClampNeg 1) (some q42)) (Int32.toNatClampNeg 2) (some q44)) (Int32.toNatClampNeg 3) (some q46)) (Int32.toNatClampNeg 4) (some q48))))))), (q36, .inl (cy 2, 5, .inr (.inl (fun _ => 0)))), (q37, .inr (2, [.ref q38, .ref q39, .int 0, .int 0])), (q38, .inl (cy 0, 0, .inl (fun _ => 0))), (q39, .inl (cy 0, 0, .inl (fun _ => 0))), (q40, .inr (7, [.ref q41, .int 0])), (q41, .inl (cy 0, 6, .inl (fun _ => 0))), (q42, .inr (7, [.ref q43, .int 0])), (q43, .inl (cy 0, 6, .inl (fun _ => 0))), (q44, .inr (7, [.ref q45, .int 0])), (q45, .inl (cy 0, 6, .inl (fun _ => 0))), (q46, .inr (7, [.ref q47, .int 0])), (q47, .inl (cy 0, 6, .inl (fun _ => 0))), (q48, .inr (7, [.ref q49, .int 0])), (q49, .inl (cy 0, 6, .inl (fun _ => 0)))] g) (hS : mS cy m a h0m n z F G f) (hm : g m = none) (ha : ∀ k, mTy k ≠ 0 → g (a k) = none) (hF : ∀ i, i < 2400 → F 2 i = -10000) (h0 : n 0 = 0) (h1 : n 1 = 0) (h4 : n 4 = 0) (h5 : n 5 = 0) (h30 : n 30 = 0) (h38 : n 38 = 0) (h46 : n 46 = 0) (h53 : n 53 = 1) (h88 : n 88 = 0) (hG : ∀ i, i < 11 → G 27 i ≠ 0) : gG l room_1 lwQf (lwEx bs 6 b xs) D cy b code 4 ret RL nm 119 44855 f 503 [(3, .int 0), (2, .ref m), (1, .ref x), (0, .ref bs)] [] := by
  have kx : f x = some (.inr (11, [.ref q1, .ref q5, .ref q7, .ref q9, .ref q10, .ref q13, .ref q16, .ref q17, .ref q18, .ref q23, .ref q30, .ref q32, .int 0])) := hA.1 0 _ rfl
  refine gz_aload_n dL_law_503 rfl rfl ?_
  refine gz_aload_n dL_law_504 rfl rfl ?_
  refine gz_iload_n dL_law_505 rfl rfl ?_
  refine gz_iconst (v := 1) dL_law_506 (by decide) ?_
  refine gz_iadd dL_law_507 ?_
  refine gz_ev (w := .int 1) (by decide) ?_
  refine lz_sld (vin_T (v := 1) rfl (by decide) (by decide)) dL_law_508 ?_
  refine gz_ev (w := .int (xs 1)) rfl ?_
  refine gz_aload_n dL_law_509 rfl rfl ?_
  refine gz_iload_n dL_law_510 rfl rfl ?_
  refine gz_iconst (v := 2) dL_law_511 (by decide) ?_
  refine gz_iadd dL_law_512 ?_
  refine gz_ev (w := .int 2) (by decide) ?_
  refine lz_sld (vin_T (v := 2) rfl (by decide) (by decide)) dL_law_513 ?_
  refine gz_ev (w := .int (xs 2)) rfl ?_
  refine gz_aload_n dL_law_514 rfl rfl ?_
  refine gz_iload_n dL_law_515 rfl rfl ?_
  refine gz_iconst (v := 3) dL_law_516 (by decide) ?_
  refine gz_iadd dL_law_517 ?_
  refine gz_ev (w := .int 3) (by decide) ?_
  refine lz_sld (vin_T (v := 3) rfl (by decide) (by decide)) dL_law_518 ?_
  refine gz_ev (w := .int (xs 3)) rfl ?_
  refine scL_63 (k_X11_begin (x1 := (xs 1)) (x2 := (xs 2)) (x3 := (xs 3)) kx) kx ⟨(Nat.le_of_ble_eq_true rfl), (Nat.le_of_ble_eq_true rfl)⟩ ⟨(Nat.le_of_ble_eq_true rfl), (Nat.le_of_ble_eq_true rfl)⟩ rfl rfl (Nat.le_of_ble_eq_true rfl) dL_law_519 ?_
  rintro v9 f9 ⟨z1, z2⟩; rw [z1]
  have hs9 : ∀ y, y ∈ ([] : List Nat) → ∃ e, g y = some e := fun y hy => absurd hy List.not_mem_nil
  have hS9 := mS_fr hS hm ha z2 hs9
  refine gz_aload_n dL_law_522 rfl rfl ?_
  refine gz_aload_n dL_law_523 rfl rfl ?_
  refine gz_iload_n dL_law_524 rfl rfl ?_
  refine gz_iconst (v := 1) dL_law_525 (by decide) ?_
  refine gz_iadd dL_law_526 ?_
  refine gz_ev (w := .int 1) (by decide) ?_
  refine lz_sld (vin_T (v := 1) rfl (by decide) (by decide)) dL_law_527 ?_
  refine gz_ev (w := .int (xs 1)) rfl ?_
  refine gz_aload_n dL_law_528 rfl rfl ?_
  refine gz_iload_n dL_law_529 rfl rfl ?_
  refine gz_iconst (v := 2) dL_law_530 (by decide) ?_
  refine gz_iadd dL_law_531 ?_
  refine gz_ev (w := .int 2) (by decide) ?_
  refine lz_sld (vin_T (v := 2) rfl (by decide) (by decide)) dL_law_532 ?_
  refine gz_ev (w := .int (xs 2)) rfl ?_
  refine gz_aload_n dL_law_533 rfl rfl ?_
  refine gz_iload_n dL_law_534 rfl rfl ?_
  refine gz_iconst (v := 3) dL_law_535 (by decide) ?_
  refine gz_iadd dL_law_536 ?_
  refine gz_ev (w := .int 3) (by decide) ?_
  refine lz_sld (vin_T (v := 3) rfl (by decide) (by decide)) dL_law_537 ?_
  refine gz_ev (w := .int (xs 3)) rfl ?_
  refine scL_66 (k_X12_begin (x1 := (xs 1)) (x2 := (xs 2)) (x3 := (xs 3)) hS9 h30 h5) hS9.1 ⟨(Nat.le_of_ble_eq_true rfl), (Nat.le_of_ble_eq_true rfl)⟩ ⟨(Nat.le_of_ble_eq_true rfl), (Nat.le_of_ble_eq_true rfl)⟩ rfl rfl (Nat.le_of_ble_eq_true rfl) dL_law_538 ?_
  intro v8 f8 z8; rw [show v8 = _ from z8]
  refine gz_icmp_eq (tgt := 1087) dL_law_541 (by decide) (fun c_541 => ?_) (fun c_541 => ?_)
  ·
    exact lw_end
  · exact absurd rfl c_541

set_option maxHeartbeats 4000000 in
set_option maxRecDepth 100000 in
theorem lw_case_12 {l : Launch} {D : va_G} {cy : Nat → ClassId} {b bs x q1 q2 q3 q4 q5 q6 q7 q8 q9 q10 q11 q12 q13 q14 q15 q16 q17 q18 q19 q20 q21 q22 q23 q24 q25 q26 q27 q28 q29 q30 q31 q32 q33 q34 q35 q36 q37 q38 q39 q40 q41 q42 q43 q44 q45 q46 q47 q48 q49 m : Nat} {xs : Nat → Int32} {nm : String} {f g h0m : gMem} {a : Nat → Nat} {n : Nat → Int32} {z : Nat → Int64} {F : Nat → Nat → Int32} {G : Nat → Nat → Int64} (hA : aW [(x, .inr (11, [.ref q1, .ref q5, .ref q7, .ref q9, .ref q10, .ref q13, .ref q16, .ref q17, .ref q18, .ref q23, .ref q30, .ref q32, .int 0])), (q1, .inr (0, [.ref q2, .ref q3])), (q2, .inl (cy 0, 2400, .inl (fun _ => 0))), (q3, .inr (7, [.ref q4, .int 0])), (q4, .inl (cy 0, 6, .inl (fun _ => 0))), (q5, .inr (9, [.ref q6, .int 0])), (q6, .inl (cy 1, 400, .inl (fun _ => 0))), (q7, .inr (9, [.ref q8, .int 0])), (q8, .inl (cy 1, 480, .inl (fun _ => 0))), (q9, .inl (cy 4, 20, .inr (.inr (.inr (.inr (fun _ => none)))))), (q10, .inr (2, [.ref q11, .ref q12, .int 0, .int 0])), (q11, .inl (cy 0, 520, .inl (fun _ => 0))), (q12, .inl (cy 0, 80, .inl (fun _ => 0))), (q13, .inr (2, [.ref q14, .ref q15, .int 0, .int 0])), (q14, .inl (cy 0, 520, .inl (fun _ => 0))), (q15, .inl (cy 0, 80, .inl (fun _ => 0))), (q16, .inr (6, [.ref q5, .ref q10, .int 0, .int 0])), (q17, .inr (8, [.ref q7])), (q18, .inr (3, [.ref q19, .ref q22])), (q19, .inr (2, [.ref q20, .ref q21, .int 0, .int 0])), (q20, .inl (cy 0, 520, .inl (fun _ => 0))), (q21, .inl (cy 0, 80, .inl (fun _ => 0))), (q22, .inl (cy 0, 40, .inl (fun _ => 0))), (q23, .inr (4, [.ref q24, .int 0, .int 0, .ref q25, .ref q26, .ref q27, .ref q28, .ref q29, .int (-1)])), (q24, .inl (cy 0, 96, .inl (fun _ => 0))), (q25, .inl (cy 2, 8, .inr (.inl (fun _ => 0)))), (q26, .inl (cy 2, 8, .inr (.inl (fun _ => 0)))), (q27, .inl (cy 0, 8, .inl (fun _ => 0))), (q28, .inl (cy 0, 8, .inl (fun _ => 0))), (q29, .inl (cy 2, 8, .inr (.inl (fun _ => 0)))), (q30, .inr (1, [.ref q31, .ref q3, .ref q23, .int 0])), (q31, .inl (cy 5, 40, .inr (.inr (.inr (.inr (fun _ => none)))))), (q32, .inr (10, [.int 1, .ref q33, .ref q34, .ref q35, .ref q36, .ref q3, .ref q37, .int 0, .int 0])), (q33, .inl (cy 0, 3, .inl (upd (fun _ => 0) (Int32.toNatClampNeg 0) 1))), (q34, .inl (cy 0, 18, .inl (fun _ => 0))), (q35, .inl (cy 6, 5, .inr (.inr (.inr (.inr (va_up (va_up (va_up (va_up (va_up (fun _ => none) (Int32.toNatClampNeg 0) (some q40)) (Int32.toNatClampNeg 1) (some q42)) (Int32.toNatClampNeg 2) (some q44)) (Int32.toNatClampNeg 3) (some q46)) (Int32.toNatClampNeg 4) (some q48))))))), (q36, .inl (cy 2, 5, .inr (.inl (fun _ => 0)))), (q37, .inr (2, [.ref q38, .ref q39, .int 0, .int 0])), (q38, .inl (cy 0, 0, .inl (fun _ => 0))), (q39, .inl (cy 0, 0, .inl (fun _ => 0))), (q40, .inr (7, [.ref q41, .int 0])), (q41, .inl (cy 0, 6, .inl (fun _ => 0))), (q42, .inr (7, [.ref q43, .int 0])), (q43, .inl (cy 0, 6, .inl (fun _ => 0))), (q44, .inr (7, [.ref q45, .int 0])), (q45, .inl (cy 0, 6, .inl (fun _ => 0))), (q46, .inr (7, [.ref q47, .int 0])), (q47, .inl (cy 0, 6, .inl (fun _ => 0))), (q48, .inr (7, [.ref q49, .int 0])), (q49, .inl (cy 0, 6, .inl (fun _ => 0)))] f) (hA2 : aW [(x, .inr (11, [.ref q1, .ref q5, .ref q7, .ref q9, .ref q10, .ref q13, .ref q16, .ref q17, .ref q18, .ref q23, .ref q30, .ref q32, .int 0])), (q1, .inr (0, [.ref q2, .ref q3])), (q2, .inl (cy 0, 2400, .inl (fun _ => 0))), (q3, .inr (7, [.ref q4, .int 0])), (q4, .inl (cy 0, 6, .inl (fun _ => 0))), (q5, .inr (9, [.ref q6, .int 0])), (q6, .inl (cy 1, 400, .inl (fun _ => 0))), (q7, .inr (9, [.ref q8, .int 0])), (q8, .inl (cy 1, 480, .inl (fun _ => 0))), (q9, .inl (cy 4, 20, .inr (.inr (.inr (.inr (fun _ => none)))))), (q10, .inr (2, [.ref q11, .ref q12, .int 0, .int 0])), (q11, .inl (cy 0, 520, .inl (fun _ => 0))), (q12, .inl (cy 0, 80, .inl (fun _ => 0))), (q13, .inr (2, [.ref q14, .ref q15, .int 0, .int 0])), (q14, .inl (cy 0, 520, .inl (fun _ => 0))), (q15, .inl (cy 0, 80, .inl (fun _ => 0))), (q16, .inr (6, [.ref q5, .ref q10, .int 0, .int 0])), (q17, .inr (8, [.ref q7])), (q18, .inr (3, [.ref q19, .ref q22])), (q19, .inr (2, [.ref q20, .ref q21, .int 0, .int 0])), (q20, .inl (cy 0, 520, .inl (fun _ => 0))), (q21, .inl (cy 0, 80, .inl (fun _ => 0))), (q22, .inl (cy 0, 40, .inl (fun _ => 0))), (q23, .inr (4, [.ref q24, .int 0, .int 0, .ref q25, .ref q26, .ref q27, .ref q28, .ref q29, .int (-1)])), (q24, .inl (cy 0, 96, .inl (fun _ => 0))), (q25, .inl (cy 2, 8, .inr (.inl (fun _ => 0)))), (q26, .inl (cy 2, 8, .inr (.inl (fun _ => 0)))), (q27, .inl (cy 0, 8, .inl (fun _ => 0))), (q28, .inl (cy 0, 8, .inl (fun _ => 0))), (q29, .inl (cy 2, 8, .inr (.inl (fun _ => 0)))), (q30, .inr (1, [.ref q31, .ref q3, .ref q23, .int 0])), (q31, .inl (cy 5, 40, .inr (.inr (.inr (.inr (fun _ => none)))))), (q32, .inr (10, [.int 1, .ref q33, .ref q34, .ref q35, .ref q36, .ref q3, .ref q37, .int 0, .int 0])), (q33, .inl (cy 0, 3, .inl (upd (fun _ => 0) (Int32.toNatClampNeg 0) 1))), (q34, .inl (cy 0, 18, .inl (fun _ => 0))), (q35, .inl (cy 6, 5, .inr (.inr (.inr (.inr (va_up (va_up (va_up (va_up (va_up (fun _ => none) (Int32.toNatClampNeg 0) (some q40)) (Int32.toNatClampNeg 1) (some q42)) (Int32.toNatClampNeg 2) (some q44)) (Int32.toNatClampNeg 3) (some q46)) (Int32.toNatClampNeg 4) (some q48))))))), (q36, .inl (cy 2, 5, .inr (.inl (fun _ => 0)))), (q37, .inr (2, [.ref q38, .ref q39, .int 0, .int 0])), (q38, .inl (cy 0, 0, .inl (fun _ => 0))), (q39, .inl (cy 0, 0, .inl (fun _ => 0))), (q40, .inr (7, [.ref q41, .int 0])), (q41, .inl (cy 0, 6, .inl (fun _ => 0))), (q42, .inr (7, [.ref q43, .int 0])), (q43, .inl (cy 0, 6, .inl (fun _ => 0))), (q44, .inr (7, [.ref q45, .int 0])), (q45, .inl (cy 0, 6, .inl (fun _ => 0))), (q46, .inr (7, [.ref q47, .int 0])), (q47, .inl (cy 0, 6, .inl (fun _ => 0))), (q48, .inr (7, [.ref q49, .int 0])), (q49, .inl (cy 0, 6, .inl (fun _ => 0)))] g) (hS : mS cy m a h0m n z F G f) (hm : g m = none) (ha : ∀ k, mTy k ≠ 0 → g (a k) = none) (hF : ∀ i, i < 2400 → F 2 i = -10000) (h0 : n 0 = 0) (h1 : n 1 = 0) (h4 : n 4 = 0) (h5 : n 5 = 0) (h30 : n 30 = 0) (h38 : n 38 = 0) (h46 : n 46 = 0) (h53 : n 53 = 1) (h88 : n 88 = 0) (hG : ∀ i, i < 11 → G 27 i ≠ 0) : gG l room_1 lwQf (lwEx bs 6 b xs) D cy b code 4 ret RL nm 119 44855 f 546 [(3, .int 0), (2, .ref m), (1, .ref x), (0, .ref bs)] [] := by
  have kx : f x = some (.inr (11, [.ref q1, .ref q5, .ref q7, .ref q9, .ref q10, .ref q13, .ref q16, .ref q17, .ref q18, .ref q23, .ref q30, .ref q32, .int 0])) := hA.1 0 _ rfl
  have kch : f q1 = some (.inr (0, [.ref q2, .ref q3])) := hA.1 1 _ rfl
  have ktd : f q3 = some (.inr (7, [.ref q4, .int 0])) := hA.1 3 _ rfl
  have kco : f q30 = some (.inr (1, [.ref q31, .ref q3, .ref q23, .int 0])) := hA.1 30 _ rfl
  have kle : f q23 = some (.inr (4, [.ref q24, .int 0, .int 0, .ref q25, .ref q26, .ref q27, .ref q28, .ref q29, .int (-1)])) := hA.1 23 _ rfl
  refine gz_aload_n dL_law_546 rfl rfl ?_
  refine scL_67 (k_X11_day  kx kch ktd kco kle) kx ⟨(Nat.le_of_ble_eq_true rfl), (Nat.le_of_ble_eq_true rfl)⟩ ⟨(Nat.le_of_ble_eq_true rfl), (Nat.le_of_ble_eq_true rfl)⟩ rfl rfl (Nat.le_of_ble_eq_true rfl) dL_law_547 ?_
  rintro v9 f9 ⟨z1, z2⟩; rw [z1]
  have hs9 : ∀ y, y ∈ [q3] → ∃ e, g y = some e := by
    intro y hy; simp only [List.mem_cons, List.not_mem_nil, or_false] at hy; rcases hy with rfl
    · exact ⟨_, hA2.1 3 _ rfl⟩
  have hS9 := mS_fr hS hm ha z2 hs9
  refine gz_aload_n dL_law_550 rfl rfl ?_
  refine scL_70 (k_X12_day  hS9 h0 h38 h30 hF) hS9.1 ⟨(Nat.le_of_ble_eq_true rfl), (Nat.le_of_ble_eq_true rfl)⟩ ⟨(Nat.le_of_ble_eq_true rfl), (Nat.le_of_ble_eq_true rfl)⟩ rfl rfl (Nat.le_of_ble_eq_true rfl) dL_law_551 ?_
  intro v8 f8 z8; rw [show v8 = _ from z8]
  refine gz_icmp_eq (tgt := 1087) dL_law_554 (by decide) (fun c_554 => ?_) (fun c_554 => ?_)
  ·
    exact lw_end
  · exact absurd rfl c_554

set_option maxHeartbeats 4000000 in
set_option maxRecDepth 100000 in
theorem lw_case_13 {l : Launch} {D : va_G} {cy : Nat → ClassId} {b bs x q1 q2 q3 q4 q5 q6 q7 q8 q9 q10 q11 q12 q13 q14 q15 q16 q17 q18 q19 q20 q21 q22 q23 q24 q25 q26 q27 q28 q29 q30 q31 q32 q33 q34 q35 q36 q37 q38 q39 q40 q41 q42 q43 q44 q45 q46 q47 q48 q49 m : Nat} {xs : Nat → Int32} {nm : String} {f g h0m : gMem} {a : Nat → Nat} {n : Nat → Int32} {z : Nat → Int64} {F : Nat → Nat → Int32} {G : Nat → Nat → Int64} (hA : aW [(x, .inr (11, [.ref q1, .ref q5, .ref q7, .ref q9, .ref q10, .ref q13, .ref q16, .ref q17, .ref q18, .ref q23, .ref q30, .ref q32, .int 0])), (q1, .inr (0, [.ref q2, .ref q3])), (q2, .inl (cy 0, 2400, .inl (fun _ => 0))), (q3, .inr (7, [.ref q4, .int 0])), (q4, .inl (cy 0, 6, .inl (fun _ => 0))), (q5, .inr (9, [.ref q6, .int 0])), (q6, .inl (cy 1, 400, .inl (fun _ => 0))), (q7, .inr (9, [.ref q8, .int 0])), (q8, .inl (cy 1, 480, .inl (fun _ => 0))), (q9, .inl (cy 4, 20, .inr (.inr (.inr (.inr (fun _ => none)))))), (q10, .inr (2, [.ref q11, .ref q12, .int 0, .int 0])), (q11, .inl (cy 0, 520, .inl (fun _ => 0))), (q12, .inl (cy 0, 80, .inl (fun _ => 0))), (q13, .inr (2, [.ref q14, .ref q15, .int 0, .int 0])), (q14, .inl (cy 0, 520, .inl (fun _ => 0))), (q15, .inl (cy 0, 80, .inl (fun _ => 0))), (q16, .inr (6, [.ref q5, .ref q10, .int 0, .int 0])), (q17, .inr (8, [.ref q7])), (q18, .inr (3, [.ref q19, .ref q22])), (q19, .inr (2, [.ref q20, .ref q21, .int 0, .int 0])), (q20, .inl (cy 0, 520, .inl (fun _ => 0))), (q21, .inl (cy 0, 80, .inl (fun _ => 0))), (q22, .inl (cy 0, 40, .inl (fun _ => 0))), (q23, .inr (4, [.ref q24, .int 0, .int 0, .ref q25, .ref q26, .ref q27, .ref q28, .ref q29, .int (-1)])), (q24, .inl (cy 0, 96, .inl (fun _ => 0))), (q25, .inl (cy 2, 8, .inr (.inl (fun _ => 0)))), (q26, .inl (cy 2, 8, .inr (.inl (fun _ => 0)))), (q27, .inl (cy 0, 8, .inl (fun _ => 0))), (q28, .inl (cy 0, 8, .inl (fun _ => 0))), (q29, .inl (cy 2, 8, .inr (.inl (fun _ => 0)))), (q30, .inr (1, [.ref q31, .ref q3, .ref q23, .int 0])), (q31, .inl (cy 5, 40, .inr (.inr (.inr (.inr (fun _ => none)))))), (q32, .inr (10, [.int 1, .ref q33, .ref q34, .ref q35, .ref q36, .ref q3, .ref q37, .int 0, .int 0])), (q33, .inl (cy 0, 3, .inl (upd (fun _ => 0) (Int32.toNatClampNeg 0) 1))), (q34, .inl (cy 0, 18, .inl (fun _ => 0))), (q35, .inl (cy 6, 5, .inr (.inr (.inr (.inr (va_up (va_up (va_up (va_up (va_up (fun _ => none) (Int32.toNatClampNeg 0) (some q40)) (Int32.toNatClampNeg 1) (some q42)) (Int32.toNatClampNeg 2) (some q44)) (Int32.toNatClampNeg 3) (some q46)) (Int32.toNatClampNeg 4) (some q48))))))), (q36, .inl (cy 2, 5, .inr (.inl (fun _ => 0)))), (q37, .inr (2, [.ref q38, .ref q39, .int 0, .int 0])), (q38, .inl (cy 0, 0, .inl (fun _ => 0))), (q39, .inl (cy 0, 0, .inl (fun _ => 0))), (q40, .inr (7, [.ref q41, .int 0])), (q41, .inl (cy 0, 6, .inl (fun _ => 0))), (q42, .inr (7, [.ref q43, .int 0])), (q43, .inl (cy 0, 6, .inl (fun _ => 0))), (q44, .inr (7, [.ref q45, .int 0])), (q45, .inl (cy 0, 6, .inl (fun _ => 0))), (q46, .inr (7, [.ref q47, .int 0])), (q47, .inl (cy 0, 6, .inl (fun _ => 0))), (q48, .inr (7, [.ref q49, .int 0])), (q49, .inl (cy 0, 6, .inl (fun _ => 0)))] f) (hA2 : aW [(x, .inr (11, [.ref q1, .ref q5, .ref q7, .ref q9, .ref q10, .ref q13, .ref q16, .ref q17, .ref q18, .ref q23, .ref q30, .ref q32, .int 0])), (q1, .inr (0, [.ref q2, .ref q3])), (q2, .inl (cy 0, 2400, .inl (fun _ => 0))), (q3, .inr (7, [.ref q4, .int 0])), (q4, .inl (cy 0, 6, .inl (fun _ => 0))), (q5, .inr (9, [.ref q6, .int 0])), (q6, .inl (cy 1, 400, .inl (fun _ => 0))), (q7, .inr (9, [.ref q8, .int 0])), (q8, .inl (cy 1, 480, .inl (fun _ => 0))), (q9, .inl (cy 4, 20, .inr (.inr (.inr (.inr (fun _ => none)))))), (q10, .inr (2, [.ref q11, .ref q12, .int 0, .int 0])), (q11, .inl (cy 0, 520, .inl (fun _ => 0))), (q12, .inl (cy 0, 80, .inl (fun _ => 0))), (q13, .inr (2, [.ref q14, .ref q15, .int 0, .int 0])), (q14, .inl (cy 0, 520, .inl (fun _ => 0))), (q15, .inl (cy 0, 80, .inl (fun _ => 0))), (q16, .inr (6, [.ref q5, .ref q10, .int 0, .int 0])), (q17, .inr (8, [.ref q7])), (q18, .inr (3, [.ref q19, .ref q22])), (q19, .inr (2, [.ref q20, .ref q21, .int 0, .int 0])), (q20, .inl (cy 0, 520, .inl (fun _ => 0))), (q21, .inl (cy 0, 80, .inl (fun _ => 0))), (q22, .inl (cy 0, 40, .inl (fun _ => 0))), (q23, .inr (4, [.ref q24, .int 0, .int 0, .ref q25, .ref q26, .ref q27, .ref q28, .ref q29, .int (-1)])), (q24, .inl (cy 0, 96, .inl (fun _ => 0))), (q25, .inl (cy 2, 8, .inr (.inl (fun _ => 0)))), (q26, .inl (cy 2, 8, .inr (.inl (fun _ => 0)))), (q27, .inl (cy 0, 8, .inl (fun _ => 0))), (q28, .inl (cy 0, 8, .inl (fun _ => 0))), (q29, .inl (cy 2, 8, .inr (.inl (fun _ => 0)))), (q30, .inr (1, [.ref q31, .ref q3, .ref q23, .int 0])), (q31, .inl (cy 5, 40, .inr (.inr (.inr (.inr (fun _ => none)))))), (q32, .inr (10, [.int 1, .ref q33, .ref q34, .ref q35, .ref q36, .ref q3, .ref q37, .int 0, .int 0])), (q33, .inl (cy 0, 3, .inl (upd (fun _ => 0) (Int32.toNatClampNeg 0) 1))), (q34, .inl (cy 0, 18, .inl (fun _ => 0))), (q35, .inl (cy 6, 5, .inr (.inr (.inr (.inr (va_up (va_up (va_up (va_up (va_up (fun _ => none) (Int32.toNatClampNeg 0) (some q40)) (Int32.toNatClampNeg 1) (some q42)) (Int32.toNatClampNeg 2) (some q44)) (Int32.toNatClampNeg 3) (some q46)) (Int32.toNatClampNeg 4) (some q48))))))), (q36, .inl (cy 2, 5, .inr (.inl (fun _ => 0)))), (q37, .inr (2, [.ref q38, .ref q39, .int 0, .int 0])), (q38, .inl (cy 0, 0, .inl (fun _ => 0))), (q39, .inl (cy 0, 0, .inl (fun _ => 0))), (q40, .inr (7, [.ref q41, .int 0])), (q41, .inl (cy 0, 6, .inl (fun _ => 0))), (q42, .inr (7, [.ref q43, .int 0])), (q43, .inl (cy 0, 6, .inl (fun _ => 0))), (q44, .inr (7, [.ref q45, .int 0])), (q45, .inl (cy 0, 6, .inl (fun _ => 0))), (q46, .inr (7, [.ref q47, .int 0])), (q47, .inl (cy 0, 6, .inl (fun _ => 0))), (q48, .inr (7, [.ref q49, .int 0])), (q49, .inl (cy 0, 6, .inl (fun _ => 0)))] g) (hS : mS cy m a h0m n z F G f) (hm : g m = none) (ha : ∀ k, mTy k ≠ 0 → g (a k) = none) (hF : ∀ i, i < 2400 → F 2 i = -10000) (h0 : n 0 = 0) (h1 : n 1 = 0) (h4 : n 4 = 0) (h5 : n 5 = 0) (h30 : n 30 = 0) (h38 : n 38 = 0) (h46 : n 46 = 0) (h53 : n 53 = 1) (h88 : n 88 = 0) (hG : ∀ i, i < 11 → G 27 i ≠ 0) : gG l room_1 lwQf (lwEx bs 6 b xs) D cy b code 4 ret RL nm 119 44855 f 559 [(3, .int 0), (2, .ref m), (1, .ref x), (0, .ref bs)] [] := by
  have kx : f x = some (.inr (11, [.ref q1, .ref q5, .ref q7, .ref q9, .ref q10, .ref q13, .ref q16, .ref q17, .ref q18, .ref q23, .ref q30, .ref q32, .int 0])) := hA.1 0 _ rfl
  have kco : f q30 = some (.inr (1, [.ref q31, .ref q3, .ref q23, .int 0])) := hA.1 30 _ rfl
  refine gz_aload_n dL_law_559 rfl rfl ?_
  refine gz_aload_n dL_law_560 rfl rfl ?_
  refine gz_iload_n dL_law_561 rfl rfl ?_
  refine gz_iconst (v := 1) dL_law_562 (by decide) ?_
  refine gz_iadd dL_law_563 ?_
  refine gz_ev (w := .int 1) (by decide) ?_
  refine lz_sld (vin_T (v := 1) rfl (by decide) (by decide)) dL_law_564 ?_
  refine gz_ev (w := .int (xs 1)) rfl ?_
  refine scL_71 (k_X11_stands (x1 := (xs 1)) kx kco) kx ⟨(Nat.le_of_ble_eq_true rfl), (Nat.le_of_ble_eq_true rfl)⟩ ⟨(Nat.le_of_ble_eq_true rfl), (Nat.le_of_ble_eq_true rfl)⟩ rfl rfl (Nat.le_of_ble_eq_true rfl) dL_law_565 ?_
  rintro v9 f9 ⟨z1, z2⟩; rw [z1]
  have hs9 : ∀ y, y ∈ ([] : List Nat) → ∃ e, g y = some e := fun y hy => absurd hy List.not_mem_nil
  have hS9 := mS_fr hS hm ha z2 hs9
  refine gz_aload_n dL_law_568 rfl rfl ?_
  refine gz_aload_n dL_law_569 rfl rfl ?_
  refine gz_iload_n dL_law_570 rfl rfl ?_
  refine gz_iconst (v := 1) dL_law_571 (by decide) ?_
  refine gz_iadd dL_law_572 ?_
  refine gz_ev (w := .int 1) (by decide) ?_
  refine lz_sld (vin_T (v := 1) rfl (by decide) (by decide)) dL_law_573 ?_
  refine gz_ev (w := .int (xs 1)) rfl ?_
  refine scL_74 (k_X12_stands (x1 := (xs 1)) hS9 h30) hS9.1 ⟨(Nat.le_of_ble_eq_true rfl), (Nat.le_of_ble_eq_true rfl)⟩ ⟨(Nat.le_of_ble_eq_true rfl), (Nat.le_of_ble_eq_true rfl)⟩ rfl rfl (Nat.le_of_ble_eq_true rfl) dL_law_574 ?_
  intro v8 f8 z8; rw [show v8 = _ from z8]
  refine gz_icmp_eq (tgt := 1087) dL_law_577 (by decide) (fun c_577 => ?_) (fun c_577 => ?_)
  ·
    exact lw_end
  · exact absurd rfl c_577

set_option maxHeartbeats 4000000 in
set_option maxRecDepth 100000 in
theorem lw_case_14 {l : Launch} {D : va_G} {cy : Nat → ClassId} {b bs x q1 q2 q3 q4 q5 q6 q7 q8 q9 q10 q11 q12 q13 q14 q15 q16 q17 q18 q19 q20 q21 q22 q23 q24 q25 q26 q27 q28 q29 q30 q31 q32 q33 q34 q35 q36 q37 q38 q39 q40 q41 q42 q43 q44 q45 q46 q47 q48 q49 m : Nat} {xs : Nat → Int32} {nm : String} {f g h0m : gMem} {a : Nat → Nat} {n : Nat → Int32} {z : Nat → Int64} {F : Nat → Nat → Int32} {G : Nat → Nat → Int64} (hA : aW [(x, .inr (11, [.ref q1, .ref q5, .ref q7, .ref q9, .ref q10, .ref q13, .ref q16, .ref q17, .ref q18, .ref q23, .ref q30, .ref q32, .int 0])), (q1, .inr (0, [.ref q2, .ref q3])), (q2, .inl (cy 0, 2400, .inl (fun _ => 0))), (q3, .inr (7, [.ref q4, .int 0])), (q4, .inl (cy 0, 6, .inl (fun _ => 0))), (q5, .inr (9, [.ref q6, .int 0])), (q6, .inl (cy 1, 400, .inl (fun _ => 0))), (q7, .inr (9, [.ref q8, .int 0])), (q8, .inl (cy 1, 480, .inl (fun _ => 0))), (q9, .inl (cy 4, 20, .inr (.inr (.inr (.inr (fun _ => none)))))), (q10, .inr (2, [.ref q11, .ref q12, .int 0, .int 0])), (q11, .inl (cy 0, 520, .inl (fun _ => 0))), (q12, .inl (cy 0, 80, .inl (fun _ => 0))), (q13, .inr (2, [.ref q14, .ref q15, .int 0, .int 0])), (q14, .inl (cy 0, 520, .inl (fun _ => 0))), (q15, .inl (cy 0, 80, .inl (fun _ => 0))), (q16, .inr (6, [.ref q5, .ref q10, .int 0, .int 0])), (q17, .inr (8, [.ref q7])), (q18, .inr (3, [.ref q19, .ref q22])), (q19, .inr (2, [.ref q20, .ref q21, .int 0, .int 0])), (q20, .inl (cy 0, 520, .inl (fun _ => 0))), (q21, .inl (cy 0, 80, .inl (fun _ => 0))), (q22, .inl (cy 0, 40, .inl (fun _ => 0))), (q23, .inr (4, [.ref q24, .int 0, .int 0, .ref q25, .ref q26, .ref q27, .ref q28, .ref q29, .int (-1)])), (q24, .inl (cy 0, 96, .inl (fun _ => 0))), (q25, .inl (cy 2, 8, .inr (.inl (fun _ => 0)))), (q26, .inl (cy 2, 8, .inr (.inl (fun _ => 0)))), (q27, .inl (cy 0, 8, .inl (fun _ => 0))), (q28, .inl (cy 0, 8, .inl (fun _ => 0))), (q29, .inl (cy 2, 8, .inr (.inl (fun _ => 0)))), (q30, .inr (1, [.ref q31, .ref q3, .ref q23, .int 0])), (q31, .inl (cy 5, 40, .inr (.inr (.inr (.inr (fun _ => none)))))), (q32, .inr (10, [.int 1, .ref q33, .ref q34, .ref q35, .ref q36, .ref q3, .ref q37, .int 0, .int 0])), (q33, .inl (cy 0, 3, .inl (upd (fun _ => 0) (Int32.toNatClampNeg 0) 1))), (q34, .inl (cy 0, 18, .inl (fun _ => 0))), (q35, .inl (cy 6, 5, .inr (.inr (.inr (.inr (va_up (va_up (va_up (va_up (va_up (fun _ => none) (Int32.toNatClampNeg 0) (some q40)) (Int32.toNatClampNeg 1) (some q42)) (Int32.toNatClampNeg 2) (some q44)) (Int32.toNatClampNeg 3) (some q46)) (Int32.toNatClampNeg 4) (some q48))))))), (q36, .inl (cy 2, 5, .inr (.inl (fun _ => 0)))), (q37, .inr (2, [.ref q38, .ref q39, .int 0, .int 0])), (q38, .inl (cy 0, 0, .inl (fun _ => 0))), (q39, .inl (cy 0, 0, .inl (fun _ => 0))), (q40, .inr (7, [.ref q41, .int 0])), (q41, .inl (cy 0, 6, .inl (fun _ => 0))), (q42, .inr (7, [.ref q43, .int 0])), (q43, .inl (cy 0, 6, .inl (fun _ => 0))), (q44, .inr (7, [.ref q45, .int 0])), (q45, .inl (cy 0, 6, .inl (fun _ => 0))), (q46, .inr (7, [.ref q47, .int 0])), (q47, .inl (cy 0, 6, .inl (fun _ => 0))), (q48, .inr (7, [.ref q49, .int 0])), (q49, .inl (cy 0, 6, .inl (fun _ => 0)))] f) (hA2 : aW [(x, .inr (11, [.ref q1, .ref q5, .ref q7, .ref q9, .ref q10, .ref q13, .ref q16, .ref q17, .ref q18, .ref q23, .ref q30, .ref q32, .int 0])), (q1, .inr (0, [.ref q2, .ref q3])), (q2, .inl (cy 0, 2400, .inl (fun _ => 0))), (q3, .inr (7, [.ref q4, .int 0])), (q4, .inl (cy 0, 6, .inl (fun _ => 0))), (q5, .inr (9, [.ref q6, .int 0])), (q6, .inl (cy 1, 400, .inl (fun _ => 0))), (q7, .inr (9, [.ref q8, .int 0])), (q8, .inl (cy 1, 480, .inl (fun _ => 0))), (q9, .inl (cy 4, 20, .inr (.inr (.inr (.inr (fun _ => none)))))), (q10, .inr (2, [.ref q11, .ref q12, .int 0, .int 0])), (q11, .inl (cy 0, 520, .inl (fun _ => 0))), (q12, .inl (cy 0, 80, .inl (fun _ => 0))), (q13, .inr (2, [.ref q14, .ref q15, .int 0, .int 0])), (q14, .inl (cy 0, 520, .inl (fun _ => 0))), (q15, .inl (cy 0, 80, .inl (fun _ => 0))), (q16, .inr (6, [.ref q5, .ref q10, .int 0, .int 0])), (q17, .inr (8, [.ref q7])), (q18, .inr (3, [.ref q19, .ref q22])), (q19, .inr (2, [.ref q20, .ref q21, .int 0, .int 0])), (q20, .inl (cy 0, 520, .inl (fun _ => 0))), (q21, .inl (cy 0, 80, .inl (fun _ => 0))), (q22, .inl (cy 0, 40, .inl (fun _ => 0))), (q23, .inr (4, [.ref q24, .int 0, .int 0, .ref q25, .ref q26, .ref q27, .ref q28, .ref q29, .int (-1)])), (q24, .inl (cy 0, 96, .inl (fun _ => 0))), (q25, .inl (cy 2, 8, .inr (.inl (fun _ => 0)))), (q26, .inl (cy 2, 8, .inr (.inl (fun _ => 0)))), (q27, .inl (cy 0, 8, .inl (fun _ => 0))), (q28, .inl (cy 0, 8, .inl (fun _ => 0))), (q29, .inl (cy 2, 8, .inr (.inl (fun _ => 0)))), (q30, .inr (1, [.ref q31, .ref q3, .ref q23, .int 0])), (q31, .inl (cy 5, 40, .inr (.inr (.inr (.inr (fun _ => none)))))), (q32, .inr (10, [.int 1, .ref q33, .ref q34, .ref q35, .ref q36, .ref q3, .ref q37, .int 0, .int 0])), (q33, .inl (cy 0, 3, .inl (upd (fun _ => 0) (Int32.toNatClampNeg 0) 1))), (q34, .inl (cy 0, 18, .inl (fun _ => 0))), (q35, .inl (cy 6, 5, .inr (.inr (.inr (.inr (va_up (va_up (va_up (va_up (va_up (fun _ => none) (Int32.toNatClampNeg 0) (some q40)) (Int32.toNatClampNeg 1) (some q42)) (Int32.toNatClampNeg 2) (some q44)) (Int32.toNatClampNeg 3) (some q46)) (Int32.toNatClampNeg 4) (some q48))))))), (q36, .inl (cy 2, 5, .inr (.inl (fun _ => 0)))), (q37, .inr (2, [.ref q38, .ref q39, .int 0, .int 0])), (q38, .inl (cy 0, 0, .inl (fun _ => 0))), (q39, .inl (cy 0, 0, .inl (fun _ => 0))), (q40, .inr (7, [.ref q41, .int 0])), (q41, .inl (cy 0, 6, .inl (fun _ => 0))), (q42, .inr (7, [.ref q43, .int 0])), (q43, .inl (cy 0, 6, .inl (fun _ => 0))), (q44, .inr (7, [.ref q45, .int 0])), (q45, .inl (cy 0, 6, .inl (fun _ => 0))), (q46, .inr (7, [.ref q47, .int 0])), (q47, .inl (cy 0, 6, .inl (fun _ => 0))), (q48, .inr (7, [.ref q49, .int 0])), (q49, .inl (cy 0, 6, .inl (fun _ => 0)))] g) (hS : mS cy m a h0m n z F G f) (hm : g m = none) (ha : ∀ k, mTy k ≠ 0 → g (a k) = none) (hF : ∀ i, i < 2400 → F 2 i = -10000) (h0 : n 0 = 0) (h1 : n 1 = 0) (h4 : n 4 = 0) (h5 : n 5 = 0) (h30 : n 30 = 0) (h38 : n 38 = 0) (h46 : n 46 = 0) (h53 : n 53 = 1) (h88 : n 88 = 0) (hG : ∀ i, i < 11 → G 27 i ≠ 0) : gG l room_1 lwQf (lwEx bs 6 b xs) D cy b code 4 ret RL nm 119 44855 f 582 [(3, .int 0), (2, .ref m), (1, .ref x), (0, .ref bs)] [] := by
  have kx : f x = some (.inr (11, [.ref q1, .ref q5, .ref q7, .ref q9, .ref q10, .ref q13, .ref q16, .ref q17, .ref q18, .ref q23, .ref q30, .ref q32, .int 0])) := hA.1 0 _ rfl
  have kco : f q30 = some (.inr (1, [.ref q31, .ref q3, .ref q23, .int 0])) := hA.1 30 _ rfl
  refine gz_aload_n dL_law_582 rfl rfl ?_
  refine gz_aload_n dL_law_583 rfl rfl ?_
  refine gz_iload_n dL_law_584 rfl rfl ?_
  refine gz_iconst (v := 1) dL_law_585 (by decide) ?_
  refine gz_iadd dL_law_586 ?_
  refine gz_ev (w := .int 1) (by decide) ?_
  refine lz_sld (vin_T (v := 1) rfl (by decide) (by decide)) dL_law_587 ?_
  refine gz_ev (w := .int (xs 1)) rfl ?_
  refine gz_aload_n dL_law_588 rfl rfl ?_
  refine gz_iload_n dL_law_589 rfl rfl ?_
  refine gz_iconst (v := 2) dL_law_590 (by decide) ?_
  refine gz_iadd dL_law_591 ?_
  refine gz_ev (w := .int 2) (by decide) ?_
  refine lz_sld (vin_T (v := 2) rfl (by decide) (by decide)) dL_law_592 ?_
  refine gz_ev (w := .int (xs 2)) rfl ?_
  refine gz_aload_n dL_law_593 rfl rfl ?_
  refine gz_iload_n dL_law_594 rfl rfl ?_
  refine gz_iconst (v := 3) dL_law_595 (by decide) ?_
  refine gz_iadd dL_law_596 ?_
  refine gz_ev (w := .int 3) (by decide) ?_
  refine lz_sld (vin_T (v := 3) rfl (by decide) (by decide)) dL_law_597 ?_
  refine gz_ev (w := .int (xs 3)) rfl ?_
  refine scL_75 (k_X11_standing (x1 := (xs 1)) (x2 := (xs 2)) (x3 := (xs 3)) kx kco) kx ⟨(Nat.le_of_ble_eq_true rfl), (Nat.le_of_ble_eq_true rfl)⟩ ⟨(Nat.le_of_ble_eq_true rfl), (Nat.le_of_ble_eq_true rfl)⟩ rfl rfl (Nat.le_of_ble_eq_true rfl) dL_law_598 ?_
  rintro v9 f9 ⟨z1, z2⟩; rw [z1]
  have hs9 : ∀ y, y ∈ ([] : List Nat) → ∃ e, g y = some e := fun y hy => absurd hy List.not_mem_nil
  have hS9 := mS_fr hS hm ha z2 hs9
  refine gz_aload_n dL_law_601 rfl rfl ?_
  refine gz_aload_n dL_law_602 rfl rfl ?_
  refine gz_iload_n dL_law_603 rfl rfl ?_
  refine gz_iconst (v := 1) dL_law_604 (by decide) ?_
  refine gz_iadd dL_law_605 ?_
  refine gz_ev (w := .int 1) (by decide) ?_
  refine lz_sld (vin_T (v := 1) rfl (by decide) (by decide)) dL_law_606 ?_
  refine gz_ev (w := .int (xs 1)) rfl ?_
  refine gz_aload_n dL_law_607 rfl rfl ?_
  refine gz_iload_n dL_law_608 rfl rfl ?_
  refine gz_iconst (v := 2) dL_law_609 (by decide) ?_
  refine gz_iadd dL_law_610 ?_
  refine gz_ev (w := .int 2) (by decide) ?_
  refine lz_sld (vin_T (v := 2) rfl (by decide) (by decide)) dL_law_611 ?_
  refine gz_ev (w := .int (xs 2)) rfl ?_
  refine gz_aload_n dL_law_612 rfl rfl ?_
  refine gz_iload_n dL_law_613 rfl rfl ?_
  refine gz_iconst (v := 3) dL_law_614 (by decide) ?_
  refine gz_iadd dL_law_615 ?_
  refine gz_ev (w := .int 3) (by decide) ?_
  refine lz_sld (vin_T (v := 3) rfl (by decide) (by decide)) dL_law_616 ?_
  refine gz_ev (w := .int (xs 3)) rfl ?_
  refine scL_78 (k_X12_standing (x1 := (xs 1)) (x2 := (xs 2)) (x3 := (xs 3)) hS9 h30) hS9.1 ⟨(Nat.le_of_ble_eq_true rfl), (Nat.le_of_ble_eq_true rfl)⟩ ⟨(Nat.le_of_ble_eq_true rfl), (Nat.le_of_ble_eq_true rfl)⟩ rfl rfl (Nat.le_of_ble_eq_true rfl) dL_law_617 ?_
  intro v8 f8 z8; rw [show v8 = _ from z8]
  refine gz_icmp_eq (tgt := 1087) dL_law_620 (by decide) (fun c_620 => ?_) (fun c_620 => ?_)
  ·
    exact lw_end
  · exact absurd rfl c_620

set_option maxHeartbeats 4000000 in
set_option maxRecDepth 100000 in
theorem lw_case_15 {l : Launch} {D : va_G} {cy : Nat → ClassId} {b bs x q1 q2 q3 q4 q5 q6 q7 q8 q9 q10 q11 q12 q13 q14 q15 q16 q17 q18 q19 q20 q21 q22 q23 q24 q25 q26 q27 q28 q29 q30 q31 q32 q33 q34 q35 q36 q37 q38 q39 q40 q41 q42 q43 q44 q45 q46 q47 q48 q49 m : Nat} {xs : Nat → Int32} {nm : String} {f g h0m : gMem} {a : Nat → Nat} {n : Nat → Int32} {z : Nat → Int64} {F : Nat → Nat → Int32} {G : Nat → Nat → Int64} (hA : aW [(x, .inr (11, [.ref q1, .ref q5, .ref q7, .ref q9, .ref q10, .ref q13, .ref q16, .ref q17, .ref q18, .ref q23, .ref q30, .ref q32, .int 0])), (q1, .inr (0, [.ref q2, .ref q3])), (q2, .inl (cy 0, 2400, .inl (fun _ => 0))), (q3, .inr (7, [.ref q4, .int 0])), (q4, .inl (cy 0, 6, .inl (fun _ => 0))), (q5, .inr (9, [.ref q6, .int 0])), (q6, .inl (cy 1, 400, .inl (fun _ => 0))), (q7, .inr (9, [.ref q8, .int 0])), (q8, .inl (cy 1, 480, .inl (fun _ => 0))), (q9, .inl (cy 4, 20, .inr (.inr (.inr (.inr (fun _ => none)))))), (q10, .inr (2, [.ref q11, .ref q12, .int 0, .int 0])), (q11, .inl (cy 0, 520, .inl (fun _ => 0))), (q12, .inl (cy 0, 80, .inl (fun _ => 0))), (q13, .inr (2, [.ref q14, .ref q15, .int 0, .int 0])), (q14, .inl (cy 0, 520, .inl (fun _ => 0))), (q15, .inl (cy 0, 80, .inl (fun _ => 0))), (q16, .inr (6, [.ref q5, .ref q10, .int 0, .int 0])), (q17, .inr (8, [.ref q7])), (q18, .inr (3, [.ref q19, .ref q22])), (q19, .inr (2, [.ref q20, .ref q21, .int 0, .int 0])), (q20, .inl (cy 0, 520, .inl (fun _ => 0))), (q21, .inl (cy 0, 80, .inl (fun _ => 0))), (q22, .inl (cy 0, 40, .inl (fun _ => 0))), (q23, .inr (4, [.ref q24, .int 0, .int 0, .ref q25, .ref q26, .ref q27, .ref q28, .ref q29, .int (-1)])), (q24, .inl (cy 0, 96, .inl (fun _ => 0))), (q25, .inl (cy 2, 8, .inr (.inl (fun _ => 0)))), (q26, .inl (cy 2, 8, .inr (.inl (fun _ => 0)))), (q27, .inl (cy 0, 8, .inl (fun _ => 0))), (q28, .inl (cy 0, 8, .inl (fun _ => 0))), (q29, .inl (cy 2, 8, .inr (.inl (fun _ => 0)))), (q30, .inr (1, [.ref q31, .ref q3, .ref q23, .int 0])), (q31, .inl (cy 5, 40, .inr (.inr (.inr (.inr (fun _ => none)))))), (q32, .inr (10, [.int 1, .ref q33, .ref q34, .ref q35, .ref q36, .ref q3, .ref q37, .int 0, .int 0])), (q33, .inl (cy 0, 3, .inl (upd (fun _ => 0) (Int32.toNatClampNeg 0) 1))), (q34, .inl (cy 0, 18, .inl (fun _ => 0))), (q35, .inl (cy 6, 5, .inr (.inr (.inr (.inr (va_up (va_up (va_up (va_up (va_up (fun _ => none) (Int32.toNatClampNeg 0) (some q40)) (Int32.toNatClampNeg 1) (some q42)) (Int32.toNatClampNeg 2) (some q44)) (Int32.toNatClampNeg 3) (some q46)) (Int32.toNatClampNeg 4) (some q48))))))), (q36, .inl (cy 2, 5, .inr (.inl (fun _ => 0)))), (q37, .inr (2, [.ref q38, .ref q39, .int 0, .int 0])), (q38, .inl (cy 0, 0, .inl (fun _ => 0))), (q39, .inl (cy 0, 0, .inl (fun _ => 0))), (q40, .inr (7, [.ref q41, .int 0])), (q41, .inl (cy 0, 6, .inl (fun _ => 0))), (q42, .inr (7, [.ref q43, .int 0])), (q43, .inl (cy 0, 6, .inl (fun _ => 0))), (q44, .inr (7, [.ref q45, .int 0])), (q45, .inl (cy 0, 6, .inl (fun _ => 0))), (q46, .inr (7, [.ref q47, .int 0])), (q47, .inl (cy 0, 6, .inl (fun _ => 0))), (q48, .inr (7, [.ref q49, .int 0])), (q49, .inl (cy 0, 6, .inl (fun _ => 0)))] f) (hA2 : aW [(x, .inr (11, [.ref q1, .ref q5, .ref q7, .ref q9, .ref q10, .ref q13, .ref q16, .ref q17, .ref q18, .ref q23, .ref q30, .ref q32, .int 0])), (q1, .inr (0, [.ref q2, .ref q3])), (q2, .inl (cy 0, 2400, .inl (fun _ => 0))), (q3, .inr (7, [.ref q4, .int 0])), (q4, .inl (cy 0, 6, .inl (fun _ => 0))), (q5, .inr (9, [.ref q6, .int 0])), (q6, .inl (cy 1, 400, .inl (fun _ => 0))), (q7, .inr (9, [.ref q8, .int 0])), (q8, .inl (cy 1, 480, .inl (fun _ => 0))), (q9, .inl (cy 4, 20, .inr (.inr (.inr (.inr (fun _ => none)))))), (q10, .inr (2, [.ref q11, .ref q12, .int 0, .int 0])), (q11, .inl (cy 0, 520, .inl (fun _ => 0))), (q12, .inl (cy 0, 80, .inl (fun _ => 0))), (q13, .inr (2, [.ref q14, .ref q15, .int 0, .int 0])), (q14, .inl (cy 0, 520, .inl (fun _ => 0))), (q15, .inl (cy 0, 80, .inl (fun _ => 0))), (q16, .inr (6, [.ref q5, .ref q10, .int 0, .int 0])), (q17, .inr (8, [.ref q7])), (q18, .inr (3, [.ref q19, .ref q22])), (q19, .inr (2, [.ref q20, .ref q21, .int 0, .int 0])), (q20, .inl (cy 0, 520, .inl (fun _ => 0))), (q21, .inl (cy 0, 80, .inl (fun _ => 0))), (q22, .inl (cy 0, 40, .inl (fun _ => 0))), (q23, .inr (4, [.ref q24, .int 0, .int 0, .ref q25, .ref q26, .ref q27, .ref q28, .ref q29, .int (-1)])), (q24, .inl (cy 0, 96, .inl (fun _ => 0))), (q25, .inl (cy 2, 8, .inr (.inl (fun _ => 0)))), (q26, .inl (cy 2, 8, .inr (.inl (fun _ => 0)))), (q27, .inl (cy 0, 8, .inl (fun _ => 0))), (q28, .inl (cy 0, 8, .inl (fun _ => 0))), (q29, .inl (cy 2, 8, .inr (.inl (fun _ => 0)))), (q30, .inr (1, [.ref q31, .ref q3, .ref q23, .int 0])), (q31, .inl (cy 5, 40, .inr (.inr (.inr (.inr (fun _ => none)))))), (q32, .inr (10, [.int 1, .ref q33, .ref q34, .ref q35, .ref q36, .ref q3, .ref q37, .int 0, .int 0])), (q33, .inl (cy 0, 3, .inl (upd (fun _ => 0) (Int32.toNatClampNeg 0) 1))), (q34, .inl (cy 0, 18, .inl (fun _ => 0))), (q35, .inl (cy 6, 5, .inr (.inr (.inr (.inr (va_up (va_up (va_up (va_up (va_up (fun _ => none) (Int32.toNatClampNeg 0) (some q40)) (Int32.toNatClampNeg 1) (some q42)) (Int32.toNatClampNeg 2) (some q44)) (Int32.toNatClampNeg 3) (some q46)) (Int32.toNatClampNeg 4) (some q48))))))), (q36, .inl (cy 2, 5, .inr (.inl (fun _ => 0)))), (q37, .inr (2, [.ref q38, .ref q39, .int 0, .int 0])), (q38, .inl (cy 0, 0, .inl (fun _ => 0))), (q39, .inl (cy 0, 0, .inl (fun _ => 0))), (q40, .inr (7, [.ref q41, .int 0])), (q41, .inl (cy 0, 6, .inl (fun _ => 0))), (q42, .inr (7, [.ref q43, .int 0])), (q43, .inl (cy 0, 6, .inl (fun _ => 0))), (q44, .inr (7, [.ref q45, .int 0])), (q45, .inl (cy 0, 6, .inl (fun _ => 0))), (q46, .inr (7, [.ref q47, .int 0])), (q47, .inl (cy 0, 6, .inl (fun _ => 0))), (q48, .inr (7, [.ref q49, .int 0])), (q49, .inl (cy 0, 6, .inl (fun _ => 0)))] g) (hS : mS cy m a h0m n z F G f) (hm : g m = none) (ha : ∀ k, mTy k ≠ 0 → g (a k) = none) (hF : ∀ i, i < 2400 → F 2 i = -10000) (h0 : n 0 = 0) (h1 : n 1 = 0) (h4 : n 4 = 0) (h5 : n 5 = 0) (h30 : n 30 = 0) (h38 : n 38 = 0) (h46 : n 46 = 0) (h53 : n 53 = 1) (h88 : n 88 = 0) (hG : ∀ i, i < 11 → G 27 i ≠ 0) : gG l room_1 lwQf (lwEx bs 6 b xs) D cy b code 4 ret RL nm 119 44855 f 625 [(3, .int 0), (2, .ref m), (1, .ref x), (0, .ref bs)] [] := by
  have kx : f x = some (.inr (11, [.ref q1, .ref q5, .ref q7, .ref q9, .ref q10, .ref q13, .ref q16, .ref q17, .ref q18, .ref q23, .ref q30, .ref q32, .int 0])) := hA.1 0 _ rfl
  have kco : f q30 = some (.inr (1, [.ref q31, .ref q3, .ref q23, .int 0])) := hA.1 30 _ rfl
  refine gz_aload_n dL_law_625 rfl rfl ?_
  refine gz_aload_n dL_law_626 rfl rfl ?_
  refine gz_iload_n dL_law_627 rfl rfl ?_
  refine gz_iconst (v := 1) dL_law_628 (by decide) ?_
  refine gz_iadd dL_law_629 ?_
  refine gz_ev (w := .int 1) (by decide) ?_
  refine lz_sld (vin_T (v := 1) rfl (by decide) (by decide)) dL_law_630 ?_
  refine gz_ev (w := .int (xs 1)) rfl ?_
  refine gz_aload_n dL_law_631 rfl rfl ?_
  refine gz_iload_n dL_law_632 rfl rfl ?_
  refine gz_iconst (v := 2) dL_law_633 (by decide) ?_
  refine gz_iadd dL_law_634 ?_
  refine gz_ev (w := .int 2) (by decide) ?_
  refine lz_sld (vin_T (v := 2) rfl (by decide) (by decide)) dL_law_635 ?_
  refine gz_ev (w := .int (xs 2)) rfl ?_
  refine gz_aload_n dL_law_636 rfl rfl ?_
  refine gz_iload_n dL_law_637 rfl rfl ?_
  refine gz_iconst (v := 3) dL_law_638 (by decide) ?_
  refine gz_iadd dL_law_639 ?_
  refine gz_ev (w := .int 3) (by decide) ?_
  refine lz_sld (vin_T (v := 3) rfl (by decide) (by decide)) dL_law_640 ?_
  refine gz_ev (w := .int (xs 3)) rfl ?_
  refine gz_aload_n dL_law_641 rfl rfl ?_
  refine gz_iload_n dL_law_642 rfl rfl ?_
  refine gz_iconst (v := 4) dL_law_643 (by decide) ?_
  refine gz_iadd dL_law_644 ?_
  refine gz_ev (w := .int 4) (by decide) ?_
  refine lz_sld (vin_T (v := 4) rfl (by decide) (by decide)) dL_law_645 ?_
  refine gz_ev (w := .int (xs 4)) rfl ?_
  refine scL_79 (k_X11_choose (x1 := (xs 1)) (x2 := (xs 2)) (x3 := (xs 3)) (x4 := (xs 4)) kx kco) kx ⟨(Nat.le_of_ble_eq_true rfl), (Nat.le_of_ble_eq_true rfl)⟩ ⟨(Nat.le_of_ble_eq_true rfl), (Nat.le_of_ble_eq_true rfl)⟩ rfl rfl (Nat.le_of_ble_eq_true rfl) dL_law_646 ?_
  rintro v9 f9 ⟨z1, z2⟩; rw [z1]
  have hs9 : ∀ y, y ∈ ([] : List Nat) → ∃ e, g y = some e := fun y hy => absurd hy List.not_mem_nil
  have hS9 := mS_fr hS hm ha z2 hs9
  refine gz_aload_n dL_law_649 rfl rfl ?_
  refine gz_aload_n dL_law_650 rfl rfl ?_
  refine gz_iload_n dL_law_651 rfl rfl ?_
  refine gz_iconst (v := 1) dL_law_652 (by decide) ?_
  refine gz_iadd dL_law_653 ?_
  refine gz_ev (w := .int 1) (by decide) ?_
  refine lz_sld (vin_T (v := 1) rfl (by decide) (by decide)) dL_law_654 ?_
  refine gz_ev (w := .int (xs 1)) rfl ?_
  refine gz_aload_n dL_law_655 rfl rfl ?_
  refine gz_iload_n dL_law_656 rfl rfl ?_
  refine gz_iconst (v := 2) dL_law_657 (by decide) ?_
  refine gz_iadd dL_law_658 ?_
  refine gz_ev (w := .int 2) (by decide) ?_
  refine lz_sld (vin_T (v := 2) rfl (by decide) (by decide)) dL_law_659 ?_
  refine gz_ev (w := .int (xs 2)) rfl ?_
  refine gz_aload_n dL_law_660 rfl rfl ?_
  refine gz_iload_n dL_law_661 rfl rfl ?_
  refine gz_iconst (v := 3) dL_law_662 (by decide) ?_
  refine gz_iadd dL_law_663 ?_
  refine gz_ev (w := .int 3) (by decide) ?_
  refine lz_sld (vin_T (v := 3) rfl (by decide) (by decide)) dL_law_664 ?_
  refine gz_ev (w := .int (xs 3)) rfl ?_
  refine gz_aload_n dL_law_665 rfl rfl ?_
  refine gz_iload_n dL_law_666 rfl rfl ?_
  refine gz_iconst (v := 4) dL_law_667 (by decide) ?_
  refine gz_iadd dL_law_668 ?_
  refine gz_ev (w := .int 4) (by decide) ?_
  refine lz_sld (vin_T (v := 4) rfl (by decide) (by decide)) dL_law_669 ?_
  refine gz_ev (w := .int (xs 4)) rfl ?_
  refine scL_83 (k_X12_choose (x1 := (xs 1)) (x2 := (xs 2)) (x3 := (xs 3)) (x4 := (xs 4)) hS9 h30) hS9.1 ⟨(Nat.le_of_ble_eq_true rfl), (Nat.le_of_ble_eq_true rfl)⟩ ⟨(Nat.le_of_ble_eq_true rfl), (Nat.le_of_ble_eq_true rfl)⟩ rfl rfl (Nat.le_of_ble_eq_true rfl) dL_law_670 ?_
  intro v8 f8 z8; rw [show v8 = _ from z8]
  refine gz_icmp_eq (tgt := 1087) dL_law_673 (by decide) (fun c_673 => ?_) (fun c_673 => ?_)
  ·
    exact lw_end
  · exact absurd rfl c_673

set_option maxHeartbeats 4000000 in
set_option maxRecDepth 100000 in
theorem lw_case_16 {l : Launch} {D : va_G} {cy : Nat → ClassId} {b bs x q1 q2 q3 q4 q5 q6 q7 q8 q9 q10 q11 q12 q13 q14 q15 q16 q17 q18 q19 q20 q21 q22 q23 q24 q25 q26 q27 q28 q29 q30 q31 q32 q33 q34 q35 q36 q37 q38 q39 q40 q41 q42 q43 q44 q45 q46 q47 q48 q49 m : Nat} {xs : Nat → Int32} {nm : String} {f g h0m : gMem} {a : Nat → Nat} {n : Nat → Int32} {z : Nat → Int64} {F : Nat → Nat → Int32} {G : Nat → Nat → Int64} (hA : aW [(x, .inr (11, [.ref q1, .ref q5, .ref q7, .ref q9, .ref q10, .ref q13, .ref q16, .ref q17, .ref q18, .ref q23, .ref q30, .ref q32, .int 0])), (q1, .inr (0, [.ref q2, .ref q3])), (q2, .inl (cy 0, 2400, .inl (fun _ => 0))), (q3, .inr (7, [.ref q4, .int 0])), (q4, .inl (cy 0, 6, .inl (fun _ => 0))), (q5, .inr (9, [.ref q6, .int 0])), (q6, .inl (cy 1, 400, .inl (fun _ => 0))), (q7, .inr (9, [.ref q8, .int 0])), (q8, .inl (cy 1, 480, .inl (fun _ => 0))), (q9, .inl (cy 4, 20, .inr (.inr (.inr (.inr (fun _ => none)))))), (q10, .inr (2, [.ref q11, .ref q12, .int 0, .int 0])), (q11, .inl (cy 0, 520, .inl (fun _ => 0))), (q12, .inl (cy 0, 80, .inl (fun _ => 0))), (q13, .inr (2, [.ref q14, .ref q15, .int 0, .int 0])), (q14, .inl (cy 0, 520, .inl (fun _ => 0))), (q15, .inl (cy 0, 80, .inl (fun _ => 0))), (q16, .inr (6, [.ref q5, .ref q10, .int 0, .int 0])), (q17, .inr (8, [.ref q7])), (q18, .inr (3, [.ref q19, .ref q22])), (q19, .inr (2, [.ref q20, .ref q21, .int 0, .int 0])), (q20, .inl (cy 0, 520, .inl (fun _ => 0))), (q21, .inl (cy 0, 80, .inl (fun _ => 0))), (q22, .inl (cy 0, 40, .inl (fun _ => 0))), (q23, .inr (4, [.ref q24, .int 0, .int 0, .ref q25, .ref q26, .ref q27, .ref q28, .ref q29, .int (-1)])), (q24, .inl (cy 0, 96, .inl (fun _ => 0))), (q25, .inl (cy 2, 8, .inr (.inl (fun _ => 0)))), (q26, .inl (cy 2, 8, .inr (.inl (fun _ => 0)))), (q27, .inl (cy 0, 8, .inl (fun _ => 0))), (q28, .inl (cy 0, 8, .inl (fun _ => 0))), (q29, .inl (cy 2, 8, .inr (.inl (fun _ => 0)))), (q30, .inr (1, [.ref q31, .ref q3, .ref q23, .int 0])), (q31, .inl (cy 5, 40, .inr (.inr (.inr (.inr (fun _ => none)))))), (q32, .inr (10, [.int 1, .ref q33, .ref q34, .ref q35, .ref q36, .ref q3, .ref q37, .int 0, .int 0])), (q33, .inl (cy 0, 3, .inl (upd (fun _ => 0) (Int32.toNatClampNeg 0) 1))), (q34, .inl (cy 0, 18, .inl (fun _ => 0))), (q35, .inl (cy 6, 5, .inr (.inr (.inr (.inr (va_up (va_up (va_up (va_up (va_up (fun _ => none) (Int32.toNatClampNeg 0) (some q40)) (Int32.toNatClampNeg 1) (some q42)) (Int32.toNatClampNeg 2) (some q44)) (Int32.toNatClampNeg 3) (some q46)) (Int32.toNatClampNeg 4) (some q48))))))), (q36, .inl (cy 2, 5, .inr (.inl (fun _ => 0)))), (q37, .inr (2, [.ref q38, .ref q39, .int 0, .int 0])), (q38, .inl (cy 0, 0, .inl (fun _ => 0))), (q39, .inl (cy 0, 0, .inl (fun _ => 0))), (q40, .inr (7, [.ref q41, .int 0])), (q41, .inl (cy 0, 6, .inl (fun _ => 0))), (q42, .inr (7, [.ref q43, .int 0])), (q43, .inl (cy 0, 6, .inl (fun _ => 0))), (q44, .inr (7, [.ref q45, .int 0])), (q45, .inl (cy 0, 6, .inl (fun _ => 0))), (q46, .inr (7, [.ref q47, .int 0])), (q47, .inl (cy 0, 6, .inl (fun _ => 0))), (q48, .inr (7, [.ref q49, .int 0])), (q49, .inl (cy 0, 6, .inl (fun _ => 0)))] f) (hA2 : aW [(x, .inr (11, [.ref q1, .ref q5, .ref q7, .ref q9, .ref q10, .ref q13, .ref q16, .ref q17, .ref q18, .ref q23, .ref q30, .ref q32, .int 0])), (q1, .inr (0, [.ref q2, .ref q3])), (q2, .inl (cy 0, 2400, .inl (fun _ => 0))), (q3, .inr (7, [.ref q4, .int 0])), (q4, .inl (cy 0, 6, .inl (fun _ => 0))), (q5, .inr (9, [.ref q6, .int 0])), (q6, .inl (cy 1, 400, .inl (fun _ => 0))), (q7, .inr (9, [.ref q8, .int 0])), (q8, .inl (cy 1, 480, .inl (fun _ => 0))), (q9, .inl (cy 4, 20, .inr (.inr (.inr (.inr (fun _ => none)))))), (q10, .inr (2, [.ref q11, .ref q12, .int 0, .int 0])), (q11, .inl (cy 0, 520, .inl (fun _ => 0))), (q12, .inl (cy 0, 80, .inl (fun _ => 0))), (q13, .inr (2, [.ref q14, .ref q15, .int 0, .int 0])), (q14, .inl (cy 0, 520, .inl (fun _ => 0))), (q15, .inl (cy 0, 80, .inl (fun _ => 0))), (q16, .inr (6, [.ref q5, .ref q10, .int 0, .int 0])), (q17, .inr (8, [.ref q7])), (q18, .inr (3, [.ref q19, .ref q22])), (q19, .inr (2, [.ref q20, .ref q21, .int 0, .int 0])), (q20, .inl (cy 0, 520, .inl (fun _ => 0))), (q21, .inl (cy 0, 80, .inl (fun _ => 0))), (q22, .inl (cy 0, 40, .inl (fun _ => 0))), (q23, .inr (4, [.ref q24, .int 0, .int 0, .ref q25, .ref q26, .ref q27, .ref q28, .ref q29, .int (-1)])), (q24, .inl (cy 0, 96, .inl (fun _ => 0))), (q25, .inl (cy 2, 8, .inr (.inl (fun _ => 0)))), (q26, .inl (cy 2, 8, .inr (.inl (fun _ => 0)))), (q27, .inl (cy 0, 8, .inl (fun _ => 0))), (q28, .inl (cy 0, 8, .inl (fun _ => 0))), (q29, .inl (cy 2, 8, .inr (.inl (fun _ => 0)))), (q30, .inr (1, [.ref q31, .ref q3, .ref q23, .int 0])), (q31, .inl (cy 5, 40, .inr (.inr (.inr (.inr (fun _ => none)))))), (q32, .inr (10, [.int 1, .ref q33, .ref q34, .ref q35, .ref q36, .ref q3, .ref q37, .int 0, .int 0])), (q33, .inl (cy 0, 3, .inl (upd (fun _ => 0) (Int32.toNatClampNeg 0) 1))), (q34, .inl (cy 0, 18, .inl (fun _ => 0))), (q35, .inl (cy 6, 5, .inr (.inr (.inr (.inr (va_up (va_up (va_up (va_up (va_up (fun _ => none) (Int32.toNatClampNeg 0) (some q40)) (Int32.toNatClampNeg 1) (some q42)) (Int32.toNatClampNeg 2) (some q44)) (Int32.toNatClampNeg 3) (some q46)) (Int32.toNatClampNeg 4) (some q48))))))), (q36, .inl (cy 2, 5, .inr (.inl (fun _ => 0)))), (q37, .inr (2, [.ref q38, .ref q39, .int 0, .int 0])), (q38, .inl (cy 0, 0, .inl (fun _ => 0))), (q39, .inl (cy 0, 0, .inl (fun _ => 0))), (q40, .inr (7, [.ref q41, .int 0])), (q41, .inl (cy 0, 6, .inl (fun _ => 0))), (q42, .inr (7, [.ref q43, .int 0])), (q43, .inl (cy 0, 6, .inl (fun _ => 0))), (q44, .inr (7, [.ref q45, .int 0])), (q45, .inl (cy 0, 6, .inl (fun _ => 0))), (q46, .inr (7, [.ref q47, .int 0])), (q47, .inl (cy 0, 6, .inl (fun _ => 0))), (q48, .inr (7, [.ref q49, .int 0])), (q49, .inl (cy 0, 6, .inl (fun _ => 0)))] g) (hS : mS cy m a h0m n z F G f) (hm : g m = none) (ha : ∀ k, mTy k ≠ 0 → g (a k) = none) (hF : ∀ i, i < 2400 → F 2 i = -10000) (h0 : n 0 = 0) (h1 : n 1 = 0) (h4 : n 4 = 0) (h5 : n 5 = 0) (h30 : n 30 = 0) (h38 : n 38 = 0) (h46 : n 46 = 0) (h53 : n 53 = 1) (h88 : n 88 = 0) (hG : ∀ i, i < 11 → G 27 i ≠ 0) : gG l room_1 lwQf (lwEx bs 6 b xs) D cy b code 4 ret RL nm 119 44855 f 678 [(3, .int 0), (2, .ref m), (1, .ref x), (0, .ref bs)] [] := by
  have kx : f x = some (.inr (11, [.ref q1, .ref q5, .ref q7, .ref q9, .ref q10, .ref q13, .ref q16, .ref q17, .ref q18, .ref q23, .ref q30, .ref q32, .int 0])) := hA.1 0 _ rfl
  have kco : f q30 = some (.inr (1, [.ref q31, .ref q3, .ref q23, .int 0])) := hA.1 30 _ rfl
  refine gz_aload_n dL_law_678 rfl rfl ?_
  refine gz_aload_n dL_law_679 rfl rfl ?_
  refine gz_iload_n dL_law_680 rfl rfl ?_
  refine gz_iconst (v := 1) dL_law_681 (by decide) ?_
  refine gz_iadd dL_law_682 ?_
  refine gz_ev (w := .int 1) (by decide) ?_
  refine lz_sld (vin_T (v := 1) rfl (by decide) (by decide)) dL_law_683 ?_
  refine gz_ev (w := .int (xs 1)) rfl ?_
  refine gz_aload_n dL_law_684 rfl rfl ?_
  refine gz_iload_n dL_law_685 rfl rfl ?_
  refine gz_iconst (v := 2) dL_law_686 (by decide) ?_
  refine gz_iadd dL_law_687 ?_
  refine gz_ev (w := .int 2) (by decide) ?_
  refine lz_sld (vin_T (v := 2) rfl (by decide) (by decide)) dL_law_688 ?_
  refine gz_ev (w := .int (xs 2)) rfl ?_
  refine gz_aload_n dL_law_689 rfl rfl ?_
  refine gz_iload_n dL_law_690 rfl rfl ?_
  refine gz_iconst (v := 3) dL_law_691 (by decide) ?_
  refine gz_iadd dL_law_692 ?_
  refine gz_ev (w := .int 3) (by decide) ?_
  refine lz_sld (vin_T (v := 3) rfl (by decide) (by decide)) dL_law_693 ?_
  refine gz_ev (w := .int (xs 3)) rfl ?_
  refine scL_84 (k_X11_take (x1 := (xs 1)) (x2 := (xs 2)) (x3 := (xs 3)) kx kco) kx ⟨(Nat.le_of_ble_eq_true rfl), (Nat.le_of_ble_eq_true rfl)⟩ ⟨(Nat.le_of_ble_eq_true rfl), (Nat.le_of_ble_eq_true rfl)⟩ rfl rfl (Nat.le_of_ble_eq_true rfl) dL_law_694 ?_
  rintro v9 f9 ⟨z1, z2⟩; rw [z1]
  have hs9 : ∀ y, y ∈ ([] : List Nat) → ∃ e, g y = some e := fun y hy => absurd hy List.not_mem_nil
  have hS9 := mS_fr hS hm ha z2 hs9
  refine gz_aload_n dL_law_697 rfl rfl ?_
  refine gz_aload_n dL_law_698 rfl rfl ?_
  refine gz_iload_n dL_law_699 rfl rfl ?_
  refine gz_iconst (v := 1) dL_law_700 (by decide) ?_
  refine gz_iadd dL_law_701 ?_
  refine gz_ev (w := .int 1) (by decide) ?_
  refine lz_sld (vin_T (v := 1) rfl (by decide) (by decide)) dL_law_702 ?_
  refine gz_ev (w := .int (xs 1)) rfl ?_
  refine gz_aload_n dL_law_703 rfl rfl ?_
  refine gz_iload_n dL_law_704 rfl rfl ?_
  refine gz_iconst (v := 2) dL_law_705 (by decide) ?_
  refine gz_iadd dL_law_706 ?_
  refine gz_ev (w := .int 2) (by decide) ?_
  refine lz_sld (vin_T (v := 2) rfl (by decide) (by decide)) dL_law_707 ?_
  refine gz_ev (w := .int (xs 2)) rfl ?_
  refine gz_aload_n dL_law_708 rfl rfl ?_
  refine gz_iload_n dL_law_709 rfl rfl ?_
  refine gz_iconst (v := 3) dL_law_710 (by decide) ?_
  refine gz_iadd dL_law_711 ?_
  refine gz_ev (w := .int 3) (by decide) ?_
  refine lz_sld (vin_T (v := 3) rfl (by decide) (by decide)) dL_law_712 ?_
  refine gz_ev (w := .int (xs 3)) rfl ?_
  refine scL_87 (k_X12_take (x1 := (xs 1)) (x2 := (xs 2)) (x3 := (xs 3)) hS9 h30) hS9.1 ⟨(Nat.le_of_ble_eq_true rfl), (Nat.le_of_ble_eq_true rfl)⟩ ⟨(Nat.le_of_ble_eq_true rfl), (Nat.le_of_ble_eq_true rfl)⟩ rfl rfl (Nat.le_of_ble_eq_true rfl) dL_law_713 ?_
  intro v8 f8 z8; rw [show v8 = _ from z8]
  refine gz_icmp_eq (tgt := 1087) dL_law_716 (by decide) (fun c_716 => ?_) (fun c_716 => ?_)
  ·
    exact lw_end
  · exact absurd rfl c_716

set_option maxHeartbeats 4000000 in
set_option maxRecDepth 100000 in
theorem lw_case_17 {l : Launch} {D : va_G} {cy : Nat → ClassId} {b bs x q1 q2 q3 q4 q5 q6 q7 q8 q9 q10 q11 q12 q13 q14 q15 q16 q17 q18 q19 q20 q21 q22 q23 q24 q25 q26 q27 q28 q29 q30 q31 q32 q33 q34 q35 q36 q37 q38 q39 q40 q41 q42 q43 q44 q45 q46 q47 q48 q49 m : Nat} {xs : Nat → Int32} {nm : String} {f g h0m : gMem} {a : Nat → Nat} {n : Nat → Int32} {z : Nat → Int64} {F : Nat → Nat → Int32} {G : Nat → Nat → Int64} (hA : aW [(x, .inr (11, [.ref q1, .ref q5, .ref q7, .ref q9, .ref q10, .ref q13, .ref q16, .ref q17, .ref q18, .ref q23, .ref q30, .ref q32, .int 0])), (q1, .inr (0, [.ref q2, .ref q3])), (q2, .inl (cy 0, 2400, .inl (fun _ => 0))), (q3, .inr (7, [.ref q4, .int 0])), (q4, .inl (cy 0, 6, .inl (fun _ => 0))), (q5, .inr (9, [.ref q6, .int 0])), (q6, .inl (cy 1, 400, .inl (fun _ => 0))), (q7, .inr (9, [.ref q8, .int 0])), (q8, .inl (cy 1, 480, .inl (fun _ => 0))), (q9, .inl (cy 4, 20, .inr (.inr (.inr (.inr (fun _ => none)))))), (q10, .inr (2, [.ref q11, .ref q12, .int 0, .int 0])), (q11, .inl (cy 0, 520, .inl (fun _ => 0))), (q12, .inl (cy 0, 80, .inl (fun _ => 0))), (q13, .inr (2, [.ref q14, .ref q15, .int 0, .int 0])), (q14, .inl (cy 0, 520, .inl (fun _ => 0))), (q15, .inl (cy 0, 80, .inl (fun _ => 0))), (q16, .inr (6, [.ref q5, .ref q10, .int 0, .int 0])), (q17, .inr (8, [.ref q7])), (q18, .inr (3, [.ref q19, .ref q22])), (q19, .inr (2, [.ref q20, .ref q21, .int 0, .int 0])), (q20, .inl (cy 0, 520, .inl (fun _ => 0))), (q21, .inl (cy 0, 80, .inl (fun _ => 0))), (q22, .inl (cy 0, 40, .inl (fun _ => 0))), (q23, .inr (4, [.ref q24, .int 0, .int 0, .ref q25, .ref q26, .ref q27, .ref q28, .ref q29, .int (-1)])), (q24, .inl (cy 0, 96, .inl (fun _ => 0))), (q25, .inl (cy 2, 8, .inr (.inl (fun _ => 0)))), (q26, .inl (cy 2, 8, .inr (.inl (fun _ => 0)))), (q27, .inl (cy 0, 8, .inl (fun _ => 0))), (q28, .inl (cy 0, 8, .inl (fun _ => 0))), (q29, .inl (cy 2, 8, .inr (.inl (fun _ => 0)))), (q30, .inr (1, [.ref q31, .ref q3, .ref q23, .int 0])), (q31, .inl (cy 5, 40, .inr (.inr (.inr (.inr (fun _ => none)))))), (q32, .inr (10, [.int 1, .ref q33, .ref q34, .ref q35, .ref q36, .ref q3, .ref q37, .int 0, .int 0])), (q33, .inl (cy 0, 3, .inl (upd (fun _ => 0) (Int32.toNatClampNeg 0) 1))), (q34, .inl (cy 0, 18, .inl (fun _ => 0))), (q35, .inl (cy 6, 5, .inr (.inr (.inr (.inr (va_up (va_up (va_up (va_up (va_up (fun _ => none) (Int32.toNatClampNeg 0) (some q40)) (Int32.toNatClampNeg 1) (some q42)) (Int32.toNatClampNeg 2) (some q44)) (Int32.toNatClampNeg 3) (some q46)) (Int32.toNatClampNeg 4) (some q48))))))), (q36, .inl (cy 2, 5, .inr (.inl (fun _ => 0)))), (q37, .inr (2, [.ref q38, .ref q39, .int 0, .int 0])), (q38, .inl (cy 0, 0, .inl (fun _ => 0))), (q39, .inl (cy 0, 0, .inl (fun _ => 0))), (q40, .inr (7, [.ref q41, .int 0])), (q41, .inl (cy 0, 6, .inl (fun _ => 0))), (q42, .inr (7, [.ref q43, .int 0])), (q43, .inl (cy 0, 6, .inl (fun _ => 0))), (q44, .inr (7, [.ref q45, .int 0])), (q45, .inl (cy 0, 6, .inl (fun _ => 0))), (q46, .inr (7, [.ref q47, .int 0])), (q47, .inl (cy 0, 6, .inl (fun _ => 0))), (q48, .inr (7, [.ref q49, .int 0])), (q49, .inl (cy 0, 6, .inl (fun _ => 0)))] f) (hA2 : aW [(x, .inr (11, [.ref q1, .ref q5, .ref q7, .ref q9, .ref q10, .ref q13, .ref q16, .ref q17, .ref q18, .ref q23, .ref q30, .ref q32, .int 0])), (q1, .inr (0, [.ref q2, .ref q3])), (q2, .inl (cy 0, 2400, .inl (fun _ => 0))), (q3, .inr (7, [.ref q4, .int 0])), (q4, .inl (cy 0, 6, .inl (fun _ => 0))), (q5, .inr (9, [.ref q6, .int 0])), (q6, .inl (cy 1, 400, .inl (fun _ => 0))), (q7, .inr (9, [.ref q8, .int 0])), (q8, .inl (cy 1, 480, .inl (fun _ => 0))), (q9, .inl (cy 4, 20, .inr (.inr (.inr (.inr (fun _ => none)))))), (q10, .inr (2, [.ref q11, .ref q12, .int 0, .int 0])), (q11, .inl (cy 0, 520, .inl (fun _ => 0))), (q12, .inl (cy 0, 80, .inl (fun _ => 0))), (q13, .inr (2, [.ref q14, .ref q15, .int 0, .int 0])), (q14, .inl (cy 0, 520, .inl (fun _ => 0))), (q15, .inl (cy 0, 80, .inl (fun _ => 0))), (q16, .inr (6, [.ref q5, .ref q10, .int 0, .int 0])), (q17, .inr (8, [.ref q7])), (q18, .inr (3, [.ref q19, .ref q22])), (q19, .inr (2, [.ref q20, .ref q21, .int 0, .int 0])), (q20, .inl (cy 0, 520, .inl (fun _ => 0))), (q21, .inl (cy 0, 80, .inl (fun _ => 0))), (q22, .inl (cy 0, 40, .inl (fun _ => 0))), (q23, .inr (4, [.ref q24, .int 0, .int 0, .ref q25, .ref q26, .ref q27, .ref q28, .ref q29, .int (-1)])), (q24, .inl (cy 0, 96, .inl (fun _ => 0))), (q25, .inl (cy 2, 8, .inr (.inl (fun _ => 0)))), (q26, .inl (cy 2, 8, .inr (.inl (fun _ => 0)))), (q27, .inl (cy 0, 8, .inl (fun _ => 0))), (q28, .inl (cy 0, 8, .inl (fun _ => 0))), (q29, .inl (cy 2, 8, .inr (.inl (fun _ => 0)))), (q30, .inr (1, [.ref q31, .ref q3, .ref q23, .int 0])), (q31, .inl (cy 5, 40, .inr (.inr (.inr (.inr (fun _ => none)))))), (q32, .inr (10, [.int 1, .ref q33, .ref q34, .ref q35, .ref q36, .ref q3, .ref q37, .int 0, .int 0])), (q33, .inl (cy 0, 3, .inl (upd (fun _ => 0) (Int32.toNatClampNeg 0) 1))), (q34, .inl (cy 0, 18, .inl (fun _ => 0))), (q35, .inl (cy 6, 5, .inr (.inr (.inr (.inr (va_up (va_up (va_up (va_up (va_up (fun _ => none) (Int32.toNatClampNeg 0) (some q40)) (Int32.toNatClampNeg 1) (some q42)) (Int32.toNatClampNeg 2) (some q44)) (Int32.toNatClampNeg 3) (some q46)) (Int32.toNatClampNeg 4) (some q48))))))), (q36, .inl (cy 2, 5, .inr (.inl (fun _ => 0)))), (q37, .inr (2, [.ref q38, .ref q39, .int 0, .int 0])), (q38, .inl (cy 0, 0, .inl (fun _ => 0))), (q39, .inl (cy 0, 0, .inl (fun _ => 0))), (q40, .inr (7, [.ref q41, .int 0])), (q41, .inl (cy 0, 6, .inl (fun _ => 0))), (q42, .inr (7, [.ref q43, .int 0])), (q43, .inl (cy 0, 6, .inl (fun _ => 0))), (q44, .inr (7, [.ref q45, .int 0])), (q45, .inl (cy 0, 6, .inl (fun _ => 0))), (q46, .inr (7, [.ref q47, .int 0])), (q47, .inl (cy 0, 6, .inl (fun _ => 0))), (q48, .inr (7, [.ref q49, .int 0])), (q49, .inl (cy 0, 6, .inl (fun _ => 0)))] g) (hS : mS cy m a h0m n z F G f) (hm : g m = none) (ha : ∀ k, mTy k ≠ 0 → g (a k) = none) (hF : ∀ i, i < 2400 → F 2 i = -10000) (h0 : n 0 = 0) (h1 : n 1 = 0) (h4 : n 4 = 0) (h5 : n 5 = 0) (h30 : n 30 = 0) (h38 : n 38 = 0) (h46 : n 46 = 0) (h53 : n 53 = 1) (h88 : n 88 = 0) (hG : ∀ i, i < 11 → G 27 i ≠ 0) : gG l room_1 lwQf (lwEx bs 6 b xs) D cy b code 4 ret RL nm 119 44855 f 721 [(3, .int 0), (2, .ref m), (1, .ref x), (0, .ref bs)] [] := by
  have kx : f x = some (.inr (11, [.ref q1, .ref q5, .ref q7, .ref q9, .ref q10, .ref q13, .ref q16, .ref q17, .ref q18, .ref q23, .ref q30, .ref q32, .int 0])) := hA.1 0 _ rfl
  have kle : f q23 = some (.inr (4, [.ref q24, .int 0, .int 0, .ref q25, .ref q26, .ref q27, .ref q28, .ref q29, .int (-1)])) := hA.1 23 _ rfl
  refine gz_aload_n dL_law_721 rfl rfl ?_
  refine gz_aload_n dL_law_722 rfl rfl ?_
  refine gz_iload_n dL_law_723 rfl rfl ?_
  refine gz_iconst (v := 1) dL_law_724 (by decide) ?_
  refine gz_iadd dL_law_725 ?_
  refine gz_ev (w := .int 1) (by decide) ?_
  refine lz_sld (vin_T (v := 1) rfl (by decide) (by decide)) dL_law_726 ?_
  refine gz_ev (w := .int (xs 1)) rfl ?_
  refine gz_aload_n dL_law_727 rfl rfl ?_
  refine gz_iload_n dL_law_728 rfl rfl ?_
  refine gz_iconst (v := 2) dL_law_729 (by decide) ?_
  refine gz_iadd dL_law_730 ?_
  refine gz_ev (w := .int 2) (by decide) ?_
  refine lz_sld (vin_T (v := 2) rfl (by decide) (by decide)) dL_law_731 ?_
  refine gz_ev (w := .int (xs 2)) rfl ?_
  refine scL_88 (k_X11_payment (x1 := (xs 1)) (x2 := (xs 2)) kx kle) kx ⟨(Nat.le_of_ble_eq_true rfl), (Nat.le_of_ble_eq_true rfl)⟩ ⟨(Nat.le_of_ble_eq_true rfl), (Nat.le_of_ble_eq_true rfl)⟩ rfl rfl (Nat.le_of_ble_eq_true rfl) dL_law_732 ?_
  rintro v9 f9 ⟨z1, z2⟩; rw [z1]
  have hs9 : ∀ y, y ∈ ([] : List Nat) → ∃ e, g y = some e := fun y hy => absurd hy List.not_mem_nil
  have hS9 := mS_fr hS hm ha z2 hs9
  refine gz_aload_n dL_law_735 rfl rfl ?_
  refine gz_aload_n dL_law_736 rfl rfl ?_
  refine gz_iload_n dL_law_737 rfl rfl ?_
  refine gz_iconst (v := 1) dL_law_738 (by decide) ?_
  refine gz_iadd dL_law_739 ?_
  refine gz_ev (w := .int 1) (by decide) ?_
  refine lz_sld (vin_T (v := 1) rfl (by decide) (by decide)) dL_law_740 ?_
  refine gz_ev (w := .int (xs 1)) rfl ?_
  refine gz_aload_n dL_law_741 rfl rfl ?_
  refine gz_iload_n dL_law_742 rfl rfl ?_
  refine gz_iconst (v := 2) dL_law_743 (by decide) ?_
  refine gz_iadd dL_law_744 ?_
  refine gz_ev (w := .int 2) (by decide) ?_
  refine lz_sld (vin_T (v := 2) rfl (by decide) (by decide)) dL_law_745 ?_
  refine gz_ev (w := .int (xs 2)) rfl ?_
  refine scL_91 (k_X12_payment (x1 := (xs 1)) (x2 := (xs 2)) hS9 h38) hS9.1 ⟨(Nat.le_of_ble_eq_true rfl), (Nat.le_of_ble_eq_true rfl)⟩ ⟨(Nat.le_of_ble_eq_true rfl), (Nat.le_of_ble_eq_true rfl)⟩ rfl rfl (Nat.le_of_ble_eq_true rfl) dL_law_746 ?_
  intro v8 f8 z8; rw [show v8 = _ from z8]
  refine gz_icmp_eq (tgt := 1087) dL_law_749 (by decide) (fun c_749 => ?_) (fun c_749 => ?_)
  ·
    exact lw_end
  · exact absurd rfl c_749

set_option maxHeartbeats 4000000 in
set_option maxRecDepth 100000 in
theorem lw_case_18 {l : Launch} {D : va_G} {cy : Nat → ClassId} {b bs x q1 q2 q3 q4 q5 q6 q7 q8 q9 q10 q11 q12 q13 q14 q15 q16 q17 q18 q19 q20 q21 q22 q23 q24 q25 q26 q27 q28 q29 q30 q31 q32 q33 q34 q35 q36 q37 q38 q39 q40 q41 q42 q43 q44 q45 q46 q47 q48 q49 m : Nat} {xs : Nat → Int32} {nm : String} {f g h0m : gMem} {a : Nat → Nat} {n : Nat → Int32} {z : Nat → Int64} {F : Nat → Nat → Int32} {G : Nat → Nat → Int64} (hA : aW [(x, .inr (11, [.ref q1, .ref q5, .ref q7, .ref q9, .ref q10, .ref q13, .ref q16, .ref q17, .ref q18, .ref q23, .ref q30, .ref q32, .int 0])), (q1, .inr (0, [.ref q2, .ref q3])), (q2, .inl (cy 0, 2400, .inl (fun _ => 0))), (q3, .inr (7, [.ref q4, .int 0])), (q4, .inl (cy 0, 6, .inl (fun _ => 0))), (q5, .inr (9, [.ref q6, .int 0])), (q6, .inl (cy 1, 400, .inl (fun _ => 0))), (q7, .inr (9, [.ref q8, .int 0])), (q8, .inl (cy 1, 480, .inl (fun _ => 0))), (q9, .inl (cy 4, 20, .inr (.inr (.inr (.inr (fun _ => none)))))), (q10, .inr (2, [.ref q11, .ref q12, .int 0, .int 0])), (q11, .inl (cy 0, 520, .inl (fun _ => 0))), (q12, .inl (cy 0, 80, .inl (fun _ => 0))), (q13, .inr (2, [.ref q14, .ref q15, .int 0, .int 0])), (q14, .inl (cy 0, 520, .inl (fun _ => 0))), (q15, .inl (cy 0, 80, .inl (fun _ => 0))), (q16, .inr (6, [.ref q5, .ref q10, .int 0, .int 0])), (q17, .inr (8, [.ref q7])), (q18, .inr (3, [.ref q19, .ref q22])), (q19, .inr (2, [.ref q20, .ref q21, .int 0, .int 0])), (q20, .inl (cy 0, 520, .inl (fun _ => 0))), (q21, .inl (cy 0, 80, .inl (fun _ => 0))), (q22, .inl (cy 0, 40, .inl (fun _ => 0))), (q23, .inr (4, [.ref q24, .int 0, .int 0, .ref q25, .ref q26, .ref q27, .ref q28, .ref q29, .int (-1)])), (q24, .inl (cy 0, 96, .inl (fun _ => 0))), (q25, .inl (cy 2, 8, .inr (.inl (fun _ => 0)))), (q26, .inl (cy 2, 8, .inr (.inl (fun _ => 0)))), (q27, .inl (cy 0, 8, .inl (fun _ => 0))), (q28, .inl (cy 0, 8, .inl (fun _ => 0))), (q29, .inl (cy 2, 8, .inr (.inl (fun _ => 0)))), (q30, .inr (1, [.ref q31, .ref q3, .ref q23, .int 0])), (q31, .inl (cy 5, 40, .inr (.inr (.inr (.inr (fun _ => none)))))), (q32, .inr (10, [.int 1, .ref q33, .ref q34, .ref q35, .ref q36, .ref q3, .ref q37, .int 0, .int 0])), (q33, .inl (cy 0, 3, .inl (upd (fun _ => 0) (Int32.toNatClampNeg 0) 1))), (q34, .inl (cy 0, 18, .inl (fun _ => 0))), (q35, .inl (cy 6, 5, .inr (.inr (.inr (.inr (va_up (va_up (va_up (va_up (va_up (fun _ => none) (Int32.toNatClampNeg 0) (some q40)) (Int32.toNatClampNeg 1) (some q42)) (Int32.toNatClampNeg 2) (some q44)) (Int32.toNatClampNeg 3) (some q46)) (Int32.toNatClampNeg 4) (some q48))))))), (q36, .inl (cy 2, 5, .inr (.inl (fun _ => 0)))), (q37, .inr (2, [.ref q38, .ref q39, .int 0, .int 0])), (q38, .inl (cy 0, 0, .inl (fun _ => 0))), (q39, .inl (cy 0, 0, .inl (fun _ => 0))), (q40, .inr (7, [.ref q41, .int 0])), (q41, .inl (cy 0, 6, .inl (fun _ => 0))), (q42, .inr (7, [.ref q43, .int 0])), (q43, .inl (cy 0, 6, .inl (fun _ => 0))), (q44, .inr (7, [.ref q45, .int 0])), (q45, .inl (cy 0, 6, .inl (fun _ => 0))), (q46, .inr (7, [.ref q47, .int 0])), (q47, .inl (cy 0, 6, .inl (fun _ => 0))), (q48, .inr (7, [.ref q49, .int 0])), (q49, .inl (cy 0, 6, .inl (fun _ => 0)))] f) (hA2 : aW [(x, .inr (11, [.ref q1, .ref q5, .ref q7, .ref q9, .ref q10, .ref q13, .ref q16, .ref q17, .ref q18, .ref q23, .ref q30, .ref q32, .int 0])), (q1, .inr (0, [.ref q2, .ref q3])), (q2, .inl (cy 0, 2400, .inl (fun _ => 0))), (q3, .inr (7, [.ref q4, .int 0])), (q4, .inl (cy 0, 6, .inl (fun _ => 0))), (q5, .inr (9, [.ref q6, .int 0])), (q6, .inl (cy 1, 400, .inl (fun _ => 0))), (q7, .inr (9, [.ref q8, .int 0])), (q8, .inl (cy 1, 480, .inl (fun _ => 0))), (q9, .inl (cy 4, 20, .inr (.inr (.inr (.inr (fun _ => none)))))), (q10, .inr (2, [.ref q11, .ref q12, .int 0, .int 0])), (q11, .inl (cy 0, 520, .inl (fun _ => 0))), (q12, .inl (cy 0, 80, .inl (fun _ => 0))), (q13, .inr (2, [.ref q14, .ref q15, .int 0, .int 0])), (q14, .inl (cy 0, 520, .inl (fun _ => 0))), (q15, .inl (cy 0, 80, .inl (fun _ => 0))), (q16, .inr (6, [.ref q5, .ref q10, .int 0, .int 0])), (q17, .inr (8, [.ref q7])), (q18, .inr (3, [.ref q19, .ref q22])), (q19, .inr (2, [.ref q20, .ref q21, .int 0, .int 0])), (q20, .inl (cy 0, 520, .inl (fun _ => 0))), (q21, .inl (cy 0, 80, .inl (fun _ => 0))), (q22, .inl (cy 0, 40, .inl (fun _ => 0))), (q23, .inr (4, [.ref q24, .int 0, .int 0, .ref q25, .ref q26, .ref q27, .ref q28, .ref q29, .int (-1)])), (q24, .inl (cy 0, 96, .inl (fun _ => 0))), (q25, .inl (cy 2, 8, .inr (.inl (fun _ => 0)))), (q26, .inl (cy 2, 8, .inr (.inl (fun _ => 0)))), (q27, .inl (cy 0, 8, .inl (fun _ => 0))), (q28, .inl (cy 0, 8, .inl (fun _ => 0))), (q29, .inl (cy 2, 8, .inr (.inl (fun _ => 0)))), (q30, .inr (1, [.ref q31, .ref q3, .ref q23, .int 0])), (q31, .inl (cy 5, 40, .inr (.inr (.inr (.inr (fun _ => none)))))), (q32, .inr (10, [.int 1, .ref q33, .ref q34, .ref q35, .ref q36, .ref q3, .ref q37, .int 0, .int 0])), (q33, .inl (cy 0, 3, .inl (upd (fun _ => 0) (Int32.toNatClampNeg 0) 1))), (q34, .inl (cy 0, 18, .inl (fun _ => 0))), (q35, .inl (cy 6, 5, .inr (.inr (.inr (.inr (va_up (va_up (va_up (va_up (va_up (fun _ => none) (Int32.toNatClampNeg 0) (some q40)) (Int32.toNatClampNeg 1) (some q42)) (Int32.toNatClampNeg 2) (some q44)) (Int32.toNatClampNeg 3) (some q46)) (Int32.toNatClampNeg 4) (some q48))))))), (q36, .inl (cy 2, 5, .inr (.inl (fun _ => 0)))), (q37, .inr (2, [.ref q38, .ref q39, .int 0, .int 0])), (q38, .inl (cy 0, 0, .inl (fun _ => 0))), (q39, .inl (cy 0, 0, .inl (fun _ => 0))), (q40, .inr (7, [.ref q41, .int 0])), (q41, .inl (cy 0, 6, .inl (fun _ => 0))), (q42, .inr (7, [.ref q43, .int 0])), (q43, .inl (cy 0, 6, .inl (fun _ => 0))), (q44, .inr (7, [.ref q45, .int 0])), (q45, .inl (cy 0, 6, .inl (fun _ => 0))), (q46, .inr (7, [.ref q47, .int 0])), (q47, .inl (cy 0, 6, .inl (fun _ => 0))), (q48, .inr (7, [.ref q49, .int 0])), (q49, .inl (cy 0, 6, .inl (fun _ => 0)))] g) (hS : mS cy m a h0m n z F G f) (hm : g m = none) (ha : ∀ k, mTy k ≠ 0 → g (a k) = none) (hF : ∀ i, i < 2400 → F 2 i = -10000) (h0 : n 0 = 0) (h1 : n 1 = 0) (h4 : n 4 = 0) (h5 : n 5 = 0) (h30 : n 30 = 0) (h38 : n 38 = 0) (h46 : n 46 = 0) (h53 : n 53 = 1) (h88 : n 88 = 0) (hG : ∀ i, i < 11 → G 27 i ≠ 0) : gG l room_1 lwQf (lwEx bs 6 b xs) D cy b code 4 ret RL nm 119 44855 f 754 [(3, .int 0), (2, .ref m), (1, .ref x), (0, .ref bs)] [] := by
  have kx : f x = some (.inr (11, [.ref q1, .ref q5, .ref q7, .ref q9, .ref q10, .ref q13, .ref q16, .ref q17, .ref q18, .ref q23, .ref q30, .ref q32, .int 0])) := hA.1 0 _ rfl
  have kco : f q30 = some (.inr (1, [.ref q31, .ref q3, .ref q23, .int 0])) := hA.1 30 _ rfl
  refine gz_aload_n dL_law_754 rfl rfl ?_
  refine gz_aload_n dL_law_755 rfl rfl ?_
  refine gz_iload_n dL_law_756 rfl rfl ?_
  refine gz_iconst (v := 1) dL_law_757 (by decide) ?_
  refine gz_iadd dL_law_758 ?_
  refine gz_ev (w := .int 1) (by decide) ?_
  refine lz_sld (vin_T (v := 1) rfl (by decide) (by decide)) dL_law_759 ?_
  refine gz_ev (w := .int (xs 1)) rfl ?_
  refine scL_92 (k_X11_got (x1 := (xs 1)) kx kco) kx ⟨(Nat.le_of_ble_eq_true rfl), (Nat.le_of_ble_eq_true rfl)⟩ ⟨(Nat.le_of_ble_eq_true rfl), (Nat.le_of_ble_eq_true rfl)⟩ rfl rfl (Nat.le_of_ble_eq_true rfl) dL_law_760 ?_
  rintro v9 f9 ⟨z1, z2⟩; rw [z1]
  have hs9 : ∀ y, y ∈ ([] : List Nat) → ∃ e, g y = some e := fun y hy => absurd hy List.not_mem_nil
  have hS9 := mS_fr hS hm ha z2 hs9
  refine gz_aload_n dL_law_763 rfl rfl ?_
  refine gz_aload_n dL_law_764 rfl rfl ?_
  refine gz_iload_n dL_law_765 rfl rfl ?_
  refine gz_iconst (v := 1) dL_law_766 (by decide) ?_
  refine gz_iadd dL_law_767 ?_
  refine gz_ev (w := .int 1) (by decide) ?_
  refine lz_sld (vin_T (v := 1) rfl (by decide) (by decide)) dL_law_768 ?_
  refine gz_ev (w := .int (xs 1)) rfl ?_
  refine scL_96 (k_X12_got (x1 := (xs 1)) hS9 h30) hS9.1 ⟨(Nat.le_of_ble_eq_true rfl), (Nat.le_of_ble_eq_true rfl)⟩ ⟨(Nat.le_of_ble_eq_true rfl), (Nat.le_of_ble_eq_true rfl)⟩ rfl rfl (Nat.le_of_ble_eq_true rfl) dL_law_769 ?_
  intro v8 f8 z8; rw [show v8 = _ from z8]
  refine gz_lcmp dL_law_772 ?_
  refine gz_ev (w := .int 0) (by decide) ?_
  refine gz_if_eq (tgt := 1087) dL_law_773 (by decide) (fun c_773 => ?_) (fun c_773 => ?_)
  ·
    exact lw_end
  · exact absurd rfl c_773

set_option maxHeartbeats 4000000 in
set_option maxRecDepth 100000 in
theorem lw_case_19 {l : Launch} {D : va_G} {cy : Nat → ClassId} {b bs x q1 q2 q3 q4 q5 q6 q7 q8 q9 q10 q11 q12 q13 q14 q15 q16 q17 q18 q19 q20 q21 q22 q23 q24 q25 q26 q27 q28 q29 q30 q31 q32 q33 q34 q35 q36 q37 q38 q39 q40 q41 q42 q43 q44 q45 q46 q47 q48 q49 m : Nat} {xs : Nat → Int32} {nm : String} {f g h0m : gMem} {a : Nat → Nat} {n : Nat → Int32} {z : Nat → Int64} {F : Nat → Nat → Int32} {G : Nat → Nat → Int64} (hA : aW [(x, .inr (11, [.ref q1, .ref q5, .ref q7, .ref q9, .ref q10, .ref q13, .ref q16, .ref q17, .ref q18, .ref q23, .ref q30, .ref q32, .int 0])), (q1, .inr (0, [.ref q2, .ref q3])), (q2, .inl (cy 0, 2400, .inl (fun _ => 0))), (q3, .inr (7, [.ref q4, .int 0])), (q4, .inl (cy 0, 6, .inl (fun _ => 0))), (q5, .inr (9, [.ref q6, .int 0])), (q6, .inl (cy 1, 400, .inl (fun _ => 0))), (q7, .inr (9, [.ref q8, .int 0])), (q8, .inl (cy 1, 480, .inl (fun _ => 0))), (q9, .inl (cy 4, 20, .inr (.inr (.inr (.inr (fun _ => none)))))), (q10, .inr (2, [.ref q11, .ref q12, .int 0, .int 0])), (q11, .inl (cy 0, 520, .inl (fun _ => 0))), (q12, .inl (cy 0, 80, .inl (fun _ => 0))), (q13, .inr (2, [.ref q14, .ref q15, .int 0, .int 0])), (q14, .inl (cy 0, 520, .inl (fun _ => 0))), (q15, .inl (cy 0, 80, .inl (fun _ => 0))), (q16, .inr (6, [.ref q5, .ref q10, .int 0, .int 0])), (q17, .inr (8, [.ref q7])), (q18, .inr (3, [.ref q19, .ref q22])), (q19, .inr (2, [.ref q20, .ref q21, .int 0, .int 0])), (q20, .inl (cy 0, 520, .inl (fun _ => 0))), (q21, .inl (cy 0, 80, .inl (fun _ => 0))), (q22, .inl (cy 0, 40, .inl (fun _ => 0))), (q23, .inr (4, [.ref q24, .int 0, .int 0, .ref q25, .ref q26, .ref q27, .ref q28, .ref q29, .int (-1)])), (q24, .inl (cy 0, 96, .inl (fun _ => 0))), (q25, .inl (cy 2, 8, .inr (.inl (fun _ => 0)))), (q26, .inl (cy 2, 8, .inr (.inl (fun _ => 0)))), (q27, .inl (cy 0, 8, .inl (fun _ => 0))), (q28, .inl (cy 0, 8, .inl (fun _ => 0))), (q29, .inl (cy 2, 8, .inr (.inl (fun _ => 0)))), (q30, .inr (1, [.ref q31, .ref q3, .ref q23, .int 0])), (q31, .inl (cy 5, 40, .inr (.inr (.inr (.inr (fun _ => none)))))), (q32, .inr (10, [.int 1, .ref q33, .ref q34, .ref q35, .ref q36, .ref q3, .ref q37, .int 0, .int 0])), (q33, .inl (cy 0, 3, .inl (upd (fun _ => 0) (Int32.toNatClampNeg 0) 1))), (q34, .inl (cy 0, 18, .inl (fun _ => 0))), (q35, .inl (cy 6, 5, .inr (.inr (.inr (.inr (va_up (va_up (va_up (va_up (va_up (fun _ => none) (Int32.toNatClampNeg 0) (some q40)) (Int32.toNatClampNeg 1) (some q42)) (Int32.toNatClampNeg 2) (some q44)) (Int32.toNatClampNeg 3) (some q46)) (Int32.toNatClampNeg 4) (some q48))))))), (q36, .inl (cy 2, 5, .inr (.inl (fun _ => 0)))), (q37, .inr (2, [.ref q38, .ref q39, .int 0, .int 0])), (q38, .inl (cy 0, 0, .inl (fun _ => 0))), (q39, .inl (cy 0, 0, .inl (fun _ => 0))), (q40, .inr (7, [.ref q41, .int 0])), (q41, .inl (cy 0, 6, .inl (fun _ => 0))), (q42, .inr (7, [.ref q43, .int 0])), (q43, .inl (cy 0, 6, .inl (fun _ => 0))), (q44, .inr (7, [.ref q45, .int 0])), (q45, .inl (cy 0, 6, .inl (fun _ => 0))), (q46, .inr (7, [.ref q47, .int 0])), (q47, .inl (cy 0, 6, .inl (fun _ => 0))), (q48, .inr (7, [.ref q49, .int 0])), (q49, .inl (cy 0, 6, .inl (fun _ => 0)))] f) (hA2 : aW [(x, .inr (11, [.ref q1, .ref q5, .ref q7, .ref q9, .ref q10, .ref q13, .ref q16, .ref q17, .ref q18, .ref q23, .ref q30, .ref q32, .int 0])), (q1, .inr (0, [.ref q2, .ref q3])), (q2, .inl (cy 0, 2400, .inl (fun _ => 0))), (q3, .inr (7, [.ref q4, .int 0])), (q4, .inl (cy 0, 6, .inl (fun _ => 0))), (q5, .inr (9, [.ref q6, .int 0])), (q6, .inl (cy 1, 400, .inl (fun _ => 0))), (q7, .inr (9, [.ref q8, .int 0])), (q8, .inl (cy 1, 480, .inl (fun _ => 0))), (q9, .inl (cy 4, 20, .inr (.inr (.inr (.inr (fun _ => none)))))), (q10, .inr (2, [.ref q11, .ref q12, .int 0, .int 0])), (q11, .inl (cy 0, 520, .inl (fun _ => 0))), (q12, .inl (cy 0, 80, .inl (fun _ => 0))), (q13, .inr (2, [.ref q14, .ref q15, .int 0, .int 0])), (q14, .inl (cy 0, 520, .inl (fun _ => 0))), (q15, .inl (cy 0, 80, .inl (fun _ => 0))), (q16, .inr (6, [.ref q5, .ref q10, .int 0, .int 0])), (q17, .inr (8, [.ref q7])), (q18, .inr (3, [.ref q19, .ref q22])), (q19, .inr (2, [.ref q20, .ref q21, .int 0, .int 0])), (q20, .inl (cy 0, 520, .inl (fun _ => 0))), (q21, .inl (cy 0, 80, .inl (fun _ => 0))), (q22, .inl (cy 0, 40, .inl (fun _ => 0))), (q23, .inr (4, [.ref q24, .int 0, .int 0, .ref q25, .ref q26, .ref q27, .ref q28, .ref q29, .int (-1)])), (q24, .inl (cy 0, 96, .inl (fun _ => 0))), (q25, .inl (cy 2, 8, .inr (.inl (fun _ => 0)))), (q26, .inl (cy 2, 8, .inr (.inl (fun _ => 0)))), (q27, .inl (cy 0, 8, .inl (fun _ => 0))), (q28, .inl (cy 0, 8, .inl (fun _ => 0))), (q29, .inl (cy 2, 8, .inr (.inl (fun _ => 0)))), (q30, .inr (1, [.ref q31, .ref q3, .ref q23, .int 0])), (q31, .inl (cy 5, 40, .inr (.inr (.inr (.inr (fun _ => none)))))), (q32, .inr (10, [.int 1, .ref q33, .ref q34, .ref q35, .ref q36, .ref q3, .ref q37, .int 0, .int 0])), (q33, .inl (cy 0, 3, .inl (upd (fun _ => 0) (Int32.toNatClampNeg 0) 1))), (q34, .inl (cy 0, 18, .inl (fun _ => 0))), (q35, .inl (cy 6, 5, .inr (.inr (.inr (.inr (va_up (va_up (va_up (va_up (va_up (fun _ => none) (Int32.toNatClampNeg 0) (some q40)) (Int32.toNatClampNeg 1) (some q42)) (Int32.toNatClampNeg 2) (some q44)) (Int32.toNatClampNeg 3) (some q46)) (Int32.toNatClampNeg 4) (some q48))))))), (q36, .inl (cy 2, 5, .inr (.inl (fun _ => 0)))), (q37, .inr (2, [.ref q38, .ref q39, .int 0, .int 0])), (q38, .inl (cy 0, 0, .inl (fun _ => 0))), (q39, .inl (cy 0, 0, .inl (fun _ => 0))), (q40, .inr (7, [.ref q41, .int 0])), (q41, .inl (cy 0, 6, .inl (fun _ => 0))), (q42, .inr (7, [.ref q43, .int 0])), (q43, .inl (cy 0, 6, .inl (fun _ => 0))), (q44, .inr (7, [.ref q45, .int 0])), (q45, .inl (cy 0, 6, .inl (fun _ => 0))), (q46, .inr (7, [.ref q47, .int 0])), (q47, .inl (cy 0, 6, .inl (fun _ => 0))), (q48, .inr (7, [.ref q49, .int 0])), (q49, .inl (cy 0, 6, .inl (fun _ => 0)))] g) (hS : mS cy m a h0m n z F G f) (hm : g m = none) (ha : ∀ k, mTy k ≠ 0 → g (a k) = none) (hF : ∀ i, i < 2400 → F 2 i = -10000) (h0 : n 0 = 0) (h1 : n 1 = 0) (h4 : n 4 = 0) (h5 : n 5 = 0) (h30 : n 30 = 0) (h38 : n 38 = 0) (h46 : n 46 = 0) (h53 : n 53 = 1) (h88 : n 88 = 0) (hG : ∀ i, i < 11 → G 27 i ≠ 0) : gG l room_1 lwQf (lwEx bs 6 b xs) D cy b code 4 ret RL nm 119 44855 f 778 [(3, .int 0), (2, .ref m), (1, .ref x), (0, .ref bs)] [] := by
  have kx : f x = some (.inr (11, [.ref q1, .ref q5, .ref q7, .ref q9, .ref q10, .ref q13, .ref q16, .ref q17, .ref q18, .ref q23, .ref q30, .ref q32, .int 0])) := hA.1 0 _ rfl
  have kle : f q23 = some (.inr (4, [.ref q24, .int 0, .int 0, .ref q25, .ref q26, .ref q27, .ref q28, .ref q29, .int (-1)])) := hA.1 23 _ rfl
  have kge : f q25 = some (.inl (cy 2, 8, .inr (.inl (fun _ => 0)))) := hA.1 25 _ rfl
  have kre : f q26 = some (.inl (cy 2, 8, .inr (.inl (fun _ => 0)))) := hA.1 26 _ rfl
  have nge : q25 ≠ q26 := fun q => absurd (hA.2 25 26 _ _ rfl rfl q) (by decide)
  refine gz_aload_n dL_law_778 rfl rfl ?_
  refine gz_aload_n dL_law_779 rfl rfl ?_
  refine gz_iload_n dL_law_780 rfl rfl ?_
  refine gz_iconst (v := 1) dL_law_781 (by decide) ?_
  refine gz_iadd dL_law_782 ?_
  refine gz_ev (w := .int 1) (by decide) ?_
  refine lz_sld (vin_T (v := 1) rfl (by decide) (by decide)) dL_law_783 ?_
  refine gz_ev (w := .int (xs 1)) rfl ?_
  refine scL_97 (k_X11_net (x1 := (xs 1)) kx kle kge kre nge) kx ⟨(Nat.le_of_ble_eq_true rfl), (Nat.le_of_ble_eq_true rfl)⟩ ⟨(Nat.le_of_ble_eq_true rfl), (Nat.le_of_ble_eq_true rfl)⟩ rfl rfl (Nat.le_of_ble_eq_true rfl) dL_law_784 ?_
  rintro v9 f9 ⟨z1, z2⟩; rw [z1]
  have hs9 : ∀ y, y ∈ [q23, q25, q26] → ∃ e, g y = some e := by
    intro y hy; simp only [List.mem_cons, List.not_mem_nil, or_false] at hy; rcases hy with rfl | rfl | rfl
    · exact ⟨_, hA2.1 23 _ rfl⟩
    · exact ⟨_, hA2.1 25 _ rfl⟩
    · exact ⟨_, hA2.1 26 _ rfl⟩
  have hS9 := mS_fr hS hm ha z2 hs9
  refine gz_aload_n dL_law_787 rfl rfl ?_
  refine gz_aload_n dL_law_788 rfl rfl ?_
  refine gz_iload_n dL_law_789 rfl rfl ?_
  refine gz_iconst (v := 1) dL_law_790 (by decide) ?_
  refine gz_iadd dL_law_791 ?_
  refine gz_ev (w := .int 1) (by decide) ?_
  refine lz_sld (vin_T (v := 1) rfl (by decide) (by decide)) dL_law_792 ?_
  refine gz_ev (w := .int (xs 1)) rfl ?_
  refine scL_100 (k_X12_net (x1 := (xs 1)) hS9 h38) hS9.1 ⟨(Nat.le_of_ble_eq_true rfl), (Nat.le_of_ble_eq_true rfl)⟩ ⟨(Nat.le_of_ble_eq_true rfl), (Nat.le_of_ble_eq_true rfl)⟩ rfl rfl (Nat.le_of_ble_eq_true rfl) dL_law_793 ?_
  intro v8 f8 z8; rw [show v8 = _ from z8]
  refine gz_icmp_eq (tgt := 1087) dL_law_796 (by decide) (fun c_796 => ?_) (fun c_796 => ?_)
  ·
    exact lw_end
  · exact absurd rfl c_796

set_option maxHeartbeats 4000000 in
set_option maxRecDepth 100000 in
theorem lw_case_20 {l : Launch} {D : va_G} {cy : Nat → ClassId} {b bs x q1 q2 q3 q4 q5 q6 q7 q8 q9 q10 q11 q12 q13 q14 q15 q16 q17 q18 q19 q20 q21 q22 q23 q24 q25 q26 q27 q28 q29 q30 q31 q32 q33 q34 q35 q36 q37 q38 q39 q40 q41 q42 q43 q44 q45 q46 q47 q48 q49 m : Nat} {xs : Nat → Int32} {nm : String} {f g h0m : gMem} {a : Nat → Nat} {n : Nat → Int32} {z : Nat → Int64} {F : Nat → Nat → Int32} {G : Nat → Nat → Int64} (hA : aW [(x, .inr (11, [.ref q1, .ref q5, .ref q7, .ref q9, .ref q10, .ref q13, .ref q16, .ref q17, .ref q18, .ref q23, .ref q30, .ref q32, .int 0])), (q1, .inr (0, [.ref q2, .ref q3])), (q2, .inl (cy 0, 2400, .inl (fun _ => 0))), (q3, .inr (7, [.ref q4, .int 0])), (q4, .inl (cy 0, 6, .inl (fun _ => 0))), (q5, .inr (9, [.ref q6, .int 0])), (q6, .inl (cy 1, 400, .inl (fun _ => 0))), (q7, .inr (9, [.ref q8, .int 0])), (q8, .inl (cy 1, 480, .inl (fun _ => 0))), (q9, .inl (cy 4, 20, .inr (.inr (.inr (.inr (fun _ => none)))))), (q10, .inr (2, [.ref q11, .ref q12, .int 0, .int 0])), (q11, .inl (cy 0, 520, .inl (fun _ => 0))), (q12, .inl (cy 0, 80, .inl (fun _ => 0))), (q13, .inr (2, [.ref q14, .ref q15, .int 0, .int 0])), (q14, .inl (cy 0, 520, .inl (fun _ => 0))), (q15, .inl (cy 0, 80, .inl (fun _ => 0))), (q16, .inr (6, [.ref q5, .ref q10, .int 0, .int 0])), (q17, .inr (8, [.ref q7])), (q18, .inr (3, [.ref q19, .ref q22])), (q19, .inr (2, [.ref q20, .ref q21, .int 0, .int 0])), (q20, .inl (cy 0, 520, .inl (fun _ => 0))), (q21, .inl (cy 0, 80, .inl (fun _ => 0))), (q22, .inl (cy 0, 40, .inl (fun _ => 0))), (q23, .inr (4, [.ref q24, .int 0, .int 0, .ref q25, .ref q26, .ref q27, .ref q28, .ref q29, .int (-1)])), (q24, .inl (cy 0, 96, .inl (fun _ => 0))), (q25, .inl (cy 2, 8, .inr (.inl (fun _ => 0)))), (q26, .inl (cy 2, 8, .inr (.inl (fun _ => 0)))), (q27, .inl (cy 0, 8, .inl (fun _ => 0))), (q28, .inl (cy 0, 8, .inl (fun _ => 0))), (q29, .inl (cy 2, 8, .inr (.inl (fun _ => 0)))), (q30, .inr (1, [.ref q31, .ref q3, .ref q23, .int 0])), (q31, .inl (cy 5, 40, .inr (.inr (.inr (.inr (fun _ => none)))))), (q32, .inr (10, [.int 1, .ref q33, .ref q34, .ref q35, .ref q36, .ref q3, .ref q37, .int 0, .int 0])), (q33, .inl (cy 0, 3, .inl (upd (fun _ => 0) (Int32.toNatClampNeg 0) 1))), (q34, .inl (cy 0, 18, .inl (fun _ => 0))), (q35, .inl (cy 6, 5, .inr (.inr (.inr (.inr (va_up (va_up (va_up (va_up (va_up (fun _ => none) (Int32.toNatClampNeg 0) (some q40)) (Int32.toNatClampNeg 1) (some q42)) (Int32.toNatClampNeg 2) (some q44)) (Int32.toNatClampNeg 3) (some q46)) (Int32.toNatClampNeg 4) (some q48))))))), (q36, .inl (cy 2, 5, .inr (.inl (fun _ => 0)))), (q37, .inr (2, [.ref q38, .ref q39, .int 0, .int 0])), (q38, .inl (cy 0, 0, .inl (fun _ => 0))), (q39, .inl (cy 0, 0, .inl (fun _ => 0))), (q40, .inr (7, [.ref q41, .int 0])), (q41, .inl (cy 0, 6, .inl (fun _ => 0))), (q42, .inr (7, [.ref q43, .int 0])), (q43, .inl (cy 0, 6, .inl (fun _ => 0))), (q44, .inr (7, [.ref q45, .int 0])), (q45, .inl (cy 0, 6, .inl (fun _ => 0))), (q46, .inr (7, [.ref q47, .int 0])), (q47, .inl (cy 0, 6, .inl (fun _ => 0))), (q48, .inr (7, [.ref q49, .int 0])), (q49, .inl (cy 0, 6, .inl (fun _ => 0)))] f) (hA2 : aW [(x, .inr (11, [.ref q1, .ref q5, .ref q7, .ref q9, .ref q10, .ref q13, .ref q16, .ref q17, .ref q18, .ref q23, .ref q30, .ref q32, .int 0])), (q1, .inr (0, [.ref q2, .ref q3])), (q2, .inl (cy 0, 2400, .inl (fun _ => 0))), (q3, .inr (7, [.ref q4, .int 0])), (q4, .inl (cy 0, 6, .inl (fun _ => 0))), (q5, .inr (9, [.ref q6, .int 0])), (q6, .inl (cy 1, 400, .inl (fun _ => 0))), (q7, .inr (9, [.ref q8, .int 0])), (q8, .inl (cy 1, 480, .inl (fun _ => 0))), (q9, .inl (cy 4, 20, .inr (.inr (.inr (.inr (fun _ => none)))))), (q10, .inr (2, [.ref q11, .ref q12, .int 0, .int 0])), (q11, .inl (cy 0, 520, .inl (fun _ => 0))), (q12, .inl (cy 0, 80, .inl (fun _ => 0))), (q13, .inr (2, [.ref q14, .ref q15, .int 0, .int 0])), (q14, .inl (cy 0, 520, .inl (fun _ => 0))), (q15, .inl (cy 0, 80, .inl (fun _ => 0))), (q16, .inr (6, [.ref q5, .ref q10, .int 0, .int 0])), (q17, .inr (8, [.ref q7])), (q18, .inr (3, [.ref q19, .ref q22])), (q19, .inr (2, [.ref q20, .ref q21, .int 0, .int 0])), (q20, .inl (cy 0, 520, .inl (fun _ => 0))), (q21, .inl (cy 0, 80, .inl (fun _ => 0))), (q22, .inl (cy 0, 40, .inl (fun _ => 0))), (q23, .inr (4, [.ref q24, .int 0, .int 0, .ref q25, .ref q26, .ref q27, .ref q28, .ref q29, .int (-1)])), (q24, .inl (cy 0, 96, .inl (fun _ => 0))), (q25, .inl (cy 2, 8, .inr (.inl (fun _ => 0)))), (q26, .inl (cy 2, 8, .inr (.inl (fun _ => 0)))), (q27, .inl (cy 0, 8, .inl (fun _ => 0))), (q28, .inl (cy 0, 8, .inl (fun _ => 0))), (q29, .inl (cy 2, 8, .inr (.inl (fun _ => 0)))), (q30, .inr (1, [.ref q31, .ref q3, .ref q23, .int 0])), (q31, .inl (cy 5, 40, .inr (.inr (.inr (.inr (fun _ => none)))))), (q32, .inr (10, [.int 1, .ref q33, .ref q34, .ref q35, .ref q36, .ref q3, .ref q37, .int 0, .int 0])), (q33, .inl (cy 0, 3, .inl (upd (fun _ => 0) (Int32.toNatClampNeg 0) 1))), (q34, .inl (cy 0, 18, .inl (fun _ => 0))), (q35, .inl (cy 6, 5, .inr (.inr (.inr (.inr (va_up (va_up (va_up (va_up (va_up (fun _ => none) (Int32.toNatClampNeg 0) (some q40)) (Int32.toNatClampNeg 1) (some q42)) (Int32.toNatClampNeg 2) (some q44)) (Int32.toNatClampNeg 3) (some q46)) (Int32.toNatClampNeg 4) (some q48))))))), (q36, .inl (cy 2, 5, .inr (.inl (fun _ => 0)))), (q37, .inr (2, [.ref q38, .ref q39, .int 0, .int 0])), (q38, .inl (cy 0, 0, .inl (fun _ => 0))), (q39, .inl (cy 0, 0, .inl (fun _ => 0))), (q40, .inr (7, [.ref q41, .int 0])), (q41, .inl (cy 0, 6, .inl (fun _ => 0))), (q42, .inr (7, [.ref q43, .int 0])), (q43, .inl (cy 0, 6, .inl (fun _ => 0))), (q44, .inr (7, [.ref q45, .int 0])), (q45, .inl (cy 0, 6, .inl (fun _ => 0))), (q46, .inr (7, [.ref q47, .int 0])), (q47, .inl (cy 0, 6, .inl (fun _ => 0))), (q48, .inr (7, [.ref q49, .int 0])), (q49, .inl (cy 0, 6, .inl (fun _ => 0)))] g) (hS : mS cy m a h0m n z F G f) (hm : g m = none) (ha : ∀ k, mTy k ≠ 0 → g (a k) = none) (hF : ∀ i, i < 2400 → F 2 i = -10000) (h0 : n 0 = 0) (h1 : n 1 = 0) (h4 : n 4 = 0) (h5 : n 5 = 0) (h30 : n 30 = 0) (h38 : n 38 = 0) (h46 : n 46 = 0) (h53 : n 53 = 1) (h88 : n 88 = 0) (hG : ∀ i, i < 11 → G 27 i ≠ 0) : gG l room_1 lwQf (lwEx bs 6 b xs) D cy b code 4 ret RL nm 119 44855 f 801 [(3, .int 0), (2, .ref m), (1, .ref x), (0, .ref bs)] [] := by
  have kx : f x = some (.inr (11, [.ref q1, .ref q5, .ref q7, .ref q9, .ref q10, .ref q13, .ref q16, .ref q17, .ref q18, .ref q23, .ref q30, .ref q32, .int 0])) := hA.1 0 _ rfl
  have kle : f q23 = some (.inr (4, [.ref q24, .int 0, .int 0, .ref q25, .ref q26, .ref q27, .ref q28, .ref q29, .int (-1)])) := hA.1 23 _ rfl
  refine gz_aload_n dL_law_801 rfl rfl ?_
  refine gz_aload_n dL_law_802 rfl rfl ?_
  refine gz_iload_n dL_law_803 rfl rfl ?_
  refine gz_iconst (v := 1) dL_law_804 (by decide) ?_
  refine gz_iadd dL_law_805 ?_
  refine gz_ev (w := .int 1) (by decide) ?_
  refine lz_sld (vin_T (v := 1) rfl (by decide) (by decide)) dL_law_806 ?_
  refine gz_ev (w := .int (xs 1)) rfl ?_
  refine gz_aload_n dL_law_807 rfl rfl ?_
  refine gz_iload_n dL_law_808 rfl rfl ?_
  refine gz_iconst (v := 2) dL_law_809 (by decide) ?_
  refine gz_iadd dL_law_810 ?_
  refine gz_ev (w := .int 2) (by decide) ?_
  refine lz_sld (vin_T (v := 2) rfl (by decide) (by decide)) dL_law_811 ?_
  refine gz_ev (w := .int (xs 2)) rfl ?_
  refine scL_101 (k_X11_netted (x1 := (xs 1)) (x2 := (xs 2)) kx kle) kx ⟨(Nat.le_of_ble_eq_true rfl), (Nat.le_of_ble_eq_true rfl)⟩ ⟨(Nat.le_of_ble_eq_true rfl), (Nat.le_of_ble_eq_true rfl)⟩ rfl rfl (Nat.le_of_ble_eq_true rfl) dL_law_812 ?_
  rintro v9 f9 ⟨z1, z2⟩; rw [z1]
  have hs9 : ∀ y, y ∈ ([] : List Nat) → ∃ e, g y = some e := fun y hy => absurd hy List.not_mem_nil
  have hS9 := mS_fr hS hm ha z2 hs9
  refine gz_aload_n dL_law_815 rfl rfl ?_
  refine gz_aload_n dL_law_816 rfl rfl ?_
  refine gz_iload_n dL_law_817 rfl rfl ?_
  refine gz_iconst (v := 1) dL_law_818 (by decide) ?_
  refine gz_iadd dL_law_819 ?_
  refine gz_ev (w := .int 1) (by decide) ?_
  refine lz_sld (vin_T (v := 1) rfl (by decide) (by decide)) dL_law_820 ?_
  refine gz_ev (w := .int (xs 1)) rfl ?_
  refine gz_aload_n dL_law_821 rfl rfl ?_
  refine gz_iload_n dL_law_822 rfl rfl ?_
  refine gz_iconst (v := 2) dL_law_823 (by decide) ?_
  refine gz_iadd dL_law_824 ?_
  refine gz_ev (w := .int 2) (by decide) ?_
  refine lz_sld (vin_T (v := 2) rfl (by decide) (by decide)) dL_law_825 ?_
  refine gz_ev (w := .int (xs 2)) rfl ?_
  refine scL_105 (k_X12_netted (x1 := (xs 1)) (x2 := (xs 2)) hS9 h46) hS9.1 ⟨(Nat.le_of_ble_eq_true rfl), (Nat.le_of_ble_eq_true rfl)⟩ ⟨(Nat.le_of_ble_eq_true rfl), (Nat.le_of_ble_eq_true rfl)⟩ rfl rfl (Nat.le_of_ble_eq_true rfl) dL_law_826 ?_
  intro v8 f8 z8; rw [show v8 = _ from z8]
  refine gz_lcmp dL_law_829 ?_
  refine gz_ev (w := .int 0) (by decide) ?_
  refine gz_if_eq (tgt := 1087) dL_law_830 (by decide) (fun c_830 => ?_) (fun c_830 => ?_)
  ·
    exact lw_end
  · exact absurd rfl c_830

set_option maxHeartbeats 4000000 in
set_option maxRecDepth 100000 in
theorem lw_case_21 {l : Launch} {D : va_G} {cy : Nat → ClassId} {b bs x q1 q2 q3 q4 q5 q6 q7 q8 q9 q10 q11 q12 q13 q14 q15 q16 q17 q18 q19 q20 q21 q22 q23 q24 q25 q26 q27 q28 q29 q30 q31 q32 q33 q34 q35 q36 q37 q38 q39 q40 q41 q42 q43 q44 q45 q46 q47 q48 q49 m : Nat} {xs : Nat → Int32} {nm : String} {f g h0m : gMem} {a : Nat → Nat} {n : Nat → Int32} {z : Nat → Int64} {F : Nat → Nat → Int32} {G : Nat → Nat → Int64} (hA : aW [(x, .inr (11, [.ref q1, .ref q5, .ref q7, .ref q9, .ref q10, .ref q13, .ref q16, .ref q17, .ref q18, .ref q23, .ref q30, .ref q32, .int 0])), (q1, .inr (0, [.ref q2, .ref q3])), (q2, .inl (cy 0, 2400, .inl (fun _ => 0))), (q3, .inr (7, [.ref q4, .int 0])), (q4, .inl (cy 0, 6, .inl (fun _ => 0))), (q5, .inr (9, [.ref q6, .int 0])), (q6, .inl (cy 1, 400, .inl (fun _ => 0))), (q7, .inr (9, [.ref q8, .int 0])), (q8, .inl (cy 1, 480, .inl (fun _ => 0))), (q9, .inl (cy 4, 20, .inr (.inr (.inr (.inr (fun _ => none)))))), (q10, .inr (2, [.ref q11, .ref q12, .int 0, .int 0])), (q11, .inl (cy 0, 520, .inl (fun _ => 0))), (q12, .inl (cy 0, 80, .inl (fun _ => 0))), (q13, .inr (2, [.ref q14, .ref q15, .int 0, .int 0])), (q14, .inl (cy 0, 520, .inl (fun _ => 0))), (q15, .inl (cy 0, 80, .inl (fun _ => 0))), (q16, .inr (6, [.ref q5, .ref q10, .int 0, .int 0])), (q17, .inr (8, [.ref q7])), (q18, .inr (3, [.ref q19, .ref q22])), (q19, .inr (2, [.ref q20, .ref q21, .int 0, .int 0])), (q20, .inl (cy 0, 520, .inl (fun _ => 0))), (q21, .inl (cy 0, 80, .inl (fun _ => 0))), (q22, .inl (cy 0, 40, .inl (fun _ => 0))), (q23, .inr (4, [.ref q24, .int 0, .int 0, .ref q25, .ref q26, .ref q27, .ref q28, .ref q29, .int (-1)])), (q24, .inl (cy 0, 96, .inl (fun _ => 0))), (q25, .inl (cy 2, 8, .inr (.inl (fun _ => 0)))), (q26, .inl (cy 2, 8, .inr (.inl (fun _ => 0)))), (q27, .inl (cy 0, 8, .inl (fun _ => 0))), (q28, .inl (cy 0, 8, .inl (fun _ => 0))), (q29, .inl (cy 2, 8, .inr (.inl (fun _ => 0)))), (q30, .inr (1, [.ref q31, .ref q3, .ref q23, .int 0])), (q31, .inl (cy 5, 40, .inr (.inr (.inr (.inr (fun _ => none)))))), (q32, .inr (10, [.int 1, .ref q33, .ref q34, .ref q35, .ref q36, .ref q3, .ref q37, .int 0, .int 0])), (q33, .inl (cy 0, 3, .inl (upd (fun _ => 0) (Int32.toNatClampNeg 0) 1))), (q34, .inl (cy 0, 18, .inl (fun _ => 0))), (q35, .inl (cy 6, 5, .inr (.inr (.inr (.inr (va_up (va_up (va_up (va_up (va_up (fun _ => none) (Int32.toNatClampNeg 0) (some q40)) (Int32.toNatClampNeg 1) (some q42)) (Int32.toNatClampNeg 2) (some q44)) (Int32.toNatClampNeg 3) (some q46)) (Int32.toNatClampNeg 4) (some q48))))))), (q36, .inl (cy 2, 5, .inr (.inl (fun _ => 0)))), (q37, .inr (2, [.ref q38, .ref q39, .int 0, .int 0])), (q38, .inl (cy 0, 0, .inl (fun _ => 0))), (q39, .inl (cy 0, 0, .inl (fun _ => 0))), (q40, .inr (7, [.ref q41, .int 0])), (q41, .inl (cy 0, 6, .inl (fun _ => 0))), (q42, .inr (7, [.ref q43, .int 0])), (q43, .inl (cy 0, 6, .inl (fun _ => 0))), (q44, .inr (7, [.ref q45, .int 0])), (q45, .inl (cy 0, 6, .inl (fun _ => 0))), (q46, .inr (7, [.ref q47, .int 0])), (q47, .inl (cy 0, 6, .inl (fun _ => 0))), (q48, .inr (7, [.ref q49, .int 0])), (q49, .inl (cy 0, 6, .inl (fun _ => 0)))] f) (hA2 : aW [(x, .inr (11, [.ref q1, .ref q5, .ref q7, .ref q9, .ref q10, .ref q13, .ref q16, .ref q17, .ref q18, .ref q23, .ref q30, .ref q32, .int 0])), (q1, .inr (0, [.ref q2, .ref q3])), (q2, .inl (cy 0, 2400, .inl (fun _ => 0))), (q3, .inr (7, [.ref q4, .int 0])), (q4, .inl (cy 0, 6, .inl (fun _ => 0))), (q5, .inr (9, [.ref q6, .int 0])), (q6, .inl (cy 1, 400, .inl (fun _ => 0))), (q7, .inr (9, [.ref q8, .int 0])), (q8, .inl (cy 1, 480, .inl (fun _ => 0))), (q9, .inl (cy 4, 20, .inr (.inr (.inr (.inr (fun _ => none)))))), (q10, .inr (2, [.ref q11, .ref q12, .int 0, .int 0])), (q11, .inl (cy 0, 520, .inl (fun _ => 0))), (q12, .inl (cy 0, 80, .inl (fun _ => 0))), (q13, .inr (2, [.ref q14, .ref q15, .int 0, .int 0])), (q14, .inl (cy 0, 520, .inl (fun _ => 0))), (q15, .inl (cy 0, 80, .inl (fun _ => 0))), (q16, .inr (6, [.ref q5, .ref q10, .int 0, .int 0])), (q17, .inr (8, [.ref q7])), (q18, .inr (3, [.ref q19, .ref q22])), (q19, .inr (2, [.ref q20, .ref q21, .int 0, .int 0])), (q20, .inl (cy 0, 520, .inl (fun _ => 0))), (q21, .inl (cy 0, 80, .inl (fun _ => 0))), (q22, .inl (cy 0, 40, .inl (fun _ => 0))), (q23, .inr (4, [.ref q24, .int 0, .int 0, .ref q25, .ref q26, .ref q27, .ref q28, .ref q29, .int (-1)])), (q24, .inl (cy 0, 96, .inl (fun _ => 0))), (q25, .inl (cy 2, 8, .inr (.inl (fun _ => 0)))), (q26, .inl (cy 2, 8, .inr (.inl (fun _ => 0)))), (q27, .inl (cy 0, 8, .inl (fun _ => 0))), (q28, .inl (cy 0, 8, .inl (fun _ => 0))), (q29, .inl (cy 2, 8, .inr (.inl (fun _ => 0)))), (q30, .inr (1, [.ref q31, .ref q3, .ref q23, .int 0])), (q31, .inl (cy 5, 40, .inr (.inr (.inr (.inr (fun _ => none)))))), (q32, .inr (10, [.int 1, .ref q33, .ref q34, .ref q35, .ref q36, .ref q3, .ref q37, .int 0, .int 0])), (q33, .inl (cy 0, 3, .inl (upd (fun _ => 0) (Int32.toNatClampNeg 0) 1))), (q34, .inl (cy 0, 18, .inl (fun _ => 0))), (q35, .inl (cy 6, 5, .inr (.inr (.inr (.inr (va_up (va_up (va_up (va_up (va_up (fun _ => none) (Int32.toNatClampNeg 0) (some q40)) (Int32.toNatClampNeg 1) (some q42)) (Int32.toNatClampNeg 2) (some q44)) (Int32.toNatClampNeg 3) (some q46)) (Int32.toNatClampNeg 4) (some q48))))))), (q36, .inl (cy 2, 5, .inr (.inl (fun _ => 0)))), (q37, .inr (2, [.ref q38, .ref q39, .int 0, .int 0])), (q38, .inl (cy 0, 0, .inl (fun _ => 0))), (q39, .inl (cy 0, 0, .inl (fun _ => 0))), (q40, .inr (7, [.ref q41, .int 0])), (q41, .inl (cy 0, 6, .inl (fun _ => 0))), (q42, .inr (7, [.ref q43, .int 0])), (q43, .inl (cy 0, 6, .inl (fun _ => 0))), (q44, .inr (7, [.ref q45, .int 0])), (q45, .inl (cy 0, 6, .inl (fun _ => 0))), (q46, .inr (7, [.ref q47, .int 0])), (q47, .inl (cy 0, 6, .inl (fun _ => 0))), (q48, .inr (7, [.ref q49, .int 0])), (q49, .inl (cy 0, 6, .inl (fun _ => 0)))] g) (hS : mS cy m a h0m n z F G f) (hm : g m = none) (ha : ∀ k, mTy k ≠ 0 → g (a k) = none) (hF : ∀ i, i < 2400 → F 2 i = -10000) (h0 : n 0 = 0) (h1 : n 1 = 0) (h4 : n 4 = 0) (h5 : n 5 = 0) (h30 : n 30 = 0) (h38 : n 38 = 0) (h46 : n 46 = 0) (h53 : n 53 = 1) (h88 : n 88 = 0) (hG : ∀ i, i < 11 → G 27 i ≠ 0) : gG l room_1 lwQf (lwEx bs 6 b xs) D cy b code 4 ret RL nm 119 44855 f 835 [(3, .int 0), (2, .ref m), (1, .ref x), (0, .ref bs)] [] := by
  have kx : f x = some (.inr (11, [.ref q1, .ref q5, .ref q7, .ref q9, .ref q10, .ref q13, .ref q16, .ref q17, .ref q18, .ref q23, .ref q30, .ref q32, .int 0])) := hA.1 0 _ rfl
  have kwo : f q32 = some (.inr (10, [.int 1, .ref q33, .ref q34, .ref q35, .ref q36, .ref q3, .ref q37, .int 0, .int 0])) := hA.1 32 _ rfl
  have kwe : f q33 = some (.inl (cy 0, 3, .inl (upd (fun _ => 0) (Int32.toNatClampNeg 0) 1))) := hA.1 33 _ rfl
  have ksp : f q34 = some (.inl (cy 0, 18, .inl (fun _ => 0))) := hA.1 34 _ rfl
  refine gz_aload_n dL_law_835 rfl rfl ?_
  refine gz_aload_n dL_law_836 rfl rfl ?_
  refine gz_iload_n dL_law_837 rfl rfl ?_
  refine gz_iconst (v := 1) dL_law_838 (by decide) ?_
  refine gz_iadd dL_law_839 ?_
  refine gz_ev (w := .int 1) (by decide) ?_
  refine lz_sld (vin_T (v := 1) rfl (by decide) (by decide)) dL_law_840 ?_
  refine gz_ev (w := .int (xs 1)) rfl ?_
  refine scL_106 (k_X11_ways (x1 := (xs 1)) kx kwo kwe ksp) kx ⟨(Nat.le_of_ble_eq_true rfl), (Nat.le_of_ble_eq_true rfl)⟩ ⟨(Nat.le_of_ble_eq_true rfl), (Nat.le_of_ble_eq_true rfl)⟩ rfl rfl (Nat.le_of_ble_eq_true rfl) dL_law_841 ?_
  rintro v9 f9 ⟨z1, z2⟩; rw [z1]
  have hs9 : ∀ y, y ∈ [q32, q33, q34] → ∃ e, g y = some e := by
    intro y hy; simp only [List.mem_cons, List.not_mem_nil, or_false] at hy; rcases hy with rfl | rfl | rfl
    · exact ⟨_, hA2.1 32 _ rfl⟩
    · exact ⟨_, hA2.1 33 _ rfl⟩
    · exact ⟨_, hA2.1 34 _ rfl⟩
  have hS9 := mS_fr hS hm ha z2 hs9
  refine gz_aload_n dL_law_844 rfl rfl ?_
  refine gz_aload_n dL_law_845 rfl rfl ?_
  refine gz_iload_n dL_law_846 rfl rfl ?_
  refine gz_iconst (v := 1) dL_law_847 (by decide) ?_
  refine gz_iadd dL_law_848 ?_
  refine gz_ev (w := .int 1) (by decide) ?_
  refine lz_sld (vin_T (v := 1) rfl (by decide) (by decide)) dL_law_849 ?_
  refine gz_ev (w := .int (xs 1)) rfl ?_
  refine scL_110 (k_X12_ways (x1 := (xs 1)) hS9 ) hS9.1 ⟨(Nat.le_of_ble_eq_true rfl), (Nat.le_of_ble_eq_true rfl)⟩ ⟨(Nat.le_of_ble_eq_true rfl), (Nat.le_of_ble_eq_true rfl)⟩ rfl rfl (Nat.le_of_ble_eq_true rfl) dL_law_850 ?_
  intro v8 f8 z8; rw [show v8 = _ from z8]
  refine gz_icmp_eq (tgt := 1087) dL_law_853 (by decide) (fun c_853 => ?_) (fun c_853 => ?_)
  ·
    exact lw_end
  · exact absurd rfl c_853

set_option maxHeartbeats 4000000 in
set_option maxRecDepth 100000 in
theorem lw_case_22 {l : Launch} {D : va_G} {cy : Nat → ClassId} {b bs x q1 q2 q3 q4 q5 q6 q7 q8 q9 q10 q11 q12 q13 q14 q15 q16 q17 q18 q19 q20 q21 q22 q23 q24 q25 q26 q27 q28 q29 q30 q31 q32 q33 q34 q35 q36 q37 q38 q39 q40 q41 q42 q43 q44 q45 q46 q47 q48 q49 m : Nat} {xs : Nat → Int32} {nm : String} {f g h0m : gMem} {a : Nat → Nat} {n : Nat → Int32} {z : Nat → Int64} {F : Nat → Nat → Int32} {G : Nat → Nat → Int64} (hA : aW [(x, .inr (11, [.ref q1, .ref q5, .ref q7, .ref q9, .ref q10, .ref q13, .ref q16, .ref q17, .ref q18, .ref q23, .ref q30, .ref q32, .int 0])), (q1, .inr (0, [.ref q2, .ref q3])), (q2, .inl (cy 0, 2400, .inl (fun _ => 0))), (q3, .inr (7, [.ref q4, .int 0])), (q4, .inl (cy 0, 6, .inl (fun _ => 0))), (q5, .inr (9, [.ref q6, .int 0])), (q6, .inl (cy 1, 400, .inl (fun _ => 0))), (q7, .inr (9, [.ref q8, .int 0])), (q8, .inl (cy 1, 480, .inl (fun _ => 0))), (q9, .inl (cy 4, 20, .inr (.inr (.inr (.inr (fun _ => none)))))), (q10, .inr (2, [.ref q11, .ref q12, .int 0, .int 0])), (q11, .inl (cy 0, 520, .inl (fun _ => 0))), (q12, .inl (cy 0, 80, .inl (fun _ => 0))), (q13, .inr (2, [.ref q14, .ref q15, .int 0, .int 0])), (q14, .inl (cy 0, 520, .inl (fun _ => 0))), (q15, .inl (cy 0, 80, .inl (fun _ => 0))), (q16, .inr (6, [.ref q5, .ref q10, .int 0, .int 0])), (q17, .inr (8, [.ref q7])), (q18, .inr (3, [.ref q19, .ref q22])), (q19, .inr (2, [.ref q20, .ref q21, .int 0, .int 0])), (q20, .inl (cy 0, 520, .inl (fun _ => 0))), (q21, .inl (cy 0, 80, .inl (fun _ => 0))), (q22, .inl (cy 0, 40, .inl (fun _ => 0))), (q23, .inr (4, [.ref q24, .int 0, .int 0, .ref q25, .ref q26, .ref q27, .ref q28, .ref q29, .int (-1)])), (q24, .inl (cy 0, 96, .inl (fun _ => 0))), (q25, .inl (cy 2, 8, .inr (.inl (fun _ => 0)))), (q26, .inl (cy 2, 8, .inr (.inl (fun _ => 0)))), (q27, .inl (cy 0, 8, .inl (fun _ => 0))), (q28, .inl (cy 0, 8, .inl (fun _ => 0))), (q29, .inl (cy 2, 8, .inr (.inl (fun _ => 0)))), (q30, .inr (1, [.ref q31, .ref q3, .ref q23, .int 0])), (q31, .inl (cy 5, 40, .inr (.inr (.inr (.inr (fun _ => none)))))), (q32, .inr (10, [.int 1, .ref q33, .ref q34, .ref q35, .ref q36, .ref q3, .ref q37, .int 0, .int 0])), (q33, .inl (cy 0, 3, .inl (upd (fun _ => 0) (Int32.toNatClampNeg 0) 1))), (q34, .inl (cy 0, 18, .inl (fun _ => 0))), (q35, .inl (cy 6, 5, .inr (.inr (.inr (.inr (va_up (va_up (va_up (va_up (va_up (fun _ => none) (Int32.toNatClampNeg 0) (some q40)) (Int32.toNatClampNeg 1) (some q42)) (Int32.toNatClampNeg 2) (some q44)) (Int32.toNatClampNeg 3) (some q46)) (Int32.toNatClampNeg 4) (some q48))))))), (q36, .inl (cy 2, 5, .inr (.inl (fun _ => 0)))), (q37, .inr (2, [.ref q38, .ref q39, .int 0, .int 0])), (q38, .inl (cy 0, 0, .inl (fun _ => 0))), (q39, .inl (cy 0, 0, .inl (fun _ => 0))), (q40, .inr (7, [.ref q41, .int 0])), (q41, .inl (cy 0, 6, .inl (fun _ => 0))), (q42, .inr (7, [.ref q43, .int 0])), (q43, .inl (cy 0, 6, .inl (fun _ => 0))), (q44, .inr (7, [.ref q45, .int 0])), (q45, .inl (cy 0, 6, .inl (fun _ => 0))), (q46, .inr (7, [.ref q47, .int 0])), (q47, .inl (cy 0, 6, .inl (fun _ => 0))), (q48, .inr (7, [.ref q49, .int 0])), (q49, .inl (cy 0, 6, .inl (fun _ => 0)))] f) (hA2 : aW [(x, .inr (11, [.ref q1, .ref q5, .ref q7, .ref q9, .ref q10, .ref q13, .ref q16, .ref q17, .ref q18, .ref q23, .ref q30, .ref q32, .int 0])), (q1, .inr (0, [.ref q2, .ref q3])), (q2, .inl (cy 0, 2400, .inl (fun _ => 0))), (q3, .inr (7, [.ref q4, .int 0])), (q4, .inl (cy 0, 6, .inl (fun _ => 0))), (q5, .inr (9, [.ref q6, .int 0])), (q6, .inl (cy 1, 400, .inl (fun _ => 0))), (q7, .inr (9, [.ref q8, .int 0])), (q8, .inl (cy 1, 480, .inl (fun _ => 0))), (q9, .inl (cy 4, 20, .inr (.inr (.inr (.inr (fun _ => none)))))), (q10, .inr (2, [.ref q11, .ref q12, .int 0, .int 0])), (q11, .inl (cy 0, 520, .inl (fun _ => 0))), (q12, .inl (cy 0, 80, .inl (fun _ => 0))), (q13, .inr (2, [.ref q14, .ref q15, .int 0, .int 0])), (q14, .inl (cy 0, 520, .inl (fun _ => 0))), (q15, .inl (cy 0, 80, .inl (fun _ => 0))), (q16, .inr (6, [.ref q5, .ref q10, .int 0, .int 0])), (q17, .inr (8, [.ref q7])), (q18, .inr (3, [.ref q19, .ref q22])), (q19, .inr (2, [.ref q20, .ref q21, .int 0, .int 0])), (q20, .inl (cy 0, 520, .inl (fun _ => 0))), (q21, .inl (cy 0, 80, .inl (fun _ => 0))), (q22, .inl (cy 0, 40, .inl (fun _ => 0))), (q23, .inr (4, [.ref q24, .int 0, .int 0, .ref q25, .ref q26, .ref q27, .ref q28, .ref q29, .int (-1)])), (q24, .inl (cy 0, 96, .inl (fun _ => 0))), (q25, .inl (cy 2, 8, .inr (.inl (fun _ => 0)))), (q26, .inl (cy 2, 8, .inr (.inl (fun _ => 0)))), (q27, .inl (cy 0, 8, .inl (fun _ => 0))), (q28, .inl (cy 0, 8, .inl (fun _ => 0))), (q29, .inl (cy 2, 8, .inr (.inl (fun _ => 0)))), (q30, .inr (1, [.ref q31, .ref q3, .ref q23, .int 0])), (q31, .inl (cy 5, 40, .inr (.inr (.inr (.inr (fun _ => none)))))), (q32, .inr (10, [.int 1, .ref q33, .ref q34, .ref q35, .ref q36, .ref q3, .ref q37, .int 0, .int 0])), (q33, .inl (cy 0, 3, .inl (upd (fun _ => 0) (Int32.toNatClampNeg 0) 1))), (q34, .inl (cy 0, 18, .inl (fun _ => 0))), (q35, .inl (cy 6, 5, .inr (.inr (.inr (.inr (va_up (va_up (va_up (va_up (va_up (fun _ => none) (Int32.toNatClampNeg 0) (some q40)) (Int32.toNatClampNeg 1) (some q42)) (Int32.toNatClampNeg 2) (some q44)) (Int32.toNatClampNeg 3) (some q46)) (Int32.toNatClampNeg 4) (some q48))))))), (q36, .inl (cy 2, 5, .inr (.inl (fun _ => 0)))), (q37, .inr (2, [.ref q38, .ref q39, .int 0, .int 0])), (q38, .inl (cy 0, 0, .inl (fun _ => 0))), (q39, .inl (cy 0, 0, .inl (fun _ => 0))), (q40, .inr (7, [.ref q41, .int 0])), (q41, .inl (cy 0, 6, .inl (fun _ => 0))), (q42, .inr (7, [.ref q43, .int 0])), (q43, .inl (cy 0, 6, .inl (fun _ => 0))), (q44, .inr (7, [.ref q45, .int 0])), (q45, .inl (cy 0, 6, .inl (fun _ => 0))), (q46, .inr (7, [.ref q47, .int 0])), (q47, .inl (cy 0, 6, .inl (fun _ => 0))), (q48, .inr (7, [.ref q49, .int 0])), (q49, .inl (cy 0, 6, .inl (fun _ => 0)))] g) (hS : mS cy m a h0m n z F G f) (hm : g m = none) (ha : ∀ k, mTy k ≠ 0 → g (a k) = none) (hF : ∀ i, i < 2400 → F 2 i = -10000) (h0 : n 0 = 0) (h1 : n 1 = 0) (h4 : n 4 = 0) (h5 : n 5 = 0) (h30 : n 30 = 0) (h38 : n 38 = 0) (h46 : n 46 = 0) (h53 : n 53 = 1) (h88 : n 88 = 0) (hG : ∀ i, i < 11 → G 27 i ≠ 0) : gG l room_1 lwQf (lwEx bs 6 b xs) D cy b code 4 ret RL nm 119 44855 f 858 [(3, .int 0), (2, .ref m), (1, .ref x), (0, .ref bs)] [] := by
  have kx : f x = some (.inr (11, [.ref q1, .ref q5, .ref q7, .ref q9, .ref q10, .ref q13, .ref q16, .ref q17, .ref q18, .ref q23, .ref q30, .ref q32, .int 0])) := hA.1 0 _ rfl
  have kwo : f q32 = some (.inr (10, [.int 1, .ref q33, .ref q34, .ref q35, .ref q36, .ref q3, .ref q37, .int 0, .int 0])) := hA.1 32 _ rfl
  have kwe : f q33 = some (.inl (cy 0, 3, .inl (upd (fun _ => 0) (Int32.toNatClampNeg 0) 1))) := hA.1 33 _ rfl
  refine gz_aload_n dL_law_858 rfl rfl ?_
  refine gz_aload_n dL_law_859 rfl rfl ?_
  refine gz_iload_n dL_law_860 rfl rfl ?_
  refine gz_iconst (v := 1) dL_law_861 (by decide) ?_
  refine gz_iadd dL_law_862 ?_
  refine gz_ev (w := .int 1) (by decide) ?_
  refine lz_sld (vin_T (v := 1) rfl (by decide) (by decide)) dL_law_863 ?_
  refine gz_ev (w := .int (xs 1)) rfl ?_
  refine gz_aload_n dL_law_864 rfl rfl ?_
  refine gz_iload_n dL_law_865 rfl rfl ?_
  refine gz_iconst (v := 2) dL_law_866 (by decide) ?_
  refine gz_iadd dL_law_867 ?_
  refine gz_ev (w := .int 2) (by decide) ?_
  refine lz_sld (vin_T (v := 2) rfl (by decide) (by decide)) dL_law_868 ?_
  refine gz_ev (w := .int (xs 2)) rfl ?_
  refine scL_111 (k_X11_weight (x1 := (xs 1)) (x2 := (xs 2)) kx kwo kwe) kx ⟨(Nat.le_of_ble_eq_true rfl), (Nat.le_of_ble_eq_true rfl)⟩ ⟨(Nat.le_of_ble_eq_true rfl), (Nat.le_of_ble_eq_true rfl)⟩ rfl rfl (Nat.le_of_ble_eq_true rfl) dL_law_869 ?_
  rintro v9 f9 ⟨z1, z2⟩; rw [z1]
  have hs9 : ∀ y, y ∈ [q33] → ∃ e, g y = some e := by
    intro y hy; simp only [List.mem_cons, List.not_mem_nil, or_false] at hy; rcases hy with rfl
    · exact ⟨_, hA2.1 33 _ rfl⟩
  have hS9 := mS_fr hS hm ha z2 hs9
  refine gz_aload_n dL_law_872 rfl rfl ?_
  refine gz_aload_n dL_law_873 rfl rfl ?_
  refine gz_iload_n dL_law_874 rfl rfl ?_
  refine gz_iconst (v := 1) dL_law_875 (by decide) ?_
  refine gz_iadd dL_law_876 ?_
  refine gz_ev (w := .int 1) (by decide) ?_
  refine lz_sld (vin_T (v := 1) rfl (by decide) (by decide)) dL_law_877 ?_
  refine gz_ev (w := .int (xs 1)) rfl ?_
  refine gz_aload_n dL_law_878 rfl rfl ?_
  refine gz_iload_n dL_law_879 rfl rfl ?_
  refine gz_iconst (v := 2) dL_law_880 (by decide) ?_
  refine gz_iadd dL_law_881 ?_
  refine gz_ev (w := .int 2) (by decide) ?_
  refine lz_sld (vin_T (v := 2) rfl (by decide) (by decide)) dL_law_882 ?_
  refine gz_ev (w := .int (xs 2)) rfl ?_
  refine scL_115 (k_X12_weight (x1 := (xs 1)) (x2 := (xs 2)) hS9 h53) hS9.1 ⟨(Nat.le_of_ble_eq_true rfl), (Nat.le_of_ble_eq_true rfl)⟩ ⟨(Nat.le_of_ble_eq_true rfl), (Nat.le_of_ble_eq_true rfl)⟩ rfl rfl (Nat.le_of_ble_eq_true rfl) dL_law_883 ?_
  intro v8 f8 z8; rw [show v8 = _ from z8]
  refine gz_icmp_eq (tgt := 1087) dL_law_886 (by decide) (fun c_886 => ?_) (fun c_886 => ?_)
  ·
    exact lw_end
  · exact absurd rfl c_886

set_option maxHeartbeats 4000000 in
set_option maxRecDepth 100000 in
theorem lw_case_23 {l : Launch} {D : va_G} {cy : Nat → ClassId} {b bs x q1 q2 q3 q4 q5 q6 q7 q8 q9 q10 q11 q12 q13 q14 q15 q16 q17 q18 q19 q20 q21 q22 q23 q24 q25 q26 q27 q28 q29 q30 q31 q32 q33 q34 q35 q36 q37 q38 q39 q40 q41 q42 q43 q44 q45 q46 q47 q48 q49 m : Nat} {xs : Nat → Int32} {nm : String} {f g h0m : gMem} {a : Nat → Nat} {n : Nat → Int32} {z : Nat → Int64} {F : Nat → Nat → Int32} {G : Nat → Nat → Int64} (hA : aW [(x, .inr (11, [.ref q1, .ref q5, .ref q7, .ref q9, .ref q10, .ref q13, .ref q16, .ref q17, .ref q18, .ref q23, .ref q30, .ref q32, .int 0])), (q1, .inr (0, [.ref q2, .ref q3])), (q2, .inl (cy 0, 2400, .inl (fun _ => 0))), (q3, .inr (7, [.ref q4, .int 0])), (q4, .inl (cy 0, 6, .inl (fun _ => 0))), (q5, .inr (9, [.ref q6, .int 0])), (q6, .inl (cy 1, 400, .inl (fun _ => 0))), (q7, .inr (9, [.ref q8, .int 0])), (q8, .inl (cy 1, 480, .inl (fun _ => 0))), (q9, .inl (cy 4, 20, .inr (.inr (.inr (.inr (fun _ => none)))))), (q10, .inr (2, [.ref q11, .ref q12, .int 0, .int 0])), (q11, .inl (cy 0, 520, .inl (fun _ => 0))), (q12, .inl (cy 0, 80, .inl (fun _ => 0))), (q13, .inr (2, [.ref q14, .ref q15, .int 0, .int 0])), (q14, .inl (cy 0, 520, .inl (fun _ => 0))), (q15, .inl (cy 0, 80, .inl (fun _ => 0))), (q16, .inr (6, [.ref q5, .ref q10, .int 0, .int 0])), (q17, .inr (8, [.ref q7])), (q18, .inr (3, [.ref q19, .ref q22])), (q19, .inr (2, [.ref q20, .ref q21, .int 0, .int 0])), (q20, .inl (cy 0, 520, .inl (fun _ => 0))), (q21, .inl (cy 0, 80, .inl (fun _ => 0))), (q22, .inl (cy 0, 40, .inl (fun _ => 0))), (q23, .inr (4, [.ref q24, .int 0, .int 0, .ref q25, .ref q26, .ref q27, .ref q28, .ref q29, .int (-1)])), (q24, .inl (cy 0, 96, .inl (fun _ => 0))), (q25, .inl (cy 2, 8, .inr (.inl (fun _ => 0)))), (q26, .inl (cy 2, 8, .inr (.inl (fun _ => 0)))), (q27, .inl (cy 0, 8, .inl (fun _ => 0))), (q28, .inl (cy 0, 8, .inl (fun _ => 0))), (q29, .inl (cy 2, 8, .inr (.inl (fun _ => 0)))), (q30, .inr (1, [.ref q31, .ref q3, .ref q23, .int 0])), (q31, .inl (cy 5, 40, .inr (.inr (.inr (.inr (fun _ => none)))))), (q32, .inr (10, [.int 1, .ref q33, .ref q34, .ref q35, .ref q36, .ref q3, .ref q37, .int 0, .int 0])), (q33, .inl (cy 0, 3, .inl (upd (fun _ => 0) (Int32.toNatClampNeg 0) 1))), (q34, .inl (cy 0, 18, .inl (fun _ => 0))), (q35, .inl (cy 6, 5, .inr (.inr (.inr (.inr (va_up (va_up (va_up (va_up (va_up (fun _ => none) (Int32.toNatClampNeg 0) (some q40)) (Int32.toNatClampNeg 1) (some q42)) (Int32.toNatClampNeg 2) (some q44)) (Int32.toNatClampNeg 3) (some q46)) (Int32.toNatClampNeg 4) (some q48))))))), (q36, .inl (cy 2, 5, .inr (.inl (fun _ => 0)))), (q37, .inr (2, [.ref q38, .ref q39, .int 0, .int 0])), (q38, .inl (cy 0, 0, .inl (fun _ => 0))), (q39, .inl (cy 0, 0, .inl (fun _ => 0))), (q40, .inr (7, [.ref q41, .int 0])), (q41, .inl (cy 0, 6, .inl (fun _ => 0))), (q42, .inr (7, [.ref q43, .int 0])), (q43, .inl (cy 0, 6, .inl (fun _ => 0))), (q44, .inr (7, [.ref q45, .int 0])), (q45, .inl (cy 0, 6, .inl (fun _ => 0))), (q46, .inr (7, [.ref q47, .int 0])), (q47, .inl (cy 0, 6, .inl (fun _ => 0))), (q48, .inr (7, [.ref q49, .int 0])), (q49, .inl (cy 0, 6, .inl (fun _ => 0)))] f) (hA2 : aW [(x, .inr (11, [.ref q1, .ref q5, .ref q7, .ref q9, .ref q10, .ref q13, .ref q16, .ref q17, .ref q18, .ref q23, .ref q30, .ref q32, .int 0])), (q1, .inr (0, [.ref q2, .ref q3])), (q2, .inl (cy 0, 2400, .inl (fun _ => 0))), (q3, .inr (7, [.ref q4, .int 0])), (q4, .inl (cy 0, 6, .inl (fun _ => 0))), (q5, .inr (9, [.ref q6, .int 0])), (q6, .inl (cy 1, 400, .inl (fun _ => 0))), (q7, .inr (9, [.ref q8, .int 0])), (q8, .inl (cy 1, 480, .inl (fun _ => 0))), (q9, .inl (cy 4, 20, .inr (.inr (.inr (.inr (fun _ => none)))))), (q10, .inr (2, [.ref q11, .ref q12, .int 0, .int 0])), (q11, .inl (cy 0, 520, .inl (fun _ => 0))), (q12, .inl (cy 0, 80, .inl (fun _ => 0))), (q13, .inr (2, [.ref q14, .ref q15, .int 0, .int 0])), (q14, .inl (cy 0, 520, .inl (fun _ => 0))), (q15, .inl (cy 0, 80, .inl (fun _ => 0))), (q16, .inr (6, [.ref q5, .ref q10, .int 0, .int 0])), (q17, .inr (8, [.ref q7])), (q18, .inr (3, [.ref q19, .ref q22])), (q19, .inr (2, [.ref q20, .ref q21, .int 0, .int 0])), (q20, .inl (cy 0, 520, .inl (fun _ => 0))), (q21, .inl (cy 0, 80, .inl (fun _ => 0))), (q22, .inl (cy 0, 40, .inl (fun _ => 0))), (q23, .inr (4, [.ref q24, .int 0, .int 0, .ref q25, .ref q26, .ref q27, .ref q28, .ref q29, .int (-1)])), (q24, .inl (cy 0, 96, .inl (fun _ => 0))), (q25, .inl (cy 2, 8, .inr (.inl (fun _ => 0)))), (q26, .inl (cy 2, 8, .inr (.inl (fun _ => 0)))), (q27, .inl (cy 0, 8, .inl (fun _ => 0))), (q28, .inl (cy 0, 8, .inl (fun _ => 0))), (q29, .inl (cy 2, 8, .inr (.inl (fun _ => 0)))), (q30, .inr (1, [.ref q31, .ref q3, .ref q23, .int 0])), (q31, .inl (cy 5, 40, .inr (.inr (.inr (.inr (fun _ => none)))))), (q32, .inr (10, [.int 1, .ref q33, .ref q34, .ref q35, .ref q36, .ref q3, .ref q37, .int 0, .int 0])), (q33, .inl (cy 0, 3, .inl (upd (fun _ => 0) (Int32.toNatClampNeg 0) 1))), (q34, .inl (cy 0, 18, .inl (fun _ => 0))), (q35, .inl (cy 6, 5, .inr (.inr (.inr (.inr (va_up (va_up (va_up (va_up (va_up (fun _ => none) (Int32.toNatClampNeg 0) (some q40)) (Int32.toNatClampNeg 1) (some q42)) (Int32.toNatClampNeg 2) (some q44)) (Int32.toNatClampNeg 3) (some q46)) (Int32.toNatClampNeg 4) (some q48))))))), (q36, .inl (cy 2, 5, .inr (.inl (fun _ => 0)))), (q37, .inr (2, [.ref q38, .ref q39, .int 0, .int 0])), (q38, .inl (cy 0, 0, .inl (fun _ => 0))), (q39, .inl (cy 0, 0, .inl (fun _ => 0))), (q40, .inr (7, [.ref q41, .int 0])), (q41, .inl (cy 0, 6, .inl (fun _ => 0))), (q42, .inr (7, [.ref q43, .int 0])), (q43, .inl (cy 0, 6, .inl (fun _ => 0))), (q44, .inr (7, [.ref q45, .int 0])), (q45, .inl (cy 0, 6, .inl (fun _ => 0))), (q46, .inr (7, [.ref q47, .int 0])), (q47, .inl (cy 0, 6, .inl (fun _ => 0))), (q48, .inr (7, [.ref q49, .int 0])), (q49, .inl (cy 0, 6, .inl (fun _ => 0)))] g) (hS : mS cy m a h0m n z F G f) (hm : g m = none) (ha : ∀ k, mTy k ≠ 0 → g (a k) = none) (hF : ∀ i, i < 2400 → F 2 i = -10000) (h0 : n 0 = 0) (h1 : n 1 = 0) (h4 : n 4 = 0) (h5 : n 5 = 0) (h30 : n 30 = 0) (h38 : n 38 = 0) (h46 : n 46 = 0) (h53 : n 53 = 1) (h88 : n 88 = 0) (hG : ∀ i, i < 11 → G 27 i ≠ 0) : gG l room_1 lwQf (lwEx bs 6 b xs) D cy b code 4 ret RL nm 119 44855 f 891 [(3, .int 0), (2, .ref m), (1, .ref x), (0, .ref bs)] [] := by
  have kx : f x = some (.inr (11, [.ref q1, .ref q5, .ref q7, .ref q9, .ref q10, .ref q13, .ref q16, .ref q17, .ref q18, .ref q23, .ref q30, .ref q32, .int 0])) := hA.1 0 _ rfl
  have kwo : f q32 = some (.inr (10, [.int 1, .ref q33, .ref q34, .ref q35, .ref q36, .ref q3, .ref q37, .int 0, .int 0])) := hA.1 32 _ rfl
  have ksp : f q34 = some (.inl (cy 0, 18, .inl (fun _ => 0))) := hA.1 34 _ rfl
  refine gz_aload_n dL_law_891 rfl rfl ?_
  refine gz_aload_n dL_law_892 rfl rfl ?_
  refine gz_iload_n dL_law_893 rfl rfl ?_
  refine gz_iconst (v := 1) dL_law_894 (by decide) ?_
  refine gz_iadd dL_law_895 ?_
  refine gz_ev (w := .int 1) (by decide) ?_
  refine lz_sld (vin_T (v := 1) rfl (by decide) (by decide)) dL_law_896 ?_
  refine gz_ev (w := .int (xs 1)) rfl ?_
  refine gz_aload_n dL_law_897 rfl rfl ?_
  refine gz_iload_n dL_law_898 rfl rfl ?_
  refine gz_iconst (v := 2) dL_law_899 (by decide) ?_
  refine gz_iadd dL_law_900 ?_
  refine gz_ev (w := .int 2) (by decide) ?_
  refine lz_sld (vin_T (v := 2) rfl (by decide) (by decide)) dL_law_901 ?_
  refine gz_ev (w := .int (xs 2)) rfl ?_
  refine gz_aload_n dL_law_902 rfl rfl ?_
  refine gz_iload_n dL_law_903 rfl rfl ?_
  refine gz_iconst (v := 3) dL_law_904 (by decide) ?_
  refine gz_iadd dL_law_905 ?_
  refine gz_ev (w := .int 3) (by decide) ?_
  refine lz_sld (vin_T (v := 3) rfl (by decide) (by decide)) dL_law_906 ?_
  refine gz_ev (w := .int (xs 3)) rfl ?_
  refine scL_116 (k_X11_adds (x1 := (xs 1)) (x2 := (xs 2)) (x3 := (xs 3)) kx kwo ksp) kx ⟨(Nat.le_of_ble_eq_true rfl), (Nat.le_of_ble_eq_true rfl)⟩ ⟨(Nat.le_of_ble_eq_true rfl), (Nat.le_of_ble_eq_true rfl)⟩ rfl rfl (Nat.le_of_ble_eq_true rfl) dL_law_907 ?_
  rintro v9 f9 ⟨z1, z2⟩; rw [z1]
  have hs9 : ∀ y, y ∈ [q34] → ∃ e, g y = some e := by
    intro y hy; simp only [List.mem_cons, List.not_mem_nil, or_false] at hy; rcases hy with rfl
    · exact ⟨_, hA2.1 34 _ rfl⟩
  have hS9 := mS_fr hS hm ha z2 hs9
  refine gz_aload_n dL_law_910 rfl rfl ?_
  refine gz_aload_n dL_law_911 rfl rfl ?_
  refine gz_iload_n dL_law_912 rfl rfl ?_
  refine gz_iconst (v := 1) dL_law_913 (by decide) ?_
  refine gz_iadd dL_law_914 ?_
  refine gz_ev (w := .int 1) (by decide) ?_
  refine lz_sld (vin_T (v := 1) rfl (by decide) (by decide)) dL_law_915 ?_
  refine gz_ev (w := .int (xs 1)) rfl ?_
  refine gz_aload_n dL_law_916 rfl rfl ?_
  refine gz_iload_n dL_law_917 rfl rfl ?_
  refine gz_iconst (v := 2) dL_law_918 (by decide) ?_
  refine gz_iadd dL_law_919 ?_
  refine gz_ev (w := .int 2) (by decide) ?_
  refine lz_sld (vin_T (v := 2) rfl (by decide) (by decide)) dL_law_920 ?_
  refine gz_ev (w := .int (xs 2)) rfl ?_
  refine gz_aload_n dL_law_921 rfl rfl ?_
  refine gz_iload_n dL_law_922 rfl rfl ?_
  refine gz_iconst (v := 3) dL_law_923 (by decide) ?_
  refine gz_iadd dL_law_924 ?_
  refine gz_ev (w := .int 3) (by decide) ?_
  refine lz_sld (vin_T (v := 3) rfl (by decide) (by decide)) dL_law_925 ?_
  refine gz_ev (w := .int (xs 3)) rfl ?_
  refine scL_119 (k_X12_adds (x1 := (xs 1)) (x2 := (xs 2)) (x3 := (xs 3)) hS9 h53) hS9.1 ⟨(Nat.le_of_ble_eq_true rfl), (Nat.le_of_ble_eq_true rfl)⟩ ⟨(Nat.le_of_ble_eq_true rfl), (Nat.le_of_ble_eq_true rfl)⟩ rfl rfl (Nat.le_of_ble_eq_true rfl) dL_law_926 ?_
  intro v8 f8 z8; rw [show v8 = _ from z8]
  refine gz_icmp_eq (tgt := 1087) dL_law_929 (by decide) (fun c_929 => ?_) (fun c_929 => ?_)
  ·
    exact lw_end
  · exact absurd rfl c_929

set_option maxHeartbeats 4000000 in
set_option maxRecDepth 100000 in
theorem lw_case_24 {l : Launch} {D : va_G} {cy : Nat → ClassId} {b bs x q1 q2 q3 q4 q5 q6 q7 q8 q9 q10 q11 q12 q13 q14 q15 q16 q17 q18 q19 q20 q21 q22 q23 q24 q25 q26 q27 q28 q29 q30 q31 q32 q33 q34 q35 q36 q37 q38 q39 q40 q41 q42 q43 q44 q45 q46 q47 q48 q49 m : Nat} {xs : Nat → Int32} {nm : String} {f g h0m : gMem} {a : Nat → Nat} {n : Nat → Int32} {z : Nat → Int64} {F : Nat → Nat → Int32} {G : Nat → Nat → Int64} (hA : aW [(x, .inr (11, [.ref q1, .ref q5, .ref q7, .ref q9, .ref q10, .ref q13, .ref q16, .ref q17, .ref q18, .ref q23, .ref q30, .ref q32, .int 0])), (q1, .inr (0, [.ref q2, .ref q3])), (q2, .inl (cy 0, 2400, .inl (fun _ => 0))), (q3, .inr (7, [.ref q4, .int 0])), (q4, .inl (cy 0, 6, .inl (fun _ => 0))), (q5, .inr (9, [.ref q6, .int 0])), (q6, .inl (cy 1, 400, .inl (fun _ => 0))), (q7, .inr (9, [.ref q8, .int 0])), (q8, .inl (cy 1, 480, .inl (fun _ => 0))), (q9, .inl (cy 4, 20, .inr (.inr (.inr (.inr (fun _ => none)))))), (q10, .inr (2, [.ref q11, .ref q12, .int 0, .int 0])), (q11, .inl (cy 0, 520, .inl (fun _ => 0))), (q12, .inl (cy 0, 80, .inl (fun _ => 0))), (q13, .inr (2, [.ref q14, .ref q15, .int 0, .int 0])), (q14, .inl (cy 0, 520, .inl (fun _ => 0))), (q15, .inl (cy 0, 80, .inl (fun _ => 0))), (q16, .inr (6, [.ref q5, .ref q10, .int 0, .int 0])), (q17, .inr (8, [.ref q7])), (q18, .inr (3, [.ref q19, .ref q22])), (q19, .inr (2, [.ref q20, .ref q21, .int 0, .int 0])), (q20, .inl (cy 0, 520, .inl (fun _ => 0))), (q21, .inl (cy 0, 80, .inl (fun _ => 0))), (q22, .inl (cy 0, 40, .inl (fun _ => 0))), (q23, .inr (4, [.ref q24, .int 0, .int 0, .ref q25, .ref q26, .ref q27, .ref q28, .ref q29, .int (-1)])), (q24, .inl (cy 0, 96, .inl (fun _ => 0))), (q25, .inl (cy 2, 8, .inr (.inl (fun _ => 0)))), (q26, .inl (cy 2, 8, .inr (.inl (fun _ => 0)))), (q27, .inl (cy 0, 8, .inl (fun _ => 0))), (q28, .inl (cy 0, 8, .inl (fun _ => 0))), (q29, .inl (cy 2, 8, .inr (.inl (fun _ => 0)))), (q30, .inr (1, [.ref q31, .ref q3, .ref q23, .int 0])), (q31, .inl (cy 5, 40, .inr (.inr (.inr (.inr (fun _ => none)))))), (q32, .inr (10, [.int 1, .ref q33, .ref q34, .ref q35, .ref q36, .ref q3, .ref q37, .int 0, .int 0])), (q33, .inl (cy 0, 3, .inl (upd (fun _ => 0) (Int32.toNatClampNeg 0) 1))), (q34, .inl (cy 0, 18, .inl (fun _ => 0))), (q35, .inl (cy 6, 5, .inr (.inr (.inr (.inr (va_up (va_up (va_up (va_up (va_up (fun _ => none) (Int32.toNatClampNeg 0) (some q40)) (Int32.toNatClampNeg 1) (some q42)) (Int32.toNatClampNeg 2) (some q44)) (Int32.toNatClampNeg 3) (some q46)) (Int32.toNatClampNeg 4) (some q48))))))), (q36, .inl (cy 2, 5, .inr (.inl (fun _ => 0)))), (q37, .inr (2, [.ref q38, .ref q39, .int 0, .int 0])), (q38, .inl (cy 0, 0, .inl (fun _ => 0))), (q39, .inl (cy 0, 0, .inl (fun _ => 0))), (q40, .inr (7, [.ref q41, .int 0])), (q41, .inl (cy 0, 6, .inl (fun _ => 0))), (q42, .inr (7, [.ref q43, .int 0])), (q43, .inl (cy 0, 6, .inl (fun _ => 0))), (q44, .inr (7, [.ref q45, .int 0])), (q45, .inl (cy 0, 6, .inl (fun _ => 0))), (q46, .inr (7, [.ref q47, .int 0])), (q47, .inl (cy 0, 6, .inl (fun _ => 0))), (q48, .inr (7, [.ref q49, .int 0])), (q49, .inl (cy 0, 6, .inl (fun _ => 0)))] f) (hA2 : aW [(x, .inr (11, [.ref q1, .ref q5, .ref q7, .ref q9, .ref q10, .ref q13, .ref q16, .ref q17, .ref q18, .ref q23, .ref q30, .ref q32, .int 0])), (q1, .inr (0, [.ref q2, .ref q3])), (q2, .inl (cy 0, 2400, .inl (fun _ => 0))), (q3, .inr (7, [.ref q4, .int 0])), (q4, .inl (cy 0, 6, .inl (fun _ => 0))), (q5, .inr (9, [.ref q6, .int 0])), (q6, .inl (cy 1, 400, .inl (fun _ => 0))), (q7, .inr (9, [.ref q8, .int 0])), (q8, .inl (cy 1, 480, .inl (fun _ => 0))), (q9, .inl (cy 4, 20, .inr (.inr (.inr (.inr (fun _ => none)))))), (q10, .inr (2, [.ref q11, .ref q12, .int 0, .int 0])), (q11, .inl (cy 0, 520, .inl (fun _ => 0))), (q12, .inl (cy 0, 80, .inl (fun _ => 0))), (q13, .inr (2, [.ref q14, .ref q15, .int 0, .int 0])), (q14, .inl (cy 0, 520, .inl (fun _ => 0))), (q15, .inl (cy 0, 80, .inl (fun _ => 0))), (q16, .inr (6, [.ref q5, .ref q10, .int 0, .int 0])), (q17, .inr (8, [.ref q7])), (q18, .inr (3, [.ref q19, .ref q22])), (q19, .inr (2, [.ref q20, .ref q21, .int 0, .int 0])), (q20, .inl (cy 0, 520, .inl (fun _ => 0))), (q21, .inl (cy 0, 80, .inl (fun _ => 0))), (q22, .inl (cy 0, 40, .inl (fun _ => 0))), (q23, .inr (4, [.ref q24, .int 0, .int 0, .ref q25, .ref q26, .ref q27, .ref q28, .ref q29, .int (-1)])), (q24, .inl (cy 0, 96, .inl (fun _ => 0))), (q25, .inl (cy 2, 8, .inr (.inl (fun _ => 0)))), (q26, .inl (cy 2, 8, .inr (.inl (fun _ => 0)))), (q27, .inl (cy 0, 8, .inl (fun _ => 0))), (q28, .inl (cy 0, 8, .inl (fun _ => 0))), (q29, .inl (cy 2, 8, .inr (.inl (fun _ => 0)))), (q30, .inr (1, [.ref q31, .ref q3, .ref q23, .int 0])), (q31, .inl (cy 5, 40, .inr (.inr (.inr (.inr (fun _ => none)))))), (q32, .inr (10, [.int 1, .ref q33, .ref q34, .ref q35, .ref q36, .ref q3, .ref q37, .int 0, .int 0])), (q33, .inl (cy 0, 3, .inl (upd (fun _ => 0) (Int32.toNatClampNeg 0) 1))), (q34, .inl (cy 0, 18, .inl (fun _ => 0))), (q35, .inl (cy 6, 5, .inr (.inr (.inr (.inr (va_up (va_up (va_up (va_up (va_up (fun _ => none) (Int32.toNatClampNeg 0) (some q40)) (Int32.toNatClampNeg 1) (some q42)) (Int32.toNatClampNeg 2) (some q44)) (Int32.toNatClampNeg 3) (some q46)) (Int32.toNatClampNeg 4) (some q48))))))), (q36, .inl (cy 2, 5, .inr (.inl (fun _ => 0)))), (q37, .inr (2, [.ref q38, .ref q39, .int 0, .int 0])), (q38, .inl (cy 0, 0, .inl (fun _ => 0))), (q39, .inl (cy 0, 0, .inl (fun _ => 0))), (q40, .inr (7, [.ref q41, .int 0])), (q41, .inl (cy 0, 6, .inl (fun _ => 0))), (q42, .inr (7, [.ref q43, .int 0])), (q43, .inl (cy 0, 6, .inl (fun _ => 0))), (q44, .inr (7, [.ref q45, .int 0])), (q45, .inl (cy 0, 6, .inl (fun _ => 0))), (q46, .inr (7, [.ref q47, .int 0])), (q47, .inl (cy 0, 6, .inl (fun _ => 0))), (q48, .inr (7, [.ref q49, .int 0])), (q49, .inl (cy 0, 6, .inl (fun _ => 0)))] g) (hS : mS cy m a h0m n z F G f) (hm : g m = none) (ha : ∀ k, mTy k ≠ 0 → g (a k) = none) (hF : ∀ i, i < 2400 → F 2 i = -10000) (h0 : n 0 = 0) (h1 : n 1 = 0) (h4 : n 4 = 0) (h5 : n 5 = 0) (h30 : n 30 = 0) (h38 : n 38 = 0) (h46 : n 46 = 0) (h53 : n 53 = 1) (h88 : n 88 = 0) (hG : ∀ i, i < 11 → G 27 i ≠ 0) : gG l room_1 lwQf (lwEx bs 6 b xs) D cy b code 4 ret RL nm 119 44855 f 934 [(3, .int 0), (2, .ref m), (1, .ref x), (0, .ref bs)] [] := by
  have kx : f x = some (.inr (11, [.ref q1, .ref q5, .ref q7, .ref q9, .ref q10, .ref q13, .ref q16, .ref q17, .ref q18, .ref q23, .ref q30, .ref q32, .int 0])) := hA.1 0 _ rfl
  refine gz_aload_n dL_law_934 rfl rfl ?_
  refine gz_aload_n dL_law_935 rfl rfl ?_
  refine gz_iload_n dL_law_936 rfl rfl ?_
  refine gz_iconst (v := 1) dL_law_937 (by decide) ?_
  refine gz_iadd dL_law_938 ?_
  refine gz_ev (w := .int 1) (by decide) ?_
  refine lz_sld (vin_T (v := 1) rfl (by decide) (by decide)) dL_law_939 ?_
  refine gz_ev (w := .int (xs 1)) rfl ?_
  refine gz_aload_n dL_law_940 rfl rfl ?_
  refine gz_iload_n dL_law_941 rfl rfl ?_
  refine gz_iconst (v := 2) dL_law_942 (by decide) ?_
  refine gz_iadd dL_law_943 ?_
  refine gz_ev (w := .int 2) (by decide) ?_
  refine lz_sld (vin_T (v := 2) rfl (by decide) (by decide)) dL_law_944 ?_
  refine gz_ev (w := .int (xs 2)) rfl ?_
  refine gz_aload_n dL_law_945 rfl rfl ?_
  refine gz_iload_n dL_law_946 rfl rfl ?_
  refine gz_iconst (v := 3) dL_law_947 (by decide) ?_
  refine gz_iadd dL_law_948 ?_
  refine gz_ev (w := .int 3) (by decide) ?_
  refine lz_sld (vin_T (v := 3) rfl (by decide) (by decide)) dL_law_949 ?_
  refine gz_ev (w := .int (xs 3)) rfl ?_
  refine scL_120 (k_X11_worth (x1 := (xs 1)) (x2 := (xs 2)) (x3 := (xs 3)) kx) kx ⟨(Nat.le_of_ble_eq_true rfl), (Nat.le_of_ble_eq_true rfl)⟩ ⟨(Nat.le_of_ble_eq_true rfl), (Nat.le_of_ble_eq_true rfl)⟩ rfl rfl (Nat.le_of_ble_eq_true rfl) dL_law_950 ?_
  rintro v9 f9 ⟨z1, z2⟩; rw [z1]
  have hs9 : ∀ y, y ∈ ([] : List Nat) → ∃ e, g y = some e := fun y hy => absurd hy List.not_mem_nil
  have hS9 := mS_fr hS hm ha z2 hs9
  refine gz_aload_n dL_law_953 rfl rfl ?_
  refine gz_aload_n dL_law_954 rfl rfl ?_
  refine gz_iload_n dL_law_955 rfl rfl ?_
  refine gz_iconst (v := 1) dL_law_956 (by decide) ?_
  refine gz_iadd dL_law_957 ?_
  refine gz_ev (w := .int 1) (by decide) ?_
  refine lz_sld (vin_T (v := 1) rfl (by decide) (by decide)) dL_law_958 ?_
  refine gz_ev (w := .int (xs 1)) rfl ?_
  refine gz_aload_n dL_law_959 rfl rfl ?_
  refine gz_iload_n dL_law_960 rfl rfl ?_
  refine gz_iconst (v := 2) dL_law_961 (by decide) ?_
  refine gz_iadd dL_law_962 ?_
  refine gz_ev (w := .int 2) (by decide) ?_
  refine lz_sld (vin_T (v := 2) rfl (by decide) (by decide)) dL_law_963 ?_
  refine gz_ev (w := .int (xs 2)) rfl ?_
  refine gz_aload_n dL_law_964 rfl rfl ?_
  refine gz_iload_n dL_law_965 rfl rfl ?_
  refine gz_iconst (v := 3) dL_law_966 (by decide) ?_
  refine gz_iadd dL_law_967 ?_
  refine gz_ev (w := .int 3) (by decide) ?_
  refine lz_sld (vin_T (v := 3) rfl (by decide) (by decide)) dL_law_968 ?_
  refine gz_ev (w := .int (xs 3)) rfl ?_
  refine scL_124 (k_X12_worth (x1 := (xs 1)) (x2 := (xs 2)) (x3 := (xs 3)) hS9 h5) hS9.1 ⟨(Nat.le_of_ble_eq_true rfl), (Nat.le_of_ble_eq_true rfl)⟩ ⟨(Nat.le_of_ble_eq_true rfl), (Nat.le_of_ble_eq_true rfl)⟩ rfl rfl (Nat.le_of_ble_eq_true rfl) dL_law_969 ?_
  intro v8 f8 z8; rw [show v8 = _ from z8]
  refine gz_lcmp dL_law_972 ?_
  refine gz_ev (w := .int 0) (by decide) ?_
  refine gz_if_eq (tgt := 1087) dL_law_973 (by decide) (fun c_973 => ?_) (fun c_973 => ?_)
  ·
    exact lw_end
  · exact absurd rfl c_973

set_option maxHeartbeats 4000000 in
set_option maxRecDepth 100000 in
theorem lw_case_25 {l : Launch} {D : va_G} {cy : Nat → ClassId} {b bs x q1 q2 q3 q4 q5 q6 q7 q8 q9 q10 q11 q12 q13 q14 q15 q16 q17 q18 q19 q20 q21 q22 q23 q24 q25 q26 q27 q28 q29 q30 q31 q32 q33 q34 q35 q36 q37 q38 q39 q40 q41 q42 q43 q44 q45 q46 q47 q48 q49 m : Nat} {xs : Nat → Int32} {nm : String} {f g h0m : gMem} {a : Nat → Nat} {n : Nat → Int32} {z : Nat → Int64} {F : Nat → Nat → Int32} {G : Nat → Nat → Int64} (hA : aW [(x, .inr (11, [.ref q1, .ref q5, .ref q7, .ref q9, .ref q10, .ref q13, .ref q16, .ref q17, .ref q18, .ref q23, .ref q30, .ref q32, .int 0])), (q1, .inr (0, [.ref q2, .ref q3])), (q2, .inl (cy 0, 2400, .inl (fun _ => 0))), (q3, .inr (7, [.ref q4, .int 0])), (q4, .inl (cy 0, 6, .inl (fun _ => 0))), (q5, .inr (9, [.ref q6, .int 0])), (q6, .inl (cy 1, 400, .inl (fun _ => 0))), (q7, .inr (9, [.ref q8, .int 0])), (q8, .inl (cy 1, 480, .inl (fun _ => 0))), (q9, .inl (cy 4, 20, .inr (.inr (.inr (.inr (fun _ => none)))))), (q10, .inr (2, [.ref q11, .ref q12, .int 0, .int 0])), (q11, .inl (cy 0, 520, .inl (fun _ => 0))), (q12, .inl (cy 0, 80, .inl (fun _ => 0))), (q13, .inr (2, [.ref q14, .ref q15, .int 0, .int 0])), (q14, .inl (cy 0, 520, .inl (fun _ => 0))), (q15, .inl (cy 0, 80, .inl (fun _ => 0))), (q16, .inr (6, [.ref q5, .ref q10, .int 0, .int 0])), (q17, .inr (8, [.ref q7])), (q18, .inr (3, [.ref q19, .ref q22])), (q19, .inr (2, [.ref q20, .ref q21, .int 0, .int 0])), (q20, .inl (cy 0, 520, .inl (fun _ => 0))), (q21, .inl (cy 0, 80, .inl (fun _ => 0))), (q22, .inl (cy 0, 40, .inl (fun _ => 0))), (q23, .inr (4, [.ref q24, .int 0, .int 0, .ref q25, .ref q26, .ref q27, .ref q28, .ref q29, .int (-1)])), (q24, .inl (cy 0, 96, .inl (fun _ => 0))), (q25, .inl (cy 2, 8, .inr (.inl (fun _ => 0)))), (q26, .inl (cy 2, 8, .inr (.inl (fun _ => 0)))), (q27, .inl (cy 0, 8, .inl (fun _ => 0))), (q28, .inl (cy 0, 8, .inl (fun _ => 0))), (q29, .inl (cy 2, 8, .inr (.inl (fun _ => 0)))), (q30, .inr (1, [.ref q31, .ref q3, .ref q23, .int 0])), (q31, .inl (cy 5, 40, .inr (.inr (.inr (.inr (fun _ => none)))))), (q32, .inr (10, [.int 1, .ref q33, .ref q34, .ref q35, .ref q36, .ref q3, .ref q37, .int 0, .int 0])), (q33, .inl (cy 0, 3, .inl (upd (fun _ => 0) (Int32.toNatClampNeg 0) 1))), (q34, .inl (cy 0, 18, .inl (fun _ => 0))), (q35, .inl (cy 6, 5, .inr (.inr (.inr (.inr (va_up (va_up (va_up (va_up (va_up (fun _ => none) (Int32.toNatClampNeg 0) (some q40)) (Int32.toNatClampNeg 1) (some q42)) (Int32.toNatClampNeg 2) (some q44)) (Int32.toNatClampNeg 3) (some q46)) (Int32.toNatClampNeg 4) (some q48))))))), (q36, .inl (cy 2, 5, .inr (.inl (fun _ => 0)))), (q37, .inr (2, [.ref q38, .ref q39, .int 0, .int 0])), (q38, .inl (cy 0, 0, .inl (fun _ => 0))), (q39, .inl (cy 0, 0, .inl (fun _ => 0))), (q40, .inr (7, [.ref q41, .int 0])), (q41, .inl (cy 0, 6, .inl (fun _ => 0))), (q42, .inr (7, [.ref q43, .int 0])), (q43, .inl (cy 0, 6, .inl (fun _ => 0))), (q44, .inr (7, [.ref q45, .int 0])), (q45, .inl (cy 0, 6, .inl (fun _ => 0))), (q46, .inr (7, [.ref q47, .int 0])), (q47, .inl (cy 0, 6, .inl (fun _ => 0))), (q48, .inr (7, [.ref q49, .int 0])), (q49, .inl (cy 0, 6, .inl (fun _ => 0)))] f) (hA2 : aW [(x, .inr (11, [.ref q1, .ref q5, .ref q7, .ref q9, .ref q10, .ref q13, .ref q16, .ref q17, .ref q18, .ref q23, .ref q30, .ref q32, .int 0])), (q1, .inr (0, [.ref q2, .ref q3])), (q2, .inl (cy 0, 2400, .inl (fun _ => 0))), (q3, .inr (7, [.ref q4, .int 0])), (q4, .inl (cy 0, 6, .inl (fun _ => 0))), (q5, .inr (9, [.ref q6, .int 0])), (q6, .inl (cy 1, 400, .inl (fun _ => 0))), (q7, .inr (9, [.ref q8, .int 0])), (q8, .inl (cy 1, 480, .inl (fun _ => 0))), (q9, .inl (cy 4, 20, .inr (.inr (.inr (.inr (fun _ => none)))))), (q10, .inr (2, [.ref q11, .ref q12, .int 0, .int 0])), (q11, .inl (cy 0, 520, .inl (fun _ => 0))), (q12, .inl (cy 0, 80, .inl (fun _ => 0))), (q13, .inr (2, [.ref q14, .ref q15, .int 0, .int 0])), (q14, .inl (cy 0, 520, .inl (fun _ => 0))), (q15, .inl (cy 0, 80, .inl (fun _ => 0))), (q16, .inr (6, [.ref q5, .ref q10, .int 0, .int 0])), (q17, .inr (8, [.ref q7])), (q18, .inr (3, [.ref q19, .ref q22])), (q19, .inr (2, [.ref q20, .ref q21, .int 0, .int 0])), (q20, .inl (cy 0, 520, .inl (fun _ => 0))), (q21, .inl (cy 0, 80, .inl (fun _ => 0))), (q22, .inl (cy 0, 40, .inl (fun _ => 0))), (q23, .inr (4, [.ref q24, .int 0, .int 0, .ref q25, .ref q26, .ref q27, .ref q28, .ref q29, .int (-1)])), (q24, .inl (cy 0, 96, .inl (fun _ => 0))), (q25, .inl (cy 2, 8, .inr (.inl (fun _ => 0)))), (q26, .inl (cy 2, 8, .inr (.inl (fun _ => 0)))), (q27, .inl (cy 0, 8, .inl (fun _ => 0))), (q28, .inl (cy 0, 8, .inl (fun _ => 0))), (q29, .inl (cy 2, 8, .inr (.inl (fun _ => 0)))), (q30, .inr (1, [.ref q31, .ref q3, .ref q23, .int 0])), (q31, .inl (cy 5, 40, .inr (.inr (.inr (.inr (fun _ => none)))))), (q32, .inr (10, [.int 1, .ref q33, .ref q34, .ref q35, .ref q36, .ref q3, .ref q37, .int 0, .int 0])), (q33, .inl (cy 0, 3, .inl (upd (fun _ => 0) (Int32.toNatClampNeg 0) 1))), (q34, .inl (cy 0, 18, .inl (fun _ => 0))), (q35, .inl (cy 6, 5, .inr (.inr (.inr (.inr (va_up (va_up (va_up (va_up (va_up (fun _ => none) (Int32.toNatClampNeg 0) (some q40)) (Int32.toNatClampNeg 1) (some q42)) (Int32.toNatClampNeg 2) (some q44)) (Int32.toNatClampNeg 3) (some q46)) (Int32.toNatClampNeg 4) (some q48))))))), (q36, .inl (cy 2, 5, .inr (.inl (fun _ => 0)))), (q37, .inr (2, [.ref q38, .ref q39, .int 0, .int 0])), (q38, .inl (cy 0, 0, .inl (fun _ => 0))), (q39, .inl (cy 0, 0, .inl (fun _ => 0))), (q40, .inr (7, [.ref q41, .int 0])), (q41, .inl (cy 0, 6, .inl (fun _ => 0))), (q42, .inr (7, [.ref q43, .int 0])), (q43, .inl (cy 0, 6, .inl (fun _ => 0))), (q44, .inr (7, [.ref q45, .int 0])), (q45, .inl (cy 0, 6, .inl (fun _ => 0))), (q46, .inr (7, [.ref q47, .int 0])), (q47, .inl (cy 0, 6, .inl (fun _ => 0))), (q48, .inr (7, [.ref q49, .int 0])), (q49, .inl (cy 0, 6, .inl (fun _ => 0)))] g) (hS : mS cy m a h0m n z F G f) (hm : g m = none) (ha : ∀ k, mTy k ≠ 0 → g (a k) = none) (hF : ∀ i, i < 2400 → F 2 i = -10000) (h0 : n 0 = 0) (h1 : n 1 = 0) (h4 : n 4 = 0) (h5 : n 5 = 0) (h30 : n 30 = 0) (h38 : n 38 = 0) (h46 : n 46 = 0) (h53 : n 53 = 1) (h88 : n 88 = 0) (hG : ∀ i, i < 11 → G 27 i ≠ 0) : gG l room_1 lwQf (lwEx bs 6 b xs) D cy b code 4 ret RL nm 119 44855 f 978 [(3, .int 0), (2, .ref m), (1, .ref x), (0, .ref bs)] [] := by
  have kx : f x = some (.inr (11, [.ref q1, .ref q5, .ref q7, .ref q9, .ref q10, .ref q13, .ref q16, .ref q17, .ref q18, .ref q23, .ref q30, .ref q32, .int 0])) := hA.1 0 _ rfl
  refine gz_aload_n dL_law_978 rfl rfl ?_
  refine gz_aload_n dL_law_979 rfl rfl ?_
  refine gz_iload_n dL_law_980 rfl rfl ?_
  refine gz_iconst (v := 1) dL_law_981 (by decide) ?_
  refine gz_iadd dL_law_982 ?_
  refine gz_ev (w := .int 1) (by decide) ?_
  refine lz_sld (vin_T (v := 1) rfl (by decide) (by decide)) dL_law_983 ?_
  refine gz_ev (w := .int (xs 1)) rfl ?_
  refine gz_aload_n dL_law_984 rfl rfl ?_
  refine gz_iload_n dL_law_985 rfl rfl ?_
  refine gz_iconst (v := 2) dL_law_986 (by decide) ?_
  refine gz_iadd dL_law_987 ?_
  refine gz_ev (w := .int 2) (by decide) ?_
  refine lz_sld (vin_T (v := 2) rfl (by decide) (by decide)) dL_law_988 ?_
  refine gz_ev (w := .int (xs 2)) rfl ?_
  refine gz_aload_n dL_law_989 rfl rfl ?_
  refine gz_iload_n dL_law_990 rfl rfl ?_
  refine gz_iconst (v := 3) dL_law_991 (by decide) ?_
  refine gz_iadd dL_law_992 ?_
  refine gz_ev (w := .int 3) (by decide) ?_
  refine lz_sld (vin_T (v := 3) rfl (by decide) (by decide)) dL_law_993 ?_
  refine gz_ev (w := .int (xs 3)) rfl ?_
  refine scL_125 (k_X11_comeTo (x1 := (xs 1)) (x2 := (xs 2)) (x3 := (xs 3)) kx) kx ⟨(Nat.le_of_ble_eq_true rfl), (Nat.le_of_ble_eq_true rfl)⟩ ⟨(Nat.le_of_ble_eq_true rfl), (Nat.le_of_ble_eq_true rfl)⟩ rfl rfl (Nat.le_of_ble_eq_true rfl) dL_law_994 ?_
  rintro v9 f9 ⟨z1, z2⟩; rw [z1]
  have hs9 : ∀ y, y ∈ ([] : List Nat) → ∃ e, g y = some e := fun y hy => absurd hy List.not_mem_nil
  have hS9 := mS_fr hS hm ha z2 hs9
  refine gz_aload_n dL_law_997 rfl rfl ?_
  refine gz_aload_n dL_law_998 rfl rfl ?_
  refine gz_iload_n dL_law_999 rfl rfl ?_
  refine gz_iconst (v := 1) dL_law_1000 (by decide) ?_
  refine gz_iadd dL_law_1001 ?_
  refine gz_ev (w := .int 1) (by decide) ?_
  refine lz_sld (vin_T (v := 1) rfl (by decide) (by decide)) dL_law_1002 ?_
  refine gz_ev (w := .int (xs 1)) rfl ?_
  refine gz_aload_n dL_law_1003 rfl rfl ?_
  refine gz_iload_n dL_law_1004 rfl rfl ?_
  refine gz_iconst (v := 2) dL_law_1005 (by decide) ?_
  refine gz_iadd dL_law_1006 ?_
  refine gz_ev (w := .int 2) (by decide) ?_
  refine lz_sld (vin_T (v := 2) rfl (by decide) (by decide)) dL_law_1007 ?_
  refine gz_ev (w := .int (xs 2)) rfl ?_
  refine gz_aload_n dL_law_1008 rfl rfl ?_
  refine gz_iload_n dL_law_1009 rfl rfl ?_
  refine gz_iconst (v := 3) dL_law_1010 (by decide) ?_
  refine gz_iadd dL_law_1011 ?_
  refine gz_ev (w := .int 3) (by decide) ?_
  refine lz_sld (vin_T (v := 3) rfl (by decide) (by decide)) dL_law_1012 ?_
  refine gz_ev (w := .int (xs 3)) rfl ?_
  refine scL_128 (k_X12_comeTo (x1 := (xs 1)) (x2 := (xs 2)) (x3 := (xs 3)) hS9 h5) hS9.1 ⟨(Nat.le_of_ble_eq_true rfl), (Nat.le_of_ble_eq_true rfl)⟩ ⟨(Nat.le_of_ble_eq_true rfl), (Nat.le_of_ble_eq_true rfl)⟩ rfl rfl (Nat.le_of_ble_eq_true rfl) dL_law_1013 ?_
  intro v8 f8 z8; rw [show v8 = _ from z8]
  refine gz_icmp_eq (tgt := 1087) dL_law_1016 (by decide) (fun c_1016 => ?_) (fun c_1016 => ?_)
  ·
    exact lw_end
  · exact absurd rfl c_1016

set_option maxHeartbeats 4000000 in
set_option maxRecDepth 100000 in
theorem lw_case_26 {l : Launch} {D : va_G} {cy : Nat → ClassId} {b bs x q1 q2 q3 q4 q5 q6 q7 q8 q9 q10 q11 q12 q13 q14 q15 q16 q17 q18 q19 q20 q21 q22 q23 q24 q25 q26 q27 q28 q29 q30 q31 q32 q33 q34 q35 q36 q37 q38 q39 q40 q41 q42 q43 q44 q45 q46 q47 q48 q49 m : Nat} {xs : Nat → Int32} {nm : String} {f g h0m : gMem} {a : Nat → Nat} {n : Nat → Int32} {z : Nat → Int64} {F : Nat → Nat → Int32} {G : Nat → Nat → Int64} (hA : aW [(x, .inr (11, [.ref q1, .ref q5, .ref q7, .ref q9, .ref q10, .ref q13, .ref q16, .ref q17, .ref q18, .ref q23, .ref q30, .ref q32, .int 0])), (q1, .inr (0, [.ref q2, .ref q3])), (q2, .inl (cy 0, 2400, .inl (fun _ => 0))), (q3, .inr (7, [.ref q4, .int 0])), (q4, .inl (cy 0, 6, .inl (fun _ => 0))), (q5, .inr (9, [.ref q6, .int 0])), (q6, .inl (cy 1, 400, .inl (fun _ => 0))), (q7, .inr (9, [.ref q8, .int 0])), (q8, .inl (cy 1, 480, .inl (fun _ => 0))), (q9, .inl (cy 4, 20, .inr (.inr (.inr (.inr (fun _ => none)))))), (q10, .inr (2, [.ref q11, .ref q12, .int 0, .int 0])), (q11, .inl (cy 0, 520, .inl (fun _ => 0))), (q12, .inl (cy 0, 80, .inl (fun _ => 0))), (q13, .inr (2, [.ref q14, .ref q15, .int 0, .int 0])), (q14, .inl (cy 0, 520, .inl (fun _ => 0))), (q15, .inl (cy 0, 80, .inl (fun _ => 0))), (q16, .inr (6, [.ref q5, .ref q10, .int 0, .int 0])), (q17, .inr (8, [.ref q7])), (q18, .inr (3, [.ref q19, .ref q22])), (q19, .inr (2, [.ref q20, .ref q21, .int 0, .int 0])), (q20, .inl (cy 0, 520, .inl (fun _ => 0))), (q21, .inl (cy 0, 80, .inl (fun _ => 0))), (q22, .inl (cy 0, 40, .inl (fun _ => 0))), (q23, .inr (4, [.ref q24, .int 0, .int 0, .ref q25, .ref q26, .ref q27, .ref q28, .ref q29, .int (-1)])), (q24, .inl (cy 0, 96, .inl (fun _ => 0))), (q25, .inl (cy 2, 8, .inr (.inl (fun _ => 0)))), (q26, .inl (cy 2, 8, .inr (.inl (fun _ => 0)))), (q27, .inl (cy 0, 8, .inl (fun _ => 0))), (q28, .inl (cy 0, 8, .inl (fun _ => 0))), (q29, .inl (cy 2, 8, .inr (.inl (fun _ => 0)))), (q30, .inr (1, [.ref q31, .ref q3, .ref q23, .int 0])), (q31, .inl (cy 5, 40, .inr (.inr (.inr (.inr (fun _ => none)))))), (q32, .inr (10, [.int 1, .ref q33, .ref q34, .ref q35, .ref q36, .ref q3, .ref q37, .int 0, .int 0])), (q33, .inl (cy 0, 3, .inl (upd (fun _ => 0) (Int32.toNatClampNeg 0) 1))), (q34, .inl (cy 0, 18, .inl (fun _ => 0))), (q35, .inl (cy 6, 5, .inr (.inr (.inr (.inr (va_up (va_up (va_up (va_up (va_up (fun _ => none) (Int32.toNatClampNeg 0) (some q40)) (Int32.toNatClampNeg 1) (some q42)) (Int32.toNatClampNeg 2) (some q44)) (Int32.toNatClampNeg 3) (some q46)) (Int32.toNatClampNeg 4) (some q48))))))), (q36, .inl (cy 2, 5, .inr (.inl (fun _ => 0)))), (q37, .inr (2, [.ref q38, .ref q39, .int 0, .int 0])), (q38, .inl (cy 0, 0, .inl (fun _ => 0))), (q39, .inl (cy 0, 0, .inl (fun _ => 0))), (q40, .inr (7, [.ref q41, .int 0])), (q41, .inl (cy 0, 6, .inl (fun _ => 0))), (q42, .inr (7, [.ref q43, .int 0])), (q43, .inl (cy 0, 6, .inl (fun _ => 0))), (q44, .inr (7, [.ref q45, .int 0])), (q45, .inl (cy 0, 6, .inl (fun _ => 0))), (q46, .inr (7, [.ref q47, .int 0])), (q47, .inl (cy 0, 6, .inl (fun _ => 0))), (q48, .inr (7, [.ref q49, .int 0])), (q49, .inl (cy 0, 6, .inl (fun _ => 0)))] f) (hA2 : aW [(x, .inr (11, [.ref q1, .ref q5, .ref q7, .ref q9, .ref q10, .ref q13, .ref q16, .ref q17, .ref q18, .ref q23, .ref q30, .ref q32, .int 0])), (q1, .inr (0, [.ref q2, .ref q3])), (q2, .inl (cy 0, 2400, .inl (fun _ => 0))), (q3, .inr (7, [.ref q4, .int 0])), (q4, .inl (cy 0, 6, .inl (fun _ => 0))), (q5, .inr (9, [.ref q6, .int 0])), (q6, .inl (cy 1, 400, .inl (fun _ => 0))), (q7, .inr (9, [.ref q8, .int 0])), (q8, .inl (cy 1, 480, .inl (fun _ => 0))), (q9, .inl (cy 4, 20, .inr (.inr (.inr (.inr (fun _ => none)))))), (q10, .inr (2, [.ref q11, .ref q12, .int 0, .int 0])), (q11, .inl (cy 0, 520, .inl (fun _ => 0))), (q12, .inl (cy 0, 80, .inl (fun _ => 0))), (q13, .inr (2, [.ref q14, .ref q15, .int 0, .int 0])), (q14, .inl (cy 0, 520, .inl (fun _ => 0))), (q15, .inl (cy 0, 80, .inl (fun _ => 0))), (q16, .inr (6, [.ref q5, .ref q10, .int 0, .int 0])), (q17, .inr (8, [.ref q7])), (q18, .inr (3, [.ref q19, .ref q22])), (q19, .inr (2, [.ref q20, .ref q21, .int 0, .int 0])), (q20, .inl (cy 0, 520, .inl (fun _ => 0))), (q21, .inl (cy 0, 80, .inl (fun _ => 0))), (q22, .inl (cy 0, 40, .inl (fun _ => 0))), (q23, .inr (4, [.ref q24, .int 0, .int 0, .ref q25, .ref q26, .ref q27, .ref q28, .ref q29, .int (-1)])), (q24, .inl (cy 0, 96, .inl (fun _ => 0))), (q25, .inl (cy 2, 8, .inr (.inl (fun _ => 0)))), (q26, .inl (cy 2, 8, .inr (.inl (fun _ => 0)))), (q27, .inl (cy 0, 8, .inl (fun _ => 0))), (q28, .inl (cy 0, 8, .inl (fun _ => 0))), (q29, .inl (cy 2, 8, .inr (.inl (fun _ => 0)))), (q30, .inr (1, [.ref q31, .ref q3, .ref q23, .int 0])), (q31, .inl (cy 5, 40, .inr (.inr (.inr (.inr (fun _ => none)))))), (q32, .inr (10, [.int 1, .ref q33, .ref q34, .ref q35, .ref q36, .ref q3, .ref q37, .int 0, .int 0])), (q33, .inl (cy 0, 3, .inl (upd (fun _ => 0) (Int32.toNatClampNeg 0) 1))), (q34, .inl (cy 0, 18, .inl (fun _ => 0))), (q35, .inl (cy 6, 5, .inr (.inr (.inr (.inr (va_up (va_up (va_up (va_up (va_up (fun _ => none) (Int32.toNatClampNeg 0) (some q40)) (Int32.toNatClampNeg 1) (some q42)) (Int32.toNatClampNeg 2) (some q44)) (Int32.toNatClampNeg 3) (some q46)) (Int32.toNatClampNeg 4) (some q48))))))), (q36, .inl (cy 2, 5, .inr (.inl (fun _ => 0)))), (q37, .inr (2, [.ref q38, .ref q39, .int 0, .int 0])), (q38, .inl (cy 0, 0, .inl (fun _ => 0))), (q39, .inl (cy 0, 0, .inl (fun _ => 0))), (q40, .inr (7, [.ref q41, .int 0])), (q41, .inl (cy 0, 6, .inl (fun _ => 0))), (q42, .inr (7, [.ref q43, .int 0])), (q43, .inl (cy 0, 6, .inl (fun _ => 0))), (q44, .inr (7, [.ref q45, .int 0])), (q45, .inl (cy 0, 6, .inl (fun _ => 0))), (q46, .inr (7, [.ref q47, .int 0])), (q47, .inl (cy 0, 6, .inl (fun _ => 0))), (q48, .inr (7, [.ref q49, .int 0])), (q49, .inl (cy 0, 6, .inl (fun _ => 0)))] g) (hS : mS cy m a h0m n z F G f) (hm : g m = none) (ha : ∀ k, mTy k ≠ 0 → g (a k) = none) (hF : ∀ i, i < 2400 → F 2 i = -10000) (h0 : n 0 = 0) (h1 : n 1 = 0) (h4 : n 4 = 0) (h5 : n 5 = 0) (h30 : n 30 = 0) (h38 : n 38 = 0) (h46 : n 46 = 0) (h53 : n 53 = 1) (h88 : n 88 = 0) (hG : ∀ i, i < 11 → G 27 i ≠ 0) : gG l room_1 lwQf (lwEx bs 6 b xs) D cy b code 4 ret RL nm 119 44855 f 1021 [(3, .int 0), (2, .ref m), (1, .ref x), (0, .ref bs)] [] := by
  have kx : f x = some (.inr (11, [.ref q1, .ref q5, .ref q7, .ref q9, .ref q10, .ref q13, .ref q16, .ref q17, .ref q18, .ref q23, .ref q30, .ref q32, .int 0])) := hA.1 0 _ rfl
  refine gz_aload_n dL_law_1021 rfl rfl ?_
  refine gz_aload_n dL_law_1022 rfl rfl ?_
  refine gz_iload_n dL_law_1023 rfl rfl ?_
  refine gz_iconst (v := 1) dL_law_1024 (by decide) ?_
  refine gz_iadd dL_law_1025 ?_
  refine gz_ev (w := .int 1) (by decide) ?_
  refine lz_sld (vin_T (v := 1) rfl (by decide) (by decide)) dL_law_1026 ?_
  refine gz_ev (w := .int (xs 1)) rfl ?_
  refine gz_aload_n dL_law_1027 rfl rfl ?_
  refine gz_iload_n dL_law_1028 rfl rfl ?_
  refine gz_iconst (v := 2) dL_law_1029 (by decide) ?_
  refine gz_iadd dL_law_1030 ?_
  refine gz_ev (w := .int 2) (by decide) ?_
  refine lz_sld (vin_T (v := 2) rfl (by decide) (by decide)) dL_law_1031 ?_
  refine gz_ev (w := .int (xs 2)) rfl ?_
  refine gz_aload_n dL_law_1032 rfl rfl ?_
  refine gz_iload_n dL_law_1033 rfl rfl ?_
  refine gz_iconst (v := 3) dL_law_1034 (by decide) ?_
  refine gz_iadd dL_law_1035 ?_
  refine gz_ev (w := .int 3) (by decide) ?_
  refine lz_sld (vin_T (v := 3) rfl (by decide) (by decide)) dL_law_1036 ?_
  refine gz_ev (w := .int (xs 3)) rfl ?_
  refine scL_129 (k_X11_parted (x1 := (xs 1)) (x2 := (xs 2)) (x3 := (xs 3)) kx) kx ⟨(Nat.le_of_ble_eq_true rfl), (Nat.le_of_ble_eq_true rfl)⟩ ⟨(Nat.le_of_ble_eq_true rfl), (Nat.le_of_ble_eq_true rfl)⟩ rfl rfl (Nat.le_of_ble_eq_true rfl) dL_law_1037 ?_
  rintro v9 f9 ⟨z1, z2⟩; rw [z1]
  have hs9 : ∀ y, y ∈ ([] : List Nat) → ∃ e, g y = some e := fun y hy => absurd hy List.not_mem_nil
  have hS9 := mS_fr hS hm ha z2 hs9
  refine gz_aload_n dL_law_1040 rfl rfl ?_
  refine gz_aload_n dL_law_1041 rfl rfl ?_
  refine gz_iload_n dL_law_1042 rfl rfl ?_
  refine gz_iconst (v := 1) dL_law_1043 (by decide) ?_
  refine gz_iadd dL_law_1044 ?_
  refine gz_ev (w := .int 1) (by decide) ?_
  refine lz_sld (vin_T (v := 1) rfl (by decide) (by decide)) dL_law_1045 ?_
  refine gz_ev (w := .int (xs 1)) rfl ?_
  refine gz_aload_n dL_law_1046 rfl rfl ?_
  refine gz_iload_n dL_law_1047 rfl rfl ?_
  refine gz_iconst (v := 2) dL_law_1048 (by decide) ?_
  refine gz_iadd dL_law_1049 ?_
  refine gz_ev (w := .int 2) (by decide) ?_
  refine lz_sld (vin_T (v := 2) rfl (by decide) (by decide)) dL_law_1050 ?_
  refine gz_ev (w := .int (xs 2)) rfl ?_
  refine gz_aload_n dL_law_1051 rfl rfl ?_
  refine gz_iload_n dL_law_1052 rfl rfl ?_
  refine gz_iconst (v := 3) dL_law_1053 (by decide) ?_
  refine gz_iadd dL_law_1054 ?_
  refine gz_ev (w := .int 3) (by decide) ?_
  refine lz_sld (vin_T (v := 3) rfl (by decide) (by decide)) dL_law_1055 ?_
  refine gz_ev (w := .int (xs 3)) rfl ?_
  refine scL_132 (k_X12_parted (x1 := (xs 1)) (x2 := (xs 2)) (x3 := (xs 3)) hS9 h5) hS9.1 ⟨(Nat.le_of_ble_eq_true rfl), (Nat.le_of_ble_eq_true rfl)⟩ ⟨(Nat.le_of_ble_eq_true rfl), (Nat.le_of_ble_eq_true rfl)⟩ rfl rfl (Nat.le_of_ble_eq_true rfl) dL_law_1056 ?_
  intro v8 f8 z8; rw [show v8 = _ from z8]
  refine gz_icmp_eq (tgt := 1087) dL_law_1059 (by decide) (fun c_1059 => ?_) (fun c_1059 => ?_)
  ·
    exact lw_end
  · exact absurd rfl c_1059

set_option maxHeartbeats 4000000 in
set_option maxRecDepth 100000 in
theorem lw_case_27 {l : Launch} {D : va_G} {cy : Nat → ClassId} {b bs x q1 q2 q3 q4 q5 q6 q7 q8 q9 q10 q11 q12 q13 q14 q15 q16 q17 q18 q19 q20 q21 q22 q23 q24 q25 q26 q27 q28 q29 q30 q31 q32 q33 q34 q35 q36 q37 q38 q39 q40 q41 q42 q43 q44 q45 q46 q47 q48 q49 m : Nat} {xs : Nat → Int32} {nm : String} {f g h0m : gMem} {a : Nat → Nat} {n : Nat → Int32} {z : Nat → Int64} {F : Nat → Nat → Int32} {G : Nat → Nat → Int64} (hA : aW [(x, .inr (11, [.ref q1, .ref q5, .ref q7, .ref q9, .ref q10, .ref q13, .ref q16, .ref q17, .ref q18, .ref q23, .ref q30, .ref q32, .int 0])), (q1, .inr (0, [.ref q2, .ref q3])), (q2, .inl (cy 0, 2400, .inl (fun _ => 0))), (q3, .inr (7, [.ref q4, .int 0])), (q4, .inl (cy 0, 6, .inl (fun _ => 0))), (q5, .inr (9, [.ref q6, .int 0])), (q6, .inl (cy 1, 400, .inl (fun _ => 0))), (q7, .inr (9, [.ref q8, .int 0])), (q8, .inl (cy 1, 480, .inl (fun _ => 0))), (q9, .inl (cy 4, 20, .inr (.inr (.inr (.inr (fun _ => none)))))), (q10, .inr (2, [.ref q11, .ref q12, .int 0, .int 0])), (q11, .inl (cy 0, 520, .inl (fun _ => 0))), (q12, .inl (cy 0, 80, .inl (fun _ => 0))), (q13, .inr (2, [.ref q14, .ref q15, .int 0, .int 0])), (q14, .inl (cy 0, 520, .inl (fun _ => 0))), (q15, .inl (cy 0, 80, .inl (fun _ => 0))), (q16, .inr (6, [.ref q5, .ref q10, .int 0, .int 0])), (q17, .inr (8, [.ref q7])), (q18, .inr (3, [.ref q19, .ref q22])), (q19, .inr (2, [.ref q20, .ref q21, .int 0, .int 0])), (q20, .inl (cy 0, 520, .inl (fun _ => 0))), (q21, .inl (cy 0, 80, .inl (fun _ => 0))), (q22, .inl (cy 0, 40, .inl (fun _ => 0))), (q23, .inr (4, [.ref q24, .int 0, .int 0, .ref q25, .ref q26, .ref q27, .ref q28, .ref q29, .int (-1)])), (q24, .inl (cy 0, 96, .inl (fun _ => 0))), (q25, .inl (cy 2, 8, .inr (.inl (fun _ => 0)))), (q26, .inl (cy 2, 8, .inr (.inl (fun _ => 0)))), (q27, .inl (cy 0, 8, .inl (fun _ => 0))), (q28, .inl (cy 0, 8, .inl (fun _ => 0))), (q29, .inl (cy 2, 8, .inr (.inl (fun _ => 0)))), (q30, .inr (1, [.ref q31, .ref q3, .ref q23, .int 0])), (q31, .inl (cy 5, 40, .inr (.inr (.inr (.inr (fun _ => none)))))), (q32, .inr (10, [.int 1, .ref q33, .ref q34, .ref q35, .ref q36, .ref q3, .ref q37, .int 0, .int 0])), (q33, .inl (cy 0, 3, .inl (upd (fun _ => 0) (Int32.toNatClampNeg 0) 1))), (q34, .inl (cy 0, 18, .inl (fun _ => 0))), (q35, .inl (cy 6, 5, .inr (.inr (.inr (.inr (va_up (va_up (va_up (va_up (va_up (fun _ => none) (Int32.toNatClampNeg 0) (some q40)) (Int32.toNatClampNeg 1) (some q42)) (Int32.toNatClampNeg 2) (some q44)) (Int32.toNatClampNeg 3) (some q46)) (Int32.toNatClampNeg 4) (some q48))))))), (q36, .inl (cy 2, 5, .inr (.inl (fun _ => 0)))), (q37, .inr (2, [.ref q38, .ref q39, .int 0, .int 0])), (q38, .inl (cy 0, 0, .inl (fun _ => 0))), (q39, .inl (cy 0, 0, .inl (fun _ => 0))), (q40, .inr (7, [.ref q41, .int 0])), (q41, .inl (cy 0, 6, .inl (fun _ => 0))), (q42, .inr (7, [.ref q43, .int 0])), (q43, .inl (cy 0, 6, .inl (fun _ => 0))), (q44, .inr (7, [.ref q45, .int 0])), (q45, .inl (cy 0, 6, .inl (fun _ => 0))), (q46, .inr (7, [.ref q47, .int 0])), (q47, .inl (cy 0, 6, .inl (fun _ => 0))), (q48, .inr (7, [.ref q49, .int 0])), (q49, .inl (cy 0, 6, .inl (fun _ => 0)))] f) (hA2 : aW [(x, .inr (11, [.ref q1, .ref q5, .ref q7, .ref q9, .ref q10, .ref q13, .ref q16, .ref q17, .ref q18, .ref q23, .ref q30, .ref q32, .int 0])), (q1, .inr (0, [.ref q2, .ref q3])), (q2, .inl (cy 0, 2400, .inl (fun _ => 0))), (q3, .inr (7, [.ref q4, .int 0])), (q4, .inl (cy 0, 6, .inl (fun _ => 0))), (q5, .inr (9, [.ref q6, .int 0])), (q6, .inl (cy 1, 400, .inl (fun _ => 0))), (q7, .inr (9, [.ref q8, .int 0])), (q8, .inl (cy 1, 480, .inl (fun _ => 0))), (q9, .inl (cy 4, 20, .inr (.inr (.inr (.inr (fun _ => none)))))), (q10, .inr (2, [.ref q11, .ref q12, .int 0, .int 0])), (q11, .inl (cy 0, 520, .inl (fun _ => 0))), (q12, .inl (cy 0, 80, .inl (fun _ => 0))), (q13, .inr (2, [.ref q14, .ref q15, .int 0, .int 0])), (q14, .inl (cy 0, 520, .inl (fun _ => 0))), (q15, .inl (cy 0, 80, .inl (fun _ => 0))), (q16, .inr (6, [.ref q5, .ref q10, .int 0, .int 0])), (q17, .inr (8, [.ref q7])), (q18, .inr (3, [.ref q19, .ref q22])), (q19, .inr (2, [.ref q20, .ref q21, .int 0, .int 0])), (q20, .inl (cy 0, 520, .inl (fun _ => 0))), (q21, .inl (cy 0, 80, .inl (fun _ => 0))), (q22, .inl (cy 0, 40, .inl (fun _ => 0))), (q23, .inr (4, [.ref q24, .int 0, .int 0, .ref q25, .ref q26, .ref q27, .ref q28, .ref q29, .int (-1)])), (q24, .inl (cy 0, 96, .inl (fun _ => 0))), (q25, .inl (cy 2, 8, .inr (.inl (fun _ => 0)))), (q26, .inl (cy 2, 8, .inr (.inl (fun _ => 0)))), (q27, .inl (cy 0, 8, .inl (fun _ => 0))), (q28, .inl (cy 0, 8, .inl (fun _ => 0))), (q29, .inl (cy 2, 8, .inr (.inl (fun _ => 0)))), (q30, .inr (1, [.ref q31, .ref q3, .ref q23, .int 0])), (q31, .inl (cy 5, 40, .inr (.inr (.inr (.inr (fun _ => none)))))), (q32, .inr (10, [.int 1, .ref q33, .ref q34, .ref q35, .ref q36, .ref q3, .ref q37, .int 0, .int 0])), (q33, .inl (cy 0, 3, .inl (upd (fun _ => 0) (Int32.toNatClampNeg 0) 1))), (q34, .inl (cy 0, 18, .inl (fun _ => 0))), (q35, .inl (cy 6, 5, .inr (.inr (.inr (.inr (va_up (va_up (va_up (va_up (va_up (fun _ => none) (Int32.toNatClampNeg 0) (some q40)) (Int32.toNatClampNeg 1) (some q42)) (Int32.toNatClampNeg 2) (some q44)) (Int32.toNatClampNeg 3) (some q46)) (Int32.toNatClampNeg 4) (some q48))))))), (q36, .inl (cy 2, 5, .inr (.inl (fun _ => 0)))), (q37, .inr (2, [.ref q38, .ref q39, .int 0, .int 0])), (q38, .inl (cy 0, 0, .inl (fun _ => 0))), (q39, .inl (cy 0, 0, .inl (fun _ => 0))), (q40, .inr (7, [.ref q41, .int 0])), (q41, .inl (cy 0, 6, .inl (fun _ => 0))), (q42, .inr (7, [.ref q43, .int 0])), (q43, .inl (cy 0, 6, .inl (fun _ => 0))), (q44, .inr (7, [.ref q45, .int 0])), (q45, .inl (cy 0, 6, .inl (fun _ => 0))), (q46, .inr (7, [.ref q47, .int 0])), (q47, .inl (cy 0, 6, .inl (fun _ => 0))), (q48, .inr (7, [.ref q49, .int 0])), (q49, .inl (cy 0, 6, .inl (fun _ => 0)))] g) (hS : mS cy m a h0m n z F G f) (hm : g m = none) (ha : ∀ k, mTy k ≠ 0 → g (a k) = none) (hF : ∀ i, i < 2400 → F 2 i = -10000) (h0 : n 0 = 0) (h1 : n 1 = 0) (h4 : n 4 = 0) (h5 : n 5 = 0) (h30 : n 30 = 0) (h38 : n 38 = 0) (h46 : n 46 = 0) (h53 : n 53 = 1) (h88 : n 88 = 0) (hG : ∀ i, i < 11 → G 27 i ≠ 0) : gG l room_1 lwQf (lwEx bs 6 b xs) D cy b code 4 ret RL nm 119 44855 f 1064 [(3, .int 0), (2, .ref m), (1, .ref x), (0, .ref bs)] [] := by
  have kx : f x = some (.inr (11, [.ref q1, .ref q5, .ref q7, .ref q9, .ref q10, .ref q13, .ref q16, .ref q17, .ref q18, .ref q23, .ref q30, .ref q32, .int 0])) := hA.1 0 _ rfl
  have kch : f q1 = some (.inr (0, [.ref q2, .ref q3])) := hA.1 1 _ rfl
  have ktd : f q3 = some (.inr (7, [.ref q4, .int 0])) := hA.1 3 _ rfl
  have kco : f q30 = some (.inr (1, [.ref q31, .ref q3, .ref q23, .int 0])) := hA.1 30 _ rfl
  have kle : f q23 = some (.inr (4, [.ref q24, .int 0, .int 0, .ref q25, .ref q26, .ref q27, .ref q28, .ref q29, .int (-1)])) := hA.1 23 _ rfl
  have ktp : f q5 = some (.inr (9, [.ref q6, .int 0])) := hA.1 5 _ rfl
  have kou : f q7 = some (.inr (9, [.ref q8, .int 0])) := hA.1 7 _ rfl
  have kwo : f q32 = some (.inr (10, [.int 1, .ref q33, .ref q34, .ref q35, .ref q36, .ref q3, .ref q37, .int 0, .int 0])) := hA.1 32 _ rfl
  refine gz_aload_n dL_law_1064 rfl rfl ?_
  refine gz_aload_n dL_law_1065 rfl rfl ?_
  refine gz_iload_n dL_law_1066 rfl rfl ?_
  refine gz_iconst (v := 1) dL_law_1067 (by decide) ?_
  refine gz_iadd dL_law_1068 ?_
  refine gz_ev (w := .int 1) (by decide) ?_
  refine lz_sld (vin_T (v := 1) rfl (by decide) (by decide)) dL_law_1069 ?_
  refine gz_ev (w := .int (xs 1)) rfl ?_
  refine scL_133 (k_X11_count (x1 := (xs 1)) kx kch ktd kco kle ktp kou kwo) kx ⟨(Nat.le_of_ble_eq_true rfl), (Nat.le_of_ble_eq_true rfl)⟩ ⟨(Nat.le_of_ble_eq_true rfl), (Nat.le_of_ble_eq_true rfl)⟩ rfl rfl (Nat.le_of_ble_eq_true rfl) dL_law_1070 ?_
  rintro v9 f9 ⟨z1, z2⟩; rw [z1]
  have hs9 : ∀ y, y ∈ ([] : List Nat) → ∃ e, g y = some e := fun y hy => absurd hy List.not_mem_nil
  have hS9 := mS_fr hS hm ha z2 hs9
  refine gz_aload_n dL_law_1073 rfl rfl ?_
  refine gz_aload_n dL_law_1074 rfl rfl ?_
  refine gz_iload_n dL_law_1075 rfl rfl ?_
  refine gz_iconst (v := 1) dL_law_1076 (by decide) ?_
  refine gz_iadd dL_law_1077 ?_
  refine gz_ev (w := .int 1) (by decide) ?_
  refine lz_sld (vin_T (v := 1) rfl (by decide) (by decide)) dL_law_1078 ?_
  refine gz_ev (w := .int (xs 1)) rfl ?_
  refine scL_136 (k_X12_count (x1 := (xs 1)) hS9 h0 h5 h30 h38 h4 h88 h53 h1) hS9.1 ⟨(Nat.le_of_ble_eq_true rfl), (Nat.le_of_ble_eq_true rfl)⟩ ⟨(Nat.le_of_ble_eq_true rfl), (Nat.le_of_ble_eq_true rfl)⟩ rfl rfl (Nat.le_of_ble_eq_true rfl) dL_law_1079 ?_
  intro v8 f8 z8; rw [show v8 = _ from z8]
  refine gz_icmp_eq (tgt := 1087) dL_law_1082 (by decide) (fun c_1082 => ?_) (fun c_1082 => ?_)
  ·
    exact lw_end
  · exact absurd rfl c_1082

set_option maxHeartbeats 4000000 in
set_option maxRecDepth 100000 in
theorem lw_all {l : Launch} {D : va_G} {cy : Nat → ClassId} {b bs L : Nat} {xs : Nat → Int32} {nm : String} (hL : L ≤ 6) : gG l room_1 lwQf (lwEx bs L b xs) D cy b code 4 ret RL nm 0 0 (fun _ => none) 0 [(0, .ref bs)] [] := by
  refine snL_7 (Nat.le_of_ble_eq_true rfl) (Nat.le_of_ble_eq_true rfl) dL_law_0 (fun x hxn => ?_)
  refine gz_dup dL_law_3 rfl ?_
  refine gz_gen (fun f1 hf1 => ?_)
  have hx1 : f1 x = some (.inr (11, [.null, .null, .null, .null, .null, .null, .null, .null, .null, .null, .null, .null, .int 0])) := by rw [hf1]; exact va_up_self _ _ _
  refine scL_9 (k_X11_init hx1) ⟨(Nat.le_of_ble_eq_true rfl), (Nat.le_of_ble_eq_true rfl)⟩ ⟨(Nat.le_of_ble_eq_true rfl), (Nat.le_of_ble_eq_true rfl)⟩ rfl rfl (Nat.le_of_ble_eq_true rfl) dL_law_4 ?_
  rintro f2 ⟨q1, q2, q3, q4, q5, q6, q7, q8, q9, q10, q11, q12, q13, q14, q15, q16, q17, q18, q19, q20, q21, q22, q23, q24, q25, q26, q27, q28, q29, q30, q31, q32, q33, q34, q35, q36, q37, q38, q39, q40, q41, q42, q43, q44, q45, q46, q47, q48, q49, hC⟩
  have hA2 : aW [(x, .inr (11, [.ref q1, .ref q5, .ref q7, .ref q9, .ref q10, .ref q13, .ref q16, .ref q17, .ref q18, .ref q23, .ref q30, .ref q32, .int 0])), (q1, .inr (0, [.ref q2, .ref q3])), (q2, .inl (cy 0, 2400, .inl (fun _ => 0))), (q3, .inr (7, [.ref q4, .int 0])), (q4, .inl (cy 0, 6, .inl (fun _ => 0))), (q5, .inr (9, [.ref q6, .int 0])), (q6, .inl (cy 1, 400, .inl (fun _ => 0))), (q7, .inr (9, [.ref q8, .int 0])), (q8, .inl (cy 1, 480, .inl (fun _ => 0))), (q9, .inl (cy 4, 20, .inr (.inr (.inr (.inr (fun _ => none)))))), (q10, .inr (2, [.ref q11, .ref q12, .int 0, .int 0])), (q11, .inl (cy 0, 520, .inl (fun _ => 0))), (q12, .inl (cy 0, 80, .inl (fun _ => 0))), (q13, .inr (2, [.ref q14, .ref q15, .int 0, .int 0])), (q14, .inl (cy 0, 520, .inl (fun _ => 0))), (q15, .inl (cy 0, 80, .inl (fun _ => 0))), (q16, .inr (6, [.ref q5, .ref q10, .int 0, .int 0])), (q17, .inr (8, [.ref q7])), (q18, .inr (3, [.ref q19, .ref q22])), (q19, .inr (2, [.ref q20, .ref q21, .int 0, .int 0])), (q20, .inl (cy 0, 520, .inl (fun _ => 0))), (q21, .inl (cy 0, 80, .inl (fun _ => 0))), (q22, .inl (cy 0, 40, .inl (fun _ => 0))), (q23, .inr (4, [.ref q24, .int 0, .int 0, .ref q25, .ref q26, .ref q27, .ref q28, .ref q29, .int (-1)])), (q24, .inl (cy 0, 96, .inl (fun _ => 0))), (q25, .inl (cy 2, 8, .inr (.inl (fun _ => 0)))), (q26, .inl (cy 2, 8, .inr (.inl (fun _ => 0)))), (q27, .inl (cy 0, 8, .inl (fun _ => 0))), (q28, .inl (cy 0, 8, .inl (fun _ => 0))), (q29, .inl (cy 2, 8, .inr (.inl (fun _ => 0)))), (q30, .inr (1, [.ref q31, .ref q3, .ref q23, .int 0])), (q31, .inl (cy 5, 40, .inr (.inr (.inr (.inr (fun _ => none)))))), (q32, .inr (10, [.int 1, .ref q33, .ref q34, .ref q35, .ref q36, .ref q3, .ref q37, .int 0, .int 0])), (q33, .inl (cy 0, 3, .inl (upd (fun _ => 0) (Int32.toNatClampNeg 0) 1))), (q34, .inl (cy 0, 18, .inl (fun _ => 0))), (q35, .inl (cy 6, 5, .inr (.inr (.inr (.inr (va_up (va_up (va_up (va_up (va_up (fun _ => none) (Int32.toNatClampNeg 0) (some q40)) (Int32.toNatClampNeg 1) (some q42)) (Int32.toNatClampNeg 2) (some q44)) (Int32.toNatClampNeg 3) (some q46)) (Int32.toNatClampNeg 4) (some q48))))))), (q36, .inl (cy 2, 5, .inr (.inl (fun _ => 0)))), (q37, .inr (2, [.ref q38, .ref q39, .int 0, .int 0])), (q38, .inl (cy 0, 0, .inl (fun _ => 0))), (q39, .inl (cy 0, 0, .inl (fun _ => 0))), (q40, .inr (7, [.ref q41, .int 0])), (q41, .inl (cy 0, 6, .inl (fun _ => 0))), (q42, .inr (7, [.ref q43, .int 0])), (q43, .inl (cy 0, 6, .inl (fun _ => 0))), (q44, .inr (7, [.ref q45, .int 0])), (q45, .inl (cy 0, 6, .inl (fun _ => 0))), (q46, .inr (7, [.ref q47, .int 0])), (q47, .inl (cy 0, 6, .inl (fun _ => 0))), (q48, .inr (7, [.ref q49, .int 0])), (q49, .inl (cy 0, 6, .inl (fun _ => 0)))] f2 := hC.1
  refine gz_astore_n (lv' := [(1, .ref x), (0, .ref bs)]) dL_law_7 rfl (by decide) rfl ?_
  refine snL_10 (Nat.le_of_ble_eq_true rfl) (Nat.le_of_ble_eq_true rfl) dL_law_8 (fun m hmn => ?_)
  refine gz_dup dL_law_11 rfl ?_
  refine gz_gen (fun f3 hf3 => ?_)
  have hm3 : f3 m = some (.inr (12, mFo (fun _ => none) (fun _ => 0) (fun _ => 0))) := by rw [hf3]; exact va_up_self _ _ _
  have hA3 : aW [(x, .inr (11, [.ref q1, .ref q5, .ref q7, .ref q9, .ref q10, .ref q13, .ref q16, .ref q17, .ref q18, .ref q23, .ref q30, .ref q32, .int 0])), (q1, .inr (0, [.ref q2, .ref q3])), (q2, .inl (cy 0, 2400, .inl (fun _ => 0))), (q3, .inr (7, [.ref q4, .int 0])), (q4, .inl (cy 0, 6, .inl (fun _ => 0))), (q5, .inr (9, [.ref q6, .int 0])), (q6, .inl (cy 1, 400, .inl (fun _ => 0))), (q7, .inr (9, [.ref q8, .int 0])), (q8, .inl (cy 1, 480, .inl (fun _ => 0))), (q9, .inl (cy 4, 20, .inr (.inr (.inr (.inr (fun _ => none)))))), (q10, .inr (2, [.ref q11, .ref q12, .int 0, .int 0])), (q11, .inl (cy 0, 520, .inl (fun _ => 0))), (q12, .inl (cy 0, 80, .inl (fun _ => 0))), (q13, .inr (2, [.ref q14, .ref q15, .int 0, .int 0])), (q14, .inl (cy 0, 520, .inl (fun _ => 0))), (q15, .inl (cy 0, 80, .inl (fun _ => 0))), (q16, .inr (6, [.ref q5, .ref q10, .int 0, .int 0])), (q17, .inr (8, [.ref q7])), (q18, .inr (3, [.ref q19, .ref q22])), (q19, .inr (2, [.ref q20, .ref q21, .int 0, .int 0])), (q20, .inl (cy 0, 520, .inl (fun _ => 0))), (q21, .inl (cy 0, 80, .inl (fun _ => 0))), (q22, .inl (cy 0, 40, .inl (fun _ => 0))), (q23, .inr (4, [.ref q24, .int 0, .int 0, .ref q25, .ref q26, .ref q27, .ref q28, .ref q29, .int (-1)])), (q24, .inl (cy 0, 96, .inl (fun _ => 0))), (q25, .inl (cy 2, 8, .inr (.inl (fun _ => 0)))), (q26, .inl (cy 2, 8, .inr (.inl (fun _ => 0)))), (q27, .inl (cy 0, 8, .inl (fun _ => 0))), (q28, .inl (cy 0, 8, .inl (fun _ => 0))), (q29, .inl (cy 2, 8, .inr (.inl (fun _ => 0)))), (q30, .inr (1, [.ref q31, .ref q3, .ref q23, .int 0])), (q31, .inl (cy 5, 40, .inr (.inr (.inr (.inr (fun _ => none)))))), (q32, .inr (10, [.int 1, .ref q33, .ref q34, .ref q35, .ref q36, .ref q3, .ref q37, .int 0, .int 0])), (q33, .inl (cy 0, 3, .inl (upd (fun _ => 0) (Int32.toNatClampNeg 0) 1))), (q34, .inl (cy 0, 18, .inl (fun _ => 0))), (q35, .inl (cy 6, 5, .inr (.inr (.inr (.inr (va_up (va_up (va_up (va_up (va_up (fun _ => none) (Int32.toNatClampNeg 0) (some q40)) (Int32.toNatClampNeg 1) (some q42)) (Int32.toNatClampNeg 2) (some q44)) (Int32.toNatClampNeg 3) (some q46)) (Int32.toNatClampNeg 4) (some q48))))))), (q36, .inl (cy 2, 5, .inr (.inl (fun _ => 0)))), (q37, .inr (2, [.ref q38, .ref q39, .int 0, .int 0])), (q38, .inl (cy 0, 0, .inl (fun _ => 0))), (q39, .inl (cy 0, 0, .inl (fun _ => 0))), (q40, .inr (7, [.ref q41, .int 0])), (q41, .inl (cy 0, 6, .inl (fun _ => 0))), (q42, .inr (7, [.ref q43, .int 0])), (q43, .inl (cy 0, 6, .inl (fun _ => 0))), (q44, .inr (7, [.ref q45, .int 0])), (q45, .inl (cy 0, 6, .inl (fun _ => 0))), (q46, .inr (7, [.ref q47, .int 0])), (q47, .inl (cy 0, 6, .inl (fun _ => 0))), (q48, .inr (7, [.ref q49, .int 0])), (q49, .inl (cy 0, 6, .inl (fun _ => 0)))] f3 := ⟨fun k q hk => by rw [hf3, va_up_ne _ _ (cnn (hA2.1 k q hk) hmn)]; exact hA2.1 k q hk, hA2.2⟩
  refine scL_12 (k_X12_init hm3) ⟨(Nat.le_of_ble_eq_true rfl), (Nat.le_of_ble_eq_true rfl)⟩ ⟨(Nat.le_of_ble_eq_true rfl), (Nat.le_of_ble_eq_true rfl)⟩ rfl rfl (Nat.le_of_ble_eq_true rfl) dL_law_12 ?_
  rintro f4 ⟨a, n, z, F, G, hS, ha3, hF, h0, h1, h4, h5, h30, h38, h46, h53, h88, hG⟩
  have ha : ∀ k, mTy k ≠ 0 → f2 (a k) = none := fun k hk => by
    have := ha3 k hk
    rw [hf3, va_up_ne _ _ (hS.2.2.1.2 k hk)] at this
    exact this
  have hA4 : aW [(x, .inr (11, [.ref q1, .ref q5, .ref q7, .ref q9, .ref q10, .ref q13, .ref q16, .ref q17, .ref q18, .ref q23, .ref q30, .ref q32, .int 0])), (q1, .inr (0, [.ref q2, .ref q3])), (q2, .inl (cy 0, 2400, .inl (fun _ => 0))), (q3, .inr (7, [.ref q4, .int 0])), (q4, .inl (cy 0, 6, .inl (fun _ => 0))), (q5, .inr (9, [.ref q6, .int 0])), (q6, .inl (cy 1, 400, .inl (fun _ => 0))), (q7, .inr (9, [.ref q8, .int 0])), (q8, .inl (cy 1, 480, .inl (fun _ => 0))), (q9, .inl (cy 4, 20, .inr (.inr (.inr (.inr (fun _ => none)))))), (q10, .inr (2, [.ref q11, .ref q12, .int 0, .int 0])), (q11, .inl (cy 0, 520, .inl (fun _ => 0))), (q12, .inl (cy 0, 80, .inl (fun _ => 0))), (q13, .inr (2, [.ref q14, .ref q15, .int 0, .int 0])), (q14, .inl (cy 0, 520, .inl (fun _ => 0))), (q15, .inl (cy 0, 80, .inl (fun _ => 0))), (q16, .inr (6, [.ref q5, .ref q10, .int 0, .int 0])), (q17, .inr (8, [.ref q7])), (q18, .inr (3, [.ref q19, .ref q22])), (q19, .inr (2, [.ref q20, .ref q21, .int 0, .int 0])), (q20, .inl (cy 0, 520, .inl (fun _ => 0))), (q21, .inl (cy 0, 80, .inl (fun _ => 0))), (q22, .inl (cy 0, 40, .inl (fun _ => 0))), (q23, .inr (4, [.ref q24, .int 0, .int 0, .ref q25, .ref q26, .ref q27, .ref q28, .ref q29, .int (-1)])), (q24, .inl (cy 0, 96, .inl (fun _ => 0))), (q25, .inl (cy 2, 8, .inr (.inl (fun _ => 0)))), (q26, .inl (cy 2, 8, .inr (.inl (fun _ => 0)))), (q27, .inl (cy 0, 8, .inl (fun _ => 0))), (q28, .inl (cy 0, 8, .inl (fun _ => 0))), (q29, .inl (cy 2, 8, .inr (.inl (fun _ => 0)))), (q30, .inr (1, [.ref q31, .ref q3, .ref q23, .int 0])), (q31, .inl (cy 5, 40, .inr (.inr (.inr (.inr (fun _ => none)))))), (q32, .inr (10, [.int 1, .ref q33, .ref q34, .ref q35, .ref q36, .ref q3, .ref q37, .int 0, .int 0])), (q33, .inl (cy 0, 3, .inl (upd (fun _ => 0) (Int32.toNatClampNeg 0) 1))), (q34, .inl (cy 0, 18, .inl (fun _ => 0))), (q35, .inl (cy 6, 5, .inr (.inr (.inr (.inr (va_up (va_up (va_up (va_up (va_up (fun _ => none) (Int32.toNatClampNeg 0) (some q40)) (Int32.toNatClampNeg 1) (some q42)) (Int32.toNatClampNeg 2) (some q44)) (Int32.toNatClampNeg 3) (some q46)) (Int32.toNatClampNeg 4) (some q48))))))), (q36, .inl (cy 2, 5, .inr (.inl (fun _ => 0)))), (q37, .inr (2, [.ref q38, .ref q39, .int 0, .int 0])), (q38, .inl (cy 0, 0, .inl (fun _ => 0))), (q39, .inl (cy 0, 0, .inl (fun _ => 0))), (q40, .inr (7, [.ref q41, .int 0])), (q41, .inl (cy 0, 6, .inl (fun _ => 0))), (q42, .inr (7, [.ref q43, .int 0])), (q43, .inl (cy 0, 6, .inl (fun _ => 0))), (q44, .inr (7, [.ref q45, .int 0])), (q45, .inl (cy 0, 6, .inl (fun _ => 0))), (q46, .inr (7, [.ref q47, .int 0])), (q47, .inl (cy 0, 6, .inl (fun _ => 0))), (q48, .inr (7, [.ref q49, .int 0])), (q49, .inl (cy 0, 6, .inl (fun _ => 0)))] f4 := aW_fr hA3 hS.2.2.2 (fun k q hk => mL_no (cnn (hA2.1 k q hk) hmn) (fun i hi e => by
    have h9 := ha i hi
    rw [e, hA2.1 k q hk] at h9
    cases h9))
  refine gz_astore_n (lv' := [(2, .ref m), (1, .ref x), (0, .ref bs)]) dL_law_15 rfl (by decide) rfl ?_
  refine gz_iconst (v := 0) dL_law_16 (by decide) ?_
  refine gz_istore_n (lv' := [(3, .int 0), (2, .ref m), (1, .ref x), (0, .ref bs)]) dL_law_17 rfl (by decide) rfl ?_
  refine gz_iload_n dL_law_18 rfl rfl ?_
  refine gz_aload_n dL_law_19 rfl rfl ?_
  refine lz_slen dL_law_20 ?_
  refine gz_bipush (v := 6) dL_law_21 (by decide) ?_
  refine gz_isub dL_law_23 ?_
  refine gz_icmp_gt (tgt := 1093) dL_law_24 (by decide) (fun c_24 => ?_) (fun c_24 => ?_)
  · refine gz_iconst (v := 1) dL_law_1093 (by decide) ?_
    exact lz_ret dL_law_1094 (Nat.le_of_ble_eq_true rfl) (Nat.le_of_ble_eq_true rfl)
  ·
    have hL6 : L = 6 := by
      rw [fl_lt] at c_24
      have e6 : (6 : Int32).toInt = 6 := rfl
      have e0 : (0 : Int32).toInt = 0 := rfl
      have eL : (Int32.ofNat L).toInt = L := ofN_toInt (by omega)
      rw [subT (by omega) (by omega)] at c_24
      omega
    subst hL6
    refine gz_aload_n dL_law_27 rfl rfl ?_
    refine gz_iload_n dL_law_28 rfl rfl ?_
    refine lz_sld (vin_T (v := 0) rfl (by decide) (by decide)) dL_law_29 ?_
    refine gz_ev (w := .int (xs 0)) rfl ?_
    refine gz_bipush (v := 31) dL_law_30 (by decide) ?_
    refine gz_iand dL_law_32 ?_
    obtain ⟨j, hj, ej⟩ := pk_andE (xs 0) (m := 31) 5 (by decide)
    refine gz_ev (w := .int (nI j)) (by rw [ej]) ?_
    match j, hj with
    | 0, _ => exact gz_tableIn (x := 0) (off := 127) (tgt := 160) dL_law_33 (by decide) (by decide) rfl (by decide) (lw_case_0 hA4 hA2 hS hmn ha hF h0 h1 h4 h5 h30 h38 h46 h53 h88 hG)
    | 1, _ => exact gz_tableIn (x := 1) (off := 170) (tgt := 203) dL_law_33 (by decide) (by decide) rfl (by decide) (lw_case_1 hA4 hA2 hS hmn ha hF h0 h1 h4 h5 h30 h38 h46 h53 h88 hG)
    | 2, _ => exact gz_tableIn (x := 2) (off := 203) (tgt := 236) dL_law_33 (by decide) (by decide) rfl (by decide) (lw_case_2 hA4 hA2 hS hmn ha hF h0 h1 h4 h5 h30 h38 h46 h53 h88 hG)
    | 3, _ => exact gz_tableIn (x := 3) (off := 266) (tgt := 299) dL_law_33 (by decide) (by decide) rfl (by decide) (lw_case_3 hA4 hA2 hS hmn ha hF h0 h1 h4 h5 h30 h38 h46 h53 h88 hG)
    | 4, _ => exact gz_tableIn (x := 4) (off := 289) (tgt := 322) dL_law_33 (by decide) (by decide) rfl (by decide) (lw_case_4 hA4 hA2 hS hmn ha hF h0 h1 h4 h5 h30 h38 h46 h53 h88 hG)
    | 5, _ => exact gz_tableIn (x := 5) (off := 302) (tgt := 335) dL_law_33 (by decide) (by decide) rfl (by decide) (lw_case_5 hA4 hA2 hS hmn ha hF h0 h1 h4 h5 h30 h38 h46 h53 h88 hG)
    | 6, _ => exact gz_tableIn (x := 6) (off := 345) (tgt := 378) dL_law_33 (by decide) (by decide) rfl (by decide) (lw_case_6 hA4 hA2 hS hmn ha hF h0 h1 h4 h5 h30 h38 h46 h53 h88 hG)
    | 7, _ => exact gz_tableIn (x := 7) (off := 368) (tgt := 401) dL_law_33 (by decide) (by decide) rfl (by decide) (lw_case_7 hA4 hA2 hS hmn ha hF h0 h1 h4 h5 h30 h38 h46 h53 h88 hG)
    | 8, _ => exact gz_tableIn (x := 8) (off := 391) (tgt := 424) dL_law_33 (by decide) (by decide) rfl (by decide) (lw_case_8 hA4 hA2 hS hmn ha hF h0 h1 h4 h5 h30 h38 h46 h53 h88 hG)
    | 9, _ => exact gz_tableIn (x := 9) (off := 424) (tgt := 457) dL_law_33 (by decide) (by decide) rfl (by decide) (lw_case_9 hA4 hA2 hS hmn ha hF h0 h1 h4 h5 h30 h38 h46 h53 h88 hG)
    | 10, _ => exact gz_tableIn (x := 10) (off := 447) (tgt := 480) dL_law_33 (by decide) (by decide) rfl (by decide) (lw_case_10 hA4 hA2 hS hmn ha hF h0 h1 h4 h5 h30 h38 h46 h53 h88 hG)
    | 11, _ => exact gz_tableIn (x := 11) (off := 470) (tgt := 503) dL_law_33 (by decide) (by decide) rfl (by decide) (lw_case_11 hA4 hA2 hS hmn ha hF h0 h1 h4 h5 h30 h38 h46 h53 h88 hG)
    | 12, _ => exact gz_tableIn (x := 12) (off := 513) (tgt := 546) dL_law_33 (by decide) (by decide) rfl (by decide) (lw_case_12 hA4 hA2 hS hmn ha hF h0 h1 h4 h5 h30 h38 h46 h53 h88 hG)
    | 13, _ => exact gz_tableIn (x := 13) (off := 526) (tgt := 559) dL_law_33 (by decide) (by decide) rfl (by decide) (lw_case_13 hA4 hA2 hS hmn ha hF h0 h1 h4 h5 h30 h38 h46 h53 h88 hG)
    | 14, _ => exact gz_tableIn (x := 14) (off := 549) (tgt := 582) dL_law_33 (by decide) (by decide) rfl (by decide) (lw_case_14 hA4 hA2 hS hmn ha hF h0 h1 h4 h5 h30 h38 h46 h53 h88 hG)
    | 15, _ => exact gz_tableIn (x := 15) (off := 592) (tgt := 625) dL_law_33 (by decide) (by decide) rfl (by decide) (lw_case_15 hA4 hA2 hS hmn ha hF h0 h1 h4 h5 h30 h38 h46 h53 h88 hG)
    | 16, _ => exact gz_tableIn (x := 16) (off := 645) (tgt := 678) dL_law_33 (by decide) (by decide) rfl (by decide) (lw_case_16 hA4 hA2 hS hmn ha hF h0 h1 h4 h5 h30 h38 h46 h53 h88 hG)
    | 17, _ => exact gz_tableIn (x := 17) (off := 688) (tgt := 721) dL_law_33 (by decide) (by decide) rfl (by decide) (lw_case_17 hA4 hA2 hS hmn ha hF h0 h1 h4 h5 h30 h38 h46 h53 h88 hG)
    | 18, _ => exact gz_tableIn (x := 18) (off := 721) (tgt := 754) dL_law_33 (by decide) (by decide) rfl (by decide) (lw_case_18 hA4 hA2 hS hmn ha hF h0 h1 h4 h5 h30 h38 h46 h53 h88 hG)
    | 19, _ => exact gz_tableIn (x := 19) (off := 745) (tgt := 778) dL_law_33 (by decide) (by decide) rfl (by decide) (lw_case_19 hA4 hA2 hS hmn ha hF h0 h1 h4 h5 h30 h38 h46 h53 h88 hG)
    | 20, _ => exact gz_tableIn (x := 20) (off := 768) (tgt := 801) dL_law_33 (by decide) (by decide) rfl (by decide) (lw_case_20 hA4 hA2 hS hmn ha hF h0 h1 h4 h5 h30 h38 h46 h53 h88 hG)
    | 21, _ => exact gz_tableIn (x := 21) (off := 802) (tgt := 835) dL_law_33 (by decide) (by decide) rfl (by decide) (lw_case_21 hA4 hA2 hS hmn ha hF h0 h1 h4 h5 h30 h38 h46 h53 h88 hG)
    | 22, _ => exact gz_tableIn (x := 22) (off := 825) (tgt := 858) dL_law_33 (by decide) (by decide) rfl (by decide) (lw_case_22 hA4 hA2 hS hmn ha hF h0 h1 h4 h5 h30 h38 h46 h53 h88 hG)
    | 23, _ => exact gz_tableIn (x := 23) (off := 858) (tgt := 891) dL_law_33 (by decide) (by decide) rfl (by decide) (lw_case_23 hA4 hA2 hS hmn ha hF h0 h1 h4 h5 h30 h38 h46 h53 h88 hG)
    | 24, _ => exact gz_tableIn (x := 24) (off := 901) (tgt := 934) dL_law_33 (by decide) (by decide) rfl (by decide) (lw_case_24 hA4 hA2 hS hmn ha hF h0 h1 h4 h5 h30 h38 h46 h53 h88 hG)
    | 25, _ => exact gz_tableIn (x := 25) (off := 945) (tgt := 978) dL_law_33 (by decide) (by decide) rfl (by decide) (lw_case_25 hA4 hA2 hS hmn ha hF h0 h1 h4 h5 h30 h38 h46 h53 h88 hG)
    | 26, _ => exact gz_tableIn (x := 26) (off := 988) (tgt := 1021) dL_law_33 (by decide) (by decide) rfl (by decide) (lw_case_26 hA4 hA2 hS hmn ha hF h0 h1 h4 h5 h30 h38 h46 h53 h88 hG)
    | 27, _ => exact gz_tableIn (x := 27) (off := 1031) (tgt := 1064) dL_law_33 (by decide) (by decide) rfl (by decide) (lw_case_27 hA4 hA2 hS hmn ha hF h0 h1 h4 h5 h30 h38 h46 h53 h88 hG)
    | 28, _ => exact gz_tableOut (x := 28) (tgt := 1087) dL_law_33 (by decide) (by decide) lw_end
    | 29, _ => exact gz_tableOut (x := 29) (tgt := 1087) dL_law_33 (by decide) (by decide) lw_end
    | 30, _ => exact gz_tableOut (x := 30) (tgt := 1087) dL_law_33 (by decide) (by decide) lw_end
    | 31, _ => exact gz_tableOut (x := 31) (tgt := 1087) dL_law_33 (by decide) (by decide) lw_end
    | j + 32, h => exact absurd h (by omega)
