abbrev lwQf : List Frame → Array Value → State → State → Prop := fun below args s => lw_Z below args s
abbrev lwEx (bs L b : Nat) (xs : Nat → Int32) : State → Prop := fun s => (va_X bs L xs s s.heap ∧ bs < b ∧ bs < s.heap.size) ∧ s.heap.size ≤ b
theorem lw_ret2 {p : Program} {l : Launch} {e : Env} {s : State} {m : MethodId} {args : Array Value} {below : List Frame} {meth : Method} {c : Code} (hx : p.tables.exec = Jvm.exec) (hb : c.code = code) (hr : meth.sig.returnType = ret) (hlocks : meth.locks = false) {pc : Nat} {H : Heap} {ls : Array Slot} (hdg : decode code pc = .ok (.ireturn, 1)) : W p l e room_1 s m args below meth c H [] 600000 7302250 (lw_Z below args s) (F0 m pc ls [.int 1]) := by
  intro T hT X
  obtain ⟨fs, hret, hrun, hended, hW, hframe⟩ := X.leave (v := some (.int 1)) (hlocks := hlocks) (fun h => by rw [hr] at h; cases h)
  have hmeth' : T.vm.method? m = some meth := X.method'
  refine ⟨T.setFrames fs, ?_, .returned (some (.int 1)), hrun, hended, rfl, ⟨_, rfl⟩, hW, hframe⟩
  jvm_step X.here [X.here.top, hx, hb, hdg, hmeth', hr, ret, narrow_b1]
  (try refine ⟨rfl, ?_⟩); (try refine ⟨rfl, ?_⟩)
  first | (intro acts; rw [hret _ acts rfl rfl rfl]) | rw [hret _ _ rfl rfl rfl]
  exact Steps.refl _
section LW
variable {l : Launch} {D : va_G} {cy : Nat → ClassId} {b bs L : Nat} {xs : Nat → Int32} {nm : String} {cells slots : Nat} {f : gMem} {pc : Nat} {lv : List (Nat × Value)} {st : List Value}
theorem lz_ret (hdg : decode code pc = .ok (.ireturn, 1)) (h1 : cells ≤ 600000) (h2 : slots ≤ 7302250) : gG l room_1 lwQf (lwEx bs L b xs) D cy b code 4 ret RL nm cells slots f pc lv [.int 1] := fun p e s m args below meth c H locs ls F hP hS hl => W.widen h1 h2 (va_forget (fun q hq => Nat.le_trans F.2.2.2.2.2.2.2.2.2.2.2 (hS.2.2 q hq)) (lw_ret2 F.1 F.2.1 F.2.2.2.1 F.2.2.2.2.2.2.1 hdg))
theorem lz_slen (hdg : decode code pc = .ok (.arraylength, 1)) (k : gG l room_1 lwQf (lwEx bs L b xs) D cy b code 4 ret RL nm cells slots f (pc + 1) lv (.int (Int32.ofNat L) :: st)) : gG l room_1 lwQf (lwEx bs L b xs) D cy b code 4 ret RL nm cells slots f pc lv (.ref bs :: st) := fun p e s m args below meth c H locs ls F hP hS hl => va_slen F.1 F.2.1 F.2.2.2.2.2.2.2.2.2.2.1.1 F.2.2.2.2.2.2.2.2.2.2.1.2.2 (Nat.not_le.mpr F.2.2.2.2.2.2.2.2.2.2.1.2.1) hS hdg (k p e s m args below meth c H locs ls F hP hS hl)
theorem lz_sld {i : Int32} (hin : vp_in i L) (hdg : decode code pc = .ok (.iaload, 1)) (k : gG l room_1 lwQf (lwEx bs L b xs) D cy b code 4 ret RL nm cells slots f (pc + 1) lv (.int (xs i.toNatClampNeg) :: st)) : gG l room_1 lwQf (lwEx bs L b xs) D cy b code 4 ret RL nm cells slots f pc lv (.int i :: .ref bs :: st) := fun p e s m args below meth c H locs ls F hP hS hl => va_sld F.1 F.2.1 F.2.2.2.2.2.2.2.2.2.2.1.1 F.2.2.2.2.2.2.2.2.2.2.1.2.2 (Nat.not_le.mpr F.2.2.2.2.2.2.2.2.2.2.1.2.1) hS hin hdg (k p e s m args below meth c H locs ls F hP hS hl)
end LW

theorem xI_kp {cy : Nat → ClassId} {own own2 : Nat → Nat} {T : Nat → Prop} {xo : Nat} {da : Int32} {fcn : Int32} {csz : Int32} {sz : Int32} {len : Int32} {ln : Int32} {wz : Int32} {lo : Int32} {tg : Nat → Int32} {weg : Nat → Int32} {stg : Nat → Int32} {tpg : Nat → Int32} {CN : Nat → Int32 → Int32 → (Nat → Int32) → (Nat → Int32) → Prop} {eg : Nat → Int32} {thg : Nat → Int32} {LN : Nat → Nat → Int32 → Int32 → Int32 → Int32 → Int64 → (Nat → Int32) → (Nat → Int32) → Prop} {ne : Nat} {f f2 : gMem} (hI : xI cy own xo da fcn csz sz len ln wz lo tg weg stg tpg CN eg thg LN ne f) (h : kp own own2 T f f2) (hT : ∀ k, 1000 ≤ k → ¬ T k) : xI cy own2 xo da fcn csz sz len ln wz lo tg weg stg tpg CN eg thg LN ne f2 := by
  obtain ⟨ch, sc, tp, ou, fm, dr, dt_, rd, te, la, lg, co, wo, fmg, lvg, m0, m1, m2, m3, m4, m5, m6, m7, m8, m9, m10, m11, m12, m13, m14, m15⟩ := hI
  exact ⟨ch, sc, tp, ou, fm, dr, dt_, rd, te, la, lg, co, wo, fmg, lvg, cXo_kp m0 h (fun k hk => hT k (by omega)), kCh_kp m1 h (fun k hk => hT k (by omega)), kTp_kp m2 h (fun k hk => hT k (by omega)), kOu_kp m3 h (fun k hk => hT k (by omega)), cFa_kp m4 h (fun k hk => hT k (by omega)), cFm_kp m5 h (fun k hk => hT k (by omega)), kDr_kp m6 h (fun k hk => hT k (by omega)), kOt_kp m7 h (fun k hk => hT k (by omega)), kRt_kp m8 h (fun k hk => hT k (by omega)), kLa_kp m9 h (fun k hk => hT k (by omega)), kLg_kp m10 h (fun k hk => hT k (by omega)), kCo_kp m11 h (fun k hk => hT k (by omega)), cLv_kp m12 h (fun k hk => hT k (by omega)), kWo_kp m13 h (fun k hk => hT k (by omega)) (fun k hk => hT k (by omega)), m14, m15⟩
theorem xI_x {cy : Nat → ClassId} {own : Nat → Nat} {xo : Nat} {da : Int32} {fcn : Int32} {csz : Int32} {sz : Int32} {len : Int32} {ln : Int32} {wz : Int32} {lo : Int32} {tg : Nat → Int32} {weg : Nat → Int32} {stg : Nat → Int32} {tpg : Nat → Int32} {CN : Nat → Int32 → Int32 → (Nat → Int32) → (Nat → Int32) → Prop} {eg : Nat → Int32} {thg : Nat → Int32} {LN : Nat → Nat → Int32 → Int32 → Int32 → Int32 → Int64 → (Nat → Int32) → (Nat → Int32) → Prop} {ne : Nat} {f : gMem} (hI : xI cy own xo da fcn csz sz len ln wz lo tg weg stg tpg CN eg thg LN ne f) : ∃ fs, f xo = some (.inr (11, fs)) := by
  obtain ⟨ch, sc, tp, ou, fm, dr, dt_, rd, te, la, lg, co, wo, fmg, lvg, m0, m1, m2, m3, m4, m5, m6, m7, m8, m9, m10, m11, m12, m13, m14, m15⟩ := hI
  exact ⟨_, m0.2.1⟩
theorem xI_ne {cy : Nat → ClassId} {own : Nat → Nat} {xo : Nat} {da : Int32} {fcn : Int32} {csz : Int32} {sz : Int32} {len : Int32} {ln : Int32} {wz : Int32} {lo : Int32} {tg : Nat → Int32} {weg : Nat → Int32} {stg : Nat → Int32} {tpg : Nat → Int32} {CN : Nat → Int32 → Int32 → (Nat → Int32) → (Nat → Int32) → Prop} {eg : Nat → Int32} {thg : Nat → Int32} {LN : Nat → Nat → Int32 → Int32 → Int32 → Int32 → Int64 → (Nat → Int32) → (Nat → Int32) → Prop} {ne : Nat} {f : gMem} (hI : xI cy own xo da fcn csz sz len ln wz lo tg weg stg tpg CN eg thg LN ne f) : ne ≤ 24000 := by
  obtain ⟨ch, sc, tp, ou, fm, dr, dt_, rd, te, la, lg, co, wo, fmg, lvg, m0, m1, m2, m3, m4, m5, m6, m7, m8, m9, m10, m11, m12, m13, m14, m15⟩ := hI
  obtain ⟨en, ge, re, gv, tk, am, gi, gvg, tkg, geg, reg, amg, h⟩ := m10
  exact h.2.2.2.2.2.2.2.2.2.2.2
theorem mTy_le (k : Nat) : mTy k ≤ 4 := by
  unfold mTy
  rw [List.getD_eq_getElem?_getD]
  cases h : mTys[k]? with
  | none => exact Nat.zero_le _
  | some v => exact (by decide : ∀ v ∈ mTys, v ≤ 4) v (List.mem_of_getElem? h)
theorem mCell_of {cy : Nat → ClassId} {F : Nat → Nat → Int32} {G : Nat → Nat → Int64} {k : Nat} (h : mTy k ≠ 0) : ∃ e, mCell cy F G k = some e := by
  have h4 := mTy_le k
  unfold mCell
  by_cases h1 : mTy k = 1
  · exact ⟨_, if_pos h1⟩
  · rw [if_neg h1]
    by_cases h2 : mTy k = 2
    · exact ⟨_, if_pos h2⟩
    · rw [if_neg h2]
      by_cases h3 : mTy k = 3
      · exact ⟨_, if_pos h3⟩
      · rw [if_neg h3]
        exact ⟨_, if_pos (by omega)⟩
theorem mS_rf {cy : Nat → ClassId} {m : Nat} {a : Nat → Nat} {f0 f : gMem} {n : Nat → Int32} {z : Nat → Int64} {F : Nat → Nat → Int32} {G : Nat → Nat → Int64} (hS : mS cy m a f0 n z F G f) : mS cy m a f n z F G f := ⟨hS.1, hS.2.1, hS.2.2.1, fr_rf⟩
/-- a call of the class leaves the reference as it stood -/
theorem mS_kp {cy : Nat → ClassId} {m : Nat} {a : Nat → Nat} {f0 f f2 : gMem} {own own2 : Nat → Nat} {n : Nat → Int32} {z : Nat → Int64} {F : Nat → Nat → Int32} {G : Nat → Nat → Int64} (hS : mS cy m a f0 n z F G f) (h0 : own m = 0) (ha : ∀ k, mTy k ≠ 0 → own (a k) = 0) (hk : kp0 own own2 f f2) : mS cy m a f2 n z F G f2 ∧ own2 m = 0 ∧ ∀ k, mTy k ≠ 0 → own2 (a k) = 0 := by
  obtain ⟨h1, h2, h3, h4⟩ := hS
  refine ⟨⟨(hk _ _ h1 h0).2, fun k e he => (hk _ _ (h2 k e he) (ha k (mCell_ty he))).2, h3, fr_rf⟩, (hk _ _ h1 h0).1, fun k hy => ?_⟩
  obtain ⟨e, he⟩ := mCell_of (cy := cy) (F := F) (G := G) hy
  exact (hk _ _ (h2 k e he) (ha k hy)).1
/-- a call of the reference leaves the class as it stood -/
theorem xI_mS {cy : Nat → ClassId} {own : Nat → Nat} {xo m : Nat} {a : Nat → Nat} {da : Int32} {fcn : Int32} {csz : Int32} {sz : Int32} {len : Int32} {ln : Int32} {wz : Int32} {lo : Int32} {tg : Nat → Int32} {weg : Nat → Int32} {stg : Nat → Int32} {tpg : Nat → Int32} {CN : Nat → Int32 → Int32 → (Nat → Int32) → (Nat → Int32) → Prop} {eg : Nat → Int32} {thg : Nat → Int32} {LN : Nat → Nat → Int32 → Int32 → Int32 → Int32 → Int64 → (Nat → Int32) → (Nat → Int32) → Prop} {ne : Nat} {f f2 : gMem} {n : Nat → Int32} {z : Nat → Int64} {F : Nat → Nat → Int32} {G : Nat → Nat → Int64} (hI : xI cy own xo da fcn csz sz len ln wz lo tg weg stg tpg CN eg thg LN ne f) (hS : mS cy m a f n z F G f2) (h0 : own m = 0) (ha : ∀ k, mTy k ≠ 0 → own (a k) = 0) : xI cy own xo da fcn csz sz len ln wz lo tg weg stg tpg CN eg thg LN ne f2 := by
  refine xI_kp (T := fun k => k = 0) hI ⟨fun _ _ _ => rfl, fun q e hq hn => hS.2.2.2 q e hq (mL_no (fun e => hn (by rw [e]; exact h0)) (fun k hk e => hn (by rw [← e]; exact ha k hk)))⟩ (fun k hk e => by omega)
theorem RI_x4 {KF : List Nat} {n n2 : Nat → Int32} {z z2 : Nat → Int64} {F F2 : Nat → Nat → Int32} {G G2 : Nat → Nat → Int64} (hR : RI n F) (hx : fx [4] [] KF [] n z F G n2 z2 F2 G2) (h4 : 0 ≤ (n2 4).toInt ∧ (n2 4).toInt ≤ 400) (hF : ∀ k, k ∈ riK → k ∉ KF) : RI n2 F2 := by
  obtain ⟨a0, a4, a5, b1, b2, a30, b3, a38, b4, a53, a47, a88⟩ := id hR
  have e := fun k (hk : k ∉ [4]) => hx.1 k hk
  exact RI_cg (fun k hk => hx.2.2.1 k (hF k hk)) hR (e 5 (by decide)) (e 30 (by decide)) (e 38 (by decide)) (by rw [e 0 (by decide)]; exact a0) h4 (by rw [e 53 (by decide)]; exact a53) (by rw [e 47 (by decide)]; exact a47) (by rw [e 88 (by decide)]; exact a88)
/-- between two calls of the law: t calls are through -/
def lwI (cy : Nat → ClassId) (x m : Nat) (a : Nat → Nat) (t cells slots : Nat) (f : gMem) : Prop := ∃ (own : Nat → Nat) (da : Int32) (fcn : Int32) (csz : Int32) (sz : Int32) (len : Int32) (ln : Int32) (wz : Int32) (lo : Int32) (tg : Nat → Int32) (weg : Nat → Int32) (stg : Nat → Int32) (tpg : Nat → Int32) (CN : Nat → Int32 → Int32 → (Nat → Int32) → (Nat → Int32) → Prop) (eg : Nat → Int32) (thg : Nat → Int32) (LN : Nat → Nat → Int32 → Int32 → Int32 → Int32 → Int64 → (Nat → Int32) → (Nat → Int32) → Prop) (ne : Nat) (n : Nat → Int32) (z : Nat → Int64) (F : Nat → Nat → Int32) (G : Nat → Nat → Int64), xI cy own x da fcn csz sz len ln wz lo tg weg stg tpg CN eg thg LN ne f ∧ mS cy m a f n z F G f ∧ RI n F ∧ NR F ∧ (da = n 0 ∧ wz = n 53 ∧ len = n 4 ∧ fcn = n 5 ∧ tpE tpg (F 3) (n 4).toInt ∧ rB F ∧ nmG G ∧ ∃ (Tf : Nat → List Hd) (W : Lw), coV Tf W da fcn csz sz lo tg eg thg CN LN n F G) ∧ own m = 0 ∧ (∀ k, mTy k ≠ 0 → own (a k) = 0) ∧ cells ≤ 1000 + 3 * t + ne ∧ slots ≤ 100000 + 604 * t + 2 * ne
theorem lwI_up {cy : Nat → ClassId} {x m : Nat} {a : Nat → Nat} {t cells slots : Nat} {f : gMem} (h : lwI cy x m a t cells slots f) : lwI cy x m a (t + 1) cells slots f := by
  obtain ⟨own, da, fcn, csz, sz, len, ln, wz, lo, tg, weg, stg, tpg, CN, eg, thg, LN, ne, n, z, F, G, h1, h2, h3, h4, h5, h6, h7, h8, h9⟩ := h
  exact ⟨own, da, fcn, csz, sz, len, ln, wz, lo, tg, weg, stg, tpg, CN, eg, thg, LN, ne, n, z, F, G, h1, h2, h3, h4, h5, h6, h7, by omega, by omega⟩
theorem lwI_room {cy : Nat → ClassId} {x m : Nat} {a : Nat → Nat} {t cells slots : Nat} {f : gMem} (h : lwI cy x m a t cells slots f) (ht : t ≤ 513) : cells ≤ 100000 ∧ slots ≤ 1000000 := by
  obtain ⟨own, da, fcn, csz, sz, len, ln, wz, lo, tg, weg, stg, tpg, CN, eg, thg, LN, ne, n, z, F, G, h1, h2, h3, h4, h5, h6, h7, h8, h9⟩ := h
  have := xI_ne h1
  omega