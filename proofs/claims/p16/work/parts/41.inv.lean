/-! DeedTongue as a whole: own gives each address a tag; 0: not the class's -/
theorem gC_mono {l : Launch} {D : va_G} {cy : Nat → ClassId} {b : Nat} {y : MethodName} {cc : ByteArray} {nL : Nat} {ret : Option FieldType} {d mc ms : Nat} {av : List Value} {f : gMem} {Po Po' : Option Value → gMem → Prop} (h : gC l D cy b y cc nL ret d mc ms av f Po) (hp : ∀ r f', Po r f' → Po' r f') : gC l D cy b y cc nL ret d mc ms av f Po' := by
  unfold gC Met at *
  refine Jvm.Free.MetFree.mono h (fun _ _ q => q) (fun _ _ _ _ _ q => q) (fun a s o t _ q => ⟨?_, q.2⟩)
  obtain ⟨⟨⟨r, f', e, h1, hw⟩, hF⟩, -⟩ := q
  exact ⟨⟨r, f', e, hp _ _ h1, hw⟩, hF⟩
theorem gU_mono {l : Launch} {D : va_G} {cy : Nat → ClassId} {b : Nat} {y : MethodName} {cc : ByteArray} {nL : Nat} {ret : Option FieldType} {d mc ms : Nat} {av : List Value} {f : gMem} {Ex : State → Prop} {Po Po' : Nat → Nat → Option Value → gMem → Prop} (h : gU l D cy b y cc nL ret d mc ms av f Ex Po) (hp : ∀ kk nn r f', Po kk nn r f' → Po' kk nn r f') : gU l D cy b y cc nL ret d mc ms av f Ex Po' := by
  unfold gU Met at *
  refine Jvm.Free.MetFree.mono h (fun _ _ q => q) (fun _ _ _ _ _ q => q) (fun a s o t _ q => ⟨?_, q.2⟩)
  obtain ⟨⟨⟨r, f', k, n, e, h1, hw⟩, hF⟩, -⟩ := q
  exact ⟨⟨r, f', k, n, e, hp _ _ _ _ h1, hw⟩, hF⟩
theorem tgn {own : Nat → Nat} {a x i j : Nat} (ha : own a = i) (hx : own x = j) (h : i ≠ j) : a ≠ x := fun e => h (by rw [← ha, ← hx, e])
/-- from f to f2 nothing changed but what has a tag of T; the tags stay -/
def kp (own own2 : Nat → Nat) (T : Nat → Prop) (f f2 : gMem) : Prop := (∀ a e, f a = some e → own2 a = own a) ∧ ∀ a e, f a = some e → ¬ T (own a) → f2 a = some e
def kp0 (own own2 : Nat → Nat) (f f2 : gMem) : Prop := ∀ a e, f a = some e → own a = 0 → own2 a = 0 ∧ f2 a = some e
theorem kp0_rf {own : Nat → Nat} {f : gMem} : kp0 own own f f := fun _ _ h h0 => ⟨h0, h⟩
theorem kp_rf {own : Nat → Nat} {T : Nat → Prop} {f : gMem} : kp own own T f f := ⟨fun _ _ _ => rfl, fun _ _ h _ => h⟩
theorem kp0_tr {own own2 own3 : Nat → Nat} {f f2 f3 : gMem} (h1 : kp0 own own2 f f2) (h2 : kp0 own2 own3 f2 f3) : kp0 own own3 f f3 := fun a e ha h0 => h2 a e (h1 a e ha h0).2 (h1 a e ha h0).1
theorem kp_0 {own own2 : Nat → Nat} {T : Nat → Prop} {f f2 : gMem} (h : kp own own2 T f f2) (hT : ¬ T 0) : kp0 own own2 f f2 := fun a e ha h0 => ⟨(h.1 a e ha).trans h0, h.2 a e ha (by rw [h0]; exact hT)⟩
theorem kp_fr {own own2 : Nat → Nat} {T : Nat → Prop} {S : List Nat} {f f2 : gMem} (h : fr S f f2) (ho : ∀ a e, f a = some e → own2 a = own a) (hS : ∀ x, x ∈ S → T (own x)) : kp own own2 T f f2 := ⟨ho, fun a e ha hn => h a e ha (fun q => hn (hS a q))⟩
theorem own_up {own own2 : Nat → Nat} {f : gMem} {q t : Nat} (h : ∀ a e, f a = some e → own2 a = own a) (hq : f q = none) : ∀ a e, f a = some e → va_up own2 q t a = own a := fun a e ha => by
  rw [va_up_ne _ _ (cnn ha hq)]; exact h a e ha
theorem own_en {own : Nat → Nat} {f : gMem} {e2 en : Nat} (h : e2 = en ∨ f e2 = none) (hen : own en = 9001) : ∀ a e, f a = some e → va_up own e2 9001 a = own a := fun a e ha => by
  by_cases hx : a = e2
  · subst hx
    rw [va_up_self]
    rcases h with h | h
    · rw [h, hen]
    · rw [ha] at h; cases h
  · rw [va_up_ne _ _ hx]
def cFo (cy : Nat → ClassId) (own : Nat → Nat) (f : gMem) (bs p c1 c2 n1 n2 : Nat) (s v : Int32) (g h : Nat → Int32) : Prop := (own p = bs ∧ own c1 = bs + 1 ∧ own c2 = bs + 2) ∧ f p = some (.inr (2, [.ref c1, .ref c2, .int s, .int v])) ∧ f c1 = some (.inl (cy 0, n1, .inl (g))) ∧ f c2 = some (.inl (cy 0, n2, .inl (h))) ∧ (0 ≤ s.toInt ∧ 13 * s.toInt ≤ n1 ∧ n1 ≤ 520) ∧ (0 ≤ v.toInt ∧ 2 * v.toInt ≤ n2 ∧ n2 ≤ 80) ∧ fI g s.toInt
def cXo (cy : Nat → ClassId) (own : Nat → Nat) (f : gMem) (xo ch tp ou fm dr dt_ rd te la lg co wo : Nat) (fcn : Int32) : Prop := (own xo = 13000) ∧ f xo = some (.inr (11, [.ref ch, .ref tp, .ref ou, .ref fm, .ref dr, .ref dt_, .ref rd, .ref te, .ref la, .ref lg, .ref co, .ref wo, .int fcn])) ∧ (0 ≤ fcn.toInt ∧ fcn.toInt ≤ 20)
def cCh (cy : Nat → ClassId) (own : Nat → Nat) (f : gMem) (ch tl sc th : Nat) (tg thg : Nat → Int32) (da : Int32) : Prop := (own ch = 1000 ∧ own tl = 1001 ∧ own sc = 1002 ∧ own th = 1003) ∧ f ch = some (.inr (0, [.ref tl, .ref sc])) ∧ f tl = some (.inl (cy 0, 2400, .inl (tg))) ∧ f sc = some (.inr (7, [.ref th, .int da])) ∧ f th = some (.inl (cy 0, 6, .inl (thg))) ∧ (0 ≤ da.toInt ∧ da.toInt ≤ 399)
def cTp (cy : Nat → ClassId) (own : Nat → Nat) (f : gMem) (tp tb : Nat) (len : Int32) (tpg : Nat → Int32) : Prop := (own tp = 2000 ∧ own tb = 2001) ∧ f tp = some (.inr (9, [.ref tb, .int len])) ∧ f tb = some (.inl (cy 1, 400, .inl (tpg)))
def cOu (cy : Nat → ClassId) (own : Nat → Nat) (f : gMem) (ou ob : Nat) (ln : Int32) (og : Nat → Int32) : Prop := (own ou = 14000 ∧ own ob = 14001) ∧ f ou = some (.inr (9, [.ref ob, .int ln])) ∧ f ob = some (.inl (cy 1, 480, .inl (og)))
def cDr (cy : Nat → ClassId) (own : Nat → Nat) (f : gMem) (dr d1 d2 : Nat) (ds dv : Int32) (dg dh : Nat → Int32) : Prop := (own dr = 6000 ∧ own d1 = 6001 ∧ own d2 = 6002) ∧ f dr = some (.inr (2, [.ref d1, .ref d2, .int ds, .int dv])) ∧ f d1 = some (.inl (cy 0, 520, .inl (dg))) ∧ f d2 = some (.inl (cy 0, 80, .inl (dh)))
def cOt (cy : Nat → ClassId) (own : Nat → Nat) (f : gMem) (dt_ e1 e2 : Nat) (xs xv : Int32) (xg xh : Nat → Int32) : Prop := (own dt_ = 7000 ∧ own e1 = 7001 ∧ own e2 = 7002) ∧ f dt_ = some (.inr (2, [.ref e1, .ref e2, .int xs, .int xv])) ∧ f e1 = some (.inl (cy 0, 520, .inl (xg))) ∧ f e2 = some (.inl (cy 0, 80, .inl (xh)))
def cRt (cy : Nat → ClassId) (own : Nat → Nat) (f : gMem) (rd te tp dr ou : Nat) (pl fa : Int32) : Prop := (own rd = 3000 ∧ own te = 3001) ∧ f rd = some (.inr (6, [.ref tp, .ref dr, .int pl, .int fa])) ∧ f te = some (.inr (8, [.ref ou]))
def cLa (cy : Nat → ClassId) (own : Nat → Nat) (f : gMem) (la wk bc w1 w2 : Nat) (ws wv : Int32) (bg wg wh : Nat → Int32) : Prop := (own la = 8000 ∧ own bc = 8001 ∧ own wk = 8002 ∧ own w1 = 8003 ∧ own w2 = 8004) ∧ f la = some (.inr (3, [.ref wk, .ref bc])) ∧ f bc = some (.inl (cy 0, 40, .inl (bg))) ∧ f wk = some (.inr (2, [.ref w1, .ref w2, .int ws, .int wv])) ∧ f w1 = some (.inl (cy 0, 520, .inl (wg))) ∧ f w2 = some (.inl (cy 0, 80, .inl (wh)))
def cLg (cy : Nat → ClassId) (own : Nat → Nat) (f : gMem) (lg en ge re gv tk am ne : Nat) (sz lo gi : Int32) (eg gvg tkg : Nat → Int32) (geg reg amg : Nat → Int64) : Prop := (own lg = 9000 ∧ own en = 9001 ∧ own ge = 9002 ∧ own re = 9003 ∧ own gv = 9004 ∧ own tk = 9005 ∧ own am = 9006) ∧ f lg = some (.inr (4, [.ref en, .int sz, .int lo, .ref ge, .ref re, .ref gv, .ref tk, .ref am, .int gi])) ∧ f en = some (.inl (cy 0, ne, .inl (eg))) ∧ f ge = some (.inl (cy 2, 8, .inr (.inl (geg)))) ∧ f re = some (.inl (cy 2, 8, .inr (.inl (reg)))) ∧ f gv = some (.inl (cy 0, 8, .inl (gvg))) ∧ f tk = some (.inl (cy 0, 8, .inl (tkg))) ∧ f am = some (.inl (cy 2, 8, .inr (.inl (amg)))) ∧ (0 ≤ sz.toInt ∧ sz.toInt ≤ 2000 ∧ 6 * sz.toInt ≤ ne ∧ ne ≤ 24000)
def cCo (cy : Nat → ClassId) (own : Nat → Nat) (f : gMem) (co lv sc lg : Nat) (csz : Int32) (lvg : Nat → Option Nat) : Prop := (own co = 10000 ∧ own lv = 10001) ∧ f co = some (.inr (1, [.ref lv, .ref sc, .ref lg, .int csz])) ∧ f lv = some (.inl (cy 5, 40, .inr (.inr (.inr (.inr (lvg)))))) ∧ (0 ≤ csz.toInt ∧ csz.toInt ≤ 40)
def cWo (cy : Nat → ClassId) (own : Nat → Nat) (f : gMem) (wo we stp pa ba td po : Nat) (wz ah gl : Int32) (weg stg : Nat → Int32) (bag : Nat → Int64) (pg : Nat → Option Nat) : Prop := (own wo = 11000 ∧ own we = 11001 ∧ own stp = 11002 ∧ own pa = 11003 ∧ own ba = 11004) ∧ f wo = some (.inr (10, [.int wz, .ref we, .ref stp, .ref pa, .ref ba, .ref td, .ref po, .int ah, .int gl])) ∧ f we = some (.inl (cy 0, 3, .inl (weg))) ∧ f stp = some (.inl (cy 0, 18, .inl (stg))) ∧ f pa = some (.inl (cy 6, 5, .inr (.inr (.inr (.inr (pg)))))) ∧ f ba = some (.inl (cy 2, 5, .inr (.inl (bag)))) ∧ (1 ≤ wz.toInt ∧ wz.toInt ≤ 3)
def cFa (cy : Nat → ClassId) (own : Nat → Nat) (f : gMem) (fm : Nat) (fmg : Nat → Option Nat) : Prop := (own fm = 5000) ∧ f fm = some (.inl (cy 4, 20, .inr (.inr (.inr (.inr (fmg))))))
theorem cXo_kp {cy : Nat → ClassId} {own own2 : Nat → Nat} {T : Nat → Prop} {f f2 : gMem} {xo ch tp ou fm dr dt_ rd te la lg co wo : Nat} {fcn : Int32} (hm0 : cXo cy own f xo ch tp ou fm dr dt_ rd te la lg co wo fcn) (h : kp own own2 T f f2) (hT : ∀ k, 13000 ≤ k ∧ k < 14000 → ¬ T k) : cXo cy own2 f2 xo ch tp ou fm dr dt_ rd te la lg co wo fcn := by
  obtain ⟨t0, c0, hm⟩ := hm0
  exact ⟨(h.1 _ _ c0).trans t0, h.2 _ _ c0 (by rw [t0]; exact hT _ ⟨by decide, by decide⟩), hm⟩
theorem cCh_kp {cy : Nat → ClassId} {own own2 : Nat → Nat} {T : Nat → Prop} {f f2 : gMem} {ch tl sc th : Nat} {tg thg : Nat → Int32} {da : Int32} (hm0 : cCh cy own f ch tl sc th tg thg da) (h : kp own own2 T f f2) (hT : ∀ k, 1000 ≤ k ∧ k < 2000 → ¬ T k) : cCh cy own2 f2 ch tl sc th tg thg da := by
  obtain ⟨⟨t0, t1, t2, t3⟩, c0, c1, c2, c3, hm⟩ := hm0
  exact ⟨⟨(h.1 _ _ c0).trans t0, (h.1 _ _ c1).trans t1, (h.1 _ _ c2).trans t2, (h.1 _ _ c3).trans t3⟩, h.2 _ _ c0 (by rw [t0]; exact hT _ ⟨by decide, by decide⟩), h.2 _ _ c1 (by rw [t1]; exact hT _ ⟨by decide, by decide⟩), h.2 _ _ c2 (by rw [t2]; exact hT _ ⟨by decide, by decide⟩), h.2 _ _ c3 (by rw [t3]; exact hT _ ⟨by decide, by decide⟩), hm⟩
theorem cTp_kp {cy : Nat → ClassId} {own own2 : Nat → Nat} {T : Nat → Prop} {f f2 : gMem} {tp tb : Nat} {len : Int32} {tpg : Nat → Int32} (hm0 : cTp cy own f tp tb len tpg) (h : kp own own2 T f f2) (hT : ∀ k, 2000 ≤ k ∧ k < 3000 → ¬ T k) : cTp cy own2 f2 tp tb len tpg := by
  obtain ⟨⟨t0, t1⟩, c0, c1⟩ := hm0
  exact ⟨⟨(h.1 _ _ c0).trans t0, (h.1 _ _ c1).trans t1⟩, h.2 _ _ c0 (by rw [t0]; exact hT _ ⟨by decide, by decide⟩), h.2 _ _ c1 (by rw [t1]; exact hT _ ⟨by decide, by decide⟩)⟩
theorem cOu_kp {cy : Nat → ClassId} {own own2 : Nat → Nat} {T : Nat → Prop} {f f2 : gMem} {ou ob : Nat} {ln : Int32} {og : Nat → Int32} (hm0 : cOu cy own f ou ob ln og) (h : kp own own2 T f f2) (hT : ∀ k, 14000 ≤ k ∧ k < 15000 → ¬ T k) : cOu cy own2 f2 ou ob ln og := by
  obtain ⟨⟨t0, t1⟩, c0, c1⟩ := hm0
  exact ⟨⟨(h.1 _ _ c0).trans t0, (h.1 _ _ c1).trans t1⟩, h.2 _ _ c0 (by rw [t0]; exact hT _ ⟨by decide, by decide⟩), h.2 _ _ c1 (by rw [t1]; exact hT _ ⟨by decide, by decide⟩)⟩
theorem cDr_kp {cy : Nat → ClassId} {own own2 : Nat → Nat} {T : Nat → Prop} {f f2 : gMem} {dr d1 d2 : Nat} {ds dv : Int32} {dg dh : Nat → Int32} (hm0 : cDr cy own f dr d1 d2 ds dv dg dh) (h : kp own own2 T f f2) (hT : ∀ k, 6000 ≤ k ∧ k < 7000 → ¬ T k) : cDr cy own2 f2 dr d1 d2 ds dv dg dh := by
  obtain ⟨⟨t0, t1, t2⟩, c0, c1, c2⟩ := hm0
  exact ⟨⟨(h.1 _ _ c0).trans t0, (h.1 _ _ c1).trans t1, (h.1 _ _ c2).trans t2⟩, h.2 _ _ c0 (by rw [t0]; exact hT _ ⟨by decide, by decide⟩), h.2 _ _ c1 (by rw [t1]; exact hT _ ⟨by decide, by decide⟩), h.2 _ _ c2 (by rw [t2]; exact hT _ ⟨by decide, by decide⟩)⟩
theorem cOt_kp {cy : Nat → ClassId} {own own2 : Nat → Nat} {T : Nat → Prop} {f f2 : gMem} {dt_ e1 e2 : Nat} {xs xv : Int32} {xg xh : Nat → Int32} (hm0 : cOt cy own f dt_ e1 e2 xs xv xg xh) (h : kp own own2 T f f2) (hT : ∀ k, 7000 ≤ k ∧ k < 8000 → ¬ T k) : cOt cy own2 f2 dt_ e1 e2 xs xv xg xh := by
  obtain ⟨⟨t0, t1, t2⟩, c0, c1, c2⟩ := hm0
  exact ⟨⟨(h.1 _ _ c0).trans t0, (h.1 _ _ c1).trans t1, (h.1 _ _ c2).trans t2⟩, h.2 _ _ c0 (by rw [t0]; exact hT _ ⟨by decide, by decide⟩), h.2 _ _ c1 (by rw [t1]; exact hT _ ⟨by decide, by decide⟩), h.2 _ _ c2 (by rw [t2]; exact hT _ ⟨by decide, by decide⟩)⟩
theorem cRt_kp {cy : Nat → ClassId} {own own2 : Nat → Nat} {T : Nat → Prop} {f f2 : gMem} {rd te tp dr ou : Nat} {pl fa : Int32} (hm0 : cRt cy own f rd te tp dr ou pl fa) (h : kp own own2 T f f2) (hT : ∀ k, 3000 ≤ k ∧ k < 4000 → ¬ T k) : cRt cy own2 f2 rd te tp dr ou pl fa := by
  obtain ⟨⟨t0, t1⟩, c0, c1⟩ := hm0
  exact ⟨⟨(h.1 _ _ c0).trans t0, (h.1 _ _ c1).trans t1⟩, h.2 _ _ c0 (by rw [t0]; exact hT _ ⟨by decide, by decide⟩), h.2 _ _ c1 (by rw [t1]; exact hT _ ⟨by decide, by decide⟩)⟩
theorem cLa_kp {cy : Nat → ClassId} {own own2 : Nat → Nat} {T : Nat → Prop} {f f2 : gMem} {la wk bc w1 w2 : Nat} {ws wv : Int32} {bg wg wh : Nat → Int32} (hm0 : cLa cy own f la wk bc w1 w2 ws wv bg wg wh) (h : kp own own2 T f f2) (hT : ∀ k, 8000 ≤ k ∧ k < 9000 → ¬ T k) : cLa cy own2 f2 la wk bc w1 w2 ws wv bg wg wh := by
  obtain ⟨⟨t0, t1, t2, t3, t4⟩, c0, c1, c2, c3, c4⟩ := hm0
  exact ⟨⟨(h.1 _ _ c0).trans t0, (h.1 _ _ c1).trans t1, (h.1 _ _ c2).trans t2, (h.1 _ _ c3).trans t3, (h.1 _ _ c4).trans t4⟩, h.2 _ _ c0 (by rw [t0]; exact hT _ ⟨by decide, by decide⟩), h.2 _ _ c1 (by rw [t1]; exact hT _ ⟨by decide, by decide⟩), h.2 _ _ c2 (by rw [t2]; exact hT _ ⟨by decide, by decide⟩), h.2 _ _ c3 (by rw [t3]; exact hT _ ⟨by decide, by decide⟩), h.2 _ _ c4 (by rw [t4]; exact hT _ ⟨by decide, by decide⟩)⟩
theorem cLg_kp {cy : Nat → ClassId} {own own2 : Nat → Nat} {T : Nat → Prop} {f f2 : gMem} {lg en ge re gv tk am ne : Nat} {sz lo gi : Int32} {eg gvg tkg : Nat → Int32} {geg reg amg : Nat → Int64} (hm0 : cLg cy own f lg en ge re gv tk am ne sz lo gi eg gvg tkg geg reg amg) (h : kp own own2 T f f2) (hT : ∀ k, 9000 ≤ k ∧ k < 10000 → ¬ T k) : cLg cy own2 f2 lg en ge re gv tk am ne sz lo gi eg gvg tkg geg reg amg := by
  obtain ⟨⟨t0, t1, t2, t3, t4, t5, t6⟩, c0, c1, c2, c3, c4, c5, c6, hm⟩ := hm0
  exact ⟨⟨(h.1 _ _ c0).trans t0, (h.1 _ _ c1).trans t1, (h.1 _ _ c2).trans t2, (h.1 _ _ c3).trans t3, (h.1 _ _ c4).trans t4, (h.1 _ _ c5).trans t5, (h.1 _ _ c6).trans t6⟩, h.2 _ _ c0 (by rw [t0]; exact hT _ ⟨by decide, by decide⟩), h.2 _ _ c1 (by rw [t1]; exact hT _ ⟨by decide, by decide⟩), h.2 _ _ c2 (by rw [t2]; exact hT _ ⟨by decide, by decide⟩), h.2 _ _ c3 (by rw [t3]; exact hT _ ⟨by decide, by decide⟩), h.2 _ _ c4 (by rw [t4]; exact hT _ ⟨by decide, by decide⟩), h.2 _ _ c5 (by rw [t5]; exact hT _ ⟨by decide, by decide⟩), h.2 _ _ c6 (by rw [t6]; exact hT _ ⟨by decide, by decide⟩), hm⟩
theorem cCo_kp {cy : Nat → ClassId} {own own2 : Nat → Nat} {T : Nat → Prop} {f f2 : gMem} {co lv sc lg : Nat} {csz : Int32} {lvg : Nat → Option Nat} (hm0 : cCo cy own f co lv sc lg csz lvg) (h : kp own own2 T f f2) (hT : ∀ k, 10000 ≤ k ∧ k < 11000 → ¬ T k) : cCo cy own2 f2 co lv sc lg csz lvg := by
  obtain ⟨⟨t0, t1⟩, c0, c1, hm⟩ := hm0
  exact ⟨⟨(h.1 _ _ c0).trans t0, (h.1 _ _ c1).trans t1⟩, h.2 _ _ c0 (by rw [t0]; exact hT _ ⟨by decide, by decide⟩), h.2 _ _ c1 (by rw [t1]; exact hT _ ⟨by decide, by decide⟩), hm⟩
theorem cWo_kp {cy : Nat → ClassId} {own own2 : Nat → Nat} {T : Nat → Prop} {f f2 : gMem} {wo we stp pa ba td po : Nat} {wz ah gl : Int32} {weg stg : Nat → Int32} {bag : Nat → Int64} {pg : Nat → Option Nat} (hm0 : cWo cy own f wo we stp pa ba td po wz ah gl weg stg bag pg) (h : kp own own2 T f f2) (hT : ∀ k, 11000 ≤ k ∧ k < 12000 → ¬ T k) : cWo cy own2 f2 wo we stp pa ba td po wz ah gl weg stg bag pg := by
  obtain ⟨⟨t0, t1, t2, t3, t4⟩, c0, c1, c2, c3, c4, hm⟩ := hm0
  exact ⟨⟨(h.1 _ _ c0).trans t0, (h.1 _ _ c1).trans t1, (h.1 _ _ c2).trans t2, (h.1 _ _ c3).trans t3, (h.1 _ _ c4).trans t4⟩, h.2 _ _ c0 (by rw [t0]; exact hT _ ⟨by decide, by decide⟩), h.2 _ _ c1 (by rw [t1]; exact hT _ ⟨by decide, by decide⟩), h.2 _ _ c2 (by rw [t2]; exact hT _ ⟨by decide, by decide⟩), h.2 _ _ c3 (by rw [t3]; exact hT _ ⟨by decide, by decide⟩), h.2 _ _ c4 (by rw [t4]; exact hT _ ⟨by decide, by decide⟩), hm⟩
theorem cFa_kp {cy : Nat → ClassId} {own own2 : Nat → Nat} {T : Nat → Prop} {f f2 : gMem} {fm : Nat} {fmg : Nat → Option Nat} (hm0 : cFa cy own f fm fmg) (h : kp own own2 T f f2) (hT : ∀ k, 5000 ≤ k ∧ k < 6000 → ¬ T k) : cFa cy own2 f2 fm fmg := by
  obtain ⟨t0, c0⟩ := hm0
  exact ⟨(h.1 _ _ c0).trans t0, h.2 _ _ c0 (by rw [t0]; exact hT _ ⟨by decide, by decide⟩)⟩
theorem cFo_kp {cy : Nat → ClassId} {own own2 : Nat → Nat} {T : Nat → Prop} {f f2 : gMem} {bs p c1 c2 n1 n2 : Nat} {s v : Int32} {g h : Nat → Int32} (hm0 : cFo cy own f bs p c1 c2 n1 n2 s v g h) (hk : kp own own2 T f f2) (hT : ∀ k, bs ≤ k ∧ k < bs + 3 → ¬ T k) : cFo cy own2 f2 bs p c1 c2 n1 n2 s v g h := by
  obtain ⟨⟨t0, t1, t2⟩, a0, a1, a2, hm⟩ := hm0
  exact ⟨⟨(hk.1 _ _ a0).trans t0, (hk.1 _ _ a1).trans t1, (hk.1 _ _ a2).trans t2⟩, hk.2 _ _ a0 (by rw [t0]; exact hT _ (by omega)), hk.2 _ _ a1 (by rw [t1]; exact hT _ (by omega)), hk.2 _ _ a2 (by rw [t2]; exact hT _ (by omega)), hm⟩
/-- the FORMS: tags 4000 + 3 i -/
def cFm (cy : Nat → ClassId) (own : Nat → Nat) (f : gMem) (fmg : Nat → Option Nat) (CN : (Nat → Int32 → Int32 → (Nat → Int32) → (Nat → Int32) → Prop)) : Prop := ∀ i p : Nat, i < 20 → fmg i = some p → ∃ (c1 c2 n1 n2 : Nat) (s v : Int32) (g h : Nat → Int32), cFo cy own f (4000 + 3 * i) p c1 c2 n1 n2 s v g h ∧ CN i s v g h
/-- one FORM more -/
def cnU (CN : (Nat → Int32 → Int32 → (Nat → Int32) → (Nat → Int32) → Prop)) (i : Nat) (P : Int32 → Int32 → (Nat → Int32) → (Nat → Int32) → Prop) : (Nat → Int32 → Int32 → (Nat → Int32) → (Nat → Int32) → Prop) := fun k s v g h => if k = i then P s v g h else CN k s v g h
theorem cFm_kp {cy : Nat → ClassId} {own own2 : Nat → Nat} {T : Nat → Prop} {f f2 : gMem} {fmg : Nat → Option Nat} {CN : (Nat → Int32 → Int32 → (Nat → Int32) → (Nat → Int32) → Prop)} (hm0 : cFm cy own f fmg CN) (hk : kp own own2 T f f2) (hT : ∀ k, 4000 ≤ k ∧ k < 5000 → ¬ T k) : cFm cy own2 f2 fmg CN := by
  intro i p hi hp
  obtain ⟨c1, c2, n1, n2, s, v, g, h, hF, hc⟩ := hm0 i p hi hp
  exact ⟨c1, c2, n1, n2, s, v, g, h, cFo_kp hF hk (fun k hk2 => hT k (by omega)), hc⟩
theorem cFm_new {cy : Nat → ClassId} {own : Nat → Nat} {f : gMem} {fmg : Nat → Option Nat} {i q c1 c2 n1 n2 : Nat} {s v : Int32} {g h : Nat → Int32} {CN : (Nat → Int32 → Int32 → (Nat → Int32) → (Nat → Int32) → Prop)} {P : Int32 → Int32 → (Nat → Int32) → (Nat → Int32) → Prop} (hm0 : cFm cy own f fmg CN) (hn : cFo cy own f (4000 + 3 * i) q c1 c2 n1 n2 s v g h) (hP : P s v g h) : cFm cy own f (va_up fmg i (some q)) (cnU CN i P) := by
  intro j p hj hp
  by_cases e : j = i
  · subst e
    rw [va_up_self] at hp
    cases hp
    exact ⟨c1, c2, n1, n2, s, v, g, h, hn, by unfold cnU; rw [if_pos rfl]; exact hP⟩
  · rw [va_up_ne _ _ e] at hp
    obtain ⟨d1, d2, m1, m2, s2, v2, g2, h2, hF, hc⟩ := hm0 j p hj hp
    exact ⟨d1, d2, m1, m2, s2, v2, g2, h2, hF, by unfold cnU; rw [if_neg e]; exact hc⟩
/-- a LIFE: tags 12000 + 3 i; its FORM is one of the FORMS -/
def cLf (cy : Nat → ClassId) (own : Nat → Nat) (f : gMem) (i q p so fc : Nat) (nu ho1 ho2 fs_ : Int32) (ga : Int64) (sg fg : Nat → Int32) : Prop := (own q = 12000 + 3 * i ∧ own so = 12000 + 3 * i + 1 ∧ own fc = 12000 + 3 * i + 2) ∧ f q = some (.inr (5, [.ref p, .int nu, .int ho1, .int ho2, .ref so, .ref fc, .int fs_, .long ga])) ∧ f so = some (.inl (cy 0, 40, .inl (sg))) ∧ f fc = some (.inl (cy 0, 40, .inl (fg)))
theorem cLf_kp {cy : Nat → ClassId} {own own2 : Nat → Nat} {T : Nat → Prop} {f f2 : gMem} {i q p so fc : Nat} {nu ho1 ho2 fs_ : Int32} {ga : Int64} {sg fg : Nat → Int32} (hm0 : cLf cy own f i q p so fc nu ho1 ho2 fs_ ga sg fg) (hk : kp own own2 T f f2) (hT : ∀ k, 12000 + 3 * i ≤ k ∧ k < 12000 + 3 * i + 3 → ¬ T k) : cLf cy own2 f2 i q p so fc nu ho1 ho2 fs_ ga sg fg := by
  obtain ⟨⟨t0, t1, t2⟩, a0, a1, a2⟩ := hm0
  exact ⟨⟨(hk.1 _ _ a0).trans t0, (hk.1 _ _ a1).trans t1, (hk.1 _ _ a2).trans t2⟩, hk.2 _ _ a0 (by rw [t0]; exact hT _ (by omega)), hk.2 _ _ a1 (by rw [t1]; exact hT _ (by omega)), hk.2 _ _ a2 (by rw [t2]; exact hT _ (by omega))⟩
def cLv (cy : Nat → ClassId) (own : Nat → Nat) (f : gMem) (lvg fmg : Nat → Option Nat) (LN : (Nat → Nat → Int32 → Int32 → Int32 → Int32 → Int64 → (Nat → Int32) → (Nat → Int32) → Prop)) : Prop := ∀ i q : Nat, i < 40 → lvg i = some q → ∃ (p so fc j : Nat) (nu ho1 ho2 fs_ : Int32) (ga : Int64) (sg fg : Nat → Int32), cLf cy own f i q p so fc nu ho1 ho2 fs_ ga sg fg ∧ j < 20 ∧ fmg j = some p ∧ LN i j nu ho1 ho2 fs_ ga sg fg
theorem cLv_kp {cy : Nat → ClassId} {own own2 : Nat → Nat} {T : Nat → Prop} {f f2 : gMem} {lvg fmg : Nat → Option Nat} {LN : (Nat → Nat → Int32 → Int32 → Int32 → Int32 → Int64 → (Nat → Int32) → (Nat → Int32) → Prop)} (hm0 : cLv cy own f lvg fmg LN) (hk : kp own own2 T f f2) (hT : ∀ k, 12000 ≤ k ∧ k < 13000 → ¬ T k) : cLv cy own2 f2 lvg fmg LN := by
  intro i q hi hq
  obtain ⟨p, so, fc, j, nu, ho1, ho2, fs_, ga, sg, fg, hF, hj⟩ := hm0 i q hi hq
  exact ⟨p, so, fc, j, nu, ho1, ho2, fs_, ga, sg, fg, cLf_kp hF hk (fun k hk2 => hT k (by omega)), hj⟩
/-- one LIFE changes -/
theorem cLv_one {cy : Nat → ClassId} {own own2 : Nat → Nat} {T : Nat → Prop} {f f2 : gMem} {lvg fmg : Nat → Option Nat} {LN LN2 : (Nat → Nat → Int32 → Int32 → Int32 → Int32 → Int64 → (Nat → Int32) → (Nat → Int32) → Prop)} {i0 q0 p0 so0 fc0 j0 : Nat} {nu0 h10 h20 fs0 : Int32} {ga0 : Int64} {sg0 fg0 : Nat → Int32} (hm0 : cLv cy own f lvg fmg LN) (hk : kp own own2 T f f2) (hT : ∀ k, 12000 ≤ k ∧ k < 13000 → (k < 12000 + 3 * i0 ∨ 12000 + 3 * i0 + 3 ≤ k) → ¬ T k) (hq0 : lvg i0 = some q0) (hN : cLf cy own2 f2 i0 q0 p0 so0 fc0 nu0 h10 h20 fs0 ga0 sg0 fg0) (hj : j0 < 20 ∧ fmg j0 = some p0) (hL0 : LN2 i0 j0 nu0 h10 h20 fs0 ga0 sg0 fg0) (hL : ∀ i j nu h1 h2 fs ga sg fg, i ≠ i0 → LN i j nu h1 h2 fs ga sg fg → LN2 i j nu h1 h2 fs ga sg fg) : cLv cy own2 f2 lvg fmg LN2 := by
  intro i q hi hq
  by_cases e : i = i0
  · subst e
    rw [hq0] at hq
    cases hq
    exact ⟨_, _, _, _, _, _, _, _, _, _, _, hN, hj.1, hj.2, hL0⟩
  · obtain ⟨p, so, fc, j, nu, ho1, ho2, fs_, ga, sg, fg, hF, hj1, hj2, hj3⟩ := hm0 i q hi hq
    exact ⟨p, so, fc, j, nu, ho1, ho2, fs_, ga, sg, fg, cLf_kp hF hk (fun k hk2 => hT k (by omega) (by omega)), hj1, hj2, hL _ _ _ _ _ _ _ _ _ e hj3⟩
theorem cLv_new {cy : Nat → ClassId} {own : Nat → Nat} {f : gMem} {lvg fmg : Nat → Option Nat} {LN LN2 : (Nat → Nat → Int32 → Int32 → Int32 → Int32 → Int64 → (Nat → Int32) → (Nat → Int32) → Prop)} {i0 q0 p0 so0 fc0 j0 : Nat} {nu0 h10 h20 fs0 : Int32} {ga0 : Int64} {sg0 fg0 : Nat → Int32} (hm0 : cLv cy own f lvg fmg LN) (hN : cLf cy own f i0 q0 p0 so0 fc0 nu0 h10 h20 fs0 ga0 sg0 fg0) (hj : j0 < 20 ∧ fmg j0 = some p0) (hL0 : LN2 i0 j0 nu0 h10 h20 fs0 ga0 sg0 fg0) (hL : ∀ i j nu h1 h2 fs ga sg fg, i ≠ i0 → LN i j nu h1 h2 fs ga sg fg → LN2 i j nu h1 h2 fs ga sg fg) : cLv cy own f (va_up lvg i0 (some q0)) fmg LN2 := by
  intro i q hi hq
  by_cases e : i = i0
  · subst e
    rw [va_up_self] at hq
    cases hq
    exact ⟨_, _, _, _, _, _, _, _, _, _, _, hN, hj.1, hj.2, hL0⟩
  · rw [va_up_ne _ _ e] at hq
    obtain ⟨p, so, fc, j, nu, ho1, ho2, fs_, ga, sg, fg, hF, hj1, hj2, hj3⟩ := hm0 i q hi hq
    exact ⟨p, so, fc, j, nu, ho1, ho2, fs_, ga, sg, fg, hF, hj1, hj2, hL _ _ _ _ _ _ _ _ _ e hj3⟩
/-- another FORM more: the LIVES' FORMS stay -/
theorem cLv_fm {cy : Nat → ClassId} {own : Nat → Nat} {f : gMem} {lvg fmg fmg2 : Nat → Option Nat} {LN : (Nat → Nat → Int32 → Int32 → Int32 → Int32 → Int64 → (Nat → Int32) → (Nat → Int32) → Prop)} (hm0 : cLv cy own f lvg fmg LN) (hf : ∀ j p, j < 20 → fmg j = some p → fmg2 j = some p) : cLv cy own f lvg fmg2 LN := by
  intro i q hi hq
  obtain ⟨p, so, fc, j, nu, ho1, ho2, fs_, ga, sg, fg, hF, hj1, hj2, hj3⟩ := hm0 i q hi hq
  exact ⟨p, so, fc, j, nu, ho1, ho2, fs_, ga, sg, fg, hF, hj1, hf j p hj1 hj2, hj3⟩
/-- what the LIVES' cells may be, told otherwise -/
theorem cLv_mo {cy : Nat → ClassId} {own : Nat → Nat} {f : gMem} {lvg fmg : Nat → Option Nat} {LN LN2 : (Nat → Nat → Int32 → Int32 → Int32 → Int32 → Int64 → (Nat → Int32) → (Nat → Int32) → Prop)} (hm0 : cLv cy own f lvg fmg LN) (hL : ∀ i j nu h1 h2 fs ga sg fg, LN i j nu h1 h2 fs ga sg fg → LN2 i j nu h1 h2 fs ga sg fg) : cLv cy own f lvg fmg LN2 := by
  intro i q hi hq
  obtain ⟨p, so, fc, j, nu, ho1, ho2, fs_, ga, sg, fg, hF, hj1, hj2, hj3⟩ := hm0 i q hi hq
  exact ⟨p, so, fc, j, nu, ho1, ho2, fs_, ga, sg, fg, hF, hj1, hj2, hL _ _ _ _ _ _ _ _ _ hj3⟩
/-- the DAYS of a WORLD -/
def cPa (cy : Nat → ClassId) (own : Nat → Nat) (f : gMem) (pg : Nat → Option Nat) (P Q : Nat → Nat) : Prop := (∀ ii : Nat, ii < 5 → own (P ii) = 15000 + ii ∧ own (Q ii) = 15100 + ii) ∧ (∀ ii : Nat, ii < 5 → pg ii = some (P ii)) ∧ pF cy P Q f
theorem cPa_kp {cy : Nat → ClassId} {own own2 : Nat → Nat} {T : Nat → Prop} {f f2 : gMem} {pg : Nat → Option Nat} {P Q : Nat → Nat} (hm0 : cPa cy own f pg P Q) (hk : kp own own2 T f f2) (hT : ∀ k, 15000 ≤ k ∧ k < 16000 → ¬ T k) : cPa cy own2 f2 pg P Q := by
  obtain ⟨h1, h2, h3⟩ := hm0
  refine ⟨fun i hi => ?_, h2, fun i hi => ?_⟩
  · obtain ⟨da, t, a1, a2⟩ := h3 i hi
    exact ⟨(hk.1 _ _ a1).trans (h1 i hi).1, (hk.1 _ _ a2).trans (h1 i hi).2⟩
  · obtain ⟨da, t, a1, a2⟩ := h3 i hi
    exact ⟨da, t, hk.2 _ _ a1 (by rw [(h1 i hi).1]; exact hT _ (by omega)), hk.2 _ _ a2 (by rw [(h1 i hi).2]; exact hT _ (by omega))⟩
theorem cPa_F {cy : Nat → ClassId} {own own2 : Nat → Nat} {T : Nat → Prop} {f f2 : gMem} {pg : Nat → Option Nat} {P Q : Nat → Nat} (hm0 : cPa cy own f pg P Q) (hk : kp own own2 T f f2) (hF : pF cy P Q f2) : cPa cy own2 f2 pg P Q := by
  obtain ⟨h1, h2, h3⟩ := hm0
  refine ⟨fun i hi => ?_, h2, hF⟩
  obtain ⟨da, t, a1, a2⟩ := h3 i hi
  exact ⟨(hk.1 _ _ a1).trans (h1 i hi).1, (hk.1 _ _ a2).trans (h1 i hi).2⟩
theorem cPa_ne {cy : Nat → ClassId} {own : Nat → Nat} {f : gMem} {pg : Nat → Option Nat} {P Q : Nat → Nat} (h : cPa cy own f pg P Q) : ∀ ii jj : Nat, ii < 5 → jj < 5 → ii ≠ jj → P ii ≠ P jj ∧ Q ii ≠ Q jj := fun i j hi hj hn => ⟨tgn (h.1 i hi).1 (h.1 j hj).1 (by omega), tgn (h.1 i hi).2 (h.1 j hj).2 (by omega)⟩
theorem cPa_tg {cy : Nat → ClassId} {own : Nat → Nat} {f : gMem} {pg : Nat → Option Nat} {P Q : Nat → Nat} (h : cPa cy own f pg P Q) : ∀ x, x ∈ scL P Q → 15000 ≤ own x ∧ own x < 16000 := by
  intro x hx
  simp only [scL, List.mem_cons, List.not_mem_nil, or_false] at hx
  have a := fun i hi => h.1 i hi
  rcases hx with rfl | rfl | rfl | rfl | rfl | rfl | rfl | rfl | rfl | rfl
  · rw [(a 0 (by decide)).1]; omega
  · rw [(a 0 (by decide)).2]; omega
  · rw [(a 1 (by decide)).1]; omega
  · rw [(a 1 (by decide)).2]; omega
  · rw [(a 2 (by decide)).1]; omega
  · rw [(a 2 (by decide)).2]; omega
  · rw [(a 3 (by decide)).1]; omega
  · rw [(a 3 (by decide)).2]; omega
  · rw [(a 4 (by decide)).1]; omega
  · rw [(a 4 (by decide)).2]; omega
theorem cPa_no {cy : Nat → ClassId} {own : Nat → Nat} {f : gMem} {pg : Nat → Option Nat} {P Q : Nat → Nat} (h : cPa cy own f pg P Q) {L : List Nat} (hL : ∀ x, x ∈ L → own x < 15000) : ∀ xx : Nat, xx ∈ L → xx ∉ scL P Q := fun x hx hq => by
  have h1 := cPa_tg h x hq
  have h2 := hL x hx
  omega
def cFn (fcn : Int32) (fmg : Nat → Option Nat) : Prop := (∀ i : Nat, i < 20 → fcn.toInt ≤ (i : Int) → fmg i = none) ∧ ∀ i : Nat, (i : Int) < fcn.toInt → ∃ p, fmg i = some p
def cLn (csz : Int32) (lvg : Nat → Option Nat) : Prop := ∀ i : Nat, (i : Int) < csz.toInt → ∃ q, lvg i = some q
def kCh (cy : Nat → ClassId) (own : Nat → Nat) (f : gMem) (ch : Nat) (sc : Nat) (tg : Nat → Int32) (thg : Nat → Int32) (da : Int32) : Prop := ∃ (tl : Nat) (th : Nat), cCh cy own f ch tl sc th tg thg da
theorem kCh_kp {cy : Nat → ClassId} {own own2 : Nat → Nat} {T : Nat → Prop} {f f2 : gMem} {ch : Nat} {sc : Nat} {tg : Nat → Int32} {thg : Nat → Int32} {da : Int32} (hm0 : kCh cy own f ch sc tg thg da) (h : kp own own2 T f f2) (hT : ∀ k, 1000 ≤ k ∧ k < 2000 → ¬ T k) : kCh cy own2 f2 ch sc tg thg da := by
  obtain ⟨tl, th, h1⟩ := hm0
  exact ⟨tl, th, cCh_kp h1 h hT⟩
def kTp (cy : Nat → ClassId) (own : Nat → Nat) (f : gMem) (tp : Nat) (len : Int32) (tpg : Nat → Int32) : Prop := ∃ (tb : Nat), cTp cy own f tp tb len tpg
theorem kTp_kp {cy : Nat → ClassId} {own own2 : Nat → Nat} {T : Nat → Prop} {f f2 : gMem} {tp : Nat} {len : Int32} {tpg : Nat → Int32} (hm0 : kTp cy own f tp len tpg) (h : kp own own2 T f f2) (hT : ∀ k, 2000 ≤ k ∧ k < 3000 → ¬ T k) : kTp cy own2 f2 tp len tpg := by
  obtain ⟨tb, h1⟩ := hm0
  exact ⟨tb, cTp_kp h1 h hT⟩
def kOu (cy : Nat → ClassId) (own : Nat → Nat) (f : gMem) (ou : Nat) (ln : Int32) : Prop := ∃ (ob : Nat) (og : Nat → Int32), cOu cy own f ou ob ln og
theorem kOu_kp {cy : Nat → ClassId} {own own2 : Nat → Nat} {T : Nat → Prop} {f f2 : gMem} {ou : Nat} {ln : Int32} (hm0 : kOu cy own f ou ln) (h : kp own own2 T f f2) (hT : ∀ k, 14000 ≤ k ∧ k < 15000 → ¬ T k) : kOu cy own2 f2 ou ln := by
  obtain ⟨ob, og, h1⟩ := hm0
  exact ⟨ob, og, cOu_kp h1 h hT⟩
def kDr (cy : Nat → ClassId) (own : Nat → Nat) (f : gMem) (dr : Nat) : Prop := ∃ (d1 : Nat) (d2 : Nat) (ds : Int32) (dv : Int32) (dg : Nat → Int32) (dh : Nat → Int32), cDr cy own f dr d1 d2 ds dv dg dh
theorem kDr_kp {cy : Nat → ClassId} {own own2 : Nat → Nat} {T : Nat → Prop} {f f2 : gMem} {dr : Nat} (hm0 : kDr cy own f dr) (h : kp own own2 T f f2) (hT : ∀ k, 6000 ≤ k ∧ k < 7000 → ¬ T k) : kDr cy own2 f2 dr := by
  obtain ⟨d1, d2, ds, dv, dg, dh, h1⟩ := hm0
  exact ⟨d1, d2, ds, dv, dg, dh, cDr_kp h1 h hT⟩
def kOt (cy : Nat → ClassId) (own : Nat → Nat) (f : gMem) (dt_ : Nat) : Prop := ∃ (e1 : Nat) (e2 : Nat) (xs : Int32) (xv : Int32) (xg : Nat → Int32) (xh : Nat → Int32), cOt cy own f dt_ e1 e2 xs xv xg xh
theorem kOt_kp {cy : Nat → ClassId} {own own2 : Nat → Nat} {T : Nat → Prop} {f f2 : gMem} {dt_ : Nat} (hm0 : kOt cy own f dt_) (h : kp own own2 T f f2) (hT : ∀ k, 7000 ≤ k ∧ k < 8000 → ¬ T k) : kOt cy own2 f2 dt_ := by
  obtain ⟨e1, e2, xs, xv, xg, xh, h1⟩ := hm0
  exact ⟨e1, e2, xs, xv, xg, xh, cOt_kp h1 h hT⟩
def kRt (cy : Nat → ClassId) (own : Nat → Nat) (f : gMem) (rd : Nat) (te : Nat) (tp : Nat) (dr : Nat) (ou : Nat) : Prop := ∃ (pl : Int32) (fa : Int32), cRt cy own f rd te tp dr ou pl fa
theorem kRt_kp {cy : Nat → ClassId} {own own2 : Nat → Nat} {T : Nat → Prop} {f f2 : gMem} {rd : Nat} {te : Nat} {tp : Nat} {dr : Nat} {ou : Nat} (hm0 : kRt cy own f rd te tp dr ou) (h : kp own own2 T f f2) (hT : ∀ k, 3000 ≤ k ∧ k < 4000 → ¬ T k) : kRt cy own2 f2 rd te tp dr ou := by
  obtain ⟨pl, fa, h1⟩ := hm0
  exact ⟨pl, fa, cRt_kp h1 h hT⟩
def kLa (cy : Nat → ClassId) (own : Nat → Nat) (f : gMem) (la : Nat) : Prop := ∃ (wk : Nat) (bc : Nat) (w1 : Nat) (w2 : Nat) (ws : Int32) (wv : Int32) (bg : Nat → Int32) (wg : Nat → Int32) (wh : Nat → Int32), cLa cy own f la wk bc w1 w2 ws wv bg wg wh
theorem kLa_kp {cy : Nat → ClassId} {own own2 : Nat → Nat} {T : Nat → Prop} {f f2 : gMem} {la : Nat} (hm0 : kLa cy own f la) (h : kp own own2 T f f2) (hT : ∀ k, 8000 ≤ k ∧ k < 9000 → ¬ T k) : kLa cy own2 f2 la := by
  obtain ⟨wk, bc, w1, w2, ws, wv, bg, wg, wh, h1⟩ := hm0
  exact ⟨wk, bc, w1, w2, ws, wv, bg, wg, wh, cLa_kp h1 h hT⟩
def kLg (cy : Nat → ClassId) (own : Nat → Nat) (f : gMem) (lg : Nat) (ne : Nat) (sz : Int32) (lo : Int32) (eg : Nat → Int32) : Prop := ∃ (en : Nat) (ge : Nat) (re : Nat) (gv : Nat) (tk : Nat) (am : Nat) (gi : Int32) (gvg : Nat → Int32) (tkg : Nat → Int32) (geg : Nat → Int64) (reg : Nat → Int64) (amg : Nat → Int64), cLg cy own f lg en ge re gv tk am ne sz lo gi eg gvg tkg geg reg amg
theorem kLg_kp {cy : Nat → ClassId} {own own2 : Nat → Nat} {T : Nat → Prop} {f f2 : gMem} {lg : Nat} {ne : Nat} {sz : Int32} {lo : Int32} {eg : Nat → Int32} (hm0 : kLg cy own f lg ne sz lo eg) (h : kp own own2 T f f2) (hT : ∀ k, 9000 ≤ k ∧ k < 10000 → ¬ T k) : kLg cy own2 f2 lg ne sz lo eg := by
  obtain ⟨en, ge, re, gv, tk, am, gi, gvg, tkg, geg, reg, amg, h1⟩ := hm0
  exact ⟨en, ge, re, gv, tk, am, gi, gvg, tkg, geg, reg, amg, cLg_kp h1 h hT⟩
def kCo (cy : Nat → ClassId) (own : Nat → Nat) (f : gMem) (co : Nat) (sc : Nat) (lg : Nat) (csz : Int32) (lvg : Nat → Option Nat) : Prop := ∃ (lv : Nat), cCo cy own f co lv sc lg csz lvg
theorem kCo_kp {cy : Nat → ClassId} {own own2 : Nat → Nat} {T : Nat → Prop} {f f2 : gMem} {co : Nat} {sc : Nat} {lg : Nat} {csz : Int32} {lvg : Nat → Option Nat} (hm0 : kCo cy own f co sc lg csz lvg) (h : kp own own2 T f f2) (hT : ∀ k, 10000 ≤ k ∧ k < 11000 → ¬ T k) : kCo cy own2 f2 co sc lg csz lvg := by
  obtain ⟨lv, h1⟩ := hm0
  exact ⟨lv, cCo_kp h1 h hT⟩
def kWo (cy : Nat → ClassId) (own : Nat → Nat) (f : gMem) (wo : Nat) (sc : Nat) (wz : Int32) (weg : Nat → Int32) (stg : Nat → Int32) : Prop := ∃ (we : Nat) (stp : Nat) (pa : Nat) (ba : Nat) (po : Nat) (ah : Int32) (gl : Int32) (bag : Nat → Int64) (pg : Nat → Option Nat) (P : Nat → Nat) (Q : Nat → Nat), cWo cy own f wo we stp pa ba sc po wz ah gl weg stg bag pg ∧ cPa cy own f pg P Q
theorem kWo_kp {cy : Nat → ClassId} {own own2 : Nat → Nat} {T : Nat → Prop} {f f2 : gMem} {wo : Nat} {sc : Nat} {wz : Int32} {weg : Nat → Int32} {stg : Nat → Int32} (hm0 : kWo cy own f wo sc wz weg stg) (h : kp own own2 T f f2) (hT : ∀ k, 11000 ≤ k ∧ k < 12000 → ¬ T k) (hT2 : ∀ k, 15000 ≤ k ∧ k < 16000 → ¬ T k) : kWo cy own2 f2 wo sc wz weg stg := by
  obtain ⟨we, stp, pa, ba, po, ah, gl, bag, pg, P, Q, h1, h2⟩ := hm0
  exact ⟨we, stp, pa, ba, po, ah, gl, bag, pg, P, Q, cWo_kp h1 h hT, cPa_kp h2 h hT2⟩
def xI (cy : Nat → ClassId) (own : Nat → Nat) (xo : Nat) (da : Int32) (fcn : Int32) (csz : Int32) (sz : Int32) (len : Int32) (ln : Int32) (wz : Int32) (lo : Int32) (tg : Nat → Int32) (weg : Nat → Int32) (stg : Nat → Int32) (tpg : Nat → Int32) (CN : Nat → Int32 → Int32 → (Nat → Int32) → (Nat → Int32) → Prop) (eg : Nat → Int32) (thg : Nat → Int32) (LN : Nat → Nat → Int32 → Int32 → Int32 → Int32 → Int64 → (Nat → Int32) → (Nat → Int32) → Prop) (ne : Nat) (f : gMem) : Prop := ∃ (ch : Nat) (sc : Nat) (tp : Nat) (ou : Nat) (fm : Nat) (dr : Nat) (dt_ : Nat) (rd : Nat) (te : Nat) (la : Nat) (lg : Nat) (co : Nat) (wo : Nat) (fmg : Nat → Option Nat) (lvg : Nat → Option Nat), cXo cy own f xo ch tp ou fm dr dt_ rd te la lg co wo fcn ∧ kCh cy own f ch sc tg thg da ∧ kTp cy own f tp len tpg ∧ kOu cy own f ou ln ∧ cFa cy own f fm fmg ∧ cFm cy own f fmg CN ∧ kDr cy own f dr ∧ kOt cy own f dt_ ∧ kRt cy own f rd te tp dr ou ∧ kLa cy own f la ∧ kLg cy own f lg ne sz lo eg ∧ kCo cy own f co sc lg csz lvg ∧ cLv cy own f lvg fmg LN ∧ kWo cy own f wo sc wz weg stg ∧ cFn fcn fmg ∧ cLn csz lvg