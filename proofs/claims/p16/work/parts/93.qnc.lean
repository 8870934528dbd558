set_option maxHeartbeats 4000000 in
set_option maxRecDepth 100000 in
theorem l_X12_shortensAE2 {l : Launch} {D : va_G} {cy : Nat → ClassId} {b : Nat} {m : Nat} {a : Nat → Nat} {f0 : gMem} {n0 : Nat → Int32} {z0 : Nat → Int64} {F0 : Nat → Nat → Int32} {G0 : Nat → Nat → Int64}  {x1 x2 bs nb : Int32} {fo Wn bn : Nat} {kk xq wq lf pr : Int32} {kN : Nat} {T : List Hd} {H : Nat → Hd} {fi se : Nat → Nat} (hb : bs.toInt = (bn : Int) ∧ (bn = 0 ∨ bn = 41) ∧ nb.toInt = (bn : Int) + 40) (hf : x1.toInt = (fo : Int) ∧ fo < 20) (hkN : kk.toInt = (kN : Int) ∧ kN < Wn ∧ Wn ≤ 40) (hxq : xq.toInt = (bn : Int) + kN) (hTl : T.length ≤ 40 ∧ kN < T.length ∧ Wn = T.length) (hwq : wq.toInt = 40 * (fo : Int) + kN) (hq : ∀  (n : Nat → Int32) (z : Nat → Int64) (F : Nat → Nat → Int32) (G : Nat → Nat → Int64) (fm : gMem), mS cy m a f0 n z F G fm → fx [] [] [76, 77, 78, 79, 80, 81, 82] [] n0 z0 F0 G0 n z F G → (RI n F) → ((fo : Int) < (n 5).toInt) → (NR F) → ((F 6 fo).toInt = (Wn : Int)) → (outS F0 F bn) → (SHp F fo Wn bn (kk.toInt - 1)) → (∃ (H : Nat → Hd) (fi se : Nat → Nat), shE F fo bn T H fi se kk.toInt.toNat) → gG l (gRm 3 0 0) (gQf D b (pV fun f2 => ∃ (n2 : Nat → Int32) (z2 : Nat → Int64) (F2 : Nat → Nat → Int32) (G2 : Nat → Nat → Int64), mS cy m a f0 n2 z2 F2 G2 f2 ∧ fx [] [] [76, 77, 78, 79, 80, 81, 82] [] n0 z0 F0 G0 n2 z2 F2 G2 ∧ NR F2 ∧ SHp F2 fo Wn bn (-1) ∧ outS F0 F2 bn ∧ ∃ (H : Nat → Hd) (fi se : Nat → Nat), shE F2 fo bn T H fi se 0) 0 0) gTt D cy b cX12_shortens 11 none RX12 "shortens" 0 0 fm 452 [(5, .int kk), (0, .ref m), (1, .int x1), (2, .int x2), (3, .int bs), (4, .int nb)] []) : ∀ (k : Nat)  (n : Nat → Int32) (z : Nat → Int64) (F : Nat → Nat → Int32) (G : Nat → Nat → Int64) (fm : gMem), mS cy m a f0 n z F G fm → fx [] [] [76, 77, 78, 79, 80, 81, 82] [] n0 z0 F0 G0 n z F G → (RI n F) → ((fo : Int) < (n 5).toInt) → (NR F) → ((F 6 fo).toInt = (Wn : Int)) → (outS F0 F bn) → (SHp F fo Wn bn (kk.toInt)) → (LX F fo T) → (shE F fo bn T H fi se (kN + 1)) → (F 77 (Int32.toNatClampNeg xq) = F 8 (Int32.toNatClampNeg wq)) → (F 76 (Int32.toNatClampNeg xq) = F 7 (Int32.toNatClampNeg wq)) → (F 80 (Int32.toNatClampNeg xq) = wq) → ((lf.toInt = 1 ∧ (F 7 (Int32.toNatClampNeg wq)).toInt ≤ 1) ∨ (lf.toInt = 0 ∧ 2 ≤ (F 7 (Int32.toNatClampNeg wq)).toInt)) → ((pr.toInt = 1 ∧ 3 ≤ (F 7 (Int32.toNatClampNeg wq)).toInt ∧ (F 7 (Int32.toNatClampNeg wq)).toInt ≤ 5) ∨ (pr.toInt = 0 ∧ ¬ (3 ≤ (F 7 (Int32.toNatClampNeg wq)).toInt ∧ (F 7 (Int32.toNatClampNeg wq)).toInt ≤ 5))) → (0 < (k : Int)) → (lf.toInt = 0 ∧ pr.toInt = 0 ∧ (F 7 (Int32.toNatClampNeg wq)).toInt = 10) → gG l (gRm 3 0 0) (gQf D b (pV fun f2 => ∃ (n2 : Nat → Int32) (z2 : Nat → Int64) (F2 : Nat → Nat → Int32) (G2 : Nat → Nat → Int64), mS cy m a f0 n2 z2 F2 G2 f2 ∧ fx [] [] [76, 77, 78, 79, 80, 81, 82] [] n0 z0 F0 G0 n2 z2 F2 G2 ∧ NR F2 ∧ SHp F2 fo Wn bn (-1) ∧ outS F0 F2 bn ∧ ∃ (H : Nat → Hd) (fi se : Nat → Nat), shE F2 fo bn T H fi se 0) 0 0) gTt D cy b cX12_shortens 11 none RX12 "shortens" 0 0 fm 180 [(9, .int pr), (8, .int lf), (7, .int xq), (6, .int wq), (5, .int kk), (0, .ref m), (1, .int x1), (2, .int x2), (3, .int bs), (4, .int nb)] [] := by
  intro k
  induction k with
  | zero =>
    intro n z F G fm hS hx hR hfo hN hW6 hou hP hX hE h77 h76 h80 hl hp_ hk hcs
    exfalso; omega
  | succ k ih =>
    intro n z F G fm hS hx hR hfo hN hW6 hou hP hX hE h77 h76 h80 hl hp_ hk hcs
    obtain ⟨a0, a4, a5, bA, bW, a30, bL, a38, bP, a53, a47, a88⟩ := id hR
    have ecx : (Int32.toNatClampNeg xq) = bn + kN := by rw [clN]; omega
    have ecw : (Int32.toNatClampNeg wq) = 40 * fo + kN := by rw [clN]; omega
    have hkW : kN < (F 6 fo).toInt.toNat := by omega
    have qO := (bW fo hfo).2.1 kN hkW
    have qWn : (F 6 fo).toInt.toNat = Wn := by omega
    rw [qWn] at qO
    refine gz_aload_n dX12_shortens_180 rfl rfl ?_
    refine mg_216 hS dX12_shortens_181 ?_
    refine gz_iload dX12_shortens_184 rfl ?_
    refine gz_iload dX12_shortens_186 rfl ?_
    refine gz_if_eq (tgt := 196) dX12_shortens_188 (by decide) (fun c_188 => ?_) (fun c_188 => ?_)
    ·
      try simp only [mIn_0, lgc_lt, lgc_gt, lgc_le, lgc_ge, lgc_eq] at c_188
      try simp only [fl_lt, fl_le, fl_eq, fL_w, fL_lt, fL_le, tm1, tm10k, tm9, tm99, Int32.reduceToInt, Int64.reduceToInt, Int.not_lt, Int.not_le] at c_188
      obtain ⟨t, ht1, ht2, ht3, ht4⟩ := qO.2.2.2.1 (by rw [← ecw]; omega)
      rw [← ecw] at ht1
      have ht4w := fun (_ : Nat) => ht4
      clear ht4
      have z6 := eN_gt (F := F) (f := fo) (k := kN) (W := Wn) (by omega)
      have qr1 : ((F 11 (Int32.toNatClampNeg wq)) - (F 11 (Int32.toNatClampNeg wq)) / 40 * 40).toInt = t := by have q := T_sub (rfl : (F 11 (Int32.toNatClampNeg wq)).toInt = (F 11 (Int32.toNatClampNeg wq)).toInt) (T_mul (T_div (rfl : (F 11 (Int32.toNatClampNeg wq)).toInt = (F 11 (Int32.toNatClampNeg wq)).toInt) (show (40 : Int32).toInt = 40 from rfl) (by omega) (by decide)) (show (40 : Int32).toInt = 40 from rfl) (by omega)) (by omega); omega
      have qix1 : (bs + ((F 11 (Int32.toNatClampNeg wq)) - (F 11 (Int32.toNatClampNeg wq)) / 40 * 40)).toInt = (bn : Int) + t := by have q := T_add (rfl : bs.toInt = bs.toInt) qr1 (by omega); omega
      have qcl1 : Int32.toNatClampNeg (bs + ((F 11 (Int32.toNatClampNeg wq)) - (F 11 (Int32.toNatClampNeg wq)) / 40 * 40)) = bn + t := by rw [clN]; omega
      refine gz_aload_n dX12_shortens_196 rfl rfl ?_
      refine mg_228 hS dX12_shortens_197 ?_
      refine gz_iload_n dX12_shortens_200 rfl rfl ?_
      refine gz_aload_n dX12_shortens_201 rfl rfl ?_
      refine mg_32 hS dX12_shortens_202 ?_
      refine gz_iload dX12_shortens_205 rfl ?_
      refine m_iald 11 hS rfl (N := 880) rfl ((by exact vin_T (rfl : wq.toInt = wq.toInt) (by omega) (by omega))) dX12_shortens_207 ?_
      refine gz_bipush (v := 40) dX12_shortens_208 (by decide) ?_
      refine gz_irem dX12_shortens_210 (by decide) ?_
      refine gz_iadd dX12_shortens_211 ?_
      refine m_iald 82 hS rfl (N := 82) rfl ((by exact vin_T qix1 (by omega) (by omega))) dX12_shortens_212 ?_
      obtain ⟨v1, hv1⟩ : ∃ v_, v_ = ((F 82) (Int32.toNatClampNeg (bs + (((F 11) (Int32.toNatClampNeg wq)) - ((F 11) (Int32.toNatClampNeg wq)) / 40 * 40)))) := ⟨_, rfl⟩
      refine gz_ev (w := .int v1) (congrArg Value.int hv1.symm) ?_
      have qc1 := rN_child (by omega) (by omega) ht2 ht3 (hP.2 t (by omega) (by omega)).2
      rw [← qcl1, ← hv1] at qc1
      have qu1 := qc1.1
      have qs1 := one_sz (F := F) (f := fo) (W := Wn) (k := kN) (t := t) (by omega) ht2 ht3
      have qv1 : 0 ≤ v1.toInt ∧ v1.toInt < 82 ∧ v1.toInt ≠ xq.toInt := by rcases qu1 with z | ⟨j, z1, z2, z3⟩ <;> omega
      refine m_iast 78 hS rfl (N := 82) rfl ((by exact vin_T (rfl : xq.toInt = xq.toInt) (by omega) (by omega))) dX12_shortens_213 (fun f_1 hS_1q => ?_)
      have hS_1 : mS cy m a f0 n z (va_up F 78 (upd (F 78) (Int32.toNatClampNeg xq) v1)) G f_1 := hS_1q
      refine gz_aload_n dX12_shortens_214 rfl rfl ?_
      refine mg_219 hS_1 dX12_shortens_215 ?_
      refine gz_iload dX12_shortens_218 rfl ?_
      refine gz_iload dX12_shortens_220 rfl ?_
      refine gz_if_eq (tgt := 245) dX12_shortens_222 (by decide) (fun c_222 => ?_) (fun c_222 => ?_)
      ·
        try simp only [mIn_0, lgc_lt, lgc_gt, lgc_le, lgc_ge, lgc_eq] at c_222
        try simp only [fl_lt, fl_le, fl_eq, fL_w, fL_lt, fL_le, tm1, tm10k, tm9, tm99, Int32.reduceToInt, Int64.reduceToInt, Int.not_lt, Int.not_le] at c_222
        refine gz_iload dX12_shortens_245 rfl ?_
        obtain ⟨y1, hy1⟩ : ∃ v_, v_ = nb := ⟨_, rfl⟩
        refine gz_ev (w := .int y1) (congrArg Value.int hy1.symm) ?_
        have qy1 : 0 ≤ y1.toInt ∧ y1.toInt < 82 := by rw [hy1]; omega
        refine m_iast 79 hS_1 rfl (N := 82) rfl ((by exact vin_T (rfl : xq.toInt = xq.toInt) (by omega) (by omega))) dX12_shortens_247 (fun f_2 hS_2q => ?_)
        have hS_2 : mS cy m a f0 n z (va_up (va_up F 78 (upd (F 78) (Int32.toNatClampNeg xq) v1)) 79 (upd (F 79) (Int32.toNatClampNeg xq) y1)) G f_2 := hS_2q
        refine gz_aload_n dX12_shortens_248 rfl rfl ?_
        refine mg_20 hS_2 dX12_shortens_249 ?_
        refine gz_iload dX12_shortens_252 rfl ?_
        refine m_iald 7 hS_2 rfl (N := 880) rfl ((by exact vin_T (rfl : wq.toInt = wq.toInt) (by omega) (by omega))) dX12_shortens_254 ?_
        refine gz_ev (w := .int ((F 7) (Int32.toNatClampNeg wq))) rfl ?_
        refine gz_bipush (v := 10) dX12_shortens_255 (by decide) ?_
        refine gz_icmp_ne (tgt := 341) dX12_shortens_257 (by decide) (fun c_257 => ?_) (fun c_257 => ?_)
        · exfalso; simp only [fl_eq, Int32.reduceToInt] at c_257; omega
        ·
          try simp only [mIn_0, lgc_lt, lgc_gt, lgc_le, lgc_ge, lgc_eq] at c_257
          try simp only [fl_lt, fl_le, fl_eq, fL_w, fL_lt, fL_le, tm1, tm10k, tm9, tm99, Int32.reduceToInt, Int64.reduceToInt, Int.not_lt, Int.not_le] at c_257
          refine gz_aload_n dX12_shortens_260 rfl rfl ?_
          refine mg_210 hS_2 dX12_shortens_261 ?_
          refine gz_aload_n dX12_shortens_264 rfl rfl ?_
          refine mg_216 hS_2 dX12_shortens_265 ?_
          refine gz_iload dX12_shortens_268 rfl ?_
          refine m_iald 78 hS_2 rfl (N := 82) rfl ((by exact vin_T (rfl : xq.toInt = xq.toInt) (by omega) (by omega))) dX12_shortens_270 ?_
          refine gz_ev (w := .int ((upd (F 78) (Int32.toNatClampNeg xq) v1) (Int32.toNatClampNeg xq))) rfl ?_
          refine gz_ev (w := .int v1) (congrArg Value.int (by rw [updE, if_pos rfl])) ?_
          refine m_iald 76 hS_2 rfl (N := 82) rfl ((by exact vin_T (rfl : v1.toInt = v1.toInt) (by omega) (by omega))) dX12_shortens_271 ?_
          refine gz_ev (w := .int ((F 76) (Int32.toNatClampNeg v1))) rfl ?_
          refine gz_bipush (v := 10) dX12_shortens_272 (by decide) ?_
          refine gz_icmp_ne (tgt := 341) dX12_shortens_274 (by decide) (fun c_274 => ?_) (fun c_274 => ?_)
          ·
            try simp only [mIn_0, lgc_lt, lgc_gt, lgc_le, lgc_ge, lgc_eq] at c_274
            try simp only [fl_lt, fl_le, fl_eq, fL_w, fL_lt, fL_le, tm1, tm10k, tm9, tm99, Int32.reduceToInt, Int64.reduceToInt, Int.not_lt, Int.not_le] at c_274
            obtain ⟨F2, hF2⟩ : ∃ F2, F2 = (va_up (va_up F 78 (upd (F 78) (Int32.toNatClampNeg xq) v1)) 79 (upd (F 79) (Int32.toNatClampNeg xq) y1)) := ⟨_, rfl⟩
            have hxx : fx [] [] [76, 77, 78, 79, 80, 81, 82] [] n z F G n z F2 G := by rw [hF2]; exact (fx_F (fx_F fx_rf (by decide)) (by decide))
            have hxN : fx [] [] [76, 77, 78, 79, 80, 81, 82] [] n0 z0 F0 G0 n z F2 G := by rw [hF2]; exact (fx_F (fx_F hx (by decide)) (by decide))
            have s76_ : F2 76 = (F 76) := by rw [hF2]; exact rfl
            have s77_ : F2 77 = (F 77) := by rw [hF2]; exact rfl
            have s78_ : F2 78 = (upd (F 78) (Int32.toNatClampNeg xq) v1) := by rw [hF2]; exact rfl
            have s79_ : F2 79 = (upd (F 79) (Int32.toNatClampNeg xq) y1) := by rw [hF2]; exact rfl
            have s80_ : F2 80 = (F 80) := by rw [hF2]; exact rfl
            have s81_ : F2 81 = (F 81) := by rw [hF2]; exact rfl
            have s82_ : F2 82 = (F 82) := by rw [hF2]; exact rfl
            have hS9 : mS cy m a f0 n z F2 G f_2 := by rw [hF2]; exact hS_2
            clear hF2
            have smW : ∀ r, r ∉ [76, 77, 78, 79, 80, 81, 82] → F2 r = F r := fun r hr => hxx.2.2.1 r hr
            have hW62 : (F2 6 fo).toInt = (Wn : Int) := by rw [smW 6 (by decide)]; exact hW6
            have hN2 : NR F2 := by
              intro q hq
              obtain ⟨q1, q2, q3, q4, q5⟩ := hN q hq
              rw [s78_, s79_, s80_, s81_, s82_]
              simp only [updE]
              refine ⟨?_, ?_, ?_, ?_, ?_⟩ <;> (repeat' split) <;> omega
            have hoff : ∀ r, r ∈ [76, 78, 79, 80, 82] → ∀ i, i ≠ bn + kN → F2 r i = F r i := by
              intro r hr i hi
              rw [← ecx] at hi
              simp only [List.mem_cons, List.not_mem_nil, or_false] at hr
              rcases hr with rfl | rfl | rfl | rfl | rfl
              · rw [s76_]
              · rw [s78_, updE, if_neg hi]
              · rw [s79_, updE, if_neg hi]
              · rw [s80_]
              · rw [s82_]
            have hP2 : SHp F2 fo Wn bn (kk.toInt) := by rw [hkN.1]; exact SHp_off (F := F) (smW 7 (by decide)) (smW 9 (by decide)) (smW 13 (by decide)) (smW 15 (by decide)) hoff (by omega) (by rw [← hkN.1]; exact hP)
            have hn2 : nOK F2 fo Wn bn kN := nOK_set (F := F) (v := v1) (y := y1) (smW 7 (by decide)) (smW 9 (by decide)) (smW 13 (by decide)) (smW 15 (by decide)) (by rw [← ecx, s80_, h80]; exact hwq) (by rw [← ecx, ← ecw, s76_]; exact h76) (by rw [← ecx, s78_, updE, if_pos rfl]) (by rw [← ecx, s79_, updE, if_pos rfl]) qu1 (fun _ => by omega) (fun q => by exfalso; rw [← ecw] at q; omega)
            refine gz_sub (lv' := [(7, .int xq), (5, .int kk), (0, .ref m), (1, .int x1), (2, .int x2), (3, .int bs), (4, .int nb)]) (by simp [List.lookup]) ?_
            have hX2 : LX F2 fo T := LX_cg (fun r h1 h2 => smW r (fun h => by simp only [List.mem_cons, List.not_mem_nil, or_false] at h; omega)) hX
            have hwW : ∀ r, r ∈ [7, 8, 13, 14, 15, 16, 18, 19, 20] → F2 r = F r := fun r hr => smW r (fun h => by simp only [List.mem_cons, List.not_mem_nil, or_false] at h hr; omega)
            have off7 : ∀ i, i ≠ bn + kN → F2 77 i = F 77 i ∧ F2 81 i = F 81 i := fun i hi => by rw [s77_, s81_]; exact ⟨rfl, rfl⟩
            have hE2 : shE F2 fo bn T H fi se (kN + 1) := shE_cg hwW (fun r hr i hi => by simp only [List.mem_cons, List.not_mem_nil, or_false] at hr; rcases hr with rfl | rfl | rfl | rfl | rfl | rfl | rfl; (exact hoff 76 (by decide) i (by omega)); (exact (off7 i (by omega)).1); (exact hoff 78 (by decide) i (by omega)); (exact hoff 79 (by decide) i (by omega)); (exact hoff 80 (by decide) i (by omega)); (exact (off7 i (by omega)).2); (exact hoff 82 (by decide) i (by omega))) (by omega) hE
            have g78 : F2 78 (bn + kN) = v1 := by rw [← ecx, s78_, updE, if_pos rfl]
            have g79 : F2 79 (bn + kN) = y1 := by rw [← ecx, s79_, updE, if_pos rfl]
            have e7c : (F 7 (40 * fo + kN)).toInt = (F 7 (Int32.toNatClampNeg wq)).toInt := by rw [ecw]
            obtain ⟨LXd, LXv, LX1, LX2, _⟩ := LX_at bA hf.2 hX hTl.2.1
            have LX7 := LXd.1
            have LXk := arH_k LXv
            have et : t = kN + 1 := by have z9 := LX1 (by omega); rw [← ecw] at z9; omega
            have hv82 : v1 = F 82 (bn + (kN + 1)) := by rw [hv1, qcl1, et]
            obtain ⟨h2, A0, B0, hen⟩ := en_mk (F2 := F2) bA hf.2 hX hTl.2.1 hE hwW (fun i hi => hoff 82 (by decide) i (by omega)) (by rw [← ecx, s80_, h80]; exact hwq) (by rw [← ecx, ← ecw, s76_]; exact h76) (fun z9 => by exfalso; omega) (fun z9 => by exfalso; omega) (fun _ => ⟨by rw [g79, hy1]; exact hb.2.2, Or.inl ⟨fun z9 => by have z8 := z9.2; rw [← hv82] at z8; have z7 : (F 76 (Int32.toNatClampNeg v1)).toInt = (F 76 v1.toInt.toNat).toInt := rfl; omega, by rw [g78, hv82], (by rw [s77_, ← ecx, h77, ecw])⟩⟩)
            have hou2 : outS F0 F2 bn := outS_st (k := kN) hou (fun r hr i hi => by simp only [List.mem_cons, List.not_mem_nil, or_false] at hr; rcases hr with rfl | rfl | rfl | rfl | rfl | rfl | rfl; (exact hoff 76 (by decide) i hi); (exact (off7 i hi).1); (exact hoff 78 (by decide) i hi); (exact hoff 79 (by decide) i hi); (exact hoff 80 (by decide) i hi); (exact (off7 i hi).2); (exact hoff 82 (by decide) i hi)) (by omega)
            exact l_X12_shortensBE hb hf hkN hxq hTl hq 1 _ _ _ _ _ hS9 hxN (RI_fx hR hxx (by decide) (by decide)) hfo hN2 hW62 hou2 hP2 hn2 hX2 hE2 hen (by decide)
          ·
            try simp only [mIn_0, lgc_lt, lgc_gt, lgc_le, lgc_ge, lgc_eq] at c_274
            try simp only [fl_lt, fl_le, fl_eq, fL_w, fL_lt, fL_le, tm1, tm10k, tm9, tm99, Int32.reduceToInt, Int64.reduceToInt, Int.not_lt, Int.not_le] at c_274
            refine gz_aload_n dX12_shortens_277 rfl rfl ?_
            refine mg_216 hS_2 dX12_shortens_278 ?_
            refine gz_iload dX12_shortens_281 rfl ?_
            refine m_iald 78 hS_2 rfl (N := 82) rfl ((by exact vin_T (rfl : xq.toInt = xq.toInt) (by omega) (by omega))) dX12_shortens_283 ?_
            refine gz_ev (w := .int ((upd (F 78) (Int32.toNatClampNeg xq) v1) (Int32.toNatClampNeg xq))) rfl ?_
            refine gz_ev (w := .int v1) (congrArg Value.int (by rw [updE, if_pos rfl])) ?_
            refine gz_istore (lv' := [(10, .int v1), (9, .int pr), (8, .int lf), (7, .int xq), (6, .int wq), (5, .int kk), (0, .ref m), (1, .int x1), (2, .int x2), (3, .int bs), (4, .int nb)]) dX12_shortens_284 (by decide) rfl ?_
            refine gz_aload_n dX12_shortens_286 rfl rfl ?_
            refine mg_213 hS_2 dX12_shortens_287 ?_
            refine gz_iload dX12_shortens_290 rfl ?_
            refine gz_aload_n dX12_shortens_292 rfl rfl ?_
            refine mg_213 hS_2 dX12_shortens_293 ?_
            refine gz_iload dX12_shortens_296 rfl ?_
            refine m_iald 77 hS_2 rfl (N := 82) rfl ((by exact vin_T (rfl : v1.toInt = v1.toInt) (by omega) (by omega))) dX12_shortens_298 ?_
            refine gz_ev (w := .int ((F 77) (Int32.toNatClampNeg v1))) rfl ?_
            refine gz_aload_n dX12_shortens_299 rfl rfl ?_
            refine mg_213 hS_2 dX12_shortens_300 ?_
            refine gz_iload dX12_shortens_303 rfl ?_
            refine m_iald 77 hS_2 rfl (N := 82) rfl ((by exact vin_T (rfl : xq.toInt = xq.toInt) (by omega) (by omega))) dX12_shortens_305 ?_
            refine gz_ev (w := .int ((F 77) (Int32.toNatClampNeg xq))) rfl ?_
            refine gz_icmp_ge (tgt := 319) dX12_shortens_306 (by decide) (fun c_306 => ?_) (fun c_306 => ?_)
            ·
              try simp only [mIn_0, lgc_lt, lgc_gt, lgc_le, lgc_ge, lgc_eq] at c_306
              try simp only [fl_lt, fl_le, fl_eq, fL_w, fL_lt, fL_le, tm1, tm10k, tm9, tm99, Int32.reduceToInt, Int64.reduceToInt, Int.not_lt, Int.not_le] at c_306
              refine gz_aload_n dX12_shortens_319 rfl rfl ?_
              refine mg_213 hS_2 dX12_shortens_320 ?_
              refine gz_iload dX12_shortens_323 rfl ?_
              refine m_iald 77 hS_2 rfl (N := 82) rfl ((by exact vin_T (rfl : xq.toInt = xq.toInt) (by omega) (by omega))) dX12_shortens_325 ?_
              refine gz_ev (w := .int ((F 77) (Int32.toNatClampNeg xq))) rfl ?_
              refine m_iast 77 hS_2 rfl (N := 82) rfl ((by exact vin_T (rfl : xq.toInt = xq.toInt) (by omega) (by omega))) dX12_shortens_326 (fun f_3 hS_3q => ?_)
              have hS_3 : mS cy m a f0 n z (va_up (va_up (va_up F 78 (upd (F 78) (Int32.toNatClampNeg xq) v1)) 79 (upd (F 79) (Int32.toNatClampNeg xq) y1)) 77 (upd (F 77) (Int32.toNatClampNeg xq) ((F 77) (Int32.toNatClampNeg xq)))) G f_3 := hS_3q
              refine gz_aload_n dX12_shortens_327 rfl rfl ?_
              refine mg_216 hS_3 dX12_shortens_328 ?_
              refine gz_iload dX12_shortens_331 rfl ?_
              refine gz_aload_n dX12_shortens_333 rfl rfl ?_
              refine mg_216 hS_3 dX12_shortens_334 ?_
              refine gz_iload dX12_shortens_337 rfl ?_
              refine m_iald 78 hS_3 rfl (N := 82) rfl ((by exact vin_T (rfl : v1.toInt = v1.toInt) (by omega) (by omega))) dX12_shortens_339 ?_
              refine gz_ev (w := .int ((upd (F 78) (Int32.toNatClampNeg xq) v1) (Int32.toNatClampNeg v1))) rfl ?_
              have hne1 : Int32.toNatClampNeg v1 ≠ (Int32.toNatClampNeg xq) := by rw [clN, clN]; omega
              obtain ⟨v2, hv2⟩ : ∃ v_, v_ = (F 78 (Int32.toNatClampNeg v1)) := ⟨_, rfl⟩
              refine gz_ev (w := .int v2) (congrArg Value.int (by rw [updE, if_neg hne1]; exact hv2.symm)) ?_
              have hc10 : (F 76 v1.toInt.toNat).toInt = 10 := by have q9 : (F 76 (Int32.toNatClampNeg v1)).toInt = 10 := (by omega); exact q9
              have qcap := cap_in (v := v1) (by omega) (by omega) (by rw [← hkN.1]; exact hP) qu1 (by omega) hc10
              rw [show F 78 v1.toInt.toNat = v2 from hv2.symm] at qcap
              have qv2 : 0 ≤ v2.toInt ∧ v2.toInt < 82 ∧ v2.toInt ≠ xq.toInt := by rcases qcap.1 with z | ⟨j, z1, z2, z3⟩ <;> omega
              refine m_iast 78 hS_3 rfl (N := 82) rfl ((by exact vin_T (rfl : xq.toInt = xq.toInt) (by omega) (by omega))) dX12_shortens_340 (fun f_4 hS_4q => ?_)
              have hS_4 : mS cy m a f0 n z (va_up (va_up (va_up (va_up F 78 (upd (F 78) (Int32.toNatClampNeg xq) v1)) 79 (upd (F 79) (Int32.toNatClampNeg xq) y1)) 77 (upd (F 77) (Int32.toNatClampNeg xq) ((F 77) (Int32.toNatClampNeg xq)))) 78 (upd (upd (F 78) (Int32.toNatClampNeg xq) v1) (Int32.toNatClampNeg xq) v2)) G f_4 := hS_4q
              obtain ⟨F2, hF2⟩ : ∃ F2, F2 = (va_up (va_up (va_up (va_up F 78 (upd (F 78) (Int32.toNatClampNeg xq) v1)) 79 (upd (F 79) (Int32.toNatClampNeg xq) y1)) 77 (upd (F 77) (Int32.toNatClampNeg xq) ((F 77) (Int32.toNatClampNeg xq)))) 78 (upd (upd (F 78) (Int32.toNatClampNeg xq) v1) (Int32.toNatClampNeg xq) v2)) := ⟨_, rfl⟩
              have hxx : fx [] [] [76, 77, 78, 79, 80, 81, 82] [] n z F G n z F2 G := by rw [hF2]; exact (fx_F (fx_F (fx_F (fx_F fx_rf (by decide)) (by decide)) (by decide)) (by decide))
              have hxN : fx [] [] [76, 77, 78, 79, 80, 81, 82] [] n0 z0 F0 G0 n z F2 G := by rw [hF2]; exact (fx_F (fx_F (fx_F (fx_F hx (by decide)) (by decide)) (by decide)) (by decide))
              have s76_ : F2 76 = (F 76) := by rw [hF2]; exact rfl
              have s77_ : F2 77 = (upd (F 77) (Int32.toNatClampNeg xq) ((F 77) (Int32.toNatClampNeg xq))) := by rw [hF2]; exact rfl
              have s78_ : F2 78 = (upd (upd (F 78) (Int32.toNatClampNeg xq) v1) (Int32.toNatClampNeg xq) v2) := by rw [hF2]; exact rfl
              have s79_ : F2 79 = (upd (F 79) (Int32.toNatClampNeg xq) y1) := by rw [hF2]; exact rfl
              have s80_ : F2 80 = (F 80) := by rw [hF2]; exact rfl
              have s81_ : F2 81 = (F 81) := by rw [hF2]; exact rfl
              have s82_ : F2 82 = (F 82) := by rw [hF2]; exact rfl
              have hS9 : mS cy m a f0 n z F2 G f_4 := by rw [hF2]; exact hS_4
              clear hF2
              have smW : ∀ r, r ∉ [76, 77, 78, 79, 80, 81, 82] → F2 r = F r := fun r hr => hxx.2.2.1 r hr
              have hW62 : (F2 6 fo).toInt = (Wn : Int) := by rw [smW 6 (by decide)]; exact hW6
              have hN2 : NR F2 := by
                intro q hq
                obtain ⟨q1, q2, q3, q4, q5⟩ := hN q hq
                rw [s78_, s79_, s80_, s81_, s82_]
                simp only [updE]
                refine ⟨?_, ?_, ?_, ?_, ?_⟩ <;> (repeat' split) <;> omega
              have hoff : ∀ r, r ∈ [76, 78, 79, 80, 82] → ∀ i, i ≠ bn + kN → F2 r i = F r i := by
                intro r hr i hi
                rw [← ecx] at hi
                simp only [List.mem_cons, List.not_mem_nil, or_false] at hr
                rcases hr with rfl | rfl | rfl | rfl | rfl
                · rw [s76_]
                · rw [s78_, updE, if_neg hi, updE, if_neg hi]
                · rw [s79_, updE, if_neg hi]
                · rw [s80_]
                · rw [s82_]
              have hP2 : SHp F2 fo Wn bn (kk.toInt) := by rw [hkN.1]; exact SHp_off (F := F) (smW 7 (by decide)) (smW 9 (by decide)) (smW 13 (by decide)) (smW 15 (by decide)) hoff (by omega) (by rw [← hkN.1]; exact hP)
              have hn2 : nOK F2 fo Wn bn kN := nOK_set (F := F) (v := v2) (y := y1) (smW 7 (by decide)) (smW 9 (by decide)) (smW 13 (by decide)) (smW 15 (by decide)) (by rw [← ecx, s80_, h80]; exact hwq) (by rw [← ecx, ← ecw, s76_]; exact h76) (by rw [← ecx, s78_, updE, if_pos rfl]) (by rw [← ecx, s79_, updE, if_pos rfl]) qcap.1 (fun _ => qcap.2) (fun q => by exfalso; rw [← ecw] at q; omega)
              refine gz_sub (lv' := [(7, .int xq), (5, .int kk), (0, .ref m), (1, .int x1), (2, .int x2), (3, .int bs), (4, .int nb)]) (by simp [List.lookup]) ?_
              have hX2 : LX F2 fo T := LX_cg (fun r h1 h2 => smW r (fun h => by simp only [List.mem_cons, List.not_mem_nil, or_false] at h; omega)) hX
              have hwW : ∀ r, r ∈ [7, 8, 13, 14, 15, 16, 18, 19, 20] → F2 r = F r := fun r hr => smW r (fun h => by simp only [List.mem_cons, List.not_mem_nil, or_false] at h hr; omega)
              have off7 : ∀ i, i ≠ bn + kN → F2 77 i = F 77 i ∧ F2 81 i = F 81 i := fun i hi => by rw [s77_, s81_, ecx]; exact ⟨by rw [updE, if_neg hi], rfl⟩
              have hE2 : shE F2 fo bn T H fi se (kN + 1) := shE_cg hwW (fun r hr i hi => by simp only [List.mem_cons, List.not_mem_nil, or_false] at hr; rcases hr with rfl | rfl | rfl | rfl | rfl | rfl | rfl; (exact hoff 76 (by decide) i (by omega)); (exact (off7 i (by omega)).1); (exact hoff 78 (by decide) i (by omega)); (exact hoff 79 (by decide) i (by omega)); (exact hoff 80 (by decide) i (by omega)); (exact (off7 i (by omega)).2); (exact hoff 82 (by decide) i (by omega))) (by omega) hE
              have g78 : F2 78 (bn + kN) = v2 := by rw [← ecx, s78_, updE, if_pos rfl]
              have g79 : F2 79 (bn + kN) = y1 := by rw [← ecx, s79_, updE, if_pos rfl]
              have e7c : (F 7 (40 * fo + kN)).toInt = (F 7 (Int32.toNatClampNeg wq)).toInt := by rw [ecw]
              obtain ⟨LXd, LXv, LX1, LX2, _⟩ := LX_at bA hf.2 hX hTl.2.1
              have LX7 := LXd.1
              have LXk := arH_k LXv
              have et : t = kN + 1 := by have z9 := LX1 (by omega); rw [← ecw] at z9; omega
              have hv82 : v1 = F 82 (bn + (kN + 1)) := by rw [hv1, qcl1, et]
              have ev1 : v1.toInt.toNat = (F 82 (bn + (kN + 1))).toInt.toNat := by rw [hv82]
              have c77 : (F2 77 (bn + kN)).toInt = (if (F 77 v1.toInt.toNat).toInt < (F 8 (40 * fo + kN)).toInt then (F 77 v1.toInt.toNat).toInt else (F 8 (40 * fo + kN)).toInt) := by
                have u8 : F 77 (Int32.toNatClampNeg xq) = F 8 (40 * fo + kN) := by rw [h77, ecw]
                rw [s77_, ← ecx, updE, if_pos rfl]
                have c9 := c_306
                rw [u8] at c9
                rw [if_neg (show ¬ (F 77 v1.toInt.toNat).toInt < (F 8 (40 * fo + kN)).toInt from Int.not_lt.mpr c9), u8]
              obtain ⟨h2, A0, B0, hen⟩ := en_mk (F2 := F2) bA hf.2 hX hTl.2.1 hE hwW (fun i hi => hoff 82 (by decide) i (by omega)) (by rw [← ecx, s80_, h80]; exact hwq) (by rw [← ecx, ← ecw, s76_]; exact h76) (fun z9 => by exfalso; omega) (fun z9 => by exfalso; omega) (fun _ => ⟨by rw [g79, hy1]; exact hb.2.2, Or.inr ⟨by omega, by rw [← ev1]; exact hc10, by rw [g78, ← ev1]; exact hv2, by rw [← ev1]; exact c77⟩⟩)
              have hou2 : outS F0 F2 bn := outS_st (k := kN) hou (fun r hr i hi => by simp only [List.mem_cons, List.not_mem_nil, or_false] at hr; rcases hr with rfl | rfl | rfl | rfl | rfl | rfl | rfl; (exact hoff 76 (by decide) i hi); (exact (off7 i hi).1); (exact hoff 78 (by decide) i hi); (exact hoff 79 (by decide) i hi); (exact hoff 80 (by decide) i hi); (exact (off7 i hi).2); (exact hoff 82 (by decide) i hi)) (by omega)
              exact l_X12_shortensBE hb hf hkN hxq hTl hq 1 _ _ _ _ _ hS9 hxN (RI_fx hR hxx (by decide) (by decide)) hfo hN2 hW62 hou2 hP2 hn2 hX2 hE2 hen (by decide)
            ·
              try simp only [mIn_0, lgc_lt, lgc_gt, lgc_le, lgc_ge, lgc_eq] at c_306
              try simp only [fl_lt, fl_le, fl_eq, fL_w, fL_lt, fL_le, tm1, tm10k, tm9, tm99, Int32.reduceToInt, Int64.reduceToInt, Int.not_lt, Int.not_le] at c_306
              refine gz_aload_n dX12_shortens_309 rfl rfl ?_
              refine mg_213 hS_2 dX12_shortens_310 ?_
              refine gz_iload dX12_shortens_313 rfl ?_
              refine m_iald 77 hS_2 rfl (N := 82) rfl ((by exact vin_T (rfl : v1.toInt = v1.toInt) (by omega) (by omega))) dX12_shortens_315 ?_
              refine gz_ev (w := .int ((F 77) (Int32.toNatClampNeg v1))) rfl ?_
              refine gz_goto (tgt := 326) dX12_shortens_316 (by decide) ?_
              refine m_iast 77 hS_2 rfl (N := 82) rfl ((by exact vin_T (rfl : xq.toInt = xq.toInt) (by omega) (by omega))) dX12_shortens_326 (fun f_5 hS_5q => ?_)
              have hS_5 : mS cy m a f0 n z (va_up (va_up (va_up F 78 (upd (F 78) (Int32.toNatClampNeg xq) v1)) 79 (upd (F 79) (Int32.toNatClampNeg xq) y1)) 77 (upd (F 77) (Int32.toNatClampNeg xq) ((F 77) (Int32.toNatClampNeg v1)))) G f_5 := hS_5q
              refine gz_aload_n dX12_shortens_327 rfl rfl ?_
              refine mg_216 hS_5 dX12_shortens_328 ?_
              refine gz_iload dX12_shortens_331 rfl ?_
              refine gz_aload_n dX12_shortens_333 rfl rfl ?_
              refine mg_216 hS_5 dX12_shortens_334 ?_
              refine gz_iload dX12_shortens_337 rfl ?_
              refine m_iald 78 hS_5 rfl (N := 82) rfl ((by exact vin_T (rfl : v1.toInt = v1.toInt) (by omega) (by omega))) dX12_shortens_339 ?_
              refine gz_ev (w := .int ((upd (F 78) (Int32.toNatClampNeg xq) v1) (Int32.toNatClampNeg v1))) rfl ?_
              have hne1 : Int32.toNatClampNeg v1 ≠ (Int32.toNatClampNeg xq) := by rw [clN, clN]; omega
              obtain ⟨v2, hv2⟩ : ∃ v_, v_ = (F 78 (Int32.toNatClampNeg v1)) := ⟨_, rfl⟩
              refine gz_ev (w := .int v2) (congrArg Value.int (by rw [updE, if_neg hne1]; exact hv2.symm)) ?_
              have hc10 : (F 76 v1.toInt.toNat).toInt = 10 := by have q9 : (F 76 (Int32.toNatClampNeg v1)).toInt = 10 := (by omega); exact q9
              have qcap := cap_in (v := v1) (by omega) (by omega) (by rw [← hkN.1]; exact hP) qu1 (by omega) hc10
              rw [show F 78 v1.toInt.toNat = v2 from hv2.symm] at qcap
              have qv2 : 0 ≤ v2.toInt ∧ v2.toInt < 82 ∧ v2.toInt ≠ xq.toInt := by rcases qcap.1 with z | ⟨j, z1, z2, z3⟩ <;> omega
              refine m_iast 78 hS_5 rfl (N := 82) rfl ((by exact vin_T (rfl : xq.toInt = xq.toInt) (by omega) (by omega))) dX12_shortens_340 (fun f_6 hS_6q => ?_)
              have hS_6 : mS cy m a f0 n z (va_up (va_up (va_up (va_up F 78 (upd (F 78) (Int32.toNatClampNeg xq) v1)) 79 (upd (F 79) (Int32.toNatClampNeg xq) y1)) 77 (upd (F 77) (Int32.toNatClampNeg xq) ((F 77) (Int32.toNatClampNeg v1)))) 78 (upd (upd (F 78) (Int32.toNatClampNeg xq) v1) (Int32.toNatClampNeg xq) v2)) G f_6 := hS_6q
              obtain ⟨F2, hF2⟩ : ∃ F2, F2 = (va_up (va_up (va_up (va_up F 78 (upd (F 78) (Int32.toNatClampNeg xq) v1)) 79 (upd (F 79) (Int32.toNatClampNeg xq) y1)) 77 (upd (F 77) (Int32.toNatClampNeg xq) ((F 77) (Int32.toNatClampNeg v1)))) 78 (upd (upd (F 78) (Int32.toNatClampNeg xq) v1) (Int32.toNatClampNeg xq) v2)) := ⟨_, rfl⟩
              have hxx : fx [] [] [76, 77, 78, 79, 80, 81, 82] [] n z F G n z F2 G := by rw [hF2]; exact (fx_F (fx_F (fx_F (fx_F fx_rf (by decide)) (by decide)) (by decide)) (by decide))
              have hxN : fx [] [] [76, 77, 78, 79, 80, 81, 82] [] n0 z0 F0 G0 n z F2 G := by rw [hF2]; exact (fx_F (fx_F (fx_F (fx_F hx (by decide)) (by decide)) (by decide)) (by decide))
              have s76_ : F2 76 = (F 76) := by rw [hF2]; exact rfl
              have s77_ : F2 77 = (upd (F 77) (Int32.toNatClampNeg xq) ((F 77) (Int32.toNatClampNeg v1))) := by rw [hF2]; exact rfl
              have s78_ : F2 78 = (upd (upd (F 78) (Int32.toNatClampNeg xq) v1) (Int32.toNatClampNeg xq) v2) := by rw [hF2]; exact rfl
              have s79_ : F2 79 = (upd (F 79) (Int32.toNatClampNeg xq) y1) := by rw [hF2]; exact rfl
              have s80_ : F2 80 = (F 80) := by rw [hF2]; exact rfl
              have s81_ : F2 81 = (F 81) := by rw [hF2]; exact rfl
              have s82_ : F2 82 = (F 82) := by rw [hF2]; exact rfl
              have hS9 : mS cy m a f0 n z F2 G f_6 := by rw [hF2]; exact hS_6
              clear hF2
              have smW : ∀ r, r ∉ [76, 77, 78, 79, 80, 81, 82] → F2 r = F r := fun r hr => hxx.2.2.1 r hr
              have hW62 : (F2 6 fo).toInt = (Wn : Int) := by rw [smW 6 (by decide)]; exact hW6
              have hN2 : NR F2 := by
                intro q hq
                obtain ⟨q1, q2, q3, q4, q5⟩ := hN q hq
                rw [s78_, s79_, s80_, s81_, s82_]
                simp only [updE]
                refine ⟨?_, ?_, ?_, ?_, ?_⟩ <;> (repeat' split) <;> omega
              have hoff : ∀ r, r ∈ [76, 78, 79, 80, 82] → ∀ i, i ≠ bn + kN → F2 r i = F r i := by
                intro r hr i hi
                rw [← ecx] at hi
                simp only [List.mem_cons, List.not_mem_nil, or_false] at hr
                rcases hr with rfl | rfl | rfl | rfl | rfl
                · rw [s76_]
                · rw [s78_, updE, if_neg hi, updE, if_neg hi]
                · rw [s79_, updE, if_neg hi]
                · rw [s80_]
                · rw [s82_]
              have hP2 : SHp F2 fo Wn bn (kk.toInt) := by rw [hkN.1]; exact SHp_off (F := F) (smW 7 (by decide)) (smW 9 (by decide)) (smW 13 (by decide)) (smW 15 (by decide)) hoff (by omega) (by rw [← hkN.1]; exact hP)
              have hn2 : nOK F2 fo Wn bn kN := nOK_set (F := F) (v := v2) (y := y1) (smW 7 (by decide)) (smW 9 (by decide)) (smW 13 (by decide)) (smW 15 (by decide)) (by rw [← ecx, s80_, h80]; exact hwq) (by rw [← ecx, ← ecw, s76_]; exact h76) (by rw [← ecx, s78_, updE, if_pos rfl]) (by rw [← ecx, s79_, updE, if_pos rfl]) qcap.1 (fun _ => qcap.2) (fun q => by exfalso; rw [← ecw] at q; omega)
              refine gz_sub (lv' := [(7, .int xq), (5, .int kk), (0, .ref m), (1, .int x1), (2, .int x2), (3, .int bs), (4, .int nb)]) (by simp [List.lookup]) ?_
              have hX2 : LX F2 fo T := LX_cg (fun r h1 h2 => smW r (fun h => by simp only [List.mem_cons, List.not_mem_nil, or_false] at h; omega)) hX
              have hwW : ∀ r, r ∈ [7, 8, 13, 14, 15, 16, 18, 19, 20] → F2 r = F r := fun r hr => smW r (fun h => by simp only [List.mem_cons, List.not_mem_nil, or_false] at h hr; omega)
              have off7 : ∀ i, i ≠ bn + kN → F2 77 i = F 77 i ∧ F2 81 i = F 81 i := fun i hi => by rw [s77_, s81_, ecx]; exact ⟨by rw [updE, if_neg hi], rfl⟩
              have hE2 : shE F2 fo bn T H fi se (kN + 1) := shE_cg hwW (fun r hr i hi => by simp only [List.mem_cons, List.not_mem_nil, or_false] at hr; rcases hr with rfl | rfl | rfl | rfl | rfl | rfl | rfl; (exact hoff 76 (by decide) i (by omega)); (exact (off7 i (by omega)).1); (exact hoff 78 (by decide) i (by omega)); (exact hoff 79 (by decide) i (by omega)); (exact hoff 80 (by decide) i (by omega)); (exact (off7 i (by omega)).2); (exact hoff 82 (by decide) i (by omega))) (by omega) hE
              have g78 : F2 78 (bn + kN) = v2 := by rw [← ecx, s78_, updE, if_pos rfl]
              have g79 : F2 79 (bn + kN) = y1 := by rw [← ecx, s79_, updE, if_pos rfl]
              have e7c : (F 7 (40 * fo + kN)).toInt = (F 7 (Int32.toNatClampNeg wq)).toInt := by rw [ecw]
              obtain ⟨LXd, LXv, LX1, LX2, _⟩ := LX_at bA hf.2 hX hTl.2.1
              have LX7 := LXd.1
              have LXk := arH_k LXv
              have et : t = kN + 1 := by have z9 := LX1 (by omega); rw [← ecw] at z9; omega
              have hv82 : v1 = F 82 (bn + (kN + 1)) := by rw [hv1, qcl1, et]
              have ev1 : v1.toInt.toNat = (F 82 (bn + (kN + 1))).toInt.toNat := by rw [hv82]
              have c77 : (F2 77 (bn + kN)).toInt = (if (F 77 v1.toInt.toNat).toInt < (F 8 (40 * fo + kN)).toInt then (F 77 v1.toInt.toNat).toInt else (F 8 (40 * fo + kN)).toInt) := by
                have u8 : F 77 (Int32.toNatClampNeg xq) = F 8 (40 * fo + kN) := by rw [h77, ecw]
                rw [s77_, ← ecx, updE, if_pos rfl]
                have c9 := c_306
                rw [u8] at c9
                rw [if_pos (show (F 77 v1.toInt.toNat).toInt < (F 8 (40 * fo + kN)).toInt from c9)]
                first | done | rfl
              obtain ⟨h2, A0, B0, hen⟩ := en_mk (F2 := F2) bA hf.2 hX hTl.2.1 hE hwW (fun i hi => hoff 82 (by decide) i (by omega)) (by rw [← ecx, s80_, h80]; exact hwq) (by rw [← ecx, ← ecw, s76_]; exact h76) (fun z9 => by exfalso; omega) (fun z9 => by exfalso; omega) (fun _ => ⟨by rw [g79, hy1]; exact hb.2.2, Or.inr ⟨by omega, by rw [← ev1]; exact hc10, by rw [g78, ← ev1]; exact hv2, by rw [← ev1]; exact c77⟩⟩)
              have hou2 : outS F0 F2 bn := outS_st (k := kN) hou (fun r hr i hi => by simp only [List.mem_cons, List.not_mem_nil, or_false] at hr; rcases hr with rfl | rfl | rfl | rfl | rfl | rfl | rfl; (exact hoff 76 (by decide) i hi); (exact (off7 i hi).1); (exact hoff 78 (by decide) i hi); (exact hoff 79 (by decide) i hi); (exact hoff 80 (by decide) i hi); (exact (off7 i hi).2); (exact hoff 82 (by decide) i hi)) (by omega)
              exact l_X12_shortensBE hb hf hkN hxq hTl hq 1 _ _ _ _ _ hS9 hxN (RI_fx hR hxx (by decide) (by decide)) hfo hN2 hW62 hou2 hP2 hn2 hX2 hE2 hen (by decide)
      · exfalso; simp only [fl_eq, Int32.reduceToInt] at c_222; omega
    · exfalso; simp only [fl_eq, Int32.reduceToInt] at c_188; omega
