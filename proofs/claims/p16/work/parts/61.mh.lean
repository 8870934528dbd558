theorem updLE {g : Nat → Int64} {i j : Nat} {x : Int64} : vp_updL g i x j = if j = i then x else g j := by
  by_cases h : j = i
  · subst h; rw [if_pos rfl]; simp [vp_updL]
  · rw [if_neg h]; simp [vp_updL, h]
/-- how many of the first t are not 0 -/
def nzc (g : Nat → Int64) : Nat → Nat
  | 0 => 0
  | i + 1 => (if g i = 0 then 0 else 1) + nzc g i
theorem nzc_le {g : Nat → Int64} : ∀ t, nzc g t ≤ t := by
  intro t
  induction t with
  | zero => exact Nat.le_refl _
  | succ t ih => unfold nzc; split <;> omega
theorem nzc_ge {g : Nat → Int64} {i : Nat} (h : g i ≠ 0) : ∀ t, i < t → 1 ≤ nzc g t := by
  intro t
  induction t with
  | zero => intro q; omega
  | succ t ih =>
    intro q
    unfold nzc
    by_cases e : i = t
    · rw [← e, if_neg h]; omega
    · have := ih (by omega); omega
theorem nzc_up {g : Nat → Int64} {i : Nat} {v : Int64} (h : g i ≠ 0) : ∀ t, nzc (vp_updL g i v) t ≤ nzc g t ∧ (v = 0 → i < t → nzc (vp_updL g i v) t + 1 ≤ nzc g t) := by
  intro t
  induction t with
  | zero => exact ⟨Nat.le_refl _, fun _ q => by omega⟩
  | succ t ih =>
    unfold nzc
    rw [updLE]
    by_cases e : t = i
    · rw [if_pos e, e, if_neg h]
      rw [e] at ih
      refine ⟨?_, fun hv _ => ?_⟩
      · split <;> omega
      · rw [if_pos hv]; omega
    · rw [if_neg e]
      refine ⟨by omega, fun hv q => ?_⟩
      have := ih.2 hv (by omega)
      omega

set_option maxHeartbeats 4000000 in
set_option maxRecDepth 100000 in
theorem l_X12_net2 {l : Launch} {D : va_G} {cy : Nat → ClassId} {b : Nat} {m : Nat} {a : Nat → Nat} {f0 : gMem} {n0 : Nat → Int32} {z0 : Nat → Int64} {F0 : Nat → Nat → Int32} {G0 : Nat → Nat → Int64}  {x1 : Int32}  : ∀ (k : Nat) (x2 x3 : Int32) (n : Nat → Int32) (z : Nat → Int64) (F : Nat → Nat → Int32) (G : Nat → Nat → Int64) (fm : gMem), mS cy m a f0 n z F G fm → fx [46, 47] [] [48, 49] [50, 51, 52] n0 z0 F0 G0 n z F G → (RI n F) → ((n 47).toInt + nzc (G 52) 8 ≤ 8) → (0 ≤ x2.toInt ∧ x2.toInt ≤ 8 ∧ 0 ≤ x3.toInt ∧ x3.toInt ≤ 8) → (24 - x2.toInt - x3.toInt - (n 47).toInt < (k : Int)) → gG l (gRm 1 0 0) (gQf D b (pI fun r f2 => ∃ (n2 : Nat → Int32) (z2 : Nat → Int64) (F2 : Nat → Nat → Int32) (G2 : Nat → Nat → Int64), mS cy m a f0 n2 z2 F2 G2 f2 ∧ fx [46, 47] [] [48, 49] [50, 51, 52] n0 z0 F0 G0 n2 z2 F2 G2 ∧ RI n2 F2) 0 0) gTt D cy b cX12_net 6 (some .int) RX12 "net" 0 0 fm 156 [(2, .int x2), (3, .int x3), (0, .ref m), (1, .int x1)] [] := by
  intro k
  induction k with
  | zero =>
    intro x2 x3 n z F G fm hS hx hR hg hab hk
    exfalso; omega
  | succ k ih =>
    intro x2 x3 n z F G fm hS hx hR hg hab hk
    obtain ⟨a0, a4, a5, bA, bW, a30, bL, a38, bP, a53, a47, a88⟩ := id hR
    refine gz_iload_n dX12_net_156 rfl rfl ?_
    refine gz_bipush (v := 8) dX12_net_157 (by decide) ?_
    refine gz_icmp_ge (tgt := 303) dX12_net_159 (by decide) (fun c_159 => ?_) (fun c_159 => ?_)
    ·
      try simp only [mIn_0, lgc_lt, lgc_gt, lgc_le, lgc_ge, lgc_eq] at c_159
      try simp only [fl_lt, fl_le, fl_eq, fL_w, fL_lt, fL_le, tm1, tm10k, tm9, tm99, Int32.reduceToInt, Int64.reduceToInt, Int.not_lt, Int.not_le] at c_159
      refine gz_aload_n dX12_net_303 rfl rfl ?_
      refine mg_430 hS dX12_net_304 ?_
      exact gz_iret rfl dX12_net_307 (Nat.le_of_ble_eq_true rfl) (Nat.le_of_ble_eq_true rfl) (⟨_, rfl, _, _, _, _, hS, hx, hR⟩)
    ·
      try simp only [mIn_0, lgc_lt, lgc_gt, lgc_le, lgc_ge, lgc_eq] at c_159
      try simp only [fl_lt, fl_le, fl_eq, fL_w, fL_lt, fL_le, tm1, tm10k, tm9, tm99, Int32.reduceToInt, Int64.reduceToInt, Int.not_lt, Int.not_le] at c_159
      refine gz_iload_n dX12_net_162 rfl rfl ?_
      refine gz_bipush (v := 8) dX12_net_163 (by decide) ?_
      refine gz_icmp_ge (tgt := 303) dX12_net_165 (by decide) (fun c_165 => ?_) (fun c_165 => ?_)
      ·
        try simp only [mIn_0, lgc_lt, lgc_gt, lgc_le, lgc_ge, lgc_eq] at c_165
        try simp only [fl_lt, fl_le, fl_eq, fL_w, fL_lt, fL_le, tm1, tm10k, tm9, tm99, Int32.reduceToInt, Int64.reduceToInt, Int.not_lt, Int.not_le] at c_165
        refine gz_aload_n dX12_net_303 rfl rfl ?_
        refine mg_430 hS dX12_net_304 ?_
        exact gz_iret rfl dX12_net_307 (Nat.le_of_ble_eq_true rfl) (Nat.le_of_ble_eq_true rfl) (⟨_, rfl, _, _, _, _, hS, hx, hR⟩)
      ·
        try simp only [mIn_0, lgc_lt, lgc_gt, lgc_le, lgc_ge, lgc_eq] at c_165
        try simp only [fl_lt, fl_le, fl_eq, fL_w, fL_lt, fL_le, tm1, tm10k, tm9, tm99, Int32.reduceToInt, Int64.reduceToInt, Int.not_lt, Int.not_le] at c_165
        refine gz_aload_n dX12_net_168 rfl rfl ?_
        refine mg_148 hS dX12_net_169 ?_
        refine gz_iload_n dX12_net_172 rfl rfl ?_
        refine m_lald 52 hS rfl (N := 8) rfl ((by exact vin_T (rfl : (x2).toInt = (x2).toInt) (by omega) (by omega))) dX12_net_173 ?_
        refine gz_lconst (v := 0) dX12_net_174 (by decide) ?_
        refine gz_lcmp dX12_net_175 ?_
        refine gz_if_lt (tgt := 185) dX12_net_176 (by decide) (fun c_176 => ?_) (fun c_176 => ?_)
        ·
          try simp only [mIn_0, lgc_lt, lgc_gt, lgc_le, lgc_ge, lgc_eq] at c_176
          try simp only [fl_lt, fl_le, fl_eq, fL_w, fL_lt, fL_le, tm1, tm10k, tm9, tm99, Int32.reduceToInt, Int64.reduceToInt, Int.not_lt, Int.not_le] at c_176
          refine gz_aload_n dX12_net_185 rfl rfl ?_
          refine mg_148 hS dX12_net_186 ?_
          refine gz_iload_n dX12_net_189 rfl rfl ?_
          refine m_lald 52 hS rfl (N := 8) rfl ((by exact vin_T (rfl : (x3).toInt = (x3).toInt) (by omega) (by omega))) dX12_net_190 ?_
          refine gz_lconst (v := 0) dX12_net_191 (by decide) ?_
          refine gz_lcmp dX12_net_192 ?_
          refine gz_if_gt (tgt := 202) dX12_net_193 (by decide) (fun c_193 => ?_) (fun c_193 => ?_)
          ·
            try simp only [mIn_0, lgc_lt, lgc_gt, lgc_le, lgc_ge, lgc_eq] at c_193
            try simp only [fl_lt, fl_le, fl_eq, fL_w, fL_lt, fL_le, tm1, tm10k, tm9, tm99, Int32.reduceToInt, Int64.reduceToInt, Int.not_lt, Int.not_le] at c_193
            refine gz_aload_n dX12_net_202 rfl rfl ?_
            refine mg_148 hS dX12_net_203 ?_
            refine gz_iload_n dX12_net_206 rfl rfl ?_
            refine m_lald 52 hS rfl (N := 8) rfl ((by exact vin_T (rfl : (x2).toInt = (x2).toInt) (by omega) (by omega))) dX12_net_207 ?_
            refine gz_lneg dX12_net_208 ?_
            refine gz_aload_n dX12_net_209 rfl rfl ?_
            refine mg_148 hS dX12_net_210 ?_
            refine gz_iload_n dX12_net_213 rfl rfl ?_
            refine m_lald 52 hS rfl (N := 8) rfl ((by exact vin_T (rfl : (x3).toInt = (x3).toInt) (by omega) (by omega))) dX12_net_214 ?_
            refine gz_lcmp dX12_net_215 ?_
            refine gz_if_ge (tgt := 229) dX12_net_216 (by decide) (fun c_216 => ?_) (fun c_216 => ?_)
            ·
              try simp only [mIn_0, lgc_lt, lgc_gt, lgc_le, lgc_ge, lgc_eq] at c_216
              try simp only [fl_lt, fl_le, fl_eq, fL_w, fL_lt, fL_le, tm1, tm10k, tm9, tm99, Int32.reduceToInt, Int64.reduceToInt, Int.not_lt, Int.not_le] at c_216
              refine gz_aload_n dX12_net_229 rfl rfl ?_
              refine mg_148 hS dX12_net_230 ?_
              refine gz_iload_n dX12_net_233 rfl rfl ?_
              refine m_lald 52 hS rfl (N := 8) rfl ((by exact vin_T (rfl : (x3).toInt = (x3).toInt) (by omega) (by omega))) dX12_net_234 ?_
              refine gz_lstore (lv' := [(4, .long ((G 52) (Int32.toNatClampNeg x3))), (2, .int x2), (3, .int x3), (0, .ref m), (1, .int x1)]) dX12_net_235 (by decide) rfl ?_
              refine gz_aload_n dX12_net_237 rfl rfl ?_
              refine mg_136 hS dX12_net_238 ?_
              refine gz_aload_n dX12_net_241 rfl rfl ?_
              refine mg_430 hS dX12_net_242 ?_
              refine gz_iload_n dX12_net_245 rfl rfl ?_
              refine m_iast 48 hS rfl (N := 8) rfl ((by have e0 : (0 : Int64).toInt = 0 := rfl; have hz : 1 ≤ nzc (G 52) 8 := nzc_ge (i := Int32.toNatClampNeg x2) (by intro e; have q9 : ((G 52) (Int32.toNatClampNeg x2)).toInt < 0 := (by omega); rw [e] at q9; revert q9; decide) 8 (by have := clI (i := x2) (by omega); omega); exact vin_T (rfl : (n 47).toInt = (n 47).toInt) (by omega) (by omega))) dX12_net_246 (fun f_1 hS_1q => ?_)
              have hS_1 : mS cy m a f0 n z (va_up F 48 (upd (F 48) (Int32.toNatClampNeg (n 47)) x2)) G f_1 := hS_1q
              refine gz_aload_n dX12_net_247 rfl rfl ?_
              refine mg_139 hS_1 dX12_net_248 ?_
              refine gz_aload_n dX12_net_251 rfl rfl ?_
              refine mg_430 hS_1 dX12_net_252 ?_
              refine gz_ev (w := .int (n 47)) rfl ?_
              refine gz_iload_n dX12_net_255 rfl rfl ?_
              refine m_iast 49 hS_1 rfl (N := 8) rfl ((by have e0 : (0 : Int64).toInt = 0 := rfl; have hz : 1 ≤ nzc (G 52) 8 := nzc_ge (i := Int32.toNatClampNeg x2) (by intro e; have q9 : ((G 52) (Int32.toNatClampNeg x2)).toInt < 0 := (by omega); rw [e] at q9; revert q9; decide) 8 (by have := clI (i := x2) (by omega); omega); exact vin_T (rfl : (n 47).toInt = (n 47).toInt) (by omega) (by omega))) dX12_net_256 (fun f_2 hS_2q => ?_)
              have hS_2 : mS cy m a f0 n z (va_up (va_up F 48 (upd (F 48) (Int32.toNatClampNeg (n 47)) x2)) 49 (upd (F 49) (Int32.toNatClampNeg (n 47)) x3)) G f_2 := hS_2q
              refine gz_aload_n dX12_net_257 rfl rfl ?_
              refine mg_142 hS_2 dX12_net_258 ?_
              refine gz_aload_n dX12_net_261 rfl rfl ?_
              refine mg_430 hS_2 dX12_net_262 ?_
              refine gz_ev (w := .int (n 47)) rfl ?_
              refine gz_lload dX12_net_265 rfl ?_
              refine m_last 50 hS_2 rfl (N := 8) rfl ((by have e0 : (0 : Int64).toInt = 0 := rfl; have hz : 1 ≤ nzc (G 52) 8 := nzc_ge (i := Int32.toNatClampNeg x2) (by intro e; have q9 : ((G 52) (Int32.toNatClampNeg x2)).toInt < 0 := (by omega); rw [e] at q9; revert q9; decide) 8 (by have := clI (i := x2) (by omega); omega); exact vin_T (rfl : (n 47).toInt = (n 47).toInt) (by omega) (by omega))) dX12_net_267 (fun f_3 hS_3q => ?_)
              have hS_3 : mS cy m a f0 n z (va_up (va_up F 48 (upd (F 48) (Int32.toNatClampNeg (n 47)) x2)) 49 (upd (F 49) (Int32.toNatClampNeg (n 47)) x3)) (va_up G 50 (vp_updL (G 50) (Int32.toNatClampNeg (n 47)) ((G 52) (Int32.toNatClampNeg x3)))) f_3 := hS_3q
              refine gz_aload_n dX12_net_268 rfl rfl ?_
              refine mg_148 hS_3 dX12_net_269 ?_
              refine gz_iload_n dX12_net_272 rfl rfl ?_
              refine gz_dup2 dX12_net_273 rfl rfl ?_
              refine m_lald 52 hS_3 rfl (N := 8) rfl ((by exact vin_T (rfl : (x2).toInt = (x2).toInt) (by omega) (by omega))) dX12_net_274 ?_
              refine gz_ev (w := .long ((G 52) (Int32.toNatClampNeg x2))) rfl ?_
              refine gz_lload dX12_net_275 rfl ?_
              refine gz_ladd dX12_net_277 ?_
              refine m_last 52 hS_3 rfl (N := 8) rfl ((by exact vin_T (rfl : (x2).toInt = (x2).toInt) (by omega) (by omega))) dX12_net_278 (fun f_4 hS_4q => ?_)
              have hS_4 : mS cy m a f0 n z (va_up (va_up F 48 (upd (F 48) (Int32.toNatClampNeg (n 47)) x2)) 49 (upd (F 49) (Int32.toNatClampNeg (n 47)) x3)) (va_up (va_up G 50 (vp_updL (G 50) (Int32.toNatClampNeg (n 47)) ((G 52) (Int32.toNatClampNeg x3)))) 52 (vp_updL (G 52) (Int32.toNatClampNeg x2) (((G 52) (Int32.toNatClampNeg x2)) + ((G 52) (Int32.toNatClampNeg x3))))) f_4 := hS_4q
              refine gz_aload_n dX12_net_279 rfl rfl ?_
              refine mg_148 hS_4 dX12_net_280 ?_
              refine gz_iload_n dX12_net_283 rfl rfl ?_
              refine gz_dup2 dX12_net_284 rfl rfl ?_
              refine m_lald 52 hS_4 rfl (N := 8) rfl ((by exact vin_T (rfl : (x3).toInt = (x3).toInt) (by omega) (by omega))) dX12_net_285 ?_
              refine gz_ev (w := .long ((vp_updL (G 52) (Int32.toNatClampNeg x2) (((G 52) (Int32.toNatClampNeg x2)) + ((G 52) (Int32.toNatClampNeg x3)))) (Int32.toNatClampNeg x3))) rfl ?_
              refine gz_lload dX12_net_286 rfl ?_
              refine gz_lsub dX12_net_288 ?_
              refine m_last 52 hS_4 rfl (N := 8) rfl ((by exact vin_T (rfl : (x3).toInt = (x3).toInt) (by omega) (by omega))) dX12_net_289 (fun f_5 hS_5q => ?_)
              have hS_5 : mS cy m a f0 n z (va_up (va_up F 48 (upd (F 48) (Int32.toNatClampNeg (n 47)) x2)) 49 (upd (F 49) (Int32.toNatClampNeg (n 47)) x3)) (va_up (va_up (va_up G 50 (vp_updL (G 50) (Int32.toNatClampNeg (n 47)) ((G 52) (Int32.toNatClampNeg x3)))) 52 (vp_updL (G 52) (Int32.toNatClampNeg x2) (((G 52) (Int32.toNatClampNeg x2)) + ((G 52) (Int32.toNatClampNeg x3))))) 52 (vp_updL (vp_updL (G 52) (Int32.toNatClampNeg x2) (((G 52) (Int32.toNatClampNeg x2)) + ((G 52) (Int32.toNatClampNeg x3)))) (Int32.toNatClampNeg x3) (((vp_updL (G 52) (Int32.toNatClampNeg x2) (((G 52) (Int32.toNatClampNeg x2)) + ((G 52) (Int32.toNatClampNeg x3)))) (Int32.toNatClampNeg x3)) - ((G 52) (Int32.toNatClampNeg x3))))) f_5 := hS_5q
              refine gz_aload_n dX12_net_290 rfl rfl ?_
              refine gz_dup dX12_net_291 rfl ?_
              refine mg_430 hS_5 dX12_net_292 ?_
              refine gz_ev (w := .int (n 47)) rfl ?_
              refine gz_iconst (v := 1) dX12_net_295 (by decide) ?_
              refine gz_iadd dX12_net_296 ?_
              refine mp_430 hS_5 dX12_net_297 (fun f_6 hS_6 => ?_)
              refine gz_goto (tgt := 156) dX12_net_300 (by decide) ?_
              refine gz_sub (lv' := [(2, .int x2), (3, .int x3), (0, .ref m), (1, .int x1)]) (by simp [List.lookup]) ?_
              have hxx : fx [47] [] [48, 49] [50, 52] n z F G (va_up n 47 ((n 47) + 1)) z (va_up (va_up F 48 (upd (F 48) (Int32.toNatClampNeg (n 47)) x2)) 49 (upd (F 49) (Int32.toNatClampNeg (n 47)) x3)) (va_up (va_up (va_up G 50 (vp_updL (G 50) (Int32.toNatClampNeg (n 47)) ((G 52) (Int32.toNatClampNeg x3)))) 52 (vp_updL (G 52) (Int32.toNatClampNeg x2) (((G 52) (Int32.toNatClampNeg x2)) + ((G 52) (Int32.toNatClampNeg x3))))) 52 (vp_updL (vp_updL (G 52) (Int32.toNatClampNeg x2) (((G 52) (Int32.toNatClampNeg x2)) + ((G 52) (Int32.toNatClampNeg x3)))) (Int32.toNatClampNeg x3) (((vp_updL (G 52) (Int32.toNatClampNeg x2) (((G 52) (Int32.toNatClampNeg x2)) + ((G 52) (Int32.toNatClampNeg x3)))) (Int32.toNatClampNeg x3)) - ((G 52) (Int32.toNatClampNeg x3))))) := (fx_n (fx_G (fx_G (fx_G (fx_F (fx_F fx_rf (by decide)) (by decide)) (by decide)) (by decide)) (by decide)) (by decide))
              have hA1 : ((G 52) (Int32.toNatClampNeg x2)).toInt < 0 := by have e0 : (0 : Int64).toInt = 0 := rfl; omega
              have hB1 : 0 < ((G 52) (Int32.toNatClampNeg x3)).toInt := by have e0 : (0 : Int64).toInt = 0 := rfl; omega
              have hA0 : (G 52) (Int32.toNatClampNeg x2) ≠ 0 := by intro e; rw [e] at hA1; revert hA1; decide
              have hB0 : (G 52) (Int32.toNatClampNeg x3) ≠ 0 := by intro e; rw [e] at hB1; revert hB1; decide
              have hAB : (Int32.toNatClampNeg x3) ≠ (Int32.toNatClampNeg x2) := by intro e; rw [e] at hB1; omega
              have hBq : (vp_updL (G 52) (Int32.toNatClampNeg x2) (((G 52) (Int32.toNatClampNeg x2)) + ((G 52) (Int32.toNatClampNeg x3)))) (Int32.toNatClampNeg x3) = ((G 52) (Int32.toNatClampNeg x3)) := by rw [updLE, if_neg hAB]
              have qa8 := clI (i := x2) (by omega)
              have qb8 := clI (i := x3) (by omega)
              have z1 := nzc_up (v := (((G 52) (Int32.toNatClampNeg x2)) + ((G 52) (Int32.toNatClampNeg x3)))) hA0 8
              have z2 := nzc_up (v := (((vp_updL (G 52) (Int32.toNatClampNeg x2) (((G 52) (Int32.toNatClampNeg x2)) + ((G 52) (Int32.toNatClampNeg x3)))) (Int32.toNatClampNeg x3)) - ((G 52) (Int32.toNatClampNeg x3)))) (show (vp_updL (G 52) (Int32.toNatClampNeg x2) (((G 52) (Int32.toNatClampNeg x2)) + ((G 52) (Int32.toNatClampNeg x3)))) (Int32.toNatClampNeg x3) ≠ 0 by rw [hBq]; exact hB0) 8
              have z3 : (((G 52) (Int32.toNatClampNeg x2)) + ((G 52) (Int32.toNatClampNeg x3))) = 0 ∨ (((vp_updL (G 52) (Int32.toNatClampNeg x2) (((G 52) (Int32.toNatClampNeg x2)) + ((G 52) (Int32.toNatClampNeg x3)))) (Int32.toNatClampNeg x3)) - ((G 52) (Int32.toNatClampNeg x3))) = 0 := by first | (left; simp; done) | (right; rw [hBq]; simp; done) | (left; rw [Int64.add_right_neg]) | (right; rw [hBq, Int64.sub_self])
              have hz9 : nzc ((va_up (va_up (va_up G 50 (vp_updL (G 50) (Int32.toNatClampNeg (n 47)) ((G 52) (Int32.toNatClampNeg x3)))) 52 (vp_updL (G 52) (Int32.toNatClampNeg x2) (((G 52) (Int32.toNatClampNeg x2)) + ((G 52) (Int32.toNatClampNeg x3))))) 52 (vp_updL (vp_updL (G 52) (Int32.toNatClampNeg x2) (((G 52) (Int32.toNatClampNeg x2)) + ((G 52) (Int32.toNatClampNeg x3)))) (Int32.toNatClampNeg x3) (((vp_updL (G 52) (Int32.toNatClampNeg x2) (((G 52) (Int32.toNatClampNeg x2)) + ((G 52) (Int32.toNatClampNeg x3)))) (Int32.toNatClampNeg x3)) - ((G 52) (Int32.toNatClampNeg x3))))) 52) 8 + 1 ≤ nzc (G 52) 8 := by show nzc (vp_updL (vp_updL (G 52) (Int32.toNatClampNeg x2) (((G 52) (Int32.toNatClampNeg x2)) + ((G 52) (Int32.toNatClampNeg x3)))) (Int32.toNatClampNeg x3) (((vp_updL (G 52) (Int32.toNatClampNeg x2) (((G 52) (Int32.toNatClampNeg x2)) + ((G 52) (Int32.toNatClampNeg x3)))) (Int32.toNatClampNeg x3)) - ((G 52) (Int32.toNatClampNeg x3)))) 8 + 1 ≤ nzc (G 52) 8; rcases z3 with z3 | z3; (have y1 := z1.2 z3 (by omega); omega); (have y2 := z2.2 z3 (by omega); omega)
              have e47 : ((va_up n 47 ((n 47) + 1)) 47).toInt = (n 47).toInt + 1 := (by (try rw [(show (va_up n 47 ((n 47) + 1)) 47 = ((n 47) + 1) from rfl)]); have q1_ := (T_add (rfl : ((n 47)).toInt = ((n 47)).toInt) (show (1 : Int32).toInt = 1 from rfl) (by omega)); omega)
              have hR9 : RI (va_up n 47 ((n 47) + 1)) (va_up (va_up F 48 (upd (F 48) (Int32.toNatClampNeg (n 47)) x2)) 49 (upd (F 49) (Int32.toNatClampNeg (n 47)) x3)) := RI_cg (fun k hk => hxx.2.2.1 k ((by decide : ∀ k : Nat, k ∈ riK → k ∉ ([48, 49] : List Nat)) k hk)) hR rfl rfl rfl a0 a4 a53 (by rw [e47]; omega) a88
              exact ih x2 x3 _ _ _ _ _ hS_6 (fx_n (fx_G (fx_G (fx_G (fx_F (fx_F hx (by decide)) (by decide)) (by decide)) (by decide)) (by decide)) (by decide)) (hR9) (by rw [e47]; omega) (hab) (by rw [e47]; omega)
            ·
              try simp only [mIn_0, lgc_lt, lgc_gt, lgc_le, lgc_ge, lgc_eq] at c_216
              try simp only [fl_lt, fl_le, fl_eq, fL_w, fL_lt, fL_le, tm1, tm10k, tm9, tm99, Int32.reduceToInt, Int64.reduceToInt, Int.not_lt, Int.not_le] at c_216
              refine gz_aload_n dX12_net_219 rfl rfl ?_
              refine mg_148 hS dX12_net_220 ?_
              refine gz_iload_n dX12_net_223 rfl rfl ?_
              refine m_lald 52 hS rfl (N := 8) rfl ((by exact vin_T (rfl : (x2).toInt = (x2).toInt) (by omega) (by omega))) dX12_net_224 ?_
              refine gz_lneg dX12_net_225 ?_
              refine gz_goto (tgt := 235) dX12_net_226 (by decide) ?_
              refine gz_lstore (lv' := [(4, .long (-((G 52) (Int32.toNatClampNeg x2)))), (2, .int x2), (3, .int x3), (0, .ref m), (1, .int x1)]) dX12_net_235 (by decide) rfl ?_
              refine gz_aload_n dX12_net_237 rfl rfl ?_
              refine mg_136 hS dX12_net_238 ?_
              refine gz_aload_n dX12_net_241 rfl rfl ?_
              refine mg_430 hS dX12_net_242 ?_
              refine gz_iload_n dX12_net_245 rfl rfl ?_
              refine m_iast 48 hS rfl (N := 8) rfl ((by have e0 : (0 : Int64).toInt = 0 := rfl; have hz : 1 ≤ nzc (G 52) 8 := nzc_ge (i := Int32.toNatClampNeg x2) (by intro e; have q9 : ((G 52) (Int32.toNatClampNeg x2)).toInt < 0 := (by omega); rw [e] at q9; revert q9; decide) 8 (by have := clI (i := x2) (by omega); omega); exact vin_T (rfl : (n 47).toInt = (n 47).toInt) (by omega) (by omega))) dX12_net_246 (fun f_7 hS_7q => ?_)
              have hS_7 : mS cy m a f0 n z (va_up F 48 (upd (F 48) (Int32.toNatClampNeg (n 47)) x2)) G f_7 := hS_7q
              refine gz_aload_n dX12_net_247 rfl rfl ?_
              refine mg_139 hS_7 dX12_net_248 ?_
              refine gz_aload_n dX12_net_251 rfl rfl ?_
              refine mg_430 hS_7 dX12_net_252 ?_
              refine gz_ev (w := .int (n 47)) rfl ?_
              refine gz_iload_n dX12_net_255 rfl rfl ?_
              refine m_iast 49 hS_7 rfl (N := 8) rfl ((by have e0 : (0 : Int64).toInt = 0 := rfl; have hz : 1 ≤ nzc (G 52) 8 := nzc_ge (i := Int32.toNatClampNeg x2) (by intro e; have q9 : ((G 52) (Int32.toNatClampNeg x2)).toInt < 0 := (by omega); rw [e] at q9; revert q9; decide) 8 (by have := clI (i := x2) (by omega); omega); exact vin_T (rfl : (n 47).toInt = (n 47).toInt) (by omega) (by omega))) dX12_net_256 (fun f_8 hS_8q => ?_)
              have hS_8 : mS cy m a f0 n z (va_up (va_up F 48 (upd (F 48) (Int32.toNatClampNeg (n 47)) x2)) 49 (upd (F 49) (Int32.toNatClampNeg (n 47)) x3)) G f_8 := hS_8q
              refine gz_aload_n dX12_net_257 rfl rfl ?_
              refine mg_142 hS_8 dX12_net_258 ?_
              refine gz_aload_n dX12_net_261 rfl rfl ?_
              refine mg_430 hS_8 dX12_net_262 ?_
              refine gz_ev (w := .int (n 47)) rfl ?_
              refine gz_lload dX12_net_265 rfl ?_
              refine m_last 50 hS_8 rfl (N := 8) rfl ((by have e0 : (0 : Int64).toInt = 0 := rfl; have hz : 1 ≤ nzc (G 52) 8 := nzc_ge (i := Int32.toNatClampNeg x2) (by intro e; have q9 : ((G 52) (Int32.toNatClampNeg x2)).toInt < 0 := (by omega); rw [e] at q9; revert q9; decide) 8 (by have := clI (i := x2) (by omega); omega); exact vin_T (rfl : (n 47).toInt = (n 47).toInt) (by omega) (by omega))) dX12_net_267 (fun f_9 hS_9q => ?_)
              have hS_9 : mS cy m a f0 n z (va_up (va_up F 48 (upd (F 48) (Int32.toNatClampNeg (n 47)) x2)) 49 (upd (F 49) (Int32.toNatClampNeg (n 47)) x3)) (va_up G 50 (vp_updL (G 50) (Int32.toNatClampNeg (n 47)) (-((G 52) (Int32.toNatClampNeg x2))))) f_9 := hS_9q
              refine gz_aload_n dX12_net_268 rfl rfl ?_
              refine mg_148 hS_9 dX12_net_269 ?_
              refine gz_iload_n dX12_net_272 rfl rfl ?_
              refine gz_dup2 dX12_net_273 rfl rfl ?_
              refine m_lald 52 hS_9 rfl (N := 8) rfl ((by exact vin_T (rfl : (x2).toInt = (x2).toInt) (by omega) (by omega))) dX12_net_274 ?_
              refine gz_ev (w := .long ((G 52) (Int32.toNatClampNeg x2))) rfl ?_
              refine gz_lload dX12_net_275 rfl ?_
              refine gz_ladd dX12_net_277 ?_
              refine m_last 52 hS_9 rfl (N := 8) rfl ((by exact vin_T (rfl : (x2).toInt = (x2).toInt) (by omega) (by omega))) dX12_net_278 (fun f_10 hS_10q => ?_)
              have hS_10 : mS cy m a f0 n z (va_up (va_up F 48 (upd (F 48) (Int32.toNatClampNeg (n 47)) x2)) 49 (upd (F 49) (Int32.toNatClampNeg (n 47)) x3)) (va_up (va_up G 50 (vp_updL (G 50) (Int32.toNatClampNeg (n 47)) (-((G 52) (Int32.toNatClampNeg x2))))) 52 (vp_updL (G 52) (Int32.toNatClampNeg x2) (((G 52) (Int32.toNatClampNeg x2)) + (-((G 52) (Int32.toNatClampNeg x2)))))) f_10 := hS_10q
              refine gz_aload_n dX12_net_279 rfl rfl ?_
              refine mg_148 hS_10 dX12_net_280 ?_
              refine gz_iload_n dX12_net_283 rfl rfl ?_
              refine gz_dup2 dX12_net_284 rfl rfl ?_
              refine m_lald 52 hS_10 rfl (N := 8) rfl ((by exact vin_T (rfl : (x3).toInt = (x3).toInt) (by omega) (by omega))) dX12_net_285 ?_
              refine gz_ev (w := .long ((vp_updL (G 52) (Int32.toNatClampNeg x2) (((G 52) (Int32.toNatClampNeg x2)) + (-((G 52) (Int32.toNatClampNeg x2))))) (Int32.toNatClampNeg x3))) rfl ?_
              refine gz_lload dX12_net_286 rfl ?_
              refine gz_lsub dX12_net_288 ?_
              refine m_last 52 hS_10 rfl (N := 8) rfl ((by exact vin_T (rfl : (x3).toInt = (x3).toInt) (by omega) (by omega))) dX12_net_289 (fun f_11 hS_11q => ?_)
              have hS_11 : mS cy m a f0 n z (va_up (va_up F 48 (upd (F 48) (Int32.toNatClampNeg (n 47)) x2)) 49 (upd (F 49) (Int32.toNatClampNeg (n 47)) x3)) (va_up (va_up (va_up G 50 (vp_updL (G 50) (Int32.toNatClampNeg (n 47)) (-((G 52) (Int32.toNatClampNeg x2))))) 52 (vp_updL (G 52) (Int32.toNatClampNeg x2) (((G 52) (Int32.toNatClampNeg x2)) + (-((G 52) (Int32.toNatClampNeg x2)))))) 52 (vp_updL (vp_updL (G 52) (Int32.toNatClampNeg x2) (((G 52) (Int32.toNatClampNeg x2)) + (-((G 52) (Int32.toNatClampNeg x2))))) (Int32.toNatClampNeg x3) (((vp_updL (G 52) (Int32.toNatClampNeg x2) (((G 52) (Int32.toNatClampNeg x2)) + (-((G 52) (Int32.toNatClampNeg x2))))) (Int32.toNatClampNeg x3)) - (-((G 52) (Int32.toNatClampNeg x2)))))) f_11 := hS_11q
              refine gz_aload_n dX12_net_290 rfl rfl ?_
              refine gz_dup dX12_net_291 rfl ?_
              refine mg_430 hS_11 dX12_net_292 ?_
              refine gz_ev (w := .int (n 47)) rfl ?_
              refine gz_iconst (v := 1) dX12_net_295 (by decide) ?_
              refine gz_iadd dX12_net_296 ?_
              refine mp_430 hS_11 dX12_net_297 (fun f_12 hS_12 => ?_)
              refine gz_goto (tgt := 156) dX12_net_300 (by decide) ?_
              refine gz_sub (lv' := [(2, .int x2), (3, .int x3), (0, .ref m), (1, .int x1)]) (by simp [List.lookup]) ?_
              have hxx : fx [47] [] [48, 49] [50, 52] n z F G (va_up n 47 ((n 47) + 1)) z (va_up (va_up F 48 (upd (F 48) (Int32.toNatClampNeg (n 47)) x2)) 49 (upd (F 49) (Int32.toNatClampNeg (n 47)) x3)) (va_up (va_up (va_up G 50 (vp_updL (G 50) (Int32.toNatClampNeg (n 47)) (-((G 52) (Int32.toNatClampNeg x2))))) 52 (vp_updL (G 52) (Int32.toNatClampNeg x2) (((G 52) (Int32.toNatClampNeg x2)) + (-((G 52) (Int32.toNatClampNeg x2)))))) 52 (vp_updL (vp_updL (G 52) (Int32.toNatClampNeg x2) (((G 52) (Int32.toNatClampNeg x2)) + (-((G 52) (Int32.toNatClampNeg x2))))) (Int32.toNatClampNeg x3) (((vp_updL (G 52) (Int32.toNatClampNeg x2) (((G 52) (Int32.toNatClampNeg x2)) + (-((G 52) (Int32.toNatClampNeg x2))))) (Int32.toNatClampNeg x3)) - (-((G 52) (Int32.toNatClampNeg x2)))))) := (fx_n (fx_G (fx_G (fx_G (fx_F (fx_F fx_rf (by decide)) (by decide)) (by decide)) (by decide)) (by decide)) (by decide))
              have hA1 : ((G 52) (Int32.toNatClampNeg x2)).toInt < 0 := by have e0 : (0 : Int64).toInt = 0 := rfl; omega
              have hB1 : 0 < ((G 52) (Int32.toNatClampNeg x3)).toInt := by have e0 : (0 : Int64).toInt = 0 := rfl; omega
              have hA0 : (G 52) (Int32.toNatClampNeg x2) ≠ 0 := by intro e; rw [e] at hA1; revert hA1; decide
              have hB0 : (G 52) (Int32.toNatClampNeg x3) ≠ 0 := by intro e; rw [e] at hB1; revert hB1; decide
              have hAB : (Int32.toNatClampNeg x3) ≠ (Int32.toNatClampNeg x2) := by intro e; rw [e] at hB1; omega
              have hBq : (vp_updL (G 52) (Int32.toNatClampNeg x2) (((G 52) (Int32.toNatClampNeg x2)) + (-((G 52) (Int32.toNatClampNeg x2))))) (Int32.toNatClampNeg x3) = ((G 52) (Int32.toNatClampNeg x3)) := by rw [updLE, if_neg hAB]
              have qa8 := clI (i := x2) (by omega)
              have qb8 := clI (i := x3) (by omega)
              have z1 := nzc_up (v := (((G 52) (Int32.toNatClampNeg x2)) + (-((G 52) (Int32.toNatClampNeg x2))))) hA0 8
              have z2 := nzc_up (v := (((vp_updL (G 52) (Int32.toNatClampNeg x2) (((G 52) (Int32.toNatClampNeg x2)) + (-((G 52) (Int32.toNatClampNeg x2))))) (Int32.toNatClampNeg x3)) - (-((G 52) (Int32.toNatClampNeg x2))))) (show (vp_updL (G 52) (Int32.toNatClampNeg x2) (((G 52) (Int32.toNatClampNeg x2)) + (-((G 52) (Int32.toNatClampNeg x2))))) (Int32.toNatClampNeg x3) ≠ 0 by rw [hBq]; exact hB0) 8
              have z3 : (((G 52) (Int32.toNatClampNeg x2)) + (-((G 52) (Int32.toNatClampNeg x2)))) = 0 ∨ (((vp_updL (G 52) (Int32.toNatClampNeg x2) (((G 52) (Int32.toNatClampNeg x2)) + (-((G 52) (Int32.toNatClampNeg x2))))) (Int32.toNatClampNeg x3)) - (-((G 52) (Int32.toNatClampNeg x2)))) = 0 := by first | (left; simp; done) | (right; rw [hBq]; simp; done) | (left; rw [Int64.add_right_neg]) | (right; rw [hBq, Int64.sub_self])
              have hz9 : nzc ((va_up (va_up (va_up G 50 (vp_updL (G 50) (Int32.toNatClampNeg (n 47)) (-((G 52) (Int32.toNatClampNeg x2))))) 52 (vp_updL (G 52) (Int32.toNatClampNeg x2) (((G 52) (Int32.toNatClampNeg x2)) + (-((G 52) (Int32.toNatClampNeg x2)))))) 52 (vp_updL (vp_updL (G 52) (Int32.toNatClampNeg x2) (((G 52) (Int32.toNatClampNeg x2)) + (-((G 52) (Int32.toNatClampNeg x2))))) (Int32.toNatClampNeg x3) (((vp_updL (G 52) (Int32.toNatClampNeg x2) (((G 52) (Int32.toNatClampNeg x2)) + (-((G 52) (Int32.toNatClampNeg x2))))) (Int32.toNatClampNeg x3)) - (-((G 52) (Int32.toNatClampNeg x2)))))) 52) 8 + 1 ≤ nzc (G 52) 8 := by show nzc (vp_updL (vp_updL (G 52) (Int32.toNatClampNeg x2) (((G 52) (Int32.toNatClampNeg x2)) + (-((G 52) (Int32.toNatClampNeg x2))))) (Int32.toNatClampNeg x3) (((vp_updL (G 52) (Int32.toNatClampNeg x2) (((G 52) (Int32.toNatClampNeg x2)) + (-((G 52) (Int32.toNatClampNeg x2))))) (Int32.toNatClampNeg x3)) - (-((G 52) (Int32.toNatClampNeg x2))))) 8 + 1 ≤ nzc (G 52) 8; rcases z3 with z3 | z3; (have y1 := z1.2 z3 (by omega); omega); (have y2 := z2.2 z3 (by omega); omega)
              have e47 : ((va_up n 47 ((n 47) + 1)) 47).toInt = (n 47).toInt + 1 := (by (try rw [(show (va_up n 47 ((n 47) + 1)) 47 = ((n 47) + 1) from rfl)]); have q1_ := (T_add (rfl : ((n 47)).toInt = ((n 47)).toInt) (show (1 : Int32).toInt = 1 from rfl) (by omega)); omega)
              have hR9 : RI (va_up n 47 ((n 47) + 1)) (va_up (va_up F 48 (upd (F 48) (Int32.toNatClampNeg (n 47)) x2)) 49 (upd (F 49) (Int32.toNatClampNeg (n 47)) x3)) := RI_cg (fun k hk => hxx.2.2.1 k ((by decide : ∀ k : Nat, k ∈ riK → k ∉ ([48, 49] : List Nat)) k hk)) hR rfl rfl rfl a0 a4 a53 (by rw [e47]; omega) a88
              exact ih x2 x3 _ _ _ _ _ hS_12 (fx_n (fx_G (fx_G (fx_G (fx_F (fx_F hx (by decide)) (by decide)) (by decide)) (by decide)) (by decide)) (by decide)) (hR9) (by rw [e47]; omega) (hab) (by rw [e47]; omega)
          ·
            try simp only [mIn_0, lgc_lt, lgc_gt, lgc_le, lgc_ge, lgc_eq] at c_193
            try simp only [fl_lt, fl_le, fl_eq, fL_w, fL_lt, fL_le, tm1, tm10k, tm9, tm99, Int32.reduceToInt, Int64.reduceToInt, Int.not_lt, Int.not_le] at c_193
            refine gz_iinc (v := (x3 + 1)) (lv' := [(3, .int (x3 + 1)), (2, .int x2), (0, .ref m), (1, .int x1)]) dX12_net_196 rfl rfl (by decide) rfl ?_
            refine gz_goto (tgt := 156) dX12_net_199 (by decide) ?_
            refine gz_sub (lv' := [(2, .int x2), (3, .int (x3 + 1)), (0, .ref m), (1, .int x1)]) (by simp [List.lookup]) ?_
            have hxx : fx [47] [] [48, 49] [50, 52] n z F G n z F G := fx_rf
            exact ih x2 (x3 + 1) _ _ _ _ _ hS hx (hR) (hg) ((by have q1_ := (T_add (rfl : (x3).toInt = (x3).toInt) (show (1 : Int32).toInt = 1 from rfl) (by omega)); omega)) ((by have q1_ := (T_add (rfl : (x3).toInt = (x3).toInt) (show (1 : Int32).toInt = 1 from rfl) (by omega)); omega))
        ·
          try simp only [mIn_0, lgc_lt, lgc_gt, lgc_le, lgc_ge, lgc_eq] at c_176
          try simp only [fl_lt, fl_le, fl_eq, fL_w, fL_lt, fL_le, tm1, tm10k, tm9, tm99, Int32.reduceToInt, Int64.reduceToInt, Int.not_lt, Int.not_le] at c_176
          refine gz_iinc (v := (x2 + 1)) (lv' := [(2, .int (x2 + 1)), (3, .int x3), (0, .ref m), (1, .int x1)]) dX12_net_179 rfl rfl (by decide) rfl ?_
          refine gz_goto (tgt := 156) dX12_net_182 (by decide) ?_
          refine gz_sub (lv' := [(2, .int (x2 + 1)), (3, .int x3), (0, .ref m), (1, .int x1)]) (by simp [List.lookup]) ?_
          have hxx : fx [47] [] [48, 49] [50, 52] n z F G n z F G := fx_rf
          exact ih (x2 + 1) x3 _ _ _ _ _ hS hx (hR) (hg) ((by have q1_ := (T_add (rfl : (x2).toInt = (x2).toInt) (show (1 : Int32).toInt = 1 from rfl) (by omega)); omega)) ((by have q1_ := (T_add (rfl : (x2).toInt = (x2).toInt) (show (1 : Int32).toInt = 1 from rfl) (by omega)); omega))

set_option maxHeartbeats 4000000 in
set_option maxRecDepth 100000 in
theorem l_X12_net1 {l : Launch} {D : va_G} {cy : Nat → ClassId} {b : Nat} {m : Nat} {a : Nat → Nat} {f0 : gMem} {n0 : Nat → Int32} {z0 : Nat → Int64} {F0 : Nat → Nat → Int32} {G0 : Nat → Nat → Int64}  {x1 : Int32}  : ∀ (k : Nat) (x2 : Int32) (n : Nat → Int32) (z : Nat → Int64) (F : Nat → Nat → Int32) (G : Nat → Nat → Int64) (fm : gMem), mS cy m a f0 n z F G fm → fx [46, 47] [] [48, 49] [50, 51, 52] n0 z0 F0 G0 n z F G → (RI n F) → (0 ≤ x2.toInt ∧ x2.toInt ≤ 2000 ∧ x2.toInt + (k : Int) = 2001) → gG l (gRm 1 0 0) (gQf D b (pI fun r f2 => ∃ (n2 : Nat → Int32) (z2 : Nat → Int64) (F2 : Nat → Nat → Int32) (G2 : Nat → Nat → Int64), mS cy m a f0 n2 z2 F2 G2 f2 ∧ fx [46, 47] [] [48, 49] [50, 51, 52] n0 z0 F0 G0 n2 z2 F2 G2 ∧ RI n2 F2) 0 0) gTt D cy b cX12_net 6 (some .int) RX12 "net" 0 0 fm 37 [(2, .int x2), (0, .ref m), (1, .int x1)] [] := by
  intro k
  induction k with
  | zero =>
    intro x2 n z F G fm hS hx hR hk
    exfalso; omega
  | succ k ih =>
    intro x2 n z F G fm hS hx hR hk
    obtain ⟨a0, a4, a5, bA, bW, a30, bL, a38, bP, a53, a47, a88⟩ := id hR
    refine gz_iload_n dX12_net_37 rfl rfl ?_
    refine gz_aload_n dX12_net_38 rfl rfl ?_
    refine mg_364 hS dX12_net_39 ?_
    refine gz_icmp_ge (tgt := 116) dX12_net_42 (by decide) (fun c_42 => ?_) (fun c_42 => ?_)
    ·
      try simp only [mIn_0, lgc_lt, lgc_gt, lgc_le, lgc_ge, lgc_eq] at c_42
      try simp only [fl_lt, fl_le, fl_eq, fL_w, fL_lt, fL_le, tm1, tm10k, tm9, tm99, Int32.reduceToInt, Int64.reduceToInt, Int.not_lt, Int.not_le] at c_42
      refine gz_iconst (v := 0) dX12_net_116 (by decide) ?_
      refine gz_istore_n (lv' := [(2, .int 0), (0, .ref m), (1, .int x1)]) dX12_net_117 rfl (by decide) rfl ?_
      refine gz_iload_n dX12_net_118 rfl rfl ?_
      refine gz_bipush (v := 8) dX12_net_119 (by decide) ?_
      refine gz_icmp_ge (tgt := 142) dX12_net_121 (by decide) (fun c_121 => ?_) (fun c_121 => ?_)
      · exact absurd c_121 (by decide)
      ·
        try simp only [mIn_0, lgc_lt, lgc_gt, lgc_le, lgc_ge, lgc_eq] at c_121
        try simp only [fl_lt, fl_le, fl_eq, fL_w, fL_lt, fL_le, tm1, tm10k, tm9, tm99, Int32.reduceToInt, Int64.reduceToInt, Int.not_lt, Int.not_le] at c_121
        refine gz_aload_n dX12_net_124 rfl rfl ?_
        refine mg_148 hS dX12_net_125 ?_
        refine gz_iload_n dX12_net_128 rfl rfl ?_
        refine gz_aload_n dX12_net_129 rfl rfl ?_
        refine mg_145 hS dX12_net_130 ?_
        refine gz_iload_n dX12_net_133 rfl rfl ?_
        refine m_lald 51 hS rfl (N := 8) rfl (vin_T (v := 0) rfl (by decide) (by decide)) dX12_net_134 ?_
        refine m_last 52 hS rfl (N := 8) rfl (vin_T (v := 0) rfl (by decide) (by decide)) dX12_net_135 (fun f_1 hS_1q => ?_)
        have hS_1 : mS cy m a f0 n z F (va_up G 52 (vp_updL (G 52) (Int32.toNatClampNeg 0) ((G 51) (Int32.toNatClampNeg 0)))) f_1 := hS_1q
        refine gz_iinc (v := 1) (lv' := [(2, .int 1), (0, .ref m), (1, .int x1)]) dX12_net_136 rfl (by decide) (by decide) rfl ?_
        refine gz_goto (tgt := 118) dX12_net_139 (by decide) ?_
        refine gz_iload_n dX12_net_118 rfl rfl ?_
        refine gz_bipush (v := 8) dX12_net_119 (by decide) ?_
        refine gz_icmp_ge (tgt := 142) dX12_net_121 (by decide) (fun c_121_1 => ?_) (fun c_121_1 => ?_)
        · exact absurd c_121_1 (by decide)
        ·
          try simp only [mIn_0, lgc_lt, lgc_gt, lgc_le, lgc_ge, lgc_eq] at c_121_1
          try simp only [fl_lt, fl_le, fl_eq, fL_w, fL_lt, fL_le, tm1, tm10k, tm9, tm99, Int32.reduceToInt, Int64.reduceToInt, Int.not_lt, Int.not_le] at c_121_1
          refine gz_aload_n dX12_net_124 rfl rfl ?_
          refine mg_148 hS_1 dX12_net_125 ?_
          refine gz_iload_n dX12_net_128 rfl rfl ?_
          refine gz_aload_n dX12_net_129 rfl rfl ?_
          refine mg_145 hS_1 dX12_net_130 ?_
          refine gz_iload_n dX12_net_133 rfl rfl ?_
          refine m_lald 51 hS_1 rfl (N := 8) rfl (vin_T (v := 1) rfl (by decide) (by decide)) dX12_net_134 ?_
          refine gz_ev (w := .long ((G 51) (Int32.toNatClampNeg 1))) rfl ?_
          refine m_last 52 hS_1 rfl (N := 8) rfl (vin_T (v := 1) rfl (by decide) (by decide)) dX12_net_135 (fun f_2 hS_2q => ?_)
          have hS_2 : mS cy m a f0 n z F (va_up (va_up G 52 (vp_updL (G 52) (Int32.toNatClampNeg 0) ((G 51) (Int32.toNatClampNeg 0)))) 52 (vp_updL (vp_updL (G 52) (Int32.toNatClampNeg 0) ((G 51) (Int32.toNatClampNeg 0))) (Int32.toNatClampNeg 1) ((G 51) (Int32.toNatClampNeg 1)))) f_2 := hS_2q
          refine gz_iinc (v := 2) (lv' := [(2, .int 2), (0, .ref m), (1, .int x1)]) dX12_net_136 rfl (by decide) (by decide) rfl ?_
          refine gz_goto (tgt := 118) dX12_net_139 (by decide) ?_
          refine gz_iload_n dX12_net_118 rfl rfl ?_
          refine gz_bipush (v := 8) dX12_net_119 (by decide) ?_
          refine gz_icmp_ge (tgt := 142) dX12_net_121 (by decide) (fun c_121_2 => ?_) (fun c_121_2 => ?_)
          · exact absurd c_121_2 (by decide)
          ·
            try simp only [mIn_0, lgc_lt, lgc_gt, lgc_le, lgc_ge, lgc_eq] at c_121_2
            try simp only [fl_lt, fl_le, fl_eq, fL_w, fL_lt, fL_le, tm1, tm10k, tm9, tm99, Int32.reduceToInt, Int64.reduceToInt, Int.not_lt, Int.not_le] at c_121_2
            refine gz_aload_n dX12_net_124 rfl rfl ?_
            refine mg_148 hS_2 dX12_net_125 ?_
            refine gz_iload_n dX12_net_128 rfl rfl ?_
            refine gz_aload_n dX12_net_129 rfl rfl ?_
            refine mg_145 hS_2 dX12_net_130 ?_
            refine gz_iload_n dX12_net_133 rfl rfl ?_
            refine m_lald 51 hS_2 rfl (N := 8) rfl (vin_T (v := 2) rfl (by decide) (by decide)) dX12_net_134 ?_
            refine gz_ev (w := .long ((G 51) (Int32.toNatClampNeg 2))) rfl ?_
            refine m_last 52 hS_2 rfl (N := 8) rfl (vin_T (v := 2) rfl (by decide) (by decide)) dX12_net_135 (fun f_3 hS_3q => ?_)
            have hS_3 : mS cy m a f0 n z F (va_up (va_up (va_up G 52 (vp_updL (G 52) (Int32.toNatClampNeg 0) ((G 51) (Int32.toNatClampNeg 0)))) 52 (vp_updL (vp_updL (G 52) (Int32.toNatClampNeg 0) ((G 51) (Int32.toNatClampNeg 0))) (Int32.toNatClampNeg 1) ((G 51) (Int32.toNatClampNeg 1)))) 52 (vp_updL (vp_updL (vp_updL (G 52) (Int32.toNatClampNeg 0) ((G 51) (Int32.toNatClampNeg 0))) (Int32.toNatClampNeg 1) ((G 51) (Int32.toNatClampNeg 1))) (Int32.toNatClampNeg 2) ((G 51) (Int32.toNatClampNeg 2)))) f_3 := hS_3q
            refine gz_iinc (v := 3) (lv' := [(2, .int 3), (0, .ref m), (1, .int x1)]) dX12_net_136 rfl (by decide) (by decide) rfl ?_
            refine gz_goto (tgt := 118) dX12_net_139 (by decide) ?_
            refine gz_iload_n dX12_net_118 rfl rfl ?_
            refine gz_bipush (v := 8) dX12_net_119 (by decide) ?_
            refine gz_icmp_ge (tgt := 142) dX12_net_121 (by decide) (fun c_121_3 => ?_) (fun c_121_3 => ?_)
            · exact absurd c_121_3 (by decide)
            ·
              try simp only [mIn_0, lgc_lt, lgc_gt, lgc_le, lgc_ge, lgc_eq] at c_121_3
              try simp only [fl_lt, fl_le, fl_eq, fL_w, fL_lt, fL_le, tm1, tm10k, tm9, tm99, Int32.reduceToInt, Int64.reduceToInt, Int.not_lt, Int.not_le] at c_121_3
              refine gz_aload_n dX12_net_124 rfl rfl ?_
              refine mg_148 hS_3 dX12_net_125 ?_
              refine gz_iload_n dX12_net_128 rfl rfl ?_
              refine gz_aload_n dX12_net_129 rfl rfl ?_
              refine mg_145 hS_3 dX12_net_130 ?_
              refine gz_iload_n dX12_net_133 rfl rfl ?_
              refine m_lald 51 hS_3 rfl (N := 8) rfl (vin_T (v := 3) rfl (by decide) (by decide)) dX12_net_134 ?_
              refine gz_ev (w := .long ((G 51) (Int32.toNatClampNeg 3))) rfl ?_
              refine m_last 52 hS_3 rfl (N := 8) rfl (vin_T (v := 3) rfl (by decide) (by decide)) dX12_net_135 (fun f_4 hS_4q => ?_)
              have hS_4 : mS cy m a f0 n z F (va_up (va_up (va_up (va_up G 52 (vp_updL (G 52) (Int32.toNatClampNeg 0) ((G 51) (Int32.toNatClampNeg 0)))) 52 (vp_updL (vp_updL (G 52) (Int32.toNatClampNeg 0) ((G 51) (Int32.toNatClampNeg 0))) (Int32.toNatClampNeg 1) ((G 51) (Int32.toNatClampNeg 1)))) 52 (vp_updL (vp_updL (vp_updL (G 52) (Int32.toNatClampNeg 0) ((G 51) (Int32.toNatClampNeg 0))) (Int32.toNatClampNeg 1) ((G 51) (Int32.toNatClampNeg 1))) (Int32.toNatClampNeg 2) ((G 51) (Int32.toNatClampNeg 2)))) 52 (vp_updL (vp_updL (vp_updL (vp_updL (G 52) (Int32.toNatClampNeg 0) ((G 51) (Int32.toNatClampNeg 0))) (Int32.toNatClampNeg 1) ((G 51) (Int32.toNatClampNeg 1))) (Int32.toNatClampNeg 2) ((G 51) (Int32.toNatClampNeg 2))) (Int32.toNatClampNeg 3) ((G 51) (Int32.toNatClampNeg 3)))) f_4 := hS_4q
              refine gz_iinc (v := 4) (lv' := [(2, .int 4), (0, .ref m), (1, .int x1)]) dX12_net_136 rfl (by decide) (by decide) rfl ?_
              refine gz_goto (tgt := 118) dX12_net_139 (by decide) ?_
              refine gz_iload_n dX12_net_118 rfl rfl ?_
              refine gz_bipush (v := 8) dX12_net_119 (by decide) ?_
              refine gz_icmp_ge (tgt := 142) dX12_net_121 (by decide) (fun c_121_4 => ?_) (fun c_121_4 => ?_)
              · exact absurd c_121_4 (by decide)
              ·
                try simp only [mIn_0, lgc_lt, lgc_gt, lgc_le, lgc_ge, lgc_eq] at c_121_4
                try simp only [fl_lt, fl_le, fl_eq, fL_w, fL_lt, fL_le, tm1, tm10k, tm9, tm99, Int32.reduceToInt, Int64.reduceToInt, Int.not_lt, Int.not_le] at c_121_4
                refine gz_aload_n dX12_net_124 rfl rfl ?_
                refine mg_148 hS_4 dX12_net_125 ?_
                refine gz_iload_n dX12_net_128 rfl rfl ?_
                refine gz_aload_n dX12_net_129 rfl rfl ?_
                refine mg_145 hS_4 dX12_net_130 ?_
                refine gz_iload_n dX12_net_133 rfl rfl ?_
                refine m_lald 51 hS_4 rfl (N := 8) rfl (vin_T (v := 4) rfl (by decide) (by decide)) dX12_net_134 ?_
                refine gz_ev (w := .long ((G 51) (Int32.toNatClampNeg 4))) rfl ?_
                refine m_last 52 hS_4 rfl (N := 8) rfl (vin_T (v := 4) rfl (by decide) (by decide)) dX12_net_135 (fun f_5 hS_5q => ?_)
                have hS_5 : mS cy m a f0 n z F (va_up (va_up (va_up (va_up (va_up G 52 (vp_updL (G 52) (Int32.toNatClampNeg 0) ((G 51) (Int32.toNatClampNeg 0)))) 52 (vp_updL (vp_updL (G 52) (Int32.toNatClampNeg 0) ((G 51) (Int32.toNatClampNeg 0))) (Int32.toNatClampNeg 1) ((G 51) (Int32.toNatClampNeg 1)))) 52 (vp_updL (vp_updL (vp_updL (G 52) (Int32.toNatClampNeg 0) ((G 51) (Int32.toNatClampNeg 0))) (Int32.toNatClampNeg 1) ((G 51) (Int32.toNatClampNeg 1))) (Int32.toNatClampNeg 2) ((G 51) (Int32.toNatClampNeg 2)))) 52 (vp_updL (vp_updL (vp_updL (vp_updL (G 52) (Int32.toNatClampNeg 0) ((G 51) (Int32.toNatClampNeg 0))) (Int32.toNatClampNeg 1) ((G 51) (Int32.toNatClampNeg 1))) (Int32.toNatClampNeg 2) ((G 51) (Int32.toNatClampNeg 2))) (Int32.toNatClampNeg 3) ((G 51) (Int32.toNatClampNeg 3)))) 52 (vp_updL (vp_updL (vp_updL (vp_updL (vp_updL (G 52) (Int32.toNatClampNeg 0) ((G 51) (Int32.toNatClampNeg 0))) (Int32.toNatClampNeg 1) ((G 51) (Int32.toNatClampNeg 1))) (Int32.toNatClampNeg 2) ((G 51) (Int32.toNatClampNeg 2))) (Int32.toNatClampNeg 3) ((G 51) (Int32.toNatClampNeg 3))) (Int32.toNatClampNeg 4) ((G 51) (Int32.toNatClampNeg 4)))) f_5 := hS_5q
                refine gz_iinc (v := 5) (lv' := [(2, .int 5), (0, .ref m), (1, .int x1)]) dX12_net_136 rfl (by decide) (by decide) rfl ?_
                refine gz_goto (tgt := 118) dX12_net_139 (by decide) ?_
                refine gz_iload_n dX12_net_118 rfl rfl ?_
                refine gz_bipush (v := 8) dX12_net_119 (by decide) ?_
                refine gz_icmp_ge (tgt := 142) dX12_net_121 (by decide) (fun c_121_5 => ?_) (fun c_121_5 => ?_)
                · exact absurd c_121_5 (by decide)
                ·
                  try simp only [mIn_0, lgc_lt, lgc_gt, lgc_le, lgc_ge, lgc_eq] at c_121_5
                  try simp only [fl_lt, fl_le, fl_eq, fL_w, fL_lt, fL_le, tm1, tm10k, tm9, tm99, Int32.reduceToInt, Int64.reduceToInt, Int.not_lt, Int.not_le] at c_121_5
                  refine gz_aload_n dX12_net_124 rfl rfl ?_
                  refine mg_148 hS_5 dX12_net_125 ?_
                  refine gz_iload_n dX12_net_128 rfl rfl ?_
                  refine gz_aload_n dX12_net_129 rfl rfl ?_
                  refine mg_145 hS_5 dX12_net_130 ?_
                  refine gz_iload_n dX12_net_133 rfl rfl ?_
                  refine m_lald 51 hS_5 rfl (N := 8) rfl (vin_T (v := 5) rfl (by decide) (by decide)) dX12_net_134 ?_
                  refine gz_ev (w := .long ((G 51) (Int32.toNatClampNeg 5))) rfl ?_
                  refine m_last 52 hS_5 rfl (N := 8) rfl (vin_T (v := 5) rfl (by decide) (by decide)) dX12_net_135 (fun f_6 hS_6q => ?_)
                  have hS_6 : mS cy m a f0 n z F (va_up (va_up (va_up (va_up (va_up (va_up G 52 (vp_updL (G 52) (Int32.toNatClampNeg 0) ((G 51) (Int32.toNatClampNeg 0)))) 52 (vp_updL (vp_updL (G 52) (Int32.toNatClampNeg 0) ((G 51) (Int32.toNatClampNeg 0))) (Int32.toNatClampNeg 1) ((G 51) (Int32.toNatClampNeg 1)))) 52 (vp_updL (vp_updL (vp_updL (G 52) (Int32.toNatClampNeg 0) ((G 51) (Int32.toNatClampNeg 0))) (Int32.toNatClampNeg 1) ((G 51) (Int32.toNatClampNeg 1))) (Int32.toNatClampNeg 2) ((G 51) (Int32.toNatClampNeg 2)))) 52 (vp_updL (vp_updL (vp_updL (vp_updL (G 52) (Int32.toNatClampNeg 0) ((G 51) (Int32.toNatClampNeg 0))) (Int32.toNatClampNeg 1) ((G 51) (Int32.toNatClampNeg 1))) (Int32.toNatClampNeg 2) ((G 51) (Int32.toNatClampNeg 2))) (Int32.toNatClampNeg 3) ((G 51) (Int32.toNatClampNeg 3)))) 52 (vp_updL (vp_updL (vp_updL (vp_updL (vp_updL (G 52) (Int32.toNatClampNeg 0) ((G 51) (Int32.toNatClampNeg 0))) (Int32.toNatClampNeg 1) ((G 51) (Int32.toNatClampNeg 1))) (Int32.toNatClampNeg 2) ((G 51) (Int32.toNatClampNeg 2))) (Int32.toNatClampNeg 3) ((G 51) (Int32.toNatClampNeg 3))) (Int32.toNatClampNeg 4) ((G 51) (Int32.toNatClampNeg 4)))) 52 (vp_updL (vp_updL (vp_updL (vp_updL (vp_updL (vp_updL (G 52) (Int32.toNatClampNeg 0) ((G 51) (Int32.toNatClampNeg 0))) (Int32.toNatClampNeg 1) ((G 51) (Int32.toNatClampNeg 1))) (Int32.toNatClampNeg 2) ((G 51) (Int32.toNatClampNeg 2))) (Int32.toNatClampNeg 3) ((G 51) (Int32.toNatClampNeg 3))) (Int32.toNatClampNeg 4) ((G 51) (Int32.toNatClampNeg 4))) (Int32.toNatClampNeg 5) ((G 51) (Int32.toNatClampNeg 5)))) f_6 := hS_6q
                  refine gz_iinc (v := 6) (lv' := [(2, .int 6), (0, .ref m), (1, .int x1)]) dX12_net_136 rfl (by decide) (by decide) rfl ?_
                  refine gz_goto (tgt := 118) dX12_net_139 (by decide) ?_
                  refine gz_iload_n dX12_net_118 rfl rfl ?_
                  refine gz_bipush (v := 8) dX12_net_119 (by decide) ?_
                  refine gz_icmp_ge (tgt := 142) dX12_net_121 (by decide) (fun c_121_6 => ?_) (fun c_121_6 => ?_)
                  · exact absurd c_121_6 (by decide)
                  ·
                    try simp only [mIn_0, lgc_lt, lgc_gt, lgc_le, lgc_ge, lgc_eq] at c_121_6
                    try simp only [fl_lt, fl_le, fl_eq, fL_w, fL_lt, fL_le, tm1, tm10k, tm9, tm99, Int32.reduceToInt, Int64.reduceToInt, Int.not_lt, Int.not_le] at c_121_6
                    refine gz_aload_n dX12_net_124 rfl rfl ?_
                    refine mg_148 hS_6 dX12_net_125 ?_
                    refine gz_iload_n dX12_net_128 rfl rfl ?_
                    refine gz_aload_n dX12_net_129 rfl rfl ?_
                    refine mg_145 hS_6 dX12_net_130 ?_
                    refine gz_iload_n dX12_net_133 rfl rfl ?_
                    refine m_lald 51 hS_6 rfl (N := 8) rfl (vin_T (v := 6) rfl (by decide) (by decide)) dX12_net_134 ?_
                    refine gz_ev (w := .long ((G 51) (Int32.toNatClampNeg 6))) rfl ?_
                    refine m_last 52 hS_6 rfl (N := 8) rfl (vin_T (v := 6) rfl (by decide) (by decide)) dX12_net_135 (fun f_7 hS_7q => ?_)
                    have hS_7 : mS cy m a f0 n z F (va_up (va_up (va_up (va_up (va_up (va_up (va_up G 52 (vp_updL (G 52) (Int32.toNatClampNeg 0) ((G 51) (Int32.toNatClampNeg 0)))) 52 (vp_updL (vp_updL (G 52) (Int32.toNatClampNeg 0) ((G 51) (Int32.toNatClampNeg 0))) (Int32.toNatClampNeg 1) ((G 51) (Int32.toNatClampNeg 1)))) 52 (vp_updL (vp_updL (vp_updL (G 52) (Int32.toNatClampNeg 0) ((G 51) (Int32.toNatClampNeg 0))) (Int32.toNatClampNeg 1) ((G 51) (Int32.toNatClampNeg 1))) (Int32.toNatClampNeg 2) ((G 51) (Int32.toNatClampNeg 2)))) 52 (vp_updL (vp_updL (vp_updL (vp_updL (G 52) (Int32.toNatClampNeg 0) ((G 51) (Int32.toNatClampNeg 0))) (Int32.toNatClampNeg 1) ((G 51) (Int32.toNatClampNeg 1))) (Int32.toNatClampNeg 2) ((G 51) (Int32.toNatClampNeg 2))) (Int32.toNatClampNeg 3) ((G 51) (Int32.toNatClampNeg 3)))) 52 (vp_updL (vp_updL (vp_updL (vp_updL (vp_updL (G 52) (Int32.toNatClampNeg 0) ((G 51) (Int32.toNatClampNeg 0))) (Int32.toNatClampNeg 1) ((G 51) (Int32.toNatClampNeg 1))) (Int32.toNatClampNeg 2) ((G 51) (Int32.toNatClampNeg 2))) (Int32.toNatClampNeg 3) ((G 51) (Int32.toNatClampNeg 3))) (Int32.toNatClampNeg 4) ((G 51) (Int32.toNatClampNeg 4)))) 52 (vp_updL (vp_updL (vp_updL (vp_updL (vp_updL (vp_updL (G 52) (Int32.toNatClampNeg 0) ((G 51) (Int32.toNatClampNeg 0))) (Int32.toNatClampNeg 1) ((G 51) (Int32.toNatClampNeg 1))) (Int32.toNatClampNeg 2) ((G 51) (Int32.toNatClampNeg 2))) (Int32.toNatClampNeg 3) ((G 51) (Int32.toNatClampNeg 3))) (Int32.toNatClampNeg 4) ((G 51) (Int32.toNatClampNeg 4))) (Int32.toNatClampNeg 5) ((G 51) (Int32.toNatClampNeg 5)))) 52 (vp_updL (vp_updL (vp_updL (vp_updL (vp_updL (vp_updL (vp_updL (G 52) (Int32.toNatClampNeg 0) ((G 51) (Int32.toNatClampNeg 0))) (Int32.toNatClampNeg 1) ((G 51) (Int32.toNatClampNeg 1))) (Int32.toNatClampNeg 2) ((G 51) (Int32.toNatClampNeg 2))) (Int32.toNatClampNeg 3) ((G 51) (Int32.toNatClampNeg 3))) (Int32.toNatClampNeg 4) ((G 51) (Int32.toNatClampNeg 4))) (Int32.toNatClampNeg 5) ((G 51) (Int32.toNatClampNeg 5))) (Int32.toNatClampNeg 6) ((G 51) (Int32.toNatClampNeg 6)))) f_7 := hS_7q
                    refine gz_iinc (v := 7) (lv' := [(2, .int 7), (0, .ref m), (1, .int x1)]) dX12_net_136 rfl (by decide) (by decide) rfl ?_
                    refine gz_goto (tgt := 118) dX12_net_139 (by decide) ?_
                    refine gz_iload_n dX12_net_118 rfl rfl ?_
                    refine gz_bipush (v := 8) dX12_net_119 (by decide) ?_
                    refine gz_icmp_ge (tgt := 142) dX12_net_121 (by decide) (fun c_121_7 => ?_) (fun c_121_7 => ?_)
                    · exact absurd c_121_7 (by decide)
                    ·
                      try simp only [mIn_0, lgc_lt, lgc_gt, lgc_le, lgc_ge, lgc_eq] at c_121_7
                      try simp only [fl_lt, fl_le, fl_eq, fL_w, fL_lt, fL_le, tm1, tm10k, tm9, tm99, Int32.reduceToInt, Int64.reduceToInt, Int.not_lt, Int.not_le] at c_121_7
                      refine gz_aload_n dX12_net_124 rfl rfl ?_
                      refine mg_148 hS_7 dX12_net_125 ?_
                      refine gz_iload_n dX12_net_128 rfl rfl ?_
                      refine gz_aload_n dX12_net_129 rfl rfl ?_
                      refine mg_145 hS_7 dX12_net_130 ?_
                      refine gz_iload_n dX12_net_133 rfl rfl ?_
                      refine m_lald 51 hS_7 rfl (N := 8) rfl (vin_T (v := 7) rfl (by decide) (by decide)) dX12_net_134 ?_
                      refine gz_ev (w := .long ((G 51) (Int32.toNatClampNeg 7))) rfl ?_
                      refine m_last 52 hS_7 rfl (N := 8) rfl (vin_T (v := 7) rfl (by decide) (by decide)) dX12_net_135 (fun f_8 hS_8q => ?_)
                      have hS_8 : mS cy m a f0 n z F (va_up (va_up (va_up (va_up (va_up (va_up (va_up (va_up G 52 (vp_updL (G 52) (Int32.toNatClampNeg 0) ((G 51) (Int32.toNatClampNeg 0)))) 52 (vp_updL (vp_updL (G 52) (Int32.toNatClampNeg 0) ((G 51) (Int32.toNatClampNeg 0))) (Int32.toNatClampNeg 1) ((G 51) (Int32.toNatClampNeg 1)))) 52 (vp_updL (vp_updL (vp_updL (G 52) (Int32.toNatClampNeg 0) ((G 51) (Int32.toNatClampNeg 0))) (Int32.toNatClampNeg 1) ((G 51) (Int32.toNatClampNeg 1))) (Int32.toNatClampNeg 2) ((G 51) (Int32.toNatClampNeg 2)))) 52 (vp_updL (vp_updL (vp_updL (vp_updL (G 52) (Int32.toNatClampNeg 0) ((G 51) (Int32.toNatClampNeg 0))) (Int32.toNatClampNeg 1) ((G 51) (Int32.toNatClampNeg 1))) (Int32.toNatClampNeg 2) ((G 51) (Int32.toNatClampNeg 2))) (Int32.toNatClampNeg 3) ((G 51) (Int32.toNatClampNeg 3)))) 52 (vp_updL (vp_updL (vp_updL (vp_updL (vp_updL (G 52) (Int32.toNatClampNeg 0) ((G 51) (Int32.toNatClampNeg 0))) (Int32.toNatClampNeg 1) ((G 51) (Int32.toNatClampNeg 1))) (Int32.toNatClampNeg 2) ((G 51) (Int32.toNatClampNeg 2))) (Int32.toNatClampNeg 3) ((G 51) (Int32.toNatClampNeg 3))) (Int32.toNatClampNeg 4) ((G 51) (Int32.toNatClampNeg 4)))) 52 (vp_updL (vp_updL (vp_updL (vp_updL (vp_updL (vp_updL (G 52) (Int32.toNatClampNeg 0) ((G 51) (Int32.toNatClampNeg 0))) (Int32.toNatClampNeg 1) ((G 51) (Int32.toNatClampNeg 1))) (Int32.toNatClampNeg 2) ((G 51) (Int32.toNatClampNeg 2))) (Int32.toNatClampNeg 3) ((G 51) (Int32.toNatClampNeg 3))) (Int32.toNatClampNeg 4) ((G 51) (Int32.toNatClampNeg 4))) (Int32.toNatClampNeg 5) ((G 51) (Int32.toNatClampNeg 5)))) 52 (vp_updL (vp_updL (vp_updL (vp_updL (vp_updL (vp_updL (vp_updL (G 52) (Int32.toNatClampNeg 0) ((G 51) (Int32.toNatClampNeg 0))) (Int32.toNatClampNeg 1) ((G 51) (Int32.toNatClampNeg 1))) (Int32.toNatClampNeg 2) ((G 51) (Int32.toNatClampNeg 2))) (Int32.toNatClampNeg 3) ((G 51) (Int32.toNatClampNeg 3))) (Int32.toNatClampNeg 4) ((G 51) (Int32.toNatClampNeg 4))) (Int32.toNatClampNeg 5) ((G 51) (Int32.toNatClampNeg 5))) (Int32.toNatClampNeg 6) ((G 51) (Int32.toNatClampNeg 6)))) 52 (vp_updL (vp_updL (vp_updL (vp_updL (vp_updL (vp_updL (vp_updL (vp_updL (G 52) (Int32.toNatClampNeg 0) ((G 51) (Int32.toNatClampNeg 0))) (Int32.toNatClampNeg 1) ((G 51) (Int32.toNatClampNeg 1))) (Int32.toNatClampNeg 2) ((G 51) (Int32.toNatClampNeg 2))) (Int32.toNatClampNeg 3) ((G 51) (Int32.toNatClampNeg 3))) (Int32.toNatClampNeg 4) ((G 51) (Int32.toNatClampNeg 4))) (Int32.toNatClampNeg 5) ((G 51) (Int32.toNatClampNeg 5))) (Int32.toNatClampNeg 6) ((G 51) (Int32.toNatClampNeg 6))) (Int32.toNatClampNeg 7) ((G 51) (Int32.toNatClampNeg 7)))) f_8 := hS_8q
                      refine gz_iinc (v := 8) (lv' := [(2, .int 8), (0, .ref m), (1, .int x1)]) dX12_net_136 rfl (by decide) (by decide) rfl ?_
                      refine gz_goto (tgt := 118) dX12_net_139 (by decide) ?_
                      refine gz_iload_n dX12_net_118 rfl rfl ?_
                      refine gz_bipush (v := 8) dX12_net_119 (by decide) ?_
                      refine gz_icmp_ge (tgt := 142) dX12_net_121 (by decide) (fun c_121_8 => ?_) (fun c_121_8 => ?_)
                      ·
                        try simp only [mIn_0, lgc_lt, lgc_gt, lgc_le, lgc_ge, lgc_eq] at c_121_8
                        try simp only [fl_lt, fl_le, fl_eq, fL_w, fL_lt, fL_le, tm1, tm10k, tm9, tm99, Int32.reduceToInt, Int64.reduceToInt, Int.not_lt, Int.not_le] at c_121_8
                        refine gz_aload_n dX12_net_142 rfl rfl ?_
                        refine gz_iconst (v := 1) dX12_net_143 (by decide) ?_
                        refine mp_426 hS_8 ⟨rfl, rfl⟩ dX12_net_144 (fun f_9 hS_9 => ?_)
                        refine gz_aload_n dX12_net_147 rfl rfl ?_
                        refine gz_iconst (v := 0) dX12_net_148 (by decide) ?_
                        refine mp_430 hS_9 dX12_net_149 (fun f_10 hS_10 => ?_)
                        refine gz_iconst (v := 0) dX12_net_152 (by decide) ?_
                        refine gz_istore_n (lv' := [(2, .int 0), (0, .ref m), (1, .int x1)]) dX12_net_153 rfl (by decide) rfl ?_
                        refine gz_iconst (v := 0) dX12_net_154 (by decide) ?_
                        refine gz_istore_n (lv' := [(3, .int 0), (2, .int 0), (0, .ref m), (1, .int x1)]) dX12_net_155 rfl (by decide) rfl ?_
                        have hR9 : RI (va_up (va_up n 46 1) 47 0) F := RI_cg (fun _ _ => rfl) hR rfl rfl rfl a0 a4 a53 ⟨by show 0 ≤ (0 : Int32).toInt; decide, by show (0 : Int32).toInt ≤ 8; decide⟩ a88
                        refine gz_sub (lv' := [(2, .int 0), (3, .int 0), (0, .ref m), (1, .int x1)]) (by simp [List.lookup]) ?_
                        exact l_X12_net2 25 0 0 _ _ _ _ _ hS_10 (fx_n (fx_n (fx_G (fx_G (fx_G (fx_G (fx_G (fx_G (fx_G (fx_G hx (by decide)) (by decide)) (by decide)) (by decide)) (by decide)) (by decide)) (by decide)) (by decide)) (by decide)) (by decide)) hR9 (by have q9 := nzc_le (g := (va_up (va_up (va_up (va_up (va_up (va_up (va_up (va_up G 52 (vp_updL (G 52) (Int32.toNatClampNeg 0) ((G 51) (Int32.toNatClampNeg 0)))) 52 (vp_updL (vp_updL (G 52) (Int32.toNatClampNeg 0) ((G 51) (Int32.toNatClampNeg 0))) (Int32.toNatClampNeg 1) ((G 51) (Int32.toNatClampNeg 1)))) 52 (vp_updL (vp_updL (vp_updL (G 52) (Int32.toNatClampNeg 0) ((G 51) (Int32.toNatClampNeg 0))) (Int32.toNatClampNeg 1) ((G 51) (Int32.toNatClampNeg 1))) (Int32.toNatClampNeg 2) ((G 51) (Int32.toNatClampNeg 2)))) 52 (vp_updL (vp_updL (vp_updL (vp_updL (G 52) (Int32.toNatClampNeg 0) ((G 51) (Int32.toNatClampNeg 0))) (Int32.toNatClampNeg 1) ((G 51) (Int32.toNatClampNeg 1))) (Int32.toNatClampNeg 2) ((G 51) (Int32.toNatClampNeg 2))) (Int32.toNatClampNeg 3) ((G 51) (Int32.toNatClampNeg 3)))) 52 (vp_updL (vp_updL (vp_updL (vp_updL (vp_updL (G 52) (Int32.toNatClampNeg 0) ((G 51) (Int32.toNatClampNeg 0))) (Int32.toNatClampNeg 1) ((G 51) (Int32.toNatClampNeg 1))) (Int32.toNatClampNeg 2) ((G 51) (Int32.toNatClampNeg 2))) (Int32.toNatClampNeg 3) ((G 51) (Int32.toNatClampNeg 3))) (Int32.toNatClampNeg 4) ((G 51) (Int32.toNatClampNeg 4)))) 52 (vp_updL (vp_updL (vp_updL (vp_updL (vp_updL (vp_updL (G 52) (Int32.toNatClampNeg 0) ((G 51) (Int32.toNatClampNeg 0))) (Int32.toNatClampNeg 1) ((G 51) (Int32.toNatClampNeg 1))) (Int32.toNatClampNeg 2) ((G 51) (Int32.toNatClampNeg 2))) (Int32.toNatClampNeg 3) ((G 51) (Int32.toNatClampNeg 3))) (Int32.toNatClampNeg 4) ((G 51) (Int32.toNatClampNeg 4))) (Int32.toNatClampNeg 5) ((G 51) (Int32.toNatClampNeg 5)))) 52 (vp_updL (vp_updL (vp_updL (vp_updL (vp_updL (vp_updL (vp_updL (G 52) (Int32.toNatClampNeg 0) ((G 51) (Int32.toNatClampNeg 0))) (Int32.toNatClampNeg 1) ((G 51) (Int32.toNatClampNeg 1))) (Int32.toNatClampNeg 2) ((G 51) (Int32.toNatClampNeg 2))) (Int32.toNatClampNeg 3) ((G 51) (Int32.toNatClampNeg 3))) (Int32.toNatClampNeg 4) ((G 51) (Int32.toNatClampNeg 4))) (Int32.toNatClampNeg 5) ((G 51) (Int32.toNatClampNeg 5))) (Int32.toNatClampNeg 6) ((G 51) (Int32.toNatClampNeg 6)))) 52 (vp_updL (vp_updL (vp_updL (vp_updL (vp_updL (vp_updL (vp_updL (vp_updL (G 52) (Int32.toNatClampNeg 0) ((G 51) (Int32.toNatClampNeg 0))) (Int32.toNatClampNeg 1) ((G 51) (Int32.toNatClampNeg 1))) (Int32.toNatClampNeg 2) ((G 51) (Int32.toNatClampNeg 2))) (Int32.toNatClampNeg 3) ((G 51) (Int32.toNatClampNeg 3))) (Int32.toNatClampNeg 4) ((G 51) (Int32.toNatClampNeg 4))) (Int32.toNatClampNeg 5) ((G 51) (Int32.toNatClampNeg 5))) (Int32.toNatClampNeg 6) ((G 51) (Int32.toNatClampNeg 6))) (Int32.toNatClampNeg 7) ((G 51) (Int32.toNatClampNeg 7)))) 52) 8; have e0 : ((va_up (va_up n 46 1) 47 0) 47).toInt = 0 := rfl; omega) (by decide) (by have e0 : ((va_up (va_up n 46 1) 47 0) 47).toInt = 0 := rfl; have e1 : (0 : Int32).toInt = 0 := rfl; omega)
                      · exact absurd c_121_8 (by decide)
    ·
      try simp only [mIn_0, lgc_lt, lgc_gt, lgc_le, lgc_ge, lgc_eq] at c_42
      try simp only [fl_lt, fl_le, fl_eq, fL_w, fL_lt, fL_le, tm1, tm10k, tm9, tm99, Int32.reduceToInt, Int64.reduceToInt, Int.not_lt, Int.not_le] at c_42
      refine gz_aload_n dX12_net_45 rfl rfl ?_
      refine mg_121 hS dX12_net_46 ?_
      refine gz_iload_n dX12_net_49 rfl rfl ?_
      refine m_iald 40 hS rfl (N := 2000) rfl ((by exact vin_T (rfl : (x2).toInt = (x2).toInt) (by omega) (by omega))) dX12_net_50 ?_
      refine gz_iload_n dX12_net_51 rfl rfl ?_
      refine gz_icmp_eq (tgt := 58) dX12_net_52 (by decide) (fun c_52 => ?_) (fun c_52 => ?_)
      ·
        try simp only [mIn_0, lgc_lt, lgc_gt, lgc_le, lgc_ge, lgc_eq] at c_52
        try simp only [fl_lt, fl_le, fl_eq, fL_w, fL_lt, fL_le, tm1, tm10k, tm9, tm99, Int32.reduceToInt, Int64.reduceToInt, Int.not_lt, Int.not_le] at c_52
        refine gz_aload_n dX12_net_58 rfl rfl ?_
        refine mg_145 hS dX12_net_59 ?_
        refine gz_aload_n dX12_net_62 rfl rfl ?_
        refine mg_100 hS dX12_net_63 ?_
        refine gz_aload_n dX12_net_66 rfl rfl ?_
        refine mg_118 hS dX12_net_67 ?_
        refine gz_iload_n dX12_net_70 rfl rfl ?_
        refine m_iald 39 hS rfl (N := 2000) rfl ((by exact vin_T (rfl : (x2).toInt = (x2).toInt) (by omega) (by omega))) dX12_net_71 ?_
        refine m_iald 32 hS rfl (N := 40) rfl ((by have qp := bP (Int32.toNatClampNeg x2) (by have := clI (i := x2) (by omega); omega); exact vin_T (rfl : ((F 39) (Int32.toNatClampNeg x2)).toInt = ((F 39) (Int32.toNatClampNeg x2)).toInt) (by omega) (by omega))) dX12_net_72 ?_
        refine gz_dup2 dX12_net_73 rfl rfl ?_
        refine m_lald 51 hS rfl (N := 8) rfl ((by have qp := bP (Int32.toNatClampNeg x2) (by have := clI (i := x2) (by omega); omega); have qc := clI (i := (F 39) (Int32.toNatClampNeg x2)) (by omega); have qL := bL (Int32.toNatClampNeg ((F 39) (Int32.toNatClampNeg x2))) (by omega); exact vin_T (rfl : ((F 32) (Int32.toNatClampNeg ((F 39) (Int32.toNatClampNeg x2)))).toInt = ((F 32) (Int32.toNatClampNeg ((F 39) (Int32.toNatClampNeg x2)))).toInt) (by omega) (by omega))) dX12_net_74 ?_
        refine gz_aload_n dX12_net_75 rfl rfl ?_
        refine mg_124 hS dX12_net_76 ?_
        refine gz_iload_n dX12_net_79 rfl rfl ?_
        refine m_iald 41 hS rfl (N := 2000) rfl ((by exact vin_T (rfl : (x2).toInt = (x2).toInt) (by omega) (by omega))) dX12_net_80 ?_
        refine gz_i2l dX12_net_81 ?_
        refine gz_ladd dX12_net_82 ?_
        refine m_last 51 hS rfl (N := 8) rfl ((by have qp := bP (Int32.toNatClampNeg x2) (by have := clI (i := x2) (by omega); omega); have qc := clI (i := (F 39) (Int32.toNatClampNeg x2)) (by omega); have qL := bL (Int32.toNatClampNeg ((F 39) (Int32.toNatClampNeg x2))) (by omega); exact vin_T (rfl : ((F 32) (Int32.toNatClampNeg ((F 39) (Int32.toNatClampNeg x2)))).toInt = ((F 32) (Int32.toNatClampNeg ((F 39) (Int32.toNatClampNeg x2)))).toInt) (by omega) (by omega))) dX12_net_83 (fun f_11 hS_11q => ?_)
        have hS_11 : mS cy m a f0 n z F (va_up G 51 (vp_updL (G 51) (Int32.toNatClampNeg ((F 32) (Int32.toNatClampNeg ((F 39) (Int32.toNatClampNeg x2))))) (((G 51) (Int32.toNatClampNeg ((F 32) (Int32.toNatClampNeg ((F 39) (Int32.toNatClampNeg x2)))))) + (((F 41) (Int32.toNatClampNeg x2)).toInt64)))) f_11 := hS_11q
        refine gz_aload_n dX12_net_84 rfl rfl ?_
        refine mg_145 hS_11 dX12_net_85 ?_
        refine gz_aload_n dX12_net_88 rfl rfl ?_
        refine mg_103 hS_11 dX12_net_89 ?_
        refine gz_aload_n dX12_net_92 rfl rfl ?_
        refine mg_118 hS_11 dX12_net_93 ?_
        refine gz_iload_n dX12_net_96 rfl rfl ?_
        refine m_iald 39 hS_11 rfl (N := 2000) rfl ((by exact vin_T (rfl : (x2).toInt = (x2).toInt) (by omega) (by omega))) dX12_net_97 ?_
        refine gz_ev (w := .int ((F 39) (Int32.toNatClampNeg x2))) rfl ?_
        refine m_iald 33 hS_11 rfl (N := 40) rfl ((by have qp := bP (Int32.toNatClampNeg x2) (by have := clI (i := x2) (by omega); omega); exact vin_T (rfl : ((F 39) (Int32.toNatClampNeg x2)).toInt = ((F 39) (Int32.toNatClampNeg x2)).toInt) (by omega) (by omega))) dX12_net_98 ?_
        refine gz_ev (w := .int ((F 33) (Int32.toNatClampNeg ((F 39) (Int32.toNatClampNeg x2))))) rfl ?_
        refine gz_dup2 dX12_net_99 rfl rfl ?_
        refine m_lald 51 hS_11 rfl (N := 8) rfl ((by have qp := bP (Int32.toNatClampNeg x2) (by have := clI (i := x2) (by omega); omega); have qc := clI (i := (F 39) (Int32.toNatClampNeg x2)) (by omega); have qL := bL (Int32.toNatClampNeg ((F 39) (Int32.toNatClampNeg x2))) (by omega); exact vin_T (rfl : ((F 33) (Int32.toNatClampNeg ((F 39) (Int32.toNatClampNeg x2)))).toInt = ((F 33) (Int32.toNatClampNeg ((F 39) (Int32.toNatClampNeg x2)))).toInt) (by omega) (by omega))) dX12_net_100 ?_
        refine gz_ev (w := .long ((vp_updL (G 51) (Int32.toNatClampNeg ((F 32) (Int32.toNatClampNeg ((F 39) (Int32.toNatClampNeg x2))))) (((G 51) (Int32.toNatClampNeg ((F 32) (Int32.toNatClampNeg ((F 39) (Int32.toNatClampNeg x2)))))) + (((F 41) (Int32.toNatClampNeg x2)).toInt64))) (Int32.toNatClampNeg ((F 33) (Int32.toNatClampNeg ((F 39) (Int32.toNatClampNeg x2))))))) rfl ?_
        refine gz_aload_n dX12_net_101 rfl rfl ?_
        refine mg_124 hS_11 dX12_net_102 ?_
        refine gz_iload_n dX12_net_105 rfl rfl ?_
        refine m_iald 41 hS_11 rfl (N := 2000) rfl ((by exact vin_T (rfl : (x2).toInt = (x2).toInt) (by omega) (by omega))) dX12_net_106 ?_
        refine gz_ev (w := .int ((F 41) (Int32.toNatClampNeg x2))) rfl ?_
        refine gz_i2l dX12_net_107 ?_
        refine gz_lsub dX12_net_108 ?_
        refine m_last 51 hS_11 rfl (N := 8) rfl ((by have qp := bP (Int32.toNatClampNeg x2) (by have := clI (i := x2) (by omega); omega); have qc := clI (i := (F 39) (Int32.toNatClampNeg x2)) (by omega); have qL := bL (Int32.toNatClampNeg ((F 39) (Int32.toNatClampNeg x2))) (by omega); exact vin_T (rfl : ((F 33) (Int32.toNatClampNeg ((F 39) (Int32.toNatClampNeg x2)))).toInt = ((F 33) (Int32.toNatClampNeg ((F 39) (Int32.toNatClampNeg x2)))).toInt) (by omega) (by omega))) dX12_net_109 (fun f_12 hS_12q => ?_)
        have hS_12 : mS cy m a f0 n z F (va_up (va_up G 51 (vp_updL (G 51) (Int32.toNatClampNeg ((F 32) (Int32.toNatClampNeg ((F 39) (Int32.toNatClampNeg x2))))) (((G 51) (Int32.toNatClampNeg ((F 32) (Int32.toNatClampNeg ((F 39) (Int32.toNatClampNeg x2)))))) + (((F 41) (Int32.toNatClampNeg x2)).toInt64)))) 51 (vp_updL (vp_updL (G 51) (Int32.toNatClampNeg ((F 32) (Int32.toNatClampNeg ((F 39) (Int32.toNatClampNeg x2))))) (((G 51) (Int32.toNatClampNeg ((F 32) (Int32.toNatClampNeg ((F 39) (Int32.toNatClampNeg x2)))))) + (((F 41) (Int32.toNatClampNeg x2)).toInt64))) (Int32.toNatClampNeg ((F 33) (Int32.toNatClampNeg ((F 39) (Int32.toNatClampNeg x2))))) (((vp_updL (G 51) (Int32.toNatClampNeg ((F 32) (Int32.toNatClampNeg ((F 39) (Int32.toNatClampNeg x2))))) (((G 51) (Int32.toNatClampNeg ((F 32) (Int32.toNatClampNeg ((F 39) (Int32.toNatClampNeg x2)))))) + (((F 41) (Int32.toNatClampNeg x2)).toInt64))) (Int32.toNatClampNeg ((F 33) (Int32.toNatClampNeg ((F 39) (Int32.toNatClampNeg x2)))))) - (((F 41) (Int32.toNatClampNeg x2)).toInt64)))) f_12 := hS_12q
        refine gz_iinc (v := (x2 + 1)) (lv' := [(2, .int (x2 + 1)), (0, .ref m), (1, .int x1)]) dX12_net_110 rfl rfl (by decide) rfl ?_
        refine gz_goto (tgt := 37) dX12_net_113 (by decide) ?_
        refine gz_sub (lv' := [(2, .int (x2 + 1)), (0, .ref m), (1, .int x1)]) (by simp [List.lookup]) ?_
        exact ih (x2 + 1) _ _ _ _ _ hS_12 (fx_G (fx_G hx (by decide)) (by decide)) (hR) ((by have q1_ := (T_add (rfl : (x2).toInt = (x2).toInt) (show (1 : Int32).toInt = 1 from rfl) (by omega)); omega))
      ·
        try simp only [mIn_0, lgc_lt, lgc_gt, lgc_le, lgc_ge, lgc_eq] at c_52
        try simp only [fl_lt, fl_le, fl_eq, fL_w, fL_lt, fL_le, tm1, tm10k, tm9, tm99, Int32.reduceToInt, Int64.reduceToInt, Int.not_lt, Int.not_le] at c_52
        refine gz_goto (tgt := 110) dX12_net_55 (by decide) ?_
        refine gz_iinc (v := (x2 + 1)) (lv' := [(2, .int (x2 + 1)), (0, .ref m), (1, .int x1)]) dX12_net_110 rfl rfl (by decide) rfl ?_
        refine gz_goto (tgt := 37) dX12_net_113 (by decide) ?_
        refine gz_sub (lv' := [(2, .int (x2 + 1)), (0, .ref m), (1, .int x1)]) (by simp [List.lookup]) ?_
        exact ih (x2 + 1) _ _ _ _ _ hS hx (hR) ((by have q1_ := (T_add (rfl : (x2).toInt = (x2).toInt) (show (1 : Int32).toInt = 1 from rfl) (by omega)); omega))

set_option maxHeartbeats 4000000 in
set_option maxRecDepth 100000 in
theorem k_X12_net {l : Launch} {D : va_G} {cy : Nat → ClassId} {b : Nat} {f : gMem} {m : Nat} {a : Nat → Nat} {f0 : gMem} {n : Nat → Int32} {z : Nat → Int64} {F : Nat → Nat → Int32} {G : Nat → Nat → Int64}  {x1 : Int32} (hS : mS cy m a f0 n z F G f) (hR : RI n F) : gC l D cy b yX12_net cX12_net 6 (some .int) 1 0 0 [.ref m, .int x1] f (pI fun r f2 => ∃ (n2 : Nat → Int32) (z2 : Nat → Int64) (F2 : Nat → Nat → Int32) (G2 : Nat → Nat → Int64), mS cy m a f0 n2 z2 F2 G2 f2 ∧ fx [46, 47] [] [48, 49] [50, 51, 52] n z F G n2 z2 F2 G2 ∧ RI n2 F2) := by
  obtain ⟨a0, a4, a5, bA, bW, a30, bL, a38, bP, a53, a47, a88⟩ := id hR
  refine gC_of (by decide) (Nat.le_of_ble_eq_true rfl) ?_
  show gG l _ _ _ D cy b cX12_net 6 _ RX12 "net" 0 0 f 0 [(0, .ref m), (1, .int x1)] []
  refine gz_iload_n dX12_net_0 rfl rfl ?_
  refine gz_i2l dX12_net_1 ?_
  refine gz_lconst (v := 0) dX12_net_2 (by decide) ?_
  refine gz_ldc2 (v := (399)) wd_786 dX12_net_3 ?_
  refine scX12_245 (k_X12_in (x := x1.toInt64) (y := 0) (w := (399))) ⟨(Nat.le_of_ble_eq_true rfl), (Nat.le_of_ble_eq_true rfl)⟩ ⟨(Nat.le_of_ble_eq_true rfl), (Nat.le_of_ble_eq_true rfl)⟩ rfl rfl (Nat.le_of_ble_eq_true rfl) dX12_net_6 ?_
  intro v9 f9 z9; rw [z9.1, z9.2]
  refine gz_if_ne (tgt := 14) dX12_net_9 (by decide) (fun c_9 => ?_) (fun c_9 => ?_)
  ·
    try simp only [mIn_0, lgc_lt, lgc_gt, lgc_le, lgc_ge, lgc_eq] at c_9
    try simp only [fl_lt, fl_le, fl_eq, fL_w, fL_lt, fL_le, tm1, tm10k, tm9, tm99, Int32.reduceToInt, Int64.reduceToInt, Int.not_lt, Int.not_le] at c_9
    refine gz_iconst (v := 0) dX12_net_14 (by decide) ?_
    refine gz_istore_n (lv' := [(2, .int 0), (0, .ref m), (1, .int x1)]) dX12_net_15 rfl (by decide) rfl ?_
    refine gz_iload_n dX12_net_16 rfl rfl ?_
    refine gz_bipush (v := 8) dX12_net_17 (by decide) ?_
    refine gz_icmp_ge (tgt := 35) dX12_net_19 (by decide) (fun c_19 => ?_) (fun c_19 => ?_)
    · exact absurd c_19 (by decide)
    ·
      try simp only [mIn_0, lgc_lt, lgc_gt, lgc_le, lgc_ge, lgc_eq] at c_19
      try simp only [fl_lt, fl_le, fl_eq, fL_w, fL_lt, fL_le, tm1, tm10k, tm9, tm99, Int32.reduceToInt, Int64.reduceToInt, Int.not_lt, Int.not_le] at c_19
      refine gz_aload_n dX12_net_22 rfl rfl ?_
      refine mg_145 hS dX12_net_23 ?_
      refine gz_iload_n dX12_net_26 rfl rfl ?_
      refine gz_lconst (v := 0) dX12_net_27 (by decide) ?_
      refine m_last 51 hS rfl (N := 8) rfl (vin_T (v := 0) rfl (by decide) (by decide)) dX12_net_28 (fun f_1 hS_1q => ?_)
      have hS_1 : mS cy m a f0 n z F (va_up G 51 (vp_updL (G 51) (Int32.toNatClampNeg 0) 0)) f_1 := hS_1q
      refine gz_iinc (v := 1) (lv' := [(2, .int 1), (0, .ref m), (1, .int x1)]) dX12_net_29 rfl (by decide) (by decide) rfl ?_
      refine gz_goto (tgt := 16) dX12_net_32 (by decide) ?_
      refine gz_iload_n dX12_net_16 rfl rfl ?_
      refine gz_bipush (v := 8) dX12_net_17 (by decide) ?_
      refine gz_icmp_ge (tgt := 35) dX12_net_19 (by decide) (fun c_19_1 => ?_) (fun c_19_1 => ?_)
      · exact absurd c_19_1 (by decide)
      ·
        try simp only [mIn_0, lgc_lt, lgc_gt, lgc_le, lgc_ge, lgc_eq] at c_19_1
        try simp only [fl_lt, fl_le, fl_eq, fL_w, fL_lt, fL_le, tm1, tm10k, tm9, tm99, Int32.reduceToInt, Int64.reduceToInt, Int.not_lt, Int.not_le] at c_19_1
        refine gz_aload_n dX12_net_22 rfl rfl ?_
        refine mg_145 hS_1 dX12_net_23 ?_
        refine gz_iload_n dX12_net_26 rfl rfl ?_
        refine gz_lconst (v := 0) dX12_net_27 (by decide) ?_
        refine m_last 51 hS_1 rfl (N := 8) rfl (vin_T (v := 1) rfl (by decide) (by decide)) dX12_net_28 (fun f_2 hS_2q => ?_)
        have hS_2 : mS cy m a f0 n z F (va_up (va_up G 51 (vp_updL (G 51) (Int32.toNatClampNeg 0) 0)) 51 (vp_updL (vp_updL (G 51) (Int32.toNatClampNeg 0) 0) (Int32.toNatClampNeg 1) 0)) f_2 := hS_2q
        refine gz_iinc (v := 2) (lv' := [(2, .int 2), (0, .ref m), (1, .int x1)]) dX12_net_29 rfl (by decide) (by decide) rfl ?_
        refine gz_goto (tgt := 16) dX12_net_32 (by decide) ?_
        refine gz_iload_n dX12_net_16 rfl rfl ?_
        refine gz_bipush (v := 8) dX12_net_17 (by decide) ?_
        refine gz_icmp_ge (tgt := 35) dX12_net_19 (by decide) (fun c_19_2 => ?_) (fun c_19_2 => ?_)
        · exact absurd c_19_2 (by decide)
        ·
          try simp only [mIn_0, lgc_lt, lgc_gt, lgc_le, lgc_ge, lgc_eq] at c_19_2
          try simp only [fl_lt, fl_le, fl_eq, fL_w, fL_lt, fL_le, tm1, tm10k, tm9, tm99, Int32.reduceToInt, Int64.reduceToInt, Int.not_lt, Int.not_le] at c_19_2
          refine gz_aload_n dX12_net_22 rfl rfl ?_
          refine mg_145 hS_2 dX12_net_23 ?_
          refine gz_iload_n dX12_net_26 rfl rfl ?_
          refine gz_lconst (v := 0) dX12_net_27 (by decide) ?_
          refine m_last 51 hS_2 rfl (N := 8) rfl (vin_T (v := 2) rfl (by decide) (by decide)) dX12_net_28 (fun f_3 hS_3q => ?_)
          have hS_3 : mS cy m a f0 n z F (va_up (va_up (va_up G 51 (vp_updL (G 51) (Int32.toNatClampNeg 0) 0)) 51 (vp_updL (vp_updL (G 51) (Int32.toNatClampNeg 0) 0) (Int32.toNatClampNeg 1) 0)) 51 (vp_updL (vp_updL (vp_updL (G 51) (Int32.toNatClampNeg 0) 0) (Int32.toNatClampNeg 1) 0) (Int32.toNatClampNeg 2) 0)) f_3 := hS_3q
          refine gz_iinc (v := 3) (lv' := [(2, .int 3), (0, .ref m), (1, .int x1)]) dX12_net_29 rfl (by decide) (by decide) rfl ?_
          refine gz_goto (tgt := 16) dX12_net_32 (by decide) ?_
          refine gz_iload_n dX12_net_16 rfl rfl ?_
          refine gz_bipush (v := 8) dX12_net_17 (by decide) ?_
          refine gz_icmp_ge (tgt := 35) dX12_net_19 (by decide) (fun c_19_3 => ?_) (fun c_19_3 => ?_)
          · exact absurd c_19_3 (by decide)
          ·
            try simp only [mIn_0, lgc_lt, lgc_gt, lgc_le, lgc_ge, lgc_eq] at c_19_3
            try simp only [fl_lt, fl_le, fl_eq, fL_w, fL_lt, fL_le, tm1, tm10k, tm9, tm99, Int32.reduceToInt, Int64.reduceToInt, Int.not_lt, Int.not_le] at c_19_3
            refine gz_aload_n dX12_net_22 rfl rfl ?_
            refine mg_145 hS_3 dX12_net_23 ?_
            refine gz_iload_n dX12_net_26 rfl rfl ?_
            refine gz_lconst (v := 0) dX12_net_27 (by decide) ?_
            refine m_last 51 hS_3 rfl (N := 8) rfl (vin_T (v := 3) rfl (by decide) (by decide)) dX12_net_28 (fun f_4 hS_4q => ?_)
            have hS_4 : mS cy m a f0 n z F (va_up (va_up (va_up (va_up G 51 (vp_updL (G 51) (Int32.toNatClampNeg 0) 0)) 51 (vp_updL (vp_updL (G 51) (Int32.toNatClampNeg 0) 0) (Int32.toNatClampNeg 1) 0)) 51 (vp_updL (vp_updL (vp_updL (G 51) (Int32.toNatClampNeg 0) 0) (Int32.toNatClampNeg 1) 0) (Int32.toNatClampNeg 2) 0)) 51 (vp_updL (vp_updL (vp_updL (vp_updL (G 51) (Int32.toNatClampNeg 0) 0) (Int32.toNatClampNeg 1) 0) (Int32.toNatClampNeg 2) 0) (Int32.toNatClampNeg 3) 0)) f_4 := hS_4q
            refine gz_iinc (v := 4) (lv' := [(2, .int 4), (0, .ref m), (1, .int x1)]) dX12_net_29 rfl (by decide) (by decide) rfl ?_
            refine gz_goto (tgt := 16) dX12_net_32 (by decide) ?_
            refine gz_iload_n dX12_net_16 rfl rfl ?_
            refine gz_bipush (v := 8) dX12_net_17 (by decide) ?_
            refine gz_icmp_ge (tgt := 35) dX12_net_19 (by decide) (fun c_19_4 => ?_) (fun c_19_4 => ?_)
            · exact absurd c_19_4 (by decide)
            ·
              try simp only [mIn_0, lgc_lt, lgc_gt, lgc_le, lgc_ge, lgc_eq] at c_19_4
              try simp only [fl_lt, fl_le, fl_eq, fL_w, fL_lt, fL_le, tm1, tm10k, tm9, tm99, Int32.reduceToInt, Int64.reduceToInt, Int.not_lt, Int.not_le] at c_19_4
              refine gz_aload_n dX12_net_22 rfl rfl ?_
              refine mg_145 hS_4 dX12_net_23 ?_
              refine gz_iload_n dX12_net_26 rfl rfl ?_
              refine gz_lconst (v := 0) dX12_net_27 (by decide) ?_
              refine m_last 51 hS_4 rfl (N := 8) rfl (vin_T (v := 4) rfl (by decide) (by decide)) dX12_net_28 (fun f_5 hS_5q => ?_)
              have hS_5 : mS cy m a f0 n z F (va_up (va_up (va_up (va_up (va_up G 51 (vp_updL (G 51) (Int32.toNatClampNeg 0) 0)) 51 (vp_updL (vp_updL (G 51) (Int32.toNatClampNeg 0) 0) (Int32.toNatClampNeg 1) 0)) 51 (vp_updL (vp_updL (vp_updL (G 51) (Int32.toNatClampNeg 0) 0) (Int32.toNatClampNeg 1) 0) (Int32.toNatClampNeg 2) 0)) 51 (vp_updL (vp_updL (vp_updL (vp_updL (G 51) (Int32.toNatClampNeg 0) 0) (Int32.toNatClampNeg 1) 0) (Int32.toNatClampNeg 2) 0) (Int32.toNatClampNeg 3) 0)) 51 (vp_updL (vp_updL (vp_updL (vp_updL (vp_updL (G 51) (Int32.toNatClampNeg 0) 0) (Int32.toNatClampNeg 1) 0) (Int32.toNatClampNeg 2) 0) (Int32.toNatClampNeg 3) 0) (Int32.toNatClampNeg 4) 0)) f_5 := hS_5q
              refine gz_iinc (v := 5) (lv' := [(2, .int 5), (0, .ref m), (1, .int x1)]) dX12_net_29 rfl (by decide) (by decide) rfl ?_
              refine gz_goto (tgt := 16) dX12_net_32 (by decide) ?_
              refine gz_iload_n dX12_net_16 rfl rfl ?_
              refine gz_bipush (v := 8) dX12_net_17 (by decide) ?_
              refine gz_icmp_ge (tgt := 35) dX12_net_19 (by decide) (fun c_19_5 => ?_) (fun c_19_5 => ?_)
              · exact absurd c_19_5 (by decide)
              ·
                try simp only [mIn_0, lgc_lt, lgc_gt, lgc_le, lgc_ge, lgc_eq] at c_19_5
                try simp only [fl_lt, fl_le, fl_eq, fL_w, fL_lt, fL_le, tm1, tm10k, tm9, tm99, Int32.reduceToInt, Int64.reduceToInt, Int.not_lt, Int.not_le] at c_19_5
                refine gz_aload_n dX12_net_22 rfl rfl ?_
                refine mg_145 hS_5 dX12_net_23 ?_
                refine gz_iload_n dX12_net_26 rfl rfl ?_
                refine gz_lconst (v := 0) dX12_net_27 (by decide) ?_
                refine m_last 51 hS_5 rfl (N := 8) rfl (vin_T (v := 5) rfl (by decide) (by decide)) dX12_net_28 (fun f_6 hS_6q => ?_)
                have hS_6 : mS cy m a f0 n z F (va_up (va_up (va_up (va_up (va_up (va_up G 51 (vp_updL (G 51) (Int32.toNatClampNeg 0) 0)) 51 (vp_updL (vp_updL (G 51) (Int32.toNatClampNeg 0) 0) (Int32.toNatClampNeg 1) 0)) 51 (vp_updL (vp_updL (vp_updL (G 51) (Int32.toNatClampNeg 0) 0) (Int32.toNatClampNeg 1) 0) (Int32.toNatClampNeg 2) 0)) 51 (vp_updL (vp_updL (vp_updL (vp_updL (G 51) (Int32.toNatClampNeg 0) 0) (Int32.toNatClampNeg 1) 0) (Int32.toNatClampNeg 2) 0) (Int32.toNatClampNeg 3) 0)) 51 (vp_updL (vp_updL (vp_updL (vp_updL (vp_updL (G 51) (Int32.toNatClampNeg 0) 0) (Int32.toNatClampNeg 1) 0) (Int32.toNatClampNeg 2) 0) (Int32.toNatClampNeg 3) 0) (Int32.toNatClampNeg 4) 0)) 51 (vp_updL (vp_updL (vp_updL (vp_updL (vp_updL (vp_updL (G 51) (Int32.toNatClampNeg 0) 0) (Int32.toNatClampNeg 1) 0) (Int32.toNatClampNeg 2) 0) (Int32.toNatClampNeg 3) 0) (Int32.toNatClampNeg 4) 0) (Int32.toNatClampNeg 5) 0)) f_6 := hS_6q
                refine gz_iinc (v := 6) (lv' := [(2, .int 6), (0, .ref m), (1, .int x1)]) dX12_net_29 rfl (by decide) (by decide) rfl ?_
                refine gz_goto (tgt := 16) dX12_net_32 (by decide) ?_
                refine gz_iload_n dX12_net_16 rfl rfl ?_
                refine gz_bipush (v := 8) dX12_net_17 (by decide) ?_
                refine gz_icmp_ge (tgt := 35) dX12_net_19 (by decide) (fun c_19_6 => ?_) (fun c_19_6 => ?_)
                · exact absurd c_19_6 (by decide)
                ·
                  try simp only [mIn_0, lgc_lt, lgc_gt, lgc_le, lgc_ge, lgc_eq] at c_19_6
                  try simp only [fl_lt, fl_le, fl_eq, fL_w, fL_lt, fL_le, tm1, tm10k, tm9, tm99, Int32.reduceToInt, Int64.reduceToInt, Int.not_lt, Int.not_le] at c_19_6
                  refine gz_aload_n dX12_net_22 rfl rfl ?_
                  refine mg_145 hS_6 dX12_net_23 ?_
                  refine gz_iload_n dX12_net_26 rfl rfl ?_
                  refine gz_lconst (v := 0) dX12_net_27 (by decide) ?_
                  refine m_last 51 hS_6 rfl (N := 8) rfl (vin_T (v := 6) rfl (by decide) (by decide)) dX12_net_28 (fun f_7 hS_7q => ?_)
                  have hS_7 : mS cy m a f0 n z F (va_up (va_up (va_up (va_up (va_up (va_up (va_up G 51 (vp_updL (G 51) (Int32.toNatClampNeg 0) 0)) 51 (vp_updL (vp_updL (G 51) (Int32.toNatClampNeg 0) 0) (Int32.toNatClampNeg 1) 0)) 51 (vp_updL (vp_updL (vp_updL (G 51) (Int32.toNatClampNeg 0) 0) (Int32.toNatClampNeg 1) 0) (Int32.toNatClampNeg 2) 0)) 51 (vp_updL (vp_updL (vp_updL (vp_updL (G 51) (Int32.toNatClampNeg 0) 0) (Int32.toNatClampNeg 1) 0) (Int32.toNatClampNeg 2) 0) (Int32.toNatClampNeg 3) 0)) 51 (vp_updL (vp_updL (vp_updL (vp_updL (vp_updL (G 51) (Int32.toNatClampNeg 0) 0) (Int32.toNatClampNeg 1) 0) (Int32.toNatClampNeg 2) 0) (Int32.toNatClampNeg 3) 0) (Int32.toNatClampNeg 4) 0)) 51 (vp_updL (vp_updL (vp_updL (vp_updL (vp_updL (vp_updL (G 51) (Int32.toNatClampNeg 0) 0) (Int32.toNatClampNeg 1) 0) (Int32.toNatClampNeg 2) 0) (Int32.toNatClampNeg 3) 0) (Int32.toNatClampNeg 4) 0) (Int32.toNatClampNeg 5) 0)) 51 (vp_updL (vp_updL (vp_updL (vp_updL (vp_updL (vp_updL (vp_updL (G 51) (Int32.toNatClampNeg 0) 0) (Int32.toNatClampNeg 1) 0) (Int32.toNatClampNeg 2) 0) (Int32.toNatClampNeg 3) 0) (Int32.toNatClampNeg 4) 0) (Int32.toNatClampNeg 5) 0) (Int32.toNatClampNeg 6) 0)) f_7 := hS_7q
                  refine gz_iinc (v := 7) (lv' := [(2, .int 7), (0, .ref m), (1, .int x1)]) dX12_net_29 rfl (by decide) (by decide) rfl ?_
                  refine gz_goto (tgt := 16) dX12_net_32 (by decide) ?_
                  refine gz_iload_n dX12_net_16 rfl rfl ?_
                  refine gz_bipush (v := 8) dX12_net_17 (by decide) ?_
                  refine gz_icmp_ge (tgt := 35) dX12_net_19 (by decide) (fun c_19_7 => ?_) (fun c_19_7 => ?_)
                  · exact absurd c_19_7 (by decide)
                  ·
                    try simp only [mIn_0, lgc_lt, lgc_gt, lgc_le, lgc_ge, lgc_eq] at c_19_7
                    try simp only [fl_lt, fl_le, fl_eq, fL_w, fL_lt, fL_le, tm1, tm10k, tm9, tm99, Int32.reduceToInt, Int64.reduceToInt, Int.not_lt, Int.not_le] at c_19_7
                    refine gz_aload_n dX12_net_22 rfl rfl ?_
                    refine mg_145 hS_7 dX12_net_23 ?_
                    refine gz_iload_n dX12_net_26 rfl rfl ?_
                    refine gz_lconst (v := 0) dX12_net_27 (by decide) ?_
                    refine m_last 51 hS_7 rfl (N := 8) rfl (vin_T (v := 7) rfl (by decide) (by decide)) dX12_net_28 (fun f_8 hS_8q => ?_)
                    have hS_8 : mS cy m a f0 n z F (va_up (va_up (va_up (va_up (va_up (va_up (va_up (va_up G 51 (vp_updL (G 51) (Int32.toNatClampNeg 0) 0)) 51 (vp_updL (vp_updL (G 51) (Int32.toNatClampNeg 0) 0) (Int32.toNatClampNeg 1) 0)) 51 (vp_updL (vp_updL (vp_updL (G 51) (Int32.toNatClampNeg 0) 0) (Int32.toNatClampNeg 1) 0) (Int32.toNatClampNeg 2) 0)) 51 (vp_updL (vp_updL (vp_updL (vp_updL (G 51) (Int32.toNatClampNeg 0) 0) (Int32.toNatClampNeg 1) 0) (Int32.toNatClampNeg 2) 0) (Int32.toNatClampNeg 3) 0)) 51 (vp_updL (vp_updL (vp_updL (vp_updL (vp_updL (G 51) (Int32.toNatClampNeg 0) 0) (Int32.toNatClampNeg 1) 0) (Int32.toNatClampNeg 2) 0) (Int32.toNatClampNeg 3) 0) (Int32.toNatClampNeg 4) 0)) 51 (vp_updL (vp_updL (vp_updL (vp_updL (vp_updL (vp_updL (G 51) (Int32.toNatClampNeg 0) 0) (Int32.toNatClampNeg 1) 0) (Int32.toNatClampNeg 2) 0) (Int32.toNatClampNeg 3) 0) (Int32.toNatClampNeg 4) 0) (Int32.toNatClampNeg 5) 0)) 51 (vp_updL (vp_updL (vp_updL (vp_updL (vp_updL (vp_updL (vp_updL (G 51) (Int32.toNatClampNeg 0) 0) (Int32.toNatClampNeg 1) 0) (Int32.toNatClampNeg 2) 0) (Int32.toNatClampNeg 3) 0) (Int32.toNatClampNeg 4) 0) (Int32.toNatClampNeg 5) 0) (Int32.toNatClampNeg 6) 0)) 51 (vp_updL (vp_updL (vp_updL (vp_updL (vp_updL (vp_updL (vp_updL (vp_updL (G 51) (Int32.toNatClampNeg 0) 0) (Int32.toNatClampNeg 1) 0) (Int32.toNatClampNeg 2) 0) (Int32.toNatClampNeg 3) 0) (Int32.toNatClampNeg 4) 0) (Int32.toNatClampNeg 5) 0) (Int32.toNatClampNeg 6) 0) (Int32.toNatClampNeg 7) 0)) f_8 := hS_8q
                    refine gz_iinc (v := 8) (lv' := [(2, .int 8), (0, .ref m), (1, .int x1)]) dX12_net_29 rfl (by decide) (by decide) rfl ?_
                    refine gz_goto (tgt := 16) dX12_net_32 (by decide) ?_
                    refine gz_iload_n dX12_net_16 rfl rfl ?_
                    refine gz_bipush (v := 8) dX12_net_17 (by decide) ?_
                    refine gz_icmp_ge (tgt := 35) dX12_net_19 (by decide) (fun c_19_8 => ?_) (fun c_19_8 => ?_)
                    ·
                      try simp only [mIn_0, lgc_lt, lgc_gt, lgc_le, lgc_ge, lgc_eq] at c_19_8
                      try simp only [fl_lt, fl_le, fl_eq, fL_w, fL_lt, fL_le, tm1, tm10k, tm9, tm99, Int32.reduceToInt, Int64.reduceToInt, Int.not_lt, Int.not_le] at c_19_8
                      refine gz_iconst (v := 0) dX12_net_35 (by decide) ?_
                      refine gz_istore_n (lv' := [(2, .int 0), (0, .ref m), (1, .int x1)]) dX12_net_36 rfl (by decide) rfl ?_
                      refine gz_sub (lv' := [(2, .int 0), (0, .ref m), (1, .int x1)]) (by simp [List.lookup]) ?_
                      exact l_X12_net1 2001 0 _ _ _ _ _ hS_8 (fx_G (fx_G (fx_G (fx_G (fx_G (fx_G (fx_G (fx_G fx_rf (by decide)) (by decide)) (by decide)) (by decide)) (by decide)) (by decide)) (by decide)) (by decide)) hR ⟨by decide, by decide, by decide⟩
                    · exact absurd c_19_8 (by decide)
  ·
    try simp only [mIn_0, lgc_lt, lgc_gt, lgc_le, lgc_ge, lgc_eq] at c_9
    try simp only [fl_lt, fl_le, fl_eq, fL_w, fL_lt, fL_le, tm1, tm10k, tm9, tm99, Int32.reduceToInt, Int64.reduceToInt, Int.not_lt, Int.not_le] at c_9
    refine gz_iconst (v := (-1)) dX12_net_12 (by decide) ?_
    exact gz_iret rfl dX12_net_13 (Nat.le_of_ble_eq_true rfl) (Nat.le_of_ble_eq_true rfl) (⟨_, rfl, _, _, _, _, hS, fx_rf, hR⟩)
