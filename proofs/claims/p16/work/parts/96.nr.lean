set_option maxHeartbeats 4000000 in
set_option maxRecDepth 100000 in
theorem lw_case_0 {l : Launch} {D : va_G} {cy : Nat → ClassId} {b bs L x m t cells slots : Nat} {a : Nat → Nat} {xs : Nat → Int32} {nm : String} {i : Int32} {f : gMem} (hL : L ≤ 3072) (hi : i.toInt = 6 * (t : Int) ∧ 6 * t + 6 ≤ L) (hI0 : lwI cy x m a t cells slots f) (hq : ∀ (cells2 slots2 : Nat) (f2 : gMem), lwI cy x m a (t + 1) cells2 slots2 f2 → gG l room_1 lwQf (lwEx bs L b xs) D cy b code 4 ret RL nm cells2 slots2 f2 1084 [(3, .int i), (2, .ref m), (1, .ref x), (0, .ref bs)] []) : gG l room_1 lwQf (lwEx bs L b xs) D cy b code 4 ret RL nm cells slots f 160 [(3, .int i), (2, .ref m), (1, .ref x), (0, .ref bs)] [] := by
  have hrm0 := lwI_room hI0 (by omega)
  obtain ⟨own, da, fcn, csz, sz, len, ln, wz, lo, tg, weg, stg, tpg, CN, eg, thg, LN, ne, n, z, F, G, hI, hS, hR, hN, ⟨hda, hwz, hln, hfc, htp, hrB, hnm, hco⟩, h0, ha, hcc, hss⟩ := hI0
  obtain ⟨Tf, W, hcv⟩ := id hco
  obtain ⟨hcw, hLX, hRL, htd, htn, hsn⟩ := id hcv
  have hdaR : 0 ≤ da.toInt ∧ da.toInt ≤ 399 := by rw [hda]; exact hR.1
  have hco1 := hcw.2.2.2.2
  have hco2 := hLX
  have hsn2 : sCn (sNow (n 0) (F 2)) da thg := by rw [← hda]; exact hsn
  have hok5 : okW (n 5).toInt Tf W := by rw [← hfc]; exact hcw.2.2.2.1
  have hLX5 : ∀ f : Nat, (f : Int) < (n 5).toInt → LX F f (Tf f) := by rw [← hfc]; exact hLX
  have hne := xI_ne hI
  obtain ⟨fs, hfx⟩ := xI_x hI
  have hv1 : vp_in (i + 1) L := vin_T (T_add hi.1 (show (1 : Int32).toInt = 1 from rfl) (by omega)) (by omega) (by omega)
  have hv2 : vp_in (i + 2) L := vin_T (T_add hi.1 (show (2 : Int32).toInt = 2 from rfl) (by omega)) (by omega) (by omega)
  have hv3 : vp_in (i + 3) L := vin_T (T_add hi.1 (show (3 : Int32).toInt = 3 from rfl) (by omega)) (by omega) (by omega)
  refine gz_aload_n dL_law_160 rfl rfl ?_
  refine gz_aload_n dL_law_161 rfl rfl ?_
  refine gz_iload_n dL_law_162 rfl rfl ?_
  refine gz_iconst (v := 1) dL_law_163 (by decide) ?_
  refine gz_iadd dL_law_164 ?_
  refine lz_sld hv1 dL_law_165 ?_
  refine gz_aload_n dL_law_166 rfl rfl ?_
  refine gz_iload_n dL_law_167 rfl rfl ?_
  refine gz_iconst (v := 2) dL_law_168 (by decide) ?_
  refine gz_iadd dL_law_169 ?_
  refine lz_sld hv2 dL_law_170 ?_
  refine gz_aload_n dL_law_171 rfl rfl ?_
  refine gz_iload_n dL_law_172 rfl rfl ?_
  refine gz_iconst (v := 3) dL_law_173 (by decide) ?_
  refine gz_iadd dL_law_174 ?_
  refine lz_sld hv3 dL_law_175 ?_
  refine scL_13 (i_X11_see (x := (xs (Int32.toNatClampNeg (i + 1)))) (y := (xs (Int32.toNatClampNeg (i + 2)))) (u := (xs (Int32.toNatClampNeg (i + 3)))) hI) hfx ⟨(Nat.le_of_ble_eq_true rfl), (Nat.le_of_ble_eq_true rfl)⟩ ⟨(show cells + 0 ≤ 600000 by omega), (show slots + 0 ≤ 7302250 by omega)⟩ rfl rfl (Nat.le_of_ble_eq_true rfl) dL_law_176 ?_
  rintro v9 f9 ⟨hr9, tg9, thg9, hI9, hk9, ht9, hth9⟩
  obtain ⟨hS9, h09, ha9⟩ := mS_kp hS h0 ha hk9
  refine gz_pop dL_law_179 rfl ?_
  refine gz_aload_n dL_law_180 rfl rfl ?_
  refine gz_aload_n dL_law_181 rfl rfl ?_
  refine gz_iload_n dL_law_182 rfl rfl ?_
  refine gz_iconst (v := 1) dL_law_183 (by decide) ?_
  refine gz_iadd dL_law_184 ?_
  refine lz_sld hv1 dL_law_185 ?_
  refine gz_aload_n dL_law_186 rfl rfl ?_
  refine gz_iload_n dL_law_187 rfl rfl ?_
  refine gz_iconst (v := 2) dL_law_188 (by decide) ?_
  refine gz_iadd dL_law_189 ?_
  refine lz_sld hv2 dL_law_190 ?_
  refine gz_aload_n dL_law_191 rfl rfl ?_
  refine gz_iload_n dL_law_192 rfl rfl ?_
  refine gz_iconst (v := 3) dL_law_193 (by decide) ?_
  refine gz_iadd dL_law_194 ?_
  refine lz_sld hv3 dL_law_195 ?_
  refine scL_17 (k_X12_seeT (x := (xs (Int32.toNatClampNeg (i + 1)))) (y := (xs (Int32.toNatClampNeg (i + 2)))) (u := (xs (Int32.toNatClampNeg (i + 3)))) hS9 hR.1) hS9.1 ⟨(Nat.le_of_ble_eq_true rfl), (Nat.le_of_ble_eq_true rfl)⟩ ⟨(show cells + 0 + 0 ≤ 600000 by omega), (show slots + 0 + 0 ≤ 7302250 by omega)⟩ rfl rfl (Nat.le_of_ble_eq_true rfl) dL_law_196 ?_
  rintro v8 f8 ⟨n8, z8, F8, G8, hS8, hx8, hr8, hF8⟩
  have hR8 := RI_fx hR hx8 (by decide) (by decide)
  have hN8 := NR_fx hN hx8 (by decide)
  have hI8 := xI_mS hI9 hS8 h09 ha9
  have qs := see_L (x := (xs (Int32.toNatClampNeg (i + 1)))) (y := (xs (Int32.toNatClampNeg (i + 2)))) (u := (xs (Int32.toNatClampNeg (i + 3)))) htd hdaR htn hsn
  have qco : ∃ (Tf : Nat → List Hd) (W : Lw), coV Tf W da fcn csz sz lo tg9 eg thg9 CN LN n8 F8 G8 := ⟨Tf, W, (⟨hcw, (fun f9 hf9 => LX_cg (fun r9 h1 h2 => hx8.2.2.1 r9 (fun h => by simp only [List.mem_cons, List.not_mem_nil, or_false] at h <;> omega)) (hLX f9 hf9)), RLs_cg hRL (fun k9 hk9 => hx8.1 k9 (by revert hk9; revert k9; decide)) (fun k9 hk9 => hx8.2.2.1 k9 (by revert hk9; revert k9; decide)) (fun k9 hk9 => hx8.2.2.2 k9 (by revert hk9; revert k9; decide)), (by rw [ht9, hF8, ← hda]; exact td_see htd hdaR), (by rw [hF8, ← hda]; exact qs.1), (by rw [hth9, hF8, ← hda]; exact qs.2)⟩ : coV Tf W da fcn csz sz lo tg9 eg thg9 CN LN n8 F8 G8)⟩
  refine gz_pop dL_law_199 rfl ?_
  refine gz_goto (tgt := 1084) dL_law_200 (by decide) ?_
  exact hq (cells + 0 + 0) (slots + 0 + 0) _ ⟨own, da, fcn, csz, sz, len, ln, wz, lo, tg9, weg, stg, tpg, CN, eg, thg9, LN, ne, n8, z8, F8, G8, hI8, mS_rf hS8, hR8, hN8, ⟨(by rw [hx8.1 0 (by decide)]; exact hda), (by rw [hx8.1 53 (by decide)]; exact hwz), (by rw [hx8.1 4 (by decide)]; exact hln), (by rw [hx8.1 5 (by decide)]; exact hfc), (by rw [hx8.1 4 (by decide), hx8.2.2.1 3 (by decide)]; exact htp), (rB_cg (hx8.2.2.1 3 (by decide)) hrB), (nmG_cg (hx8.2.2.2 27 (by decide)) hnm), qco⟩, h09, ha9, (by omega), (by omega)⟩

set_option maxHeartbeats 4000000 in
set_option maxRecDepth 100000 in
theorem lw_case_1 {l : Launch} {D : va_G} {cy : Nat → ClassId} {b bs L x m t cells slots : Nat} {a : Nat → Nat} {xs : Nat → Int32} {nm : String} {i : Int32} {f : gMem} (hL : L ≤ 3072) (hi : i.toInt = 6 * (t : Int) ∧ 6 * t + 6 ≤ L) (hI0 : lwI cy x m a t cells slots f) (hq : ∀ (cells2 slots2 : Nat) (f2 : gMem), lwI cy x m a (t + 1) cells2 slots2 f2 → gG l room_1 lwQf (lwEx bs L b xs) D cy b code 4 ret RL nm cells2 slots2 f2 1084 [(3, .int i), (2, .ref m), (1, .ref x), (0, .ref bs)] []) : gG l room_1 lwQf (lwEx bs L b xs) D cy b code 4 ret RL nm cells slots f 203 [(3, .int i), (2, .ref m), (1, .ref x), (0, .ref bs)] [] := by
  have hrm0 := lwI_room hI0 (by omega)
  obtain ⟨own, da, fcn, csz, sz, len, ln, wz, lo, tg, weg, stg, tpg, CN, eg, thg, LN, ne, n, z, F, G, hI, hS, hR, hN, ⟨hda, hwz, hln, hfc, htp, hrB, hnm, hco⟩, h0, ha, hcc, hss⟩ := hI0
  obtain ⟨Tf, W, hcv⟩ := id hco
  obtain ⟨hcw, hLX, hRL, htd, htn, hsn⟩ := id hcv
  have hdaR : 0 ≤ da.toInt ∧ da.toInt ≤ 399 := by rw [hda]; exact hR.1
  have hco1 := hcw.2.2.2.2
  have hco2 := hLX
  have hsn2 : sCn (sNow (n 0) (F 2)) da thg := by rw [← hda]; exact hsn
  have hok5 : okW (n 5).toInt Tf W := by rw [← hfc]; exact hcw.2.2.2.1
  have hLX5 : ∀ f : Nat, (f : Int) < (n 5).toInt → LX F f (Tf f) := by rw [← hfc]; exact hLX
  have hne := xI_ne hI
  obtain ⟨fs, hfx⟩ := xI_x hI
  have hv1 : vp_in (i + 1) L := vin_T (T_add hi.1 (show (1 : Int32).toInt = 1 from rfl) (by omega)) (by omega) (by omega)
  have hv2 : vp_in (i + 2) L := vin_T (T_add hi.1 (show (2 : Int32).toInt = 2 from rfl) (by omega)) (by omega) (by omega)
  refine gz_aload_n dL_law_203 rfl rfl ?_
  refine gz_aload_n dL_law_204 rfl rfl ?_
  refine gz_iload_n dL_law_205 rfl rfl ?_
  refine gz_iconst (v := 1) dL_law_206 (by decide) ?_
  refine gz_iadd dL_law_207 ?_
  refine lz_sld hv1 dL_law_208 ?_
  refine gz_aload_n dL_law_209 rfl rfl ?_
  refine gz_iload_n dL_law_210 rfl rfl ?_
  refine gz_iconst (v := 2) dL_law_211 (by decide) ?_
  refine gz_iadd dL_law_212 ?_
  refine lz_sld hv2 dL_law_213 ?_
  refine scL_18 (i_X11_seen (x := (xs (Int32.toNatClampNeg (i + 1)))) (y := (xs (Int32.toNatClampNeg (i + 2)))) hI) hfx ⟨(Nat.le_of_ble_eq_true rfl), (Nat.le_of_ble_eq_true rfl)⟩ ⟨(show cells + 0 ≤ 600000 by omega), (show slots + 0 ≤ 7302250 by omega)⟩ rfl rfl (Nat.le_of_ble_eq_true rfl) dL_law_214 ?_
  rintro v9 f9 ⟨hr9, hI9, hk9⟩
  obtain ⟨hS9, h09, ha9⟩ := mS_kp hS h0 ha hk9
  refine gz_pop dL_law_217 rfl ?_
  refine gz_aload_n dL_law_218 rfl rfl ?_
  refine gz_aload_n dL_law_219 rfl rfl ?_
  refine gz_iload_n dL_law_220 rfl rfl ?_
  refine gz_iconst (v := 1) dL_law_221 (by decide) ?_
  refine gz_iadd dL_law_222 ?_
  refine lz_sld hv1 dL_law_223 ?_
  refine gz_aload_n dL_law_224 rfl rfl ?_
  refine gz_iload_n dL_law_225 rfl rfl ?_
  refine gz_iconst (v := 2) dL_law_226 (by decide) ?_
  refine gz_iadd dL_law_227 ?_
  refine lz_sld hv2 dL_law_228 ?_
  refine scL_22 (k_X12_seen (x := (xs (Int32.toNatClampNeg (i + 1)))) (y := (xs (Int32.toNatClampNeg (i + 2)))) hS9 ) hS9.1 ⟨(Nat.le_of_ble_eq_true rfl), (Nat.le_of_ble_eq_true rfl)⟩ ⟨(show cells + 0 + 0 ≤ 600000 by omega), (show slots + 0 + 0 ≤ 7302250 by omega)⟩ rfl rfl (Nat.le_of_ble_eq_true rfl) dL_law_229 ?_
  rintro v8 f8 ⟨-, e8⟩
  rw [e8]
  refine gz_pop dL_law_232 rfl ?_
  refine gz_goto (tgt := 1084) dL_law_233 (by decide) ?_
  exact hq (cells + 0 + 0) (slots + 0 + 0) _ ⟨own, da, fcn, csz, sz, len, ln, wz, lo, tg, weg, stg, tpg, CN, eg, thg, LN, ne, n, z, F, G, hI9, hS9, hR, hN, ⟨hda, hwz, hln, hfc, htp, hrB, hnm, hco⟩, h09, ha9, (by omega), (by omega)⟩

set_option maxHeartbeats 4000000 in
set_option maxRecDepth 100000 in
theorem lw_case_2 {l : Launch} {D : va_G} {cy : Nat → ClassId} {b bs L x m t cells slots : Nat} {a : Nat → Nat} {xs : Nat → Int32} {nm : String} {i : Int32} {f : gMem} (hL : L ≤ 3072) (hi : i.toInt = 6 * (t : Int) ∧ 6 * t + 6 ≤ L) (hI0 : lwI cy x m a t cells slots f) (hq : ∀ (cells2 slots2 : Nat) (f2 : gMem), lwI cy x m a (t + 1) cells2 slots2 f2 → gG l room_1 lwQf (lwEx bs L b xs) D cy b code 4 ret RL nm cells2 slots2 f2 1084 [(3, .int i), (2, .ref m), (1, .ref x), (0, .ref bs)] []) : gG l room_1 lwQf (lwEx bs L b xs) D cy b code 4 ret RL nm cells slots f 236 [(3, .int i), (2, .ref m), (1, .ref x), (0, .ref bs)] [] := by
  have hrm0 := lwI_room hI0 (by omega)
  obtain ⟨own, da, fcn, csz, sz, len, ln, wz, lo, tg, weg, stg, tpg, CN, eg, thg, LN, ne, n, z, F, G, hI, hS, hR, hN, ⟨hda, hwz, hln, hfc, htp, hrB, hnm, hco⟩, h0, ha, hcc, hss⟩ := hI0
  obtain ⟨Tf, W, hcv⟩ := id hco
  obtain ⟨hcw, hLX, hRL, htd, htn, hsn⟩ := id hcv
  have hdaR : 0 ≤ da.toInt ∧ da.toInt ≤ 399 := by rw [hda]; exact hR.1
  have hco1 := hcw.2.2.2.2
  have hco2 := hLX
  have hsn2 : sCn (sNow (n 0) (F 2)) da thg := by rw [← hda]; exact hsn
  have hok5 : okW (n 5).toInt Tf W := by rw [← hfc]; exact hcw.2.2.2.1
  have hLX5 : ∀ f : Nat, (f : Int) < (n 5).toInt → LX F f (Tf f) := by rw [← hfc]; exact hLX
  have hne := xI_ne hI
  obtain ⟨fs, hfx⟩ := xI_x hI
  have hv1 : vp_in (i + 1) L := vin_T (T_add hi.1 (show (1 : Int32).toInt = 1 from rfl) (by omega)) (by omega) (by omega)
  have hv2 : vp_in (i + 2) L := vin_T (T_add hi.1 (show (2 : Int32).toInt = 2 from rfl) (by omega)) (by omega) (by omega)
  have hv3 : vp_in (i + 3) L := vin_T (T_add hi.1 (show (3 : Int32).toInt = 3 from rfl) (by omega)) (by omega) (by omega)
  have hv4 : vp_in (i + 4) L := vin_T (T_add hi.1 (show (4 : Int32).toInt = 4 from rfl) (by omega)) (by omega) (by omega)
  have hv5 : vp_in (i + 5) L := vin_T (T_add hi.1 (show (5 : Int32).toInt = 5 from rfl) (by omega)) (by omega) (by omega)
  refine gz_aload_n dL_law_236 rfl rfl ?_
  refine gz_aload_n dL_law_237 rfl rfl ?_
  refine gz_iload_n dL_law_238 rfl rfl ?_
  refine gz_iconst (v := 1) dL_law_239 (by decide) ?_
  refine gz_iadd dL_law_240 ?_
  refine lz_sld hv1 dL_law_241 ?_
  refine gz_aload_n dL_law_242 rfl rfl ?_
  refine gz_iload_n dL_law_243 rfl rfl ?_
  refine gz_iconst (v := 2) dL_law_244 (by decide) ?_
  refine gz_iadd dL_law_245 ?_
  refine lz_sld hv2 dL_law_246 ?_
  refine gz_aload_n dL_law_247 rfl rfl ?_
  refine gz_iload_n dL_law_248 rfl rfl ?_
  refine gz_iconst (v := 3) dL_law_249 (by decide) ?_
  refine gz_iadd dL_law_250 ?_
  refine lz_sld hv3 dL_law_251 ?_
  refine gz_aload_n dL_law_252 rfl rfl ?_
  refine gz_iload_n dL_law_253 rfl rfl ?_
  refine gz_iconst (v := 4) dL_law_254 (by decide) ?_
  refine gz_iadd dL_law_255 ?_
  refine lz_sld hv4 dL_law_256 ?_
  refine gz_aload_n dL_law_257 rfl rfl ?_
  refine gz_iload_n dL_law_258 rfl rfl ?_
  refine gz_iconst (v := 5) dL_law_259 (by decide) ?_
  refine gz_iadd dL_law_260 ?_
  refine lz_sld hv5 dL_law_261 ?_
  refine scL_23 (i_X11_feedT (a1 := (xs (Int32.toNatClampNeg (i + 1)))) (a2 := (xs (Int32.toNatClampNeg (i + 2)))) (a3 := (xs (Int32.toNatClampNeg (i + 3)))) (a4 := (xs (Int32.toNatClampNeg (i + 4)))) (a5 := (xs (Int32.toNatClampNeg (i + 5)))) hI) hfx ⟨(Nat.le_of_ble_eq_true rfl), (Nat.le_of_ble_eq_true rfl)⟩ ⟨(show cells + 0 ≤ 600000 by omega), (show slots + 0 ≤ 7302250 by omega)⟩ rfl rfl (Nat.le_of_ble_eq_true rfl) dL_law_262 ?_
  rintro v9 f9 ⟨hr9, hI9, hk9⟩
  obtain ⟨hS9, h09, ha9⟩ := mS_kp hS h0 ha hk9
  refine gz_pop dL_law_265 rfl ?_
  refine gz_aload_n dL_law_266 rfl rfl ?_
  refine gz_aload_n dL_law_267 rfl rfl ?_
  refine gz_iload_n dL_law_268 rfl rfl ?_
  refine gz_iconst (v := 1) dL_law_269 (by decide) ?_
  refine gz_iadd dL_law_270 ?_
  refine lz_sld hv1 dL_law_271 ?_
  refine gz_aload_n dL_law_272 rfl rfl ?_
  refine gz_iload_n dL_law_273 rfl rfl ?_
  refine gz_iconst (v := 2) dL_law_274 (by decide) ?_
  refine gz_iadd dL_law_275 ?_
  refine lz_sld hv2 dL_law_276 ?_
  refine gz_aload_n dL_law_277 rfl rfl ?_
  refine gz_iload_n dL_law_278 rfl rfl ?_
  refine gz_iconst (v := 3) dL_law_279 (by decide) ?_
  refine gz_iadd dL_law_280 ?_
  refine lz_sld hv3 dL_law_281 ?_
  refine gz_aload_n dL_law_282 rfl rfl ?_
  refine gz_iload_n dL_law_283 rfl rfl ?_
  refine gz_iconst (v := 4) dL_law_284 (by decide) ?_
  refine gz_iadd dL_law_285 ?_
  refine lz_sld hv4 dL_law_286 ?_
  refine gz_aload_n dL_law_287 rfl rfl ?_
  refine gz_iload_n dL_law_288 rfl rfl ?_
  refine gz_iconst (v := 5) dL_law_289 (by decide) ?_
  refine gz_iadd dL_law_290 ?_
  refine lz_sld hv5 dL_law_291 ?_
  refine scL_27 (k_X12_feedE (x1 := (xs (Int32.toNatClampNeg (i + 1)))) (x2 := (xs (Int32.toNatClampNeg (i + 2)))) (x3 := (xs (Int32.toNatClampNeg (i + 3)))) (x4 := (xs (Int32.toNatClampNeg (i + 4)))) (x5 := (xs (Int32.toNatClampNeg (i + 5)))) hS9 hR.2.1) hS9.1 ⟨(Nat.le_of_ble_eq_true rfl), (Nat.le_of_ble_eq_true rfl)⟩ ⟨(show cells + 0 + 0 ≤ 600000 by omega), (show slots + 0 + 0 ≤ 7302250 by omega)⟩ rfl rfl (Nat.le_of_ble_eq_true rfl) dL_law_292 ?_
  rintro v8 f8 ⟨n8, z8, F8, G8, hS8, hx8, h48, hfe8⟩
  have hR8 := RI_x4 hR hx8 h48 (by decide)
  have hN8 := NR_fx hN hx8 (by decide)
  have hI8 := xI_mS hI9 hS8 h09 ha9
  obtain ⟨qr, ql, qt⟩ := feed_cp hR.2.1 htp hfe8
  rw [← hln] at qr ql qt
  have qB := feed_rB hrB hfe8
  have qco : ∃ (Tf : Nat → List Hd) (W : Lw), coV Tf W da fcn csz sz lo tg eg thg CN LN n8 F8 G8 := ⟨Tf, W, coV_cg hcv (fun k9 hk9 => hx8.1 k9 (by revert hk9; revert k9; decide)) (fun k9 hk9 => hx8.2.2.1 k9 (by revert hk9; revert k9; decide)) (fun k9 hk9 => hx8.2.2.2 k9 (by revert hk9; revert k9; decide)) (fun r9 h1 h2 => hx8.2.2.1 r9 (fun h => by simp only [List.mem_cons, List.not_mem_nil, or_false] at h <;> omega))⟩
  refine gz_pop dL_law_295 rfl ?_
  refine gz_goto (tgt := 1084) dL_law_296 (by decide) ?_
  exact hq (cells + 0 + 0) (slots + 0 + 0) _ ⟨own, da, fcn, csz, sz, _, ln, wz, lo, tg, weg, stg, _, CN, eg, thg, LN, ne, n8, z8, F8, G8, hI8, mS_rf hS8, hR8, hN8, ⟨(by rw [hx8.1 0 (by decide)]; exact hda), (by rw [hx8.1 53 (by decide)]; exact hwz), ql, (by rw [hx8.1 5 (by decide)]; exact hfc), qt, qB, (nmG_cg (hx8.2.2.2 27 (by decide)) hnm), qco⟩, h09, ha9, (by omega), (by omega)⟩

set_option maxHeartbeats 4000000 in
set_option maxRecDepth 100000 in
theorem lw_case_3 {l : Launch} {D : va_G} {cy : Nat → ClassId} {b bs L x m t cells slots : Nat} {a : Nat → Nat} {xs : Nat → Int32} {nm : String} {i : Int32} {f : gMem} (hL : L ≤ 3072) (hi : i.toInt = 6 * (t : Int) ∧ 6 * t + 6 ≤ L) (hI0 : lwI cy x m a t cells slots f) (hq : ∀ (cells2 slots2 : Nat) (f2 : gMem), lwI cy x m a (t + 1) cells2 slots2 f2 → gG l room_1 lwQf (lwEx bs L b xs) D cy b code 4 ret RL nm cells2 slots2 f2 1084 [(3, .int i), (2, .ref m), (1, .ref x), (0, .ref bs)] []) : gG l room_1 lwQf (lwEx bs L b xs) D cy b code 4 ret RL nm cells slots f 299 [(3, .int i), (2, .ref m), (1, .ref x), (0, .ref bs)] [] := by
  have hrm0 := lwI_room hI0 (by omega)
  obtain ⟨own, da, fcn, csz, sz, len, ln, wz, lo, tg, weg, stg, tpg, CN, eg, thg, LN, ne, n, z, F, G, hI, hS, hR, hN, ⟨hda, hwz, hln, hfc, htp, hrB, hnm, hco⟩, h0, ha, hcc, hss⟩ := hI0
  obtain ⟨Tf, W, hcv⟩ := id hco
  obtain ⟨hcw, hLX, hRL, htd, htn, hsn⟩ := id hcv
  have hdaR : 0 ≤ da.toInt ∧ da.toInt ≤ 399 := by rw [hda]; exact hR.1
  have hco1 := hcw.2.2.2.2
  have hco2 := hLX
  have hsn2 : sCn (sNow (n 0) (F 2)) da thg := by rw [← hda]; exact hsn
  have hok5 : okW (n 5).toInt Tf W := by rw [← hfc]; exact hcw.2.2.2.1
  have hLX5 : ∀ f : Nat, (f : Int) < (n 5).toInt → LX F f (Tf f) := by rw [← hfc]; exact hLX
  have hne := xI_ne hI
  obtain ⟨fs, hfx⟩ := xI_x hI
  have hv1 : vp_in (i + 1) L := vin_T (T_add hi.1 (show (1 : Int32).toInt = 1 from rfl) (by omega)) (by omega) (by omega)
  refine gz_aload_n dL_law_299 rfl rfl ?_
  refine gz_aload_n dL_law_300 rfl rfl ?_
  refine gz_iload_n dL_law_301 rfl rfl ?_
  refine gz_iconst (v := 1) dL_law_302 (by decide) ?_
  refine gz_iadd dL_law_303 ?_
  refine lz_sld hv1 dL_law_304 ?_
  refine scL_28 (i_X11_endT (x := (xs (Int32.toNatClampNeg (i + 1)))) hI) hfx ⟨(Nat.le_of_ble_eq_true rfl), (Nat.le_of_ble_eq_true rfl)⟩ ⟨(show cells + 0 ≤ 600000 by omega), (show slots + 0 ≤ 7302250 by omega)⟩ rfl rfl (Nat.le_of_ble_eq_true rfl) dL_law_305 ?_
  rintro v9 f9 ⟨hr9, hI9, hk9⟩
  obtain ⟨hS9, h09, ha9⟩ := mS_kp hS h0 ha hk9
  refine gz_pop dL_law_308 rfl ?_
  refine gz_aload_n dL_law_309 rfl rfl ?_
  refine gz_aload_n dL_law_310 rfl rfl ?_
  refine gz_iload_n dL_law_311 rfl rfl ?_
  refine gz_iconst (v := 1) dL_law_312 (by decide) ?_
  refine gz_iadd dL_law_313 ?_
  refine lz_sld hv1 dL_law_314 ?_
  refine scL_32 (k_X12_endE (x := (xs (Int32.toNatClampNeg (i + 1)))) hS9 hR.2.1) hS9.1 ⟨(Nat.le_of_ble_eq_true rfl), (Nat.le_of_ble_eq_true rfl)⟩ ⟨(show cells + 0 + 0 ≤ 600000 by omega), (show slots + 0 + 0 ≤ 7302250 by omega)⟩ rfl rfl (Nat.le_of_ble_eq_true rfl) dL_law_315 ?_
  rintro v8 f8 ⟨n8, z8, F8, G8, hS8, hx8, h48, hr8, he8⟩
  have hR8 := RI_x4 hR hx8 h48 (by decide)
  have hN8 := NR_fx hN hx8 (by decide)
  have hI8 := xI_mS hI9 hS8 h09 ha9
  obtain ⟨qr, ql, qt⟩ := end_cp hR.2.1 htp (hx8.2.2.1 3 (by decide)) he8
  rw [← hln] at qr ql
  have qco : ∃ (Tf : Nat → List Hd) (W : Lw), coV Tf W da fcn csz sz lo tg eg thg CN LN n8 F8 G8 := ⟨Tf, W, coV_cg hcv (fun k9 hk9 => hx8.1 k9 (by revert hk9; revert k9; decide)) (fun k9 hk9 => hx8.2.2.1 k9 (by revert hk9; revert k9; decide)) (fun k9 hk9 => hx8.2.2.2 k9 (by revert hk9; revert k9; decide)) (fun r9 h1 h2 => hx8.2.2.1 r9 (fun h => by simp only [List.mem_cons, List.not_mem_nil, or_false] at h <;> omega))⟩
  refine gz_pop dL_law_318 rfl ?_
  refine gz_goto (tgt := 1084) dL_law_319 (by decide) ?_
  exact hq (cells + 0 + 0) (slots + 0 + 0) _ ⟨own, da, fcn, csz, sz, _, ln, wz, lo, tg, weg, stg, _, CN, eg, thg, LN, ne, n8, z8, F8, G8, hI8, mS_rf hS8, hR8, hN8, ⟨(by rw [hx8.1 0 (by decide)]; exact hda), (by rw [hx8.1 53 (by decide)]; exact hwz), ql, (by rw [hx8.1 5 (by decide)]; exact hfc), qt, (rB_cg (hx8.2.2.1 3 (by decide)) hrB), (nmG_cg (hx8.2.2.2 27 (by decide)) hnm), qco⟩, h09, ha9, (by omega), (by omega)⟩

set_option maxHeartbeats 4000000 in
set_option maxRecDepth 100000 in
theorem lw_case_4 {l : Launch} {D : va_G} {cy : Nat → ClassId} {b bs L x m t cells slots : Nat} {a : Nat → Nat} {xs : Nat → Int32} {nm : String} {i : Int32} {f : gMem} (hL : L ≤ 3072) (hi : i.toInt = 6 * (t : Int) ∧ 6 * t + 6 ≤ L) (hI0 : lwI cy x m a t cells slots f) (hq : ∀ (cells2 slots2 : Nat) (f2 : gMem), lwI cy x m a (t + 1) cells2 slots2 f2 → gG l room_1 lwQf (lwEx bs L b xs) D cy b code 4 ret RL nm cells2 slots2 f2 1084 [(3, .int i), (2, .ref m), (1, .ref x), (0, .ref bs)] []) : gG l room_1 lwQf (lwEx bs L b xs) D cy b code 4 ret RL nm cells slots f 322 [(3, .int i), (2, .ref m), (1, .ref x), (0, .ref bs)] [] := by
  have hrm0 := lwI_room hI0 (by omega)
  obtain ⟨own, da, fcn, csz, sz, len, ln, wz, lo, tg, weg, stg, tpg, CN, eg, thg, LN, ne, n, z, F, G, hI, hS, hR, hN, ⟨hda, hwz, hln, hfc, htp, hrB, hnm, hco⟩, h0, ha, hcc, hss⟩ := hI0
  obtain ⟨Tf, W, hcv⟩ := id hco
  obtain ⟨hcw, hLX, hRL, htd, htn, hsn⟩ := id hcv
  have hdaR : 0 ≤ da.toInt ∧ da.toInt ≤ 399 := by rw [hda]; exact hR.1
  have hco1 := hcw.2.2.2.2
  have hco2 := hLX
  have hsn2 : sCn (sNow (n 0) (F 2)) da thg := by rw [← hda]; exact hsn
  have hok5 : okW (n 5).toInt Tf W := by rw [← hfc]; exact hcw.2.2.2.1
  have hLX5 : ∀ f : Nat, (f : Int) < (n 5).toInt → LX F f (Tf f) := by rw [← hfc]; exact hLX
  have hne := xI_ne hI
  obtain ⟨fs, hfx⟩ := xI_x hI
  refine gz_aload_n dL_law_322 rfl rfl ?_
  refine scL_33 (i_X11_formC  hI (by rw [hln]; exact hR.2.1)) hfx ⟨(Nat.le_of_ble_eq_true rfl), (Nat.le_of_ble_eq_true rfl)⟩ ⟨(show cells + 3 ≤ 600000 by omega), (show slots + 604 ≤ 7302250 by omega)⟩ rfl rfl (Nat.le_of_ble_eq_true rfl) dL_law_323 ?_
  rintro v9 f9 ⟨own9, fcn9, len9, CN9, hI9, hk9, hr9, hf9, hl9, hc9⟩
  obtain ⟨hS9, h09, ha9⟩ := mS_kp hS h0 ha hk9
  refine gz_pop dL_law_326 rfl ?_
  refine gz_aload_n dL_law_327 rfl rfl ?_
  refine scL_37 (k_X12_formC  hS9 hR hN hrB hnm) hS9.1 ⟨(Nat.le_of_ble_eq_true rfl), (Nat.le_of_ble_eq_true rfl)⟩ ⟨(show cells + 3 + 0 ≤ 600000 by omega), (show slots + 604 + 0 ≤ 7302250 by omega)⟩ rfl rfl (Nat.le_of_ble_eq_true rfl) dL_law_328 ?_
  rintro v8 f8 ⟨n8, z8, F8, G8, hS8, hx8, hR8, hN8, hr8, hf8, hl8, ho3, ho8, hoa, hon⟩
  have hI8 := xI_mS hI9 hS8 h09 ha9
  rw [hln] at hr9 hf9 hl9 hc9
  obtain ⟨qr, qf, ql, qt⟩ := form_cp hR.2.2.1 htp hfc (hx8.2.2.1 3 (by decide)) hr9 hf9 hl9 hr8 hf8 hl8
  obtain ⟨Tf9, t91, t92, t93⟩ := form_coL hfc hR.2.2.1 htp hco1 hLX hf9 hc9 ho3 ho8 hoa hon hR8.2.2.2.2.1 hf8
  have qco : ∃ (Tf : Nat → List Hd) (W : Lw), coV Tf W da fcn9 csz sz lo tg eg thg CN9 LN n8 F8 G8 := ⟨Tf9, W, coV_fm hcv (form_up hf9) t91 t92 t93 (fun k9 hk9 => hx8.1 k9 (by revert hk9; revert k9; decide)) (fun k9 hk9 => hx8.2.2.1 k9 (by revert hk9; revert k9; decide)) (fun k9 hk9 => hx8.2.2.2 k9 (by revert hk9; revert k9; decide))⟩
  refine gz_pop dL_law_331 rfl ?_
  refine gz_goto (tgt := 1084) dL_law_332 (by decide) ?_
  exact hq (cells + 3 + 0) (slots + 604 + 0) _ ⟨own9, da, fcn9, csz, sz, len9, ln, wz, lo, tg, weg, stg, tpg, CN9, eg, thg, LN, ne, n8, z8, F8, G8, hI8, mS_rf hS8, hR8, hN8, ⟨(by rw [hx8.1 0 (by decide)]; exact hda), (by rw [hx8.1 53 (by decide)]; exact hwz), ql, qf, qt, (rB_cg (hx8.2.2.1 3 (by decide)) hrB), (nmG_cg (hx8.2.2.2 27 (by decide)) hnm), qco⟩, h09, ha9, (by omega), (by omega)⟩

set_option maxHeartbeats 4000000 in
set_option maxRecDepth 100000 in
theorem lw_case_5 {l : Launch} {D : va_G} {cy : Nat → ClassId} {b bs L x m t cells slots : Nat} {a : Nat → Nat} {xs : Nat → Int32} {nm : String} {i : Int32} {f : gMem} (hL : L ≤ 3072) (hi : i.toInt = 6 * (t : Int) ∧ 6 * t + 6 ≤ L) (hI0 : lwI cy x m a t cells slots f) (hq : ∀ (cells2 slots2 : Nat) (f2 : gMem), lwI cy x m a (t + 1) cells2 slots2 f2 → gG l room_1 lwQf (lwEx bs L b xs) D cy b code 4 ret RL nm cells2 slots2 f2 1084 [(3, .int i), (2, .ref m), (1, .ref x), (0, .ref bs)] []) : gG l room_1 lwQf (lwEx bs L b xs) D cy b code 4 ret RL nm cells slots f 335 [(3, .int i), (2, .ref m), (1, .ref x), (0, .ref bs)] [] := by
  have hrm0 := lwI_room hI0 (by omega)
  obtain ⟨own, da, fcn, csz, sz, len, ln, wz, lo, tg, weg, stg, tpg, CN, eg, thg, LN, ne, n, z, F, G, hI, hS, hR, hN, ⟨hda, hwz, hln, hfc, htp, hrB, hnm, hco⟩, h0, ha, hcc, hss⟩ := hI0
  obtain ⟨Tf, W, hcv⟩ := id hco
  obtain ⟨hcw, hLX, hRL, htd, htn, hsn⟩ := id hcv
  have hdaR : 0 ≤ da.toInt ∧ da.toInt ≤ 399 := by rw [hda]; exact hR.1
  have hco1 := hcw.2.2.2.2
  have hco2 := hLX
  have hsn2 : sCn (sNow (n 0) (F 2)) da thg := by rw [← hda]; exact hsn
  have hok5 : okW (n 5).toInt Tf W := by rw [← hfc]; exact hcw.2.2.2.1
  have hLX5 : ∀ f : Nat, (f : Int) < (n 5).toInt → LX F f (Tf f) := by rw [← hfc]; exact hLX
  have hne := xI_ne hI
  obtain ⟨fs, hfx⟩ := xI_x hI
  have hv1 : vp_in (i + 1) L := vin_T (T_add hi.1 (show (1 : Int32).toInt = 1 from rfl) (by omega)) (by omega) (by omega)
  have hv2 : vp_in (i + 2) L := vin_T (T_add hi.1 (show (2 : Int32).toInt = 2 from rfl) (by omega)) (by omega) (by omega)
  have hv3 : vp_in (i + 3) L := vin_T (T_add hi.1 (show (3 : Int32).toInt = 3 from rfl) (by omega)) (by omega) (by omega)
  refine gz_aload_n dL_law_335 rfl rfl ?_
  refine gz_aload_n dL_law_336 rfl rfl ?_
  refine gz_iload_n dL_law_337 rfl rfl ?_
  refine gz_iconst (v := 1) dL_law_338 (by decide) ?_
  refine gz_iadd dL_law_339 ?_
  refine lz_sld hv1 dL_law_340 ?_
  refine gz_aload_n dL_law_341 rfl rfl ?_
  refine gz_iload_n dL_law_342 rfl rfl ?_
  refine gz_iconst (v := 2) dL_law_343 (by decide) ?_
  refine gz_iadd dL_law_344 ?_
  refine lz_sld hv2 dL_law_345 ?_
  refine gz_aload_n dL_law_346 rfl rfl ?_
  refine gz_iload_n dL_law_347 rfl rfl ?_
  refine gz_iconst (v := 3) dL_law_348 (by decide) ?_
  refine gz_iadd dL_law_349 ?_
  refine lz_sld hv3 dL_law_350 ?_
  refine scL_38 (i_X11_word (x := (xs (Int32.toNatClampNeg (i + 1)))) (y := (xs (Int32.toNatClampNeg (i + 2)))) (u := (xs (Int32.toNatClampNeg (i + 3)))) hI) hfx ⟨(Nat.le_of_ble_eq_true rfl), (Nat.le_of_ble_eq_true rfl)⟩ ⟨(show cells + 0 ≤ 600000 by omega), (show slots + 0 ≤ 7302250 by omega)⟩ rfl rfl (Nat.le_of_ble_eq_true rfl) dL_law_351 ?_
  rintro v9 f9 ⟨hI9, hk9⟩
  obtain ⟨hS9, h09, ha9⟩ := mS_kp hS h0 ha hk9
  refine gz_pop dL_law_354 rfl ?_
  refine gz_aload_n dL_law_355 rfl rfl ?_
  refine gz_aload_n dL_law_356 rfl rfl ?_
  refine gz_iload_n dL_law_357 rfl rfl ?_
  refine gz_iconst (v := 1) dL_law_358 (by decide) ?_
  refine gz_iadd dL_law_359 ?_
  refine lz_sld hv1 dL_law_360 ?_
  refine gz_aload_n dL_law_361 rfl rfl ?_
  refine gz_iload_n dL_law_362 rfl rfl ?_
  refine gz_iconst (v := 2) dL_law_363 (by decide) ?_
  refine gz_iadd dL_law_364 ?_
  refine lz_sld hv2 dL_law_365 ?_
  refine gz_aload_n dL_law_366 rfl rfl ?_
  refine gz_iload_n dL_law_367 rfl rfl ?_
  refine gz_iconst (v := 3) dL_law_368 (by decide) ?_
  refine gz_iadd dL_law_369 ?_
  refine lz_sld hv3 dL_law_370 ?_
  refine scL_42 (k_X12_word (x1 := (xs (Int32.toNatClampNeg (i + 1)))) (x2 := (xs (Int32.toNatClampNeg (i + 2)))) (x3 := (xs (Int32.toNatClampNeg (i + 3)))) hS9 hR) hS9.1 ⟨(Nat.le_of_ble_eq_true rfl), (Nat.le_of_ble_eq_true rfl)⟩ ⟨(show cells + 0 + 0 ≤ 600000 by omega), (show slots + 0 + 0 ≤ 7302250 by omega)⟩ rfl rfl (Nat.le_of_ble_eq_true rfl) dL_law_371 ?_
  rintro v8 f8 ⟨-, e8⟩
  rw [e8]
  refine gz_pop dL_law_374 rfl ?_
  refine gz_goto (tgt := 1084) dL_law_375 (by decide) ?_
  exact hq (cells + 0 + 0) (slots + 0 + 0) _ ⟨own, da, fcn, csz, sz, len, ln, wz, lo, tg, weg, stg, tpg, CN, eg, thg, LN, ne, n, z, F, G, hI9, hS9, hR, hN, ⟨hda, hwz, hln, hfc, htp, hrB, hnm, hco⟩, h09, ha9, (by omega), (by omega)⟩

set_option maxHeartbeats 4000000 in
set_option maxRecDepth 100000 in
theorem lw_case_6 {l : Launch} {D : va_G} {cy : Nat → ClassId} {b bs L x m t cells slots : Nat} {a : Nat → Nat} {xs : Nat → Int32} {nm : String} {i : Int32} {f : gMem} (hL : L ≤ 3072) (hi : i.toInt = 6 * (t : Int) ∧ 6 * t + 6 ≤ L) (hI0 : lwI cy x m a t cells slots f) (hq : ∀ (cells2 slots2 : Nat) (f2 : gMem), lwI cy x m a (t + 1) cells2 slots2 f2 → gG l room_1 lwQf (lwEx bs L b xs) D cy b code 4 ret RL nm cells2 slots2 f2 1084 [(3, .int i), (2, .ref m), (1, .ref x), (0, .ref bs)] []) : gG l room_1 lwQf (lwEx bs L b xs) D cy b code 4 ret RL nm cells slots f 378 [(3, .int i), (2, .ref m), (1, .ref x), (0, .ref bs)] [] := by
  have hrm0 := lwI_room hI0 (by omega)
  obtain ⟨own, da, fcn, csz, sz, len, ln, wz, lo, tg, weg, stg, tpg, CN, eg, thg, LN, ne, n, z, F, G, hI, hS, hR, hN, ⟨hda, hwz, hln, hfc, htp, hrB, hnm, hco⟩, h0, ha, hcc, hss⟩ := hI0
  obtain ⟨Tf, W, hcv⟩ := id hco
  obtain ⟨hcw, hLX, hRL, htd, htn, hsn⟩ := id hcv
  have hdaR : 0 ≤ da.toInt ∧ da.toInt ≤ 399 := by rw [hda]; exact hR.1
  have hco1 := hcw.2.2.2.2
  have hco2 := hLX
  have hsn2 : sCn (sNow (n 0) (F 2)) da thg := by rw [← hda]; exact hsn
  have hok5 : okW (n 5).toInt Tf W := by rw [← hfc]; exact hcw.2.2.2.1
  have hLX5 : ∀ f : Nat, (f : Int) < (n 5).toInt → LX F f (Tf f) := by rw [← hfc]; exact hLX
  have hne := xI_ne hI
  obtain ⟨fs, hfx⟩ := xI_x hI
  have hv1 : vp_in (i + 1) L := vin_T (T_add hi.1 (show (1 : Int32).toInt = 1 from rfl) (by omega)) (by omega) (by omega)
  refine gz_aload_n dL_law_378 rfl rfl ?_
  refine gz_aload_n dL_law_379 rfl rfl ?_
  refine gz_iload_n dL_law_380 rfl rfl ?_
  refine gz_iconst (v := 1) dL_law_381 (by decide) ?_
  refine gz_iadd dL_law_382 ?_
  refine lz_sld hv1 dL_law_383 ?_
  refine scL_43 (i_X11_words (x := (xs (Int32.toNatClampNeg (i + 1)))) hI) hfx ⟨(Nat.le_of_ble_eq_true rfl), (Nat.le_of_ble_eq_true rfl)⟩ ⟨(show cells + 0 ≤ 600000 by omega), (show slots + 0 ≤ 7302250 by omega)⟩ rfl rfl (Nat.le_of_ble_eq_true rfl) dL_law_384 ?_
  rintro v9 f9 ⟨hI9, hk9⟩
  obtain ⟨hS9, h09, ha9⟩ := mS_kp hS h0 ha hk9
  refine gz_pop dL_law_387 rfl ?_
  refine gz_aload_n dL_law_388 rfl rfl ?_
  refine gz_aload_n dL_law_389 rfl rfl ?_
  refine gz_iload_n dL_law_390 rfl rfl ?_
  refine gz_iconst (v := 1) dL_law_391 (by decide) ?_
  refine gz_iadd dL_law_392 ?_
  refine lz_sld hv1 dL_law_393 ?_
  refine scL_46 (k_X12_words (x1 := (xs (Int32.toNatClampNeg (i + 1)))) hS9 hR) hS9.1 ⟨(Nat.le_of_ble_eq_true rfl), (Nat.le_of_ble_eq_true rfl)⟩ ⟨(show cells + 0 + 0 ≤ 600000 by omega), (show slots + 0 + 0 ≤ 7302250 by omega)⟩ rfl rfl (Nat.le_of_ble_eq_true rfl) dL_law_394 ?_
  rintro v8 f8 ⟨-, e8⟩
  rw [e8]
  refine gz_pop dL_law_397 rfl ?_
  refine gz_goto (tgt := 1084) dL_law_398 (by decide) ?_
  exact hq (cells + 0 + 0) (slots + 0 + 0) _ ⟨own, da, fcn, csz, sz, len, ln, wz, lo, tg, weg, stg, tpg, CN, eg, thg, LN, ne, n, z, F, G, hI9, hS9, hR, hN, ⟨hda, hwz, hln, hfc, htp, hrB, hnm, hco⟩, h09, ha9, (by omega), (by omega)⟩

set_option maxHeartbeats 4000000 in
set_option maxRecDepth 100000 in
theorem lw_case_7 {l : Launch} {D : va_G} {cy : Nat → ClassId} {b bs L x m t cells slots : Nat} {a : Nat → Nat} {xs : Nat → Int32} {nm : String} {i : Int32} {f : gMem} (hL : L ≤ 3072) (hi : i.toInt = 6 * (t : Int) ∧ 6 * t + 6 ≤ L) (hI0 : lwI cy x m a t cells slots f) (hq : ∀ (cells2 slots2 : Nat) (f2 : gMem), lwI cy x m a (t + 1) cells2 slots2 f2 → gG l room_1 lwQf (lwEx bs L b xs) D cy b code 4 ret RL nm cells2 slots2 f2 1084 [(3, .int i), (2, .ref m), (1, .ref x), (0, .ref bs)] []) : gG l room_1 lwQf (lwEx bs L b xs) D cy b code 4 ret RL nm cells slots f 401 [(3, .int i), (2, .ref m), (1, .ref x), (0, .ref bs)] [] := by
  have hrm0 := lwI_room hI0 (by omega)
  obtain ⟨own, da, fcn, csz, sz, len, ln, wz, lo, tg, weg, stg, tpg, CN, eg, thg, LN, ne, n, z, F, G, hI, hS, hR, hN, ⟨hda, hwz, hln, hfc, htp, hrB, hnm, hco⟩, h0, ha, hcc, hss⟩ := hI0
  obtain ⟨Tf, W, hcv⟩ := id hco
  obtain ⟨hcw, hLX, hRL, htd, htn, hsn⟩ := id hcv
  have hdaR : 0 ≤ da.toInt ∧ da.toInt ≤ 399 := by rw [hda]; exact hR.1
  have hco1 := hcw.2.2.2.2
  have hco2 := hLX
  have hsn2 : sCn (sNow (n 0) (F 2)) da thg := by rw [← hda]; exact hsn
  have hok5 : okW (n 5).toInt Tf W := by rw [← hfc]; exact hcw.2.2.2.1
  have hLX5 : ∀ f : Nat, (f : Int) < (n 5).toInt → LX F f (Tf f) := by rw [← hfc]; exact hLX
  have hne := xI_ne hI
  obtain ⟨fs, hfx⟩ := xI_x hI
  have hv1 : vp_in (i + 1) L := vin_T (T_add hi.1 (show (1 : Int32).toInt = 1 from rfl) (by omega)) (by omega) (by omega)
  refine gz_aload_n dL_law_401 rfl rfl ?_
  refine gz_aload_n dL_law_402 rfl rfl ?_
  refine gz_iload_n dL_law_403 rfl rfl ?_
  refine gz_iconst (v := 1) dL_law_404 (by decide) ?_
  refine gz_iadd dL_law_405 ?_
  refine lz_sld hv1 dL_law_406 ?_
  refine scL_47 (i_X11_shorterC (x := (xs (Int32.toNatClampNeg (i + 1)))) (Tf := Tf) hI hco1) hfx ⟨(Nat.le_of_ble_eq_true rfl), (Nat.le_of_ble_eq_true rfl)⟩ ⟨(show cells + 3 ≤ 600000 by omega), (show slots + 604 ≤ 7302250 by omega)⟩ rfl rfl (Nat.le_of_ble_eq_true rfl) dL_law_407 ?_
  rintro v9 f9 ⟨own9, fcn9, CN9, hI9, hk9, hr9, hf9, hc9⟩
  obtain ⟨hS9, h09, ha9⟩ := mS_kp hS h0 ha hk9
  refine gz_pop dL_law_410 rfl ?_
  refine gz_aload_n dL_law_411 rfl rfl ?_
  refine gz_aload_n dL_law_412 rfl rfl ?_
  refine gz_iload_n dL_law_413 rfl rfl ?_
  refine gz_iconst (v := 1) dL_law_414 (by decide) ?_
  refine gz_iadd dL_law_415 ?_
  refine lz_sld hv1 dL_law_416 ?_
  refine scL_50 (k_X12_shorterC (x1 := (xs (Int32.toNatClampNeg (i + 1)))) (Tf := Tf) hS9 hR hN (fun k hk => hco2 k (by rw [hfc]; exact hk))) hS9.1 ⟨(Nat.le_of_ble_eq_true rfl), (Nat.le_of_ble_eq_true rfl)⟩ ⟨(show cells + 3 + 0 ≤ 600000 by omega), (show slots + 604 + 0 ≤ 7302250 by omega)⟩ rfl rfl (Nat.le_of_ble_eq_true rfl) dL_law_417 ?_
  rintro v8 f8 ⟨n8, z8, F8, G8, hS8, hx8, hR8, hN8, hr8, hf8, hXo, hXn⟩
  have hI8 := xI_mS hI9 hS8 h09 ha9
  obtain ⟨qr, qf⟩ := shorter_cp hfc hr9 hf9 hr8 hf8
  obtain ⟨Tf9, t91, t92, t93⟩ := shorter_coL hfc hco1 hf9 hc9 hXo hXn
  have qco : ∃ (Tf : Nat → List Hd) (W : Lw), coV Tf W da fcn9 csz sz lo tg eg thg CN9 LN n8 F8 G8 := ⟨Tf9, W, coV_fm hcv (sh_up hf9) t91 t92 t93 (fun k9 hk9 => hx8.1 k9 (by revert hk9; revert k9; decide)) (fun k9 hk9 => hx8.2.2.1 k9 (by revert hk9; revert k9; decide)) (fun k9 hk9 => hx8.2.2.2 k9 (by revert hk9; revert k9; decide))⟩
  refine gz_pop dL_law_420 rfl ?_
  refine gz_goto (tgt := 1084) dL_law_421 (by decide) ?_
  exact hq (cells + 3 + 0) (slots + 604 + 0) _ ⟨own9, da, fcn9, csz, sz, len, ln, wz, lo, tg, weg, stg, tpg, CN9, eg, thg, LN, ne, n8, z8, F8, G8, hI8, mS_rf hS8, hR8, hN8, ⟨(by rw [hx8.1 0 (by decide)]; exact hda), (by rw [hx8.1 53 (by decide)]; exact hwz), (by rw [hx8.1 4 (by decide)]; exact hln), qf, (by rw [hx8.1 4 (by decide), hx8.2.2.1 3 (by decide)]; exact htp), (rB_cg (hx8.2.2.1 3 (by decide)) hrB), (nmG_cg (hx8.2.2.2 27 (by decide)) hnm), qco⟩, h09, ha9, (by omega), (by omega)⟩

set_option maxHeartbeats 4000000 in
set_option maxRecDepth 100000 in
theorem lw_case_8 {l : Launch} {D : va_G} {cy : Nat → ClassId} {b bs L x m t cells slots : Nat} {a : Nat → Nat} {xs : Nat → Int32} {nm : String} {i : Int32} {f : gMem} (hL : L ≤ 3072) (hi : i.toInt = 6 * (t : Int) ∧ 6 * t + 6 ≤ L) (hI0 : lwI cy x m a t cells slots f) (hq : ∀ (cells2 slots2 : Nat) (f2 : gMem), lwI cy x m a (t + 1) cells2 slots2 f2 → gG l room_1 lwQf (lwEx bs L b xs) D cy b code 4 ret RL nm cells2 slots2 f2 1084 [(3, .int i), (2, .ref m), (1, .ref x), (0, .ref bs)] []) : gG l room_1 lwQf (lwEx bs L b xs) D cy b code 4 ret RL nm cells slots f 424 [(3, .int i), (2, .ref m), (1, .ref x), (0, .ref bs)] [] := by
  have hrm0 := lwI_room hI0 (by omega)
  obtain ⟨own, da, fcn, csz, sz, len, ln, wz, lo, tg, weg, stg, tpg, CN, eg, thg, LN, ne, n, z, F, G, hI, hS, hR, hN, ⟨hda, hwz, hln, hfc, htp, hrB, hnm, hco⟩, h0, ha, hcc, hss⟩ := hI0
  obtain ⟨Tf, W, hcv⟩ := id hco
  obtain ⟨hcw, hLX, hRL, htd, htn, hsn⟩ := id hcv
  have hdaR : 0 ≤ da.toInt ∧ da.toInt ≤ 399 := by rw [hda]; exact hR.1
  have hco1 := hcw.2.2.2.2
  have hco2 := hLX
  have hsn2 : sCn (sNow (n 0) (F 2)) da thg := by rw [← hda]; exact hsn
  have hok5 : okW (n 5).toInt Tf W := by rw [← hfc]; exact hcw.2.2.2.1
  have hLX5 : ∀ f : Nat, (f : Int) < (n 5).toInt → LX F f (Tf f) := by rw [← hfc]; exact hLX
  have hne := xI_ne hI
  obtain ⟨fs, hfx⟩ := xI_x hI
  have hv1 : vp_in (i + 1) L := vin_T (T_add hi.1 (show (1 : Int32).toInt = 1 from rfl) (by omega)) (by omega) (by omega)
  have hv2 : vp_in (i + 2) L := vin_T (T_add hi.1 (show (2 : Int32).toInt = 2 from rfl) (by omega)) (by omega) (by omega)
  refine gz_aload_n dL_law_424 rfl rfl ?_
  refine gz_aload_n dL_law_425 rfl rfl ?_
  refine gz_iload_n dL_law_426 rfl rfl ?_
  refine gz_iconst (v := 1) dL_law_427 (by decide) ?_
  refine gz_iadd dL_law_428 ?_
  refine lz_sld hv1 dL_law_429 ?_
  refine gz_aload_n dL_law_430 rfl rfl ?_
  refine gz_iload_n dL_law_431 rfl rfl ?_
  refine gz_iconst (v := 2) dL_law_432 (by decide) ?_
  refine gz_iadd dL_law_433 ?_
  refine lz_sld hv2 dL_law_434 ?_
  refine scL_51 (i_X11_same (x := (xs (Int32.toNatClampNeg (i + 1)))) (y := (xs (Int32.toNatClampNeg (i + 2)))) hI) hfx ⟨(Nat.le_of_ble_eq_true rfl), (Nat.le_of_ble_eq_true rfl)⟩ ⟨(show cells + 0 ≤ 600000 by omega), (show slots + 0 ≤ 7302250 by omega)⟩ rfl rfl (Nat.le_of_ble_eq_true rfl) dL_law_435 ?_
  rintro v9 f9 ⟨hI9, hk9⟩
  obtain ⟨hS9, h09, ha9⟩ := mS_kp hS h0 ha hk9
  refine gz_pop dL_law_438 rfl ?_
  refine gz_aload_n dL_law_439 rfl rfl ?_
  refine gz_aload_n dL_law_440 rfl rfl ?_
  refine gz_iload_n dL_law_441 rfl rfl ?_
  refine gz_iconst (v := 1) dL_law_442 (by decide) ?_
  refine gz_iadd dL_law_443 ?_
  refine lz_sld hv1 dL_law_444 ?_
  refine gz_aload_n dL_law_445 rfl rfl ?_
  refine gz_iload_n dL_law_446 rfl rfl ?_
  refine gz_iconst (v := 2) dL_law_447 (by decide) ?_
  refine gz_iadd dL_law_448 ?_
  refine lz_sld hv2 dL_law_449 ?_
  refine scL_54 (k_X12_same (x1 := (xs (Int32.toNatClampNeg (i + 1)))) (x2 := (xs (Int32.toNatClampNeg (i + 2)))) hS9 hR hN) hS9.1 ⟨(Nat.le_of_ble_eq_true rfl), (Nat.le_of_ble_eq_true rfl)⟩ ⟨(show cells + 0 + 0 ≤ 600000 by omega), (show slots + 0 + 0 ≤ 7302250 by omega)⟩ rfl rfl (Nat.le_of_ble_eq_true rfl) dL_law_450 ?_
  rintro v8 f8 ⟨n8, z8, F8, G8, hS8, hx8, hR8, hN8⟩
  have hI8 := xI_mS hI9 hS8 h09 ha9
  have qco : ∃ (Tf : Nat → List Hd) (W : Lw), coV Tf W da fcn csz sz lo tg eg thg CN LN n8 F8 G8 := ⟨Tf, W, coV_cg hcv (fun k9 hk9 => hx8.1 k9 (by revert hk9; revert k9; decide)) (fun k9 hk9 => hx8.2.2.1 k9 (by revert hk9; revert k9; decide)) (fun k9 hk9 => hx8.2.2.2 k9 (by revert hk9; revert k9; decide)) (fun r9 h1 h2 => hx8.2.2.1 r9 (fun h => by simp only [List.mem_cons, List.not_mem_nil, or_false] at h <;> omega))⟩
  refine gz_pop dL_law_453 rfl ?_
  refine gz_goto (tgt := 1084) dL_law_454 (by decide) ?_
  exact hq (cells + 0 + 0) (slots + 0 + 0) _ ⟨own, da, fcn, csz, sz, len, ln, wz, lo, tg, weg, stg, tpg, CN, eg, thg, LN, ne, n8, z8, F8, G8, hI8, mS_rf hS8, hR8, hN8, ⟨(by rw [hx8.1 0 (by decide)]; exact hda), (by rw [hx8.1 53 (by decide)]; exact hwz), (by rw [hx8.1 4 (by decide)]; exact hln), (by rw [hx8.1 5 (by decide)]; exact hfc), (by rw [hx8.1 4 (by decide), hx8.2.2.1 3 (by decide)]; exact htp), (rB_cg (hx8.2.2.1 3 (by decide)) hrB), (nmG_cg (hx8.2.2.2 27 (by decide)) hnm), qco⟩, h09, ha9, (by omega), (by omega)⟩

set_option maxHeartbeats 4000000 in
set_option maxRecDepth 100000 in
theorem lw_case_9 {l : Launch} {D : va_G} {cy : Nat → ClassId} {b bs L x m t cells slots : Nat} {a : Nat → Nat} {xs : Nat → Int32} {nm : String} {i : Int32} {f : gMem} (hL : L ≤ 3072) (hi : i.toInt = 6 * (t : Int) ∧ 6 * t + 6 ≤ L) (hI0 : lwI cy x m a t cells slots f) (hq : ∀ (cells2 slots2 : Nat) (f2 : gMem), lwI cy x m a (t + 1) cells2 slots2 f2 → gG l room_1 lwQf (lwEx bs L b xs) D cy b code 4 ret RL nm cells2 slots2 f2 1084 [(3, .int i), (2, .ref m), (1, .ref x), (0, .ref bs)] []) : gG l room_1 lwQf (lwEx bs L b xs) D cy b code 4 ret RL nm cells slots f 457 [(3, .int i), (2, .ref m), (1, .ref x), (0, .ref bs)] [] := by
  have hrm0 := lwI_room hI0 (by omega)
  obtain ⟨own, da, fcn, csz, sz, len, ln, wz, lo, tg, weg, stg, tpg, CN, eg, thg, LN, ne, n, z, F, G, hI, hS, hR, hN, ⟨hda, hwz, hln, hfc, htp, hrB, hnm, hco⟩, h0, ha, hcc, hss⟩ := hI0
  obtain ⟨Tf, W, hcv⟩ := id hco
  obtain ⟨hcw, hLX, hRL, htd, htn, hsn⟩ := id hcv
  have hdaR : 0 ≤ da.toInt ∧ da.toInt ≤ 399 := by rw [hda]; exact hR.1
  have hco1 := hcw.2.2.2.2
  have hco2 := hLX
  have hsn2 : sCn (sNow (n 0) (F 2)) da thg := by rw [← hda]; exact hsn
  have hok5 : okW (n 5).toInt Tf W := by rw [← hfc]; exact hcw.2.2.2.1
  have hLX5 : ∀ f : Nat, (f : Int) < (n 5).toInt → LX F f (Tf f) := by rw [← hfc]; exact hLX
  have hne := xI_ne hI
  obtain ⟨fs, hfx⟩ := xI_x hI
  have hv1 : vp_in (i + 1) L := vin_T (T_add hi.1 (show (1 : Int32).toInt = 1 from rfl) (by omega)) (by omega) (by omega)
  refine gz_aload_n dL_law_457 rfl rfl ?_
  refine gz_aload_n dL_law_458 rfl rfl ?_
  refine gz_iload_n dL_law_459 rfl rfl ?_
  refine gz_iconst (v := 1) dL_law_460 (by decide) ?_
  refine gz_iadd dL_law_461 ?_
  refine lz_sld hv1 dL_law_462 ?_
  refine scL_55 (i_X11_tell (x := (xs (Int32.toNatClampNeg (i + 1)))) hI) hfx ⟨(Nat.le_of_ble_eq_true rfl), (Nat.le_of_ble_eq_true rfl)⟩ ⟨(show cells + 0 ≤ 600000 by omega), (show slots + 0 ≤ 7302250 by omega)⟩ rfl rfl (Nat.le_of_ble_eq_true rfl) dL_law_463 ?_
  rintro v9 f9 ⟨ln9, hI9, hk9⟩
  obtain ⟨hS9, h09, ha9⟩ := mS_kp hS h0 ha hk9
  refine gz_pop dL_law_466 rfl ?_
  refine gz_aload_n dL_law_467 rfl rfl ?_
  refine gz_aload_n dL_law_468 rfl rfl ?_
  refine gz_iload_n dL_law_469 rfl rfl ?_
  refine gz_iconst (v := 1) dL_law_470 (by decide) ?_
  refine gz_iadd dL_law_471 ?_
  refine lz_sld hv1 dL_law_472 ?_
  refine scL_58 (k_X12_tell (x1 := (xs (Int32.toNatClampNeg (i + 1)))) hS9 hR) hS9.1 ⟨(Nat.le_of_ble_eq_true rfl), (Nat.le_of_ble_eq_true rfl)⟩ ⟨(show cells + 0 + 0 ≤ 600000 by omega), (show slots + 0 + 0 ≤ 7302250 by omega)⟩ rfl rfl (Nat.le_of_ble_eq_true rfl) dL_law_473 ?_
  rintro v8 f8 ⟨n8, z8, F8, G8, hS8, hx8, hR8⟩
  have hN8 := NR_fx hN hx8 (by decide)
  have hI8 := xI_mS hI9 hS8 h09 ha9
  have qco : ∃ (Tf : Nat → List Hd) (W : Lw), coV Tf W da fcn csz sz lo tg eg thg CN LN n8 F8 G8 := ⟨Tf, W, coV_cg hcv (fun k9 hk9 => hx8.1 k9 (by revert hk9; revert k9; decide)) (fun k9 hk9 => hx8.2.2.1 k9 (by revert hk9; revert k9; decide)) (fun k9 hk9 => hx8.2.2.2 k9 (by revert hk9; revert k9; decide)) (fun r9 h1 h2 => hx8.2.2.1 r9 (fun h => by simp only [List.mem_cons, List.not_mem_nil, or_false] at h <;> omega))⟩
  refine gz_pop dL_law_476 rfl ?_
  refine gz_goto (tgt := 1084) dL_law_477 (by decide) ?_
  exact hq (cells + 0 + 0) (slots + 0 + 0) _ ⟨own, da, fcn, csz, sz, len, ln9, wz, lo, tg, weg, stg, tpg, CN, eg, thg, LN, ne, n8, z8, F8, G8, hI8, mS_rf hS8, hR8, hN8, ⟨(by rw [hx8.1 0 (by decide)]; exact hda), (by rw [hx8.1 53 (by decide)]; exact hwz), (by rw [hx8.1 4 (by decide)]; exact hln), (by rw [hx8.1 5 (by decide)]; exact hfc), (by rw [hx8.1 4 (by decide), hx8.2.2.1 3 (by decide)]; exact htp), (rB_cg (hx8.2.2.1 3 (by decide)) hrB), (nmG_cg (hx8.2.2.2 27 (by decide)) hnm), qco⟩, h09, ha9, (by omega), (by omega)⟩

set_option maxHeartbeats 4000000 in
set_option maxRecDepth 100000 in
theorem lw_case_10 {l : Launch} {D : va_G} {cy : Nat → ClassId} {b bs L x m t cells slots : Nat} {a : Nat → Nat} {xs : Nat → Int32} {nm : String} {i : Int32} {f : gMem} (hL : L ≤ 3072) (hi : i.toInt = 6 * (t : Int) ∧ 6 * t + 6 ≤ L) (hI0 : lwI cy x m a t cells slots f) (hq : ∀ (cells2 slots2 : Nat) (f2 : gMem), lwI cy x m a (t + 1) cells2 slots2 f2 → gG l room_1 lwQf (lwEx bs L b xs) D cy b code 4 ret RL nm cells2 slots2 f2 1084 [(3, .int i), (2, .ref m), (1, .ref x), (0, .ref bs)] []) : gG l room_1 lwQf (lwEx bs L b xs) D cy b code 4 ret RL nm cells slots f 480 [(3, .int i), (2, .ref m), (1, .ref x), (0, .ref bs)] [] := by
  have hrm0 := lwI_room hI0 (by omega)
  obtain ⟨own, da, fcn, csz, sz, len, ln, wz, lo, tg, weg, stg, tpg, CN, eg, thg, LN, ne, n, z, F, G, hI, hS, hR, hN, ⟨hda, hwz, hln, hfc, htp, hrB, hnm, hco⟩, h0, ha, hcc, hss⟩ := hI0
  obtain ⟨Tf, W, hcv⟩ := id hco
  obtain ⟨hcw, hLX, hRL, htd, htn, hsn⟩ := id hcv
  have hdaR : 0 ≤ da.toInt ∧ da.toInt ≤ 399 := by rw [hda]; exact hR.1
  have hco1 := hcw.2.2.2.2
  have hco2 := hLX
  have hsn2 : sCn (sNow (n 0) (F 2)) da thg := by rw [← hda]; exact hsn
  have hok5 : okW (n 5).toInt Tf W := by rw [← hfc]; exact hcw.2.2.2.1
  have hLX5 : ∀ f : Nat, (f : Int) < (n 5).toInt → LX F f (Tf f) := by rw [← hfc]; exact hLX
  have hne := xI_ne hI
  obtain ⟨fs, hfx⟩ := xI_x hI
  have hv1 : vp_in (i + 1) L := vin_T (T_add hi.1 (show (1 : Int32).toInt = 1 from rfl) (by omega)) (by omega) (by omega)
  refine gz_aload_n dL_law_480 rfl rfl ?_
  refine gz_aload_n dL_law_481 rfl rfl ?_
  refine gz_iload_n dL_law_482 rfl rfl ?_
  refine gz_iconst (v := 1) dL_law_483 (by decide) ?_
  refine gz_iadd dL_law_484 ?_
  refine lz_sld hv1 dL_law_485 ?_
  refine scL_59 (i_X11_octet (x := (xs (Int32.toNatClampNeg (i + 1)))) hI) hfx ⟨(Nat.le_of_ble_eq_true rfl), (Nat.le_of_ble_eq_true rfl)⟩ ⟨(show cells + 0 ≤ 600000 by omega), (show slots + 0 ≤ 7302250 by omega)⟩ rfl rfl (Nat.le_of_ble_eq_true rfl) dL_law_486 ?_
  rintro v9 f9 ⟨hI9, hk9⟩
  obtain ⟨hS9, h09, ha9⟩ := mS_kp hS h0 ha hk9
  refine gz_pop dL_law_489 rfl ?_
  refine gz_aload_n dL_law_490 rfl rfl ?_
  refine gz_aload_n dL_law_491 rfl rfl ?_
  refine gz_iload_n dL_law_492 rfl rfl ?_
  refine gz_iconst (v := 1) dL_law_493 (by decide) ?_
  refine gz_iadd dL_law_494 ?_
  refine lz_sld hv1 dL_law_495 ?_
  refine scL_62 (k_X12_octet (x1 := (xs (Int32.toNatClampNeg (i + 1)))) hS9 hR) hS9.1 ⟨(Nat.le_of_ble_eq_true rfl), (Nat.le_of_ble_eq_true rfl)⟩ ⟨(show cells + 0 + 0 ≤ 600000 by omega), (show slots + 0 + 0 ≤ 7302250 by omega)⟩ rfl rfl (Nat.le_of_ble_eq_true rfl) dL_law_496 ?_
  rintro v8 f8 ⟨-, e8⟩
  rw [e8]
  refine gz_pop dL_law_499 rfl ?_
  refine gz_goto (tgt := 1084) dL_law_500 (by decide) ?_
  exact hq (cells + 0 + 0) (slots + 0 + 0) _ ⟨own, da, fcn, csz, sz, len, ln, wz, lo, tg, weg, stg, tpg, CN, eg, thg, LN, ne, n, z, F, G, hI9, hS9, hR, hN, ⟨hda, hwz, hln, hfc, htp, hrB, hnm, hco⟩, h09, ha9, (by omega), (by omega)⟩

set_option maxHeartbeats 4000000 in
set_option maxRecDepth 100000 in
theorem lw_case_11 {l : Launch} {D : va_G} {cy : Nat → ClassId} {b bs L x m t cells slots : Nat} {a : Nat → Nat} {xs : Nat → Int32} {nm : String} {i : Int32} {f : gMem} (hL : L ≤ 3072) (hi : i.toInt = 6 * (t : Int) ∧ 6 * t + 6 ≤ L) (hI0 : lwI cy x m a t cells slots f) (hq : ∀ (cells2 slots2 : Nat) (f2 : gMem), lwI cy x m a (t + 1) cells2 slots2 f2 → gG l room_1 lwQf (lwEx bs L b xs) D cy b code 4 ret RL nm cells2 slots2 f2 1084 [(3, .int i), (2, .ref m), (1, .ref x), (0, .ref bs)] []) : gG l room_1 lwQf (lwEx bs L b xs) D cy b code 4 ret RL nm cells slots f 503 [(3, .int i), (2, .ref m), (1, .ref x), (0, .ref bs)] [] := by
  have hrm0 := lwI_room hI0 (by omega)
  obtain ⟨own, da, fcn, csz, sz, len, ln, wz, lo, tg, weg, stg, tpg, CN, eg, thg, LN, ne, n, z, F, G, hI, hS, hR, hN, ⟨hda, hwz, hln, hfc, htp, hrB, hnm, hco⟩, h0, ha, hcc, hss⟩ := hI0
  obtain ⟨Tf, W, hcv⟩ := id hco
  obtain ⟨hcw, hLX, hRL, htd, htn, hsn⟩ := id hcv
  have hdaR : 0 ≤ da.toInt ∧ da.toInt ≤ 399 := by rw [hda]; exact hR.1
  have hco1 := hcw.2.2.2.2
  have hco2 := hLX
  have hsn2 : sCn (sNow (n 0) (F 2)) da thg := by rw [← hda]; exact hsn
  have hok5 : okW (n 5).toInt Tf W := by rw [← hfc]; exact hcw.2.2.2.1
  have hLX5 : ∀ f : Nat, (f : Int) < (n 5).toInt → LX F f (Tf f) := by rw [← hfc]; exact hLX
  have hne := xI_ne hI
  obtain ⟨fs, hfx⟩ := xI_x hI
  have hv1 : vp_in (i + 1) L := vin_T (T_add hi.1 (show (1 : Int32).toInt = 1 from rfl) (by omega)) (by omega) (by omega)
  have hv2 : vp_in (i + 2) L := vin_T (T_add hi.1 (show (2 : Int32).toInt = 2 from rfl) (by omega)) (by omega) (by omega)
  have hv3 : vp_in (i + 3) L := vin_T (T_add hi.1 (show (3 : Int32).toInt = 3 from rfl) (by omega)) (by omega) (by omega)
  refine gz_aload_n dL_law_503 rfl rfl ?_
  refine gz_aload_n dL_law_504 rfl rfl ?_
  refine gz_iload_n dL_law_505 rfl rfl ?_
  refine gz_iconst (v := 1) dL_law_506 (by decide) ?_
  refine gz_iadd dL_law_507 ?_
  refine lz_sld hv1 dL_law_508 ?_
  refine gz_aload_n dL_law_509 rfl rfl ?_
  refine gz_iload_n dL_law_510 rfl rfl ?_
  refine gz_iconst (v := 2) dL_law_511 (by decide) ?_
  refine gz_iadd dL_law_512 ?_
  refine lz_sld hv2 dL_law_513 ?_
  refine gz_aload_n dL_law_514 rfl rfl ?_
  refine gz_iload_n dL_law_515 rfl rfl ?_
  refine gz_iconst (v := 3) dL_law_516 (by decide) ?_
  refine gz_iadd dL_law_517 ?_
  refine lz_sld hv3 dL_law_518 ?_
  refine suL_63 (i_X11_beginL (x := (xs (Int32.toNatClampNeg (i + 1)))) (y := (xs (Int32.toNatClampNeg (i + 2)))) (u := (xs (Int32.toNatClampNeg (i + 3)))) (Tf := Tf) (W := W) (S := sNow (n 0) (F 2)) hI hcw hsn2) hfx ⟨(Nat.le_of_ble_eq_true rfl), (Nat.le_of_ble_eq_true rfl)⟩ ⟨(show cells + (24000 - ne + 3) ≤ 600000 by omega), (show slots + (2 * (24000 - ne) + 88) ≤ 7302250 by omega)⟩ rfl rfl (Nat.le_of_ble_eq_true rfl) dL_law_519 ?_
  rintro kk nn r9 f9 ⟨v9, rfl, own9, csz9, sz9, lo9, ne9, eg9, LN9, hI9, hk9, hrm, hb9⟩
  refine gz_eq (st2 := [.int v9]) rfl rfl rfl rfl ?_
  have hne9 := xI_ne hI9
  obtain ⟨hS9, h09, ha9⟩ := mS_kp hS h0 ha hk9
  refine gz_pop dL_law_522 rfl ?_
  refine gz_aload_n dL_law_523 rfl rfl ?_
  refine gz_aload_n dL_law_524 rfl rfl ?_
  refine gz_iload_n dL_law_525 rfl rfl ?_
  refine gz_iconst (v := 1) dL_law_526 (by decide) ?_
  refine gz_iadd dL_law_527 ?_
  refine lz_sld hv1 dL_law_528 ?_
  refine gz_aload_n dL_law_529 rfl rfl ?_
  refine gz_iload_n dL_law_530 rfl rfl ?_
  refine gz_iconst (v := 2) dL_law_531 (by decide) ?_
  refine gz_iadd dL_law_532 ?_
  refine lz_sld hv2 dL_law_533 ?_
  refine gz_aload_n dL_law_534 rfl rfl ?_
  refine gz_iload_n dL_law_535 rfl rfl ?_
  refine gz_iconst (v := 3) dL_law_536 (by decide) ?_
  refine gz_iadd dL_law_537 ?_
  refine lz_sld hv3 dL_law_538 ?_
  refine scL_66 (k_X12_beginE (x1 := (xs (Int32.toNatClampNeg (i + 1)))) (x2 := (xs (Int32.toNatClampNeg (i + 2)))) (x3 := (xs (Int32.toNatClampNeg (i + 3)))) (Tf := Tf) (W := W) hS9 hR hRL hok5 hLX5) hS9.1 ⟨(Nat.le_of_ble_eq_true rfl), (Nat.le_of_ble_eq_true rfl)⟩ ⟨(show cells + kk + 0 ≤ 600000 by omega), (show slots + nn + 0 ≤ 7302250 by omega)⟩ rfl rfl (Nat.le_of_ble_eq_true rfl) dL_law_539 ?_
  rintro v8 f8 ⟨n8, z8, F8, G8, hS8, hx8, hR8, hb8⟩
  have hN8 := NR_fx hN hx8 (by decide)
  have hI8 := xI_mS hI9 hS8 h09 ha9
  have qb : v8 = v9 ∧ ∃ W2, cLW Tf W2 fcn csz9 sz9 lo9 eg9 CN LN9 ∧ RLs n8 F8 G8 W2 := by
    rw [← hfc] at hb8
    rcases hb9 with ⟨b1, b2, b3⟩ | ⟨b1, b2, b3⟩
    · rcases hb8 with ⟨d1, d2, d3⟩ | ⟨d1, d2, d3⟩
      · exact ⟨Int32.toInt_inj.mp (by omega), _, b2, d2⟩
      · exact absurd b1 d1
    · rcases hb8 with ⟨d1, d2, d3⟩ | ⟨d1, d2, d3⟩
      · exact absurd d1 b1
      · exact ⟨Int32.toInt_inj.mp (by omega), _, b2, d2⟩
  obtain ⟨W2, qb2, qb3⟩ := qb.2
  have qco : ∃ (Tf : Nat → List Hd) (W : Lw), coV Tf W da fcn csz9 sz9 lo9 tg eg9 thg CN LN9 n8 F8 G8 := ⟨Tf, W2, (⟨qb2, (fun f9 hf9 => LX_cg (fun r9 h1 h2 => hx8.2.2.1 r9 (fun h => by simp only [List.mem_cons, List.not_mem_nil, or_false] at h <;> omega)) (hLX f9 hf9)), qb3, (by rw [hx8.2.2.1 2 (by decide)]; exact htd), (by rw [hx8.2.2.1 2 (by decide)]; exact htn), (by rw [hx8.2.2.1 2 (by decide)]; exact hsn)⟩ : coV Tf W2 da fcn csz9 sz9 lo9 tg eg9 thg CN LN9 n8 F8 G8)⟩
  refine gz_pop dL_law_542 rfl ?_
  refine gz_goto (tgt := 1084) dL_law_543 (by decide) ?_
  exact hq (cells + kk + 0) (slots + nn + 0) _ ⟨own9, da, fcn, csz9, sz9, len, ln, wz, lo9, tg, weg, stg, tpg, CN, eg9, thg, LN9, ne9, n8, z8, F8, G8, hI8, mS_rf hS8, hR8, hN8, ⟨(by rw [hx8.1 0 (by decide)]; exact hda), (by rw [hx8.1 53 (by decide)]; exact hwz), (by rw [hx8.1 4 (by decide)]; exact hln), (by rw [hx8.1 5 (by decide)]; exact hfc), (by rw [hx8.1 4 (by decide), hx8.2.2.1 3 (by decide)]; exact htp), (rB_cg (hx8.2.2.1 3 (by decide)) hrB), (nmG_cg (hx8.2.2.2 27 (by decide)) hnm), qco⟩, h09, ha9, (by omega), (by omega)⟩

set_option maxHeartbeats 4000000 in
set_option maxRecDepth 100000 in
theorem lw_case_12 {l : Launch} {D : va_G} {cy : Nat → ClassId} {b bs L x m t cells slots : Nat} {a : Nat → Nat} {xs : Nat → Int32} {nm : String} {i : Int32} {f : gMem} (hL : L ≤ 3072) (hi : i.toInt = 6 * (t : Int) ∧ 6 * t + 6 ≤ L) (hI0 : lwI cy x m a t cells slots f) (hq : ∀ (cells2 slots2 : Nat) (f2 : gMem), lwI cy x m a (t + 1) cells2 slots2 f2 → gG l room_1 lwQf (lwEx bs L b xs) D cy b code 4 ret RL nm cells2 slots2 f2 1084 [(3, .int i), (2, .ref m), (1, .ref x), (0, .ref bs)] []) : gG l room_1 lwQf (lwEx bs L b xs) D cy b code 4 ret RL nm cells slots f 546 [(3, .int i), (2, .ref m), (1, .ref x), (0, .ref bs)] [] := by
  have hrm0 := lwI_room hI0 (by omega)
  obtain ⟨own, da, fcn, csz, sz, len, ln, wz, lo, tg, weg, stg, tpg, CN, eg, thg, LN, ne, n, z, F, G, hI, hS, hR, hN, ⟨hda, hwz, hln, hfc, htp, hrB, hnm, hco⟩, h0, ha, hcc, hss⟩ := hI0
  obtain ⟨Tf, W, hcv⟩ := id hco
  obtain ⟨hcw, hLX, hRL, htd, htn, hsn⟩ := id hcv
  have hdaR : 0 ≤ da.toInt ∧ da.toInt ≤ 399 := by rw [hda]; exact hR.1
  have hco1 := hcw.2.2.2.2
  have hco2 := hLX
  have hsn2 : sCn (sNow (n 0) (F 2)) da thg := by rw [← hda]; exact hsn
  have hok5 : okW (n 5).toInt Tf W := by rw [← hfc]; exact hcw.2.2.2.1
  have hLX5 : ∀ f : Nat, (f : Int) < (n 5).toInt → LX F f (Tf f) := by rw [← hfc]; exact hLX
  have hne := xI_ne hI
  obtain ⟨fs, hfx⟩ := xI_x hI
  refine gz_aload_n dL_law_546 rfl rfl ?_
  refine suL_67 (i_X11_dayL  (Tf := Tf) (W := W) (S := sNow (trnF da).2 (F 2)) hI hcw (day_sc hdaR htn hsn)) hfx ⟨(Nat.le_of_ble_eq_true rfl), (Nat.le_of_ble_eq_true rfl)⟩ ⟨(show cells + (24000 - ne) ≤ 600000 by omega), (show slots + (2 * (24000 - ne)) ≤ 7302250 by omega)⟩ rfl rfl (Nat.le_of_ble_eq_true rfl) dL_law_547 ?_
  rintro kk nn r9 f9 ⟨v9, rfl, own9, sz9, lo9, ne9, eg9, LN9, hI9, hk9, hrm, hb9⟩
  refine gz_eq (st2 := [.int v9]) rfl rfl rfl rfl ?_
  have hne9 := xI_ne hI9
  obtain ⟨hS9, h09, ha9⟩ := mS_kp hS h0 ha hk9
  refine gz_pop dL_law_550 rfl ?_
  refine gz_aload_n dL_law_551 rfl rfl ?_
  refine scL_70 (k_X12_dayE  (Tf := Tf) (W := W) hS9 hR hRL hok5 hLX5 (fun f9 hf9 => ⟨(hLX5 f9 hf9).1.1, (hLX5 f9 hf9).1.2.1⟩)) hS9.1 ⟨(Nat.le_of_ble_eq_true rfl), (Nat.le_of_ble_eq_true rfl)⟩ ⟨(show cells + kk + 0 ≤ 600000 by omega), (show slots + nn + 0 ≤ 7302250 by omega)⟩ rfl rfl (Nat.le_of_ble_eq_true rfl) dL_law_552 ?_
  rintro v8 f8 ⟨n8, z8, F8, G8, hS8, hx8, hR8, h08, hb8⟩
  have hN8 := NR_fx hN hx8 (by decide)
  have hI8 := xI_mS hI9 hS8 h09 ha9
  have qb : v8 = v9 ∧ ∃ W2, cLW Tf W2 fcn csz sz9 lo9 eg9 CN LN9 ∧ RLs n8 F8 G8 W2 := by
    rcases hb9 with ⟨b1, b2, b3⟩ | ⟨b1, b2, b3⟩
    · rcases hb8 with ⟨d1, d2, d3⟩ | ⟨d1, d2, d3⟩
      · exact ⟨Int32.toInt_inj.mp (by omega), _, b2, d3⟩
      · rw [hda] at b1; exact absurd b1 d1
    · rw [((trn_w hdaR).2 b1).2, hda] at b2 b3
      rcases hb8 with ⟨d1, d2, d3⟩ | ⟨d1, d2, d3⟩
      · rw [hda] at b1; exact absurd d1 b1
      · exact ⟨Int32.toInt_inj.mp (by omega), _, b2, d2⟩
  obtain ⟨W2, qb2, qb3⟩ := qb.2
  have qco : ∃ (Tf : Nat → List Hd) (W : Lw), coV Tf W (trnF da).2 fcn csz sz9 lo9 tg eg9 thg CN LN9 n8 F8 G8 := ⟨Tf, W2, (⟨qb2, (fun f9 hf9 => LX_cg (fun r9 h1 h2 => hx8.2.2.1 r9 (fun h => by simp only [List.mem_cons, List.not_mem_nil, or_false] at h <;> omega)) (hLX f9 hf9)), qb3, (by rw [hx8.2.2.1 2 (by decide)]; exact htd), (by rw [hx8.2.2.1 2 (by decide)]; exact day_tdN hdaR htn), (by rw [hx8.2.2.1 2 (by decide)]; exact day_sc hdaR htn hsn)⟩ : coV Tf W2 (trnF da).2 fcn csz sz9 lo9 tg eg9 thg CN LN9 n8 F8 G8)⟩
  refine gz_pop dL_law_555 rfl ?_
  refine gz_goto (tgt := 1084) dL_law_556 (by decide) ?_
  exact hq (cells + kk + 0) (slots + nn + 0) _ ⟨own9, (trnF da).2, fcn, csz, sz9, len, ln, wz, lo9, tg, weg, stg, tpg, CN, eg9, thg, LN9, ne9, n8, z8, F8, G8, hI8, mS_rf hS8, hR8, hN8, ⟨(by rw [h08, trn_snd (by rw [hda]; exact hR.1), hda]), (by rw [hx8.1 53 (by decide)]; exact hwz), (by rw [hx8.1 4 (by decide)]; exact hln), (by rw [hx8.1 5 (by decide)]; exact hfc), (by rw [hx8.1 4 (by decide), hx8.2.2.1 3 (by decide)]; exact htp), (rB_cg (hx8.2.2.1 3 (by decide)) hrB), (nmG_cg (hx8.2.2.2 27 (by decide)) hnm), qco⟩, h09, ha9, (by omega), (by omega)⟩

set_option maxHeartbeats 4000000 in
set_option maxRecDepth 100000 in
theorem lw_case_13 {l : Launch} {D : va_G} {cy : Nat → ClassId} {b bs L x m t cells slots : Nat} {a : Nat → Nat} {xs : Nat → Int32} {nm : String} {i : Int32} {f : gMem} (hL : L ≤ 3072) (hi : i.toInt = 6 * (t : Int) ∧ 6 * t + 6 ≤ L) (hI0 : lwI cy x m a t cells slots f) (hq : ∀ (cells2 slots2 : Nat) (f2 : gMem), lwI cy x m a (t + 1) cells2 slots2 f2 → gG l room_1 lwQf (lwEx bs L b xs) D cy b code 4 ret RL nm cells2 slots2 f2 1084 [(3, .int i), (2, .ref m), (1, .ref x), (0, .ref bs)] []) : gG l room_1 lwQf (lwEx bs L b xs) D cy b code 4 ret RL nm cells slots f 559 [(3, .int i), (2, .ref m), (1, .ref x), (0, .ref bs)] [] := by
  have hrm0 := lwI_room hI0 (by omega)
  obtain ⟨own, da, fcn, csz, sz, len, ln, wz, lo, tg, weg, stg, tpg, CN, eg, thg, LN, ne, n, z, F, G, hI, hS, hR, hN, ⟨hda, hwz, hln, hfc, htp, hrB, hnm, hco⟩, h0, ha, hcc, hss⟩ := hI0
  obtain ⟨Tf, W, hcv⟩ := id hco
  obtain ⟨hcw, hLX, hRL, htd, htn, hsn⟩ := id hcv
  have hdaR : 0 ≤ da.toInt ∧ da.toInt ≤ 399 := by rw [hda]; exact hR.1
  have hco1 := hcw.2.2.2.2
  have hco2 := hLX
  have hsn2 : sCn (sNow (n 0) (F 2)) da thg := by rw [← hda]; exact hsn
  have hok5 : okW (n 5).toInt Tf W := by rw [← hfc]; exact hcw.2.2.2.1
  have hLX5 : ∀ f : Nat, (f : Int) < (n 5).toInt → LX F f (Tf f) := by rw [← hfc]; exact hLX
  have hne := xI_ne hI
  obtain ⟨fs, hfx⟩ := xI_x hI
  have hv1 : vp_in (i + 1) L := vin_T (T_add hi.1 (show (1 : Int32).toInt = 1 from rfl) (by omega)) (by omega) (by omega)
  refine gz_aload_n dL_law_559 rfl rfl ?_
  refine gz_aload_n dL_law_560 rfl rfl ?_
  refine gz_iload_n dL_law_561 rfl rfl ?_
  refine gz_iconst (v := 1) dL_law_562 (by decide) ?_
  refine gz_iadd dL_law_563 ?_
  refine lz_sld hv1 dL_law_564 ?_
  refine scL_71 (i_X11_stands (x := (xs (Int32.toNatClampNeg (i + 1)))) hI) hfx ⟨(Nat.le_of_ble_eq_true rfl), (Nat.le_of_ble_eq_true rfl)⟩ ⟨(show cells + 0 ≤ 600000 by omega), (show slots + 0 ≤ 7302250 by omega)⟩ rfl rfl (Nat.le_of_ble_eq_true rfl) dL_law_565 ?_
  rintro v9 f9 ⟨hI9, hk9⟩
  obtain ⟨hS9, h09, ha9⟩ := mS_kp hS h0 ha hk9
  refine gz_pop dL_law_568 rfl ?_
  refine gz_aload_n dL_law_569 rfl rfl ?_
  refine gz_aload_n dL_law_570 rfl rfl ?_
  refine gz_iload_n dL_law_571 rfl rfl ?_
  refine gz_iconst (v := 1) dL_law_572 (by decide) ?_
  refine gz_iadd dL_law_573 ?_
  refine lz_sld hv1 dL_law_574 ?_
  refine scL_74 (k_X12_stands (x1 := (xs (Int32.toNatClampNeg (i + 1)))) hS9 hR) hS9.1 ⟨(Nat.le_of_ble_eq_true rfl), (Nat.le_of_ble_eq_true rfl)⟩ ⟨(show cells + 0 + 0 ≤ 600000 by omega), (show slots + 0 + 0 ≤ 7302250 by omega)⟩ rfl rfl (Nat.le_of_ble_eq_true rfl) dL_law_575 ?_
  rintro v8 f8 ⟨-, e8⟩
  rw [e8]
  refine gz_pop dL_law_578 rfl ?_
  refine gz_goto (tgt := 1084) dL_law_579 (by decide) ?_
  exact hq (cells + 0 + 0) (slots + 0 + 0) _ ⟨own, da, fcn, csz, sz, len, ln, wz, lo, tg, weg, stg, tpg, CN, eg, thg, LN, ne, n, z, F, G, hI9, hS9, hR, hN, ⟨hda, hwz, hln, hfc, htp, hrB, hnm, hco⟩, h09, ha9, (by omega), (by omega)⟩

set_option maxHeartbeats 4000000 in
set_option maxRecDepth 100000 in
theorem lw_case_14 {l : Launch} {D : va_G} {cy : Nat → ClassId} {b bs L x m t cells slots : Nat} {a : Nat → Nat} {xs : Nat → Int32} {nm : String} {i : Int32} {f : gMem} (hL : L ≤ 3072) (hi : i.toInt = 6 * (t : Int) ∧ 6 * t + 6 ≤ L) (hI0 : lwI cy x m a t cells slots f) (hq : ∀ (cells2 slots2 : Nat) (f2 : gMem), lwI cy x m a (t + 1) cells2 slots2 f2 → gG l room_1 lwQf (lwEx bs L b xs) D cy b code 4 ret RL nm cells2 slots2 f2 1084 [(3, .int i), (2, .ref m), (1, .ref x), (0, .ref bs)] []) : gG l room_1 lwQf (lwEx bs L b xs) D cy b code 4 ret RL nm cells slots f 582 [(3, .int i), (2, .ref m), (1, .ref x), (0, .ref bs)] [] := by
  have hrm0 := lwI_room hI0 (by omega)
  obtain ⟨own, da, fcn, csz, sz, len, ln, wz, lo, tg, weg, stg, tpg, CN, eg, thg, LN, ne, n, z, F, G, hI, hS, hR, hN, ⟨hda, hwz, hln, hfc, htp, hrB, hnm, hco⟩, h0, ha, hcc, hss⟩ := hI0
  obtain ⟨Tf, W, hcv⟩ := id hco
  obtain ⟨hcw, hLX, hRL, htd, htn, hsn⟩ := id hcv
  have hdaR : 0 ≤ da.toInt ∧ da.toInt ≤ 399 := by rw [hda]; exact hR.1
  have hco1 := hcw.2.2.2.2
  have hco2 := hLX
  have hsn2 : sCn (sNow (n 0) (F 2)) da thg := by rw [← hda]; exact hsn
  have hok5 : okW (n 5).toInt Tf W := by rw [← hfc]; exact hcw.2.2.2.1
  have hLX5 : ∀ f : Nat, (f : Int) < (n 5).toInt → LX F f (Tf f) := by rw [← hfc]; exact hLX
  have hne := xI_ne hI
  obtain ⟨fs, hfx⟩ := xI_x hI
  have hv1 : vp_in (i + 1) L := vin_T (T_add hi.1 (show (1 : Int32).toInt = 1 from rfl) (by omega)) (by omega) (by omega)
  have hv2 : vp_in (i + 2) L := vin_T (T_add hi.1 (show (2 : Int32).toInt = 2 from rfl) (by omega)) (by omega) (by omega)
  have hv3 : vp_in (i + 3) L := vin_T (T_add hi.1 (show (3 : Int32).toInt = 3 from rfl) (by omega)) (by omega) (by omega)
  refine gz_aload_n dL_law_582 rfl rfl ?_
  refine gz_aload_n dL_law_583 rfl rfl ?_
  refine gz_iload_n dL_law_584 rfl rfl ?_
  refine gz_iconst (v := 1) dL_law_585 (by decide) ?_
  refine gz_iadd dL_law_586 ?_
  refine lz_sld hv1 dL_law_587 ?_
  refine gz_aload_n dL_law_588 rfl rfl ?_
  refine gz_iload_n dL_law_589 rfl rfl ?_
  refine gz_iconst (v := 2) dL_law_590 (by decide) ?_
  refine gz_iadd dL_law_591 ?_
  refine lz_sld hv2 dL_law_592 ?_
  refine gz_aload_n dL_law_593 rfl rfl ?_
  refine gz_iload_n dL_law_594 rfl rfl ?_
  refine gz_iconst (v := 3) dL_law_595 (by decide) ?_
  refine gz_iadd dL_law_596 ?_
  refine lz_sld hv3 dL_law_597 ?_
  refine scL_75 (i_X11_standingL (x := (xs (Int32.toNatClampNeg (i + 1)))) (y := (xs (Int32.toNatClampNeg (i + 2)))) (u := (xs (Int32.toNatClampNeg (i + 3)))) (Tf := Tf) (W := W) (S := sNow (n 0) (F 2)) hI hcw hsn2) hfx ⟨(Nat.le_of_ble_eq_true rfl), (Nat.le_of_ble_eq_true rfl)⟩ ⟨(show cells + 0 ≤ 600000 by omega), (show slots + 0 ≤ 7302250 by omega)⟩ rfl rfl (Nat.le_of_ble_eq_true rfl) dL_law_598 ?_
  rintro v9 f9 ⟨hr9, hI9, hk9⟩
  obtain ⟨hS9, h09, ha9⟩ := mS_kp hS h0 ha hk9
  refine gz_aload_n dL_law_601 rfl rfl ?_
  refine gz_aload_n dL_law_602 rfl rfl ?_
  refine gz_iload_n dL_law_603 rfl rfl ?_
  refine gz_iconst (v := 1) dL_law_604 (by decide) ?_
  refine gz_iadd dL_law_605 ?_
  refine lz_sld hv1 dL_law_606 ?_
  refine gz_aload_n dL_law_607 rfl rfl ?_
  refine gz_iload_n dL_law_608 rfl rfl ?_
  refine gz_iconst (v := 2) dL_law_609 (by decide) ?_
  refine gz_iadd dL_law_610 ?_
  refine lz_sld hv2 dL_law_611 ?_
  refine gz_aload_n dL_law_612 rfl rfl ?_
  refine gz_iload_n dL_law_613 rfl rfl ?_
  refine gz_iconst (v := 3) dL_law_614 (by decide) ?_
  refine gz_iadd dL_law_615 ?_
  refine lz_sld hv3 dL_law_616 ?_
  refine scL_78 (k_X12_standingE (x1 := (xs (Int32.toNatClampNeg (i + 1)))) (x2 := (xs (Int32.toNatClampNeg (i + 2)))) (x3 := (xs (Int32.toNatClampNeg (i + 3)))) (Tf := Tf) (W := W) hS9 hR hRL hok5 hLX5) hS9.1 ⟨(Nat.le_of_ble_eq_true rfl), (Nat.le_of_ble_eq_true rfl)⟩ ⟨(show cells + 0 + 0 ≤ 600000 by omega), (show slots + 0 + 0 ≤ 7302250 by omega)⟩ rfl rfl (Nat.le_of_ble_eq_true rfl) dL_law_617 ?_
  rintro v8 f8 ⟨n8, z8, F8, G8, hS8, hx8, hR8, hr8⟩
  have hN8 := NR_fx hN hx8 (by decide)
  have hI8 := xI_mS hI9 hS8 h09 ha9
  have qco : ∃ (Tf : Nat → List Hd) (W : Lw), coV Tf W da fcn csz sz lo tg eg thg CN LN n8 F8 G8 := ⟨Tf, W, coV_cg hcv (fun k9 hk9 => hx8.1 k9 (by revert hk9; revert k9; decide)) (fun k9 hk9 => hx8.2.2.1 k9 (by revert hk9; revert k9; decide)) (fun k9 hk9 => hx8.2.2.2 k9 (by revert hk9; revert k9; decide)) (fun r9 h1 h2 => hx8.2.2.1 r9 (fun h => by simp only [List.mem_cons, List.not_mem_nil, or_false] at h <;> omega))⟩
  have e89 : v8 = v9 := by exact Int32.toInt_inj.mp (hr8.trans hr9.symm)
  subst e89
  refine gz_icmp_eq (tgt := 1084) dL_law_620 (by decide) (fun c_620 => ?_) (fun c_620 => ?_)
  ·
    exact hq (cells + 0 + 0) (slots + 0 + 0) _ ⟨own, da, fcn, csz, sz, len, ln, wz, lo, tg, weg, stg, tpg, CN, eg, thg, LN, ne, n8, z8, F8, G8, hI8, mS_rf hS8, hR8, hN8, ⟨(by rw [hx8.1 0 (by decide)]; exact hda), (by rw [hx8.1 53 (by decide)]; exact hwz), (by rw [hx8.1 4 (by decide)]; exact hln), (by rw [hx8.1 5 (by decide)]; exact hfc), (by rw [hx8.1 4 (by decide), hx8.2.2.1 3 (by decide)]; exact htp), (rB_cg (hx8.2.2.1 3 (by decide)) hrB), (nmG_cg (hx8.2.2.2 27 (by decide)) hnm), qco⟩, h09, ha9, (by omega), (by omega)⟩
  · exact absurd rfl c_620

set_option maxHeartbeats 4000000 in
set_option maxRecDepth 100000 in
theorem lw_case_15 {l : Launch} {D : va_G} {cy : Nat → ClassId} {b bs L x m t cells slots : Nat} {a : Nat → Nat} {xs : Nat → Int32} {nm : String} {i : Int32} {f : gMem} (hL : L ≤ 3072) (hi : i.toInt = 6 * (t : Int) ∧ 6 * t + 6 ≤ L) (hI0 : lwI cy x m a t cells slots f) (hq : ∀ (cells2 slots2 : Nat) (f2 : gMem), lwI cy x m a (t + 1) cells2 slots2 f2 → gG l room_1 lwQf (lwEx bs L b xs) D cy b code 4 ret RL nm cells2 slots2 f2 1084 [(3, .int i), (2, .ref m), (1, .ref x), (0, .ref bs)] []) : gG l room_1 lwQf (lwEx bs L b xs) D cy b code 4 ret RL nm cells slots f 625 [(3, .int i), (2, .ref m), (1, .ref x), (0, .ref bs)] [] := by
  have hrm0 := lwI_room hI0 (by omega)
  obtain ⟨own, da, fcn, csz, sz, len, ln, wz, lo, tg, weg, stg, tpg, CN, eg, thg, LN, ne, n, z, F, G, hI, hS, hR, hN, ⟨hda, hwz, hln, hfc, htp, hrB, hnm, hco⟩, h0, ha, hcc, hss⟩ := hI0
  obtain ⟨Tf, W, hcv⟩ := id hco
  obtain ⟨hcw, hLX, hRL, htd, htn, hsn⟩ := id hcv
  have hdaR : 0 ≤ da.toInt ∧ da.toInt ≤ 399 := by rw [hda]; exact hR.1
  have hco1 := hcw.2.2.2.2
  have hco2 := hLX
  have hsn2 : sCn (sNow (n 0) (F 2)) da thg := by rw [← hda]; exact hsn
  have hok5 : okW (n 5).toInt Tf W := by rw [← hfc]; exact hcw.2.2.2.1
  have hLX5 : ∀ f : Nat, (f : Int) < (n 5).toInt → LX F f (Tf f) := by rw [← hfc]; exact hLX
  have hne := xI_ne hI
  obtain ⟨fs, hfx⟩ := xI_x hI
  have hv1 : vp_in (i + 1) L := vin_T (T_add hi.1 (show (1 : Int32).toInt = 1 from rfl) (by omega)) (by omega) (by omega)
  have hv2 : vp_in (i + 2) L := vin_T (T_add hi.1 (show (2 : Int32).toInt = 2 from rfl) (by omega)) (by omega) (by omega)
  have hv3 : vp_in (i + 3) L := vin_T (T_add hi.1 (show (3 : Int32).toInt = 3 from rfl) (by omega)) (by omega) (by omega)
  have hv4 : vp_in (i + 4) L := vin_T (T_add hi.1 (show (4 : Int32).toInt = 4 from rfl) (by omega)) (by omega) (by omega)
  refine gz_aload_n dL_law_625 rfl rfl ?_
  refine gz_aload_n dL_law_626 rfl rfl ?_
  refine gz_iload_n dL_law_627 rfl rfl ?_
  refine gz_iconst (v := 1) dL_law_628 (by decide) ?_
  refine gz_iadd dL_law_629 ?_
  refine lz_sld hv1 dL_law_630 ?_
  refine gz_aload_n dL_law_631 rfl rfl ?_
  refine gz_iload_n dL_law_632 rfl rfl ?_
  refine gz_iconst (v := 2) dL_law_633 (by decide) ?_
  refine gz_iadd dL_law_634 ?_
  refine lz_sld hv2 dL_law_635 ?_
  refine gz_aload_n dL_law_636 rfl rfl ?_
  refine gz_iload_n dL_law_637 rfl rfl ?_
  refine gz_iconst (v := 3) dL_law_638 (by decide) ?_
  refine gz_iadd dL_law_639 ?_
  refine lz_sld hv3 dL_law_640 ?_
  refine gz_aload_n dL_law_641 rfl rfl ?_
  refine gz_iload_n dL_law_642 rfl rfl ?_
  refine gz_iconst (v := 4) dL_law_643 (by decide) ?_
  refine gz_iadd dL_law_644 ?_
  refine lz_sld hv4 dL_law_645 ?_
  refine suL_79 (i_X11_chooseL (x := (xs (Int32.toNatClampNeg (i + 1)))) (y := (xs (Int32.toNatClampNeg (i + 2)))) (u := (xs (Int32.toNatClampNeg (i + 3)))) (q0 := (xs (Int32.toNatClampNeg (i + 4)))) (Tf := Tf) (W := W) (S := sNow (n 0) (F 2)) hI hcw hsn2) hfx ⟨(Nat.le_of_ble_eq_true rfl), (Nat.le_of_ble_eq_true rfl)⟩ ⟨(show cells + (24000 - ne) ≤ 600000 by omega), (show slots + (2 * (24000 - ne)) ≤ 7302250 by omega)⟩ rfl rfl (Nat.le_of_ble_eq_true rfl) dL_law_646 ?_
  rintro kk nn r9 f9 ⟨v9, rfl, own9, sz9, lo9, ne9, eg9, LN9, hI9, hk9, hrm, hcw9, hr9⟩
  refine gz_eq (st2 := [.int v9]) rfl rfl rfl rfl ?_
  have hne9 := xI_ne hI9
  obtain ⟨hS9, h09, ha9⟩ := mS_kp hS h0 ha hk9
  refine gz_pop dL_law_649 rfl ?_
  refine gz_aload_n dL_law_650 rfl rfl ?_
  refine gz_aload_n dL_law_651 rfl rfl ?_
  refine gz_iload_n dL_law_652 rfl rfl ?_
  refine gz_iconst (v := 1) dL_law_653 (by decide) ?_
  refine gz_iadd dL_law_654 ?_
  refine lz_sld hv1 dL_law_655 ?_
  refine gz_aload_n dL_law_656 rfl rfl ?_
  refine gz_iload_n dL_law_657 rfl rfl ?_
  refine gz_iconst (v := 2) dL_law_658 (by decide) ?_
  refine gz_iadd dL_law_659 ?_
  refine lz_sld hv2 dL_law_660 ?_
  refine gz_aload_n dL_law_661 rfl rfl ?_
  refine gz_iload_n dL_law_662 rfl rfl ?_
  refine gz_iconst (v := 3) dL_law_663 (by decide) ?_
  refine gz_iadd dL_law_664 ?_
  refine lz_sld hv3 dL_law_665 ?_
  refine gz_aload_n dL_law_666 rfl rfl ?_
  refine gz_iload_n dL_law_667 rfl rfl ?_
  refine gz_iconst (v := 4) dL_law_668 (by decide) ?_
  refine gz_iadd dL_law_669 ?_
  refine lz_sld hv4 dL_law_670 ?_
  refine scL_83 (k_X12_chooseE (x1 := (xs (Int32.toNatClampNeg (i + 1)))) (x2 := (xs (Int32.toNatClampNeg (i + 2)))) (x3 := (xs (Int32.toNatClampNeg (i + 3)))) (x4 := (xs (Int32.toNatClampNeg (i + 4)))) (Tf := Tf) (W := W) hS9 hR hRL hok5 hLX5) hS9.1 ⟨(Nat.le_of_ble_eq_true rfl), (Nat.le_of_ble_eq_true rfl)⟩ ⟨(show cells + kk + 0 ≤ 600000 by omega), (show slots + nn + 0 ≤ 7302250 by omega)⟩ rfl rfl (Nat.le_of_ble_eq_true rfl) dL_law_671 ?_
  rintro v8 f8 ⟨n8, z8, F8, G8, hS8, hx8, hR8, hRL8, hr8⟩
  have hN8 := NR_fx hN hx8 (by decide)
  have hI8 := xI_mS hI9 hS8 h09 ha9
  have qco : ∃ (Tf : Nat → List Hd) (W : Lw), coV Tf W da fcn csz sz9 lo9 tg eg9 thg CN LN9 n8 F8 G8 := ⟨Tf, _, (⟨hcw9, (fun f9 hf9 => LX_cg (fun r9 h1 h2 => hx8.2.2.1 r9 (fun h => by simp only [List.mem_cons, List.not_mem_nil, or_false] at h <;> omega)) (hLX f9 hf9)), hRL8, (by rw [hx8.2.2.1 2 (by decide)]; exact htd), (by rw [hx8.2.2.1 2 (by decide)]; exact htn), (by rw [hx8.2.2.1 2 (by decide)]; exact hsn)⟩ : coV Tf _ da fcn csz sz9 lo9 tg eg9 thg CN LN9 n8 F8 G8)⟩
  refine gz_pop dL_law_674 rfl ?_
  refine gz_goto (tgt := 1084) dL_law_675 (by decide) ?_
  exact hq (cells + kk + 0) (slots + nn + 0) _ ⟨own9, da, fcn, csz, sz9, len, ln, wz, lo9, tg, weg, stg, tpg, CN, eg9, thg, LN9, ne9, n8, z8, F8, G8, hI8, mS_rf hS8, hR8, hN8, ⟨(by rw [hx8.1 0 (by decide)]; exact hda), (by rw [hx8.1 53 (by decide)]; exact hwz), (by rw [hx8.1 4 (by decide)]; exact hln), (by rw [hx8.1 5 (by decide)]; exact hfc), (by rw [hx8.1 4 (by decide), hx8.2.2.1 3 (by decide)]; exact htp), (rB_cg (hx8.2.2.1 3 (by decide)) hrB), (nmG_cg (hx8.2.2.2 27 (by decide)) hnm), qco⟩, h09, ha9, (by omega), (by omega)⟩

set_option maxHeartbeats 4000000 in
set_option maxRecDepth 100000 in
theorem lw_case_16 {l : Launch} {D : va_G} {cy : Nat → ClassId} {b bs L x m t cells slots : Nat} {a : Nat → Nat} {xs : Nat → Int32} {nm : String} {i : Int32} {f : gMem} (hL : L ≤ 3072) (hi : i.toInt = 6 * (t : Int) ∧ 6 * t + 6 ≤ L) (hI0 : lwI cy x m a t cells slots f) (hq : ∀ (cells2 slots2 : Nat) (f2 : gMem), lwI cy x m a (t + 1) cells2 slots2 f2 → gG l room_1 lwQf (lwEx bs L b xs) D cy b code 4 ret RL nm cells2 slots2 f2 1084 [(3, .int i), (2, .ref m), (1, .ref x), (0, .ref bs)] []) : gG l room_1 lwQf (lwEx bs L b xs) D cy b code 4 ret RL nm cells slots f 678 [(3, .int i), (2, .ref m), (1, .ref x), (0, .ref bs)] [] := by
  have hrm0 := lwI_room hI0 (by omega)
  obtain ⟨own, da, fcn, csz, sz, len, ln, wz, lo, tg, weg, stg, tpg, CN, eg, thg, LN, ne, n, z, F, G, hI, hS, hR, hN, ⟨hda, hwz, hln, hfc, htp, hrB, hnm, hco⟩, h0, ha, hcc, hss⟩ := hI0
  obtain ⟨Tf, W, hcv⟩ := id hco
  obtain ⟨hcw, hLX, hRL, htd, htn, hsn⟩ := id hcv
  have hdaR : 0 ≤ da.toInt ∧ da.toInt ≤ 399 := by rw [hda]; exact hR.1
  have hco1 := hcw.2.2.2.2
  have hco2 := hLX
  have hsn2 : sCn (sNow (n 0) (F 2)) da thg := by rw [← hda]; exact hsn
  have hok5 : okW (n 5).toInt Tf W := by rw [← hfc]; exact hcw.2.2.2.1
  have hLX5 : ∀ f : Nat, (f : Int) < (n 5).toInt → LX F f (Tf f) := by rw [← hfc]; exact hLX
  have hne := xI_ne hI
  obtain ⟨fs, hfx⟩ := xI_x hI
  have hv1 : vp_in (i + 1) L := vin_T (T_add hi.1 (show (1 : Int32).toInt = 1 from rfl) (by omega)) (by omega) (by omega)
  have hv2 : vp_in (i + 2) L := vin_T (T_add hi.1 (show (2 : Int32).toInt = 2 from rfl) (by omega)) (by omega) (by omega)
  have hv3 : vp_in (i + 3) L := vin_T (T_add hi.1 (show (3 : Int32).toInt = 3 from rfl) (by omega)) (by omega) (by omega)
  refine gz_aload_n dL_law_678 rfl rfl ?_
  refine gz_aload_n dL_law_679 rfl rfl ?_
  refine gz_iload_n dL_law_680 rfl rfl ?_
  refine gz_iconst (v := 1) dL_law_681 (by decide) ?_
  refine gz_iadd dL_law_682 ?_
  refine lz_sld hv1 dL_law_683 ?_
  refine gz_aload_n dL_law_684 rfl rfl ?_
  refine gz_iload_n dL_law_685 rfl rfl ?_
  refine gz_iconst (v := 2) dL_law_686 (by decide) ?_
  refine gz_iadd dL_law_687 ?_
  refine lz_sld hv2 dL_law_688 ?_
  refine gz_aload_n dL_law_689 rfl rfl ?_
  refine gz_iload_n dL_law_690 rfl rfl ?_
  refine gz_iconst (v := 3) dL_law_691 (by decide) ?_
  refine gz_iadd dL_law_692 ?_
  refine lz_sld hv3 dL_law_693 ?_
  refine suL_84 (i_X11_takeL (x := (xs (Int32.toNatClampNeg (i + 1)))) (y := (xs (Int32.toNatClampNeg (i + 2)))) (u := (xs (Int32.toNatClampNeg (i + 3)))) (Tf := Tf) (W := W) (S := sNow (n 0) (F 2)) hI hcw hsn2) hfx ⟨(Nat.le_of_ble_eq_true rfl), (Nat.le_of_ble_eq_true rfl)⟩ ⟨(show cells + (24000 - ne) ≤ 600000 by omega), (show slots + (2 * (24000 - ne)) ≤ 7302250 by omega)⟩ rfl rfl (Nat.le_of_ble_eq_true rfl) dL_law_694 ?_
  rintro kk nn r9 f9 ⟨v9, rfl, own9, sz9, lo9, ne9, eg9, LN9, hI9, hk9, hrm, hcw9, hr9⟩
  refine gz_eq (st2 := [.int v9]) rfl rfl rfl rfl ?_
  have hne9 := xI_ne hI9
  obtain ⟨hS9, h09, ha9⟩ := mS_kp hS h0 ha hk9
  refine gz_pop dL_law_697 rfl ?_
  refine gz_aload_n dL_law_698 rfl rfl ?_
  refine gz_aload_n dL_law_699 rfl rfl ?_
  refine gz_iload_n dL_law_700 rfl rfl ?_
  refine gz_iconst (v := 1) dL_law_701 (by decide) ?_
  refine gz_iadd dL_law_702 ?_
  refine lz_sld hv1 dL_law_703 ?_
  refine gz_aload_n dL_law_704 rfl rfl ?_
  refine gz_iload_n dL_law_705 rfl rfl ?_
  refine gz_iconst (v := 2) dL_law_706 (by decide) ?_
  refine gz_iadd dL_law_707 ?_
  refine lz_sld hv2 dL_law_708 ?_
  refine gz_aload_n dL_law_709 rfl rfl ?_
  refine gz_iload_n dL_law_710 rfl rfl ?_
  refine gz_iconst (v := 3) dL_law_711 (by decide) ?_
  refine gz_iadd dL_law_712 ?_
  refine lz_sld hv3 dL_law_713 ?_
  refine scL_87 (k_X12_takeE (x1 := (xs (Int32.toNatClampNeg (i + 1)))) (x2 := (xs (Int32.toNatClampNeg (i + 2)))) (x3 := (xs (Int32.toNatClampNeg (i + 3)))) (Tf := Tf) (W := W) hS9 hR hRL hok5 hLX5) hS9.1 ⟨(Nat.le_of_ble_eq_true rfl), (Nat.le_of_ble_eq_true rfl)⟩ ⟨(show cells + kk + 0 ≤ 600000 by omega), (show slots + nn + 0 ≤ 7302250 by omega)⟩ rfl rfl (Nat.le_of_ble_eq_true rfl) dL_law_714 ?_
  rintro v8 f8 ⟨n8, z8, F8, G8, hS8, hx8, hR8, hRL8, hr8⟩
  have hN8 := NR_fx hN hx8 (by decide)
  have hI8 := xI_mS hI9 hS8 h09 ha9
  have qco : ∃ (Tf : Nat → List Hd) (W : Lw), coV Tf W da fcn csz sz9 lo9 tg eg9 thg CN LN9 n8 F8 G8 := ⟨Tf, _, (⟨hcw9, (fun f9 hf9 => LX_cg (fun r9 h1 h2 => hx8.2.2.1 r9 (fun h => by simp only [List.mem_cons, List.not_mem_nil, or_false] at h <;> omega)) (hLX f9 hf9)), hRL8, (by rw [hx8.2.2.1 2 (by decide)]; exact htd), (by rw [hx8.2.2.1 2 (by decide)]; exact htn), (by rw [hx8.2.2.1 2 (by decide)]; exact hsn)⟩ : coV Tf _ da fcn csz sz9 lo9 tg eg9 thg CN LN9 n8 F8 G8)⟩
  refine gz_pop dL_law_717 rfl ?_
  refine gz_goto (tgt := 1084) dL_law_718 (by decide) ?_
  exact hq (cells + kk + 0) (slots + nn + 0) _ ⟨own9, da, fcn, csz, sz9, len, ln, wz, lo9, tg, weg, stg, tpg, CN, eg9, thg, LN9, ne9, n8, z8, F8, G8, hI8, mS_rf hS8, hR8, hN8, ⟨(by rw [hx8.1 0 (by decide)]; exact hda), (by rw [hx8.1 53 (by decide)]; exact hwz), (by rw [hx8.1 4 (by decide)]; exact hln), (by rw [hx8.1 5 (by decide)]; exact hfc), (by rw [hx8.1 4 (by decide), hx8.2.2.1 3 (by decide)]; exact htp), (rB_cg (hx8.2.2.1 3 (by decide)) hrB), (nmG_cg (hx8.2.2.2 27 (by decide)) hnm), qco⟩, h09, ha9, (by omega), (by omega)⟩

set_option maxHeartbeats 4000000 in
set_option maxRecDepth 100000 in
theorem lw_case_17 {l : Launch} {D : va_G} {cy : Nat → ClassId} {b bs L x m t cells slots : Nat} {a : Nat → Nat} {xs : Nat → Int32} {nm : String} {i : Int32} {f : gMem} (hL : L ≤ 3072) (hi : i.toInt = 6 * (t : Int) ∧ 6 * t + 6 ≤ L) (hI0 : lwI cy x m a t cells slots f) (hq : ∀ (cells2 slots2 : Nat) (f2 : gMem), lwI cy x m a (t + 1) cells2 slots2 f2 → gG l room_1 lwQf (lwEx bs L b xs) D cy b code 4 ret RL nm cells2 slots2 f2 1084 [(3, .int i), (2, .ref m), (1, .ref x), (0, .ref bs)] []) : gG l room_1 lwQf (lwEx bs L b xs) D cy b code 4 ret RL nm cells slots f 721 [(3, .int i), (2, .ref m), (1, .ref x), (0, .ref bs)] [] := by
  have hrm0 := lwI_room hI0 (by omega)
  obtain ⟨own, da, fcn, csz, sz, len, ln, wz, lo, tg, weg, stg, tpg, CN, eg, thg, LN, ne, n, z, F, G, hI, hS, hR, hN, ⟨hda, hwz, hln, hfc, htp, hrB, hnm, hco⟩, h0, ha, hcc, hss⟩ := hI0
  obtain ⟨Tf, W, hcv⟩ := id hco
  obtain ⟨hcw, hLX, hRL, htd, htn, hsn⟩ := id hcv
  have hdaR : 0 ≤ da.toInt ∧ da.toInt ≤ 399 := by rw [hda]; exact hR.1
  have hco1 := hcw.2.2.2.2
  have hco2 := hLX
  have hsn2 : sCn (sNow (n 0) (F 2)) da thg := by rw [← hda]; exact hsn
  have hok5 : okW (n 5).toInt Tf W := by rw [← hfc]; exact hcw.2.2.2.1
  have hLX5 : ∀ f : Nat, (f : Int) < (n 5).toInt → LX F f (Tf f) := by rw [← hfc]; exact hLX
  have hne := xI_ne hI
  obtain ⟨fs, hfx⟩ := xI_x hI
  have hv1 : vp_in (i + 1) L := vin_T (T_add hi.1 (show (1 : Int32).toInt = 1 from rfl) (by omega)) (by omega) (by omega)
  have hv2 : vp_in (i + 2) L := vin_T (T_add hi.1 (show (2 : Int32).toInt = 2 from rfl) (by omega)) (by omega) (by omega)
  refine gz_aload_n dL_law_721 rfl rfl ?_
  refine gz_aload_n dL_law_722 rfl rfl ?_
  refine gz_iload_n dL_law_723 rfl rfl ?_
  refine gz_iconst (v := 1) dL_law_724 (by decide) ?_
  refine gz_iadd dL_law_725 ?_
  refine lz_sld hv1 dL_law_726 ?_
  refine gz_aload_n dL_law_727 rfl rfl ?_
  refine gz_iload_n dL_law_728 rfl rfl ?_
  refine gz_iconst (v := 2) dL_law_729 (by decide) ?_
  refine gz_iadd dL_law_730 ?_
  refine lz_sld hv2 dL_law_731 ?_
  refine scL_88 (i_X11_payment (x := (xs (Int32.toNatClampNeg (i + 1)))) (y := (xs (Int32.toNatClampNeg (i + 2)))) hI) hfx ⟨(Nat.le_of_ble_eq_true rfl), (Nat.le_of_ble_eq_true rfl)⟩ ⟨(show cells + 0 ≤ 600000 by omega), (show slots + 0 ≤ 7302250 by omega)⟩ rfl rfl (Nat.le_of_ble_eq_true rfl) dL_law_732 ?_
  rintro v9 f9 ⟨hI9, hk9⟩
  obtain ⟨hS9, h09, ha9⟩ := mS_kp hS h0 ha hk9
  refine gz_pop dL_law_735 rfl ?_
  refine gz_aload_n dL_law_736 rfl rfl ?_
  refine gz_aload_n dL_law_737 rfl rfl ?_
  refine gz_iload_n dL_law_738 rfl rfl ?_
  refine gz_iconst (v := 1) dL_law_739 (by decide) ?_
  refine gz_iadd dL_law_740 ?_
  refine lz_sld hv1 dL_law_741 ?_
  refine gz_aload_n dL_law_742 rfl rfl ?_
  refine gz_iload_n dL_law_743 rfl rfl ?_
  refine gz_iconst (v := 2) dL_law_744 (by decide) ?_
  refine gz_iadd dL_law_745 ?_
  refine lz_sld hv2 dL_law_746 ?_
  refine scL_91 (k_X12_payment (x1 := (xs (Int32.toNatClampNeg (i + 1)))) (x2 := (xs (Int32.toNatClampNeg (i + 2)))) hS9 hR) hS9.1 ⟨(Nat.le_of_ble_eq_true rfl), (Nat.le_of_ble_eq_true rfl)⟩ ⟨(show cells + 0 + 0 ≤ 600000 by omega), (show slots + 0 + 0 ≤ 7302250 by omega)⟩ rfl rfl (Nat.le_of_ble_eq_true rfl) dL_law_747 ?_
  rintro v8 f8 ⟨-, e8⟩
  rw [e8]
  refine gz_pop dL_law_750 rfl ?_
  refine gz_goto (tgt := 1084) dL_law_751 (by decide) ?_
  exact hq (cells + 0 + 0) (slots + 0 + 0) _ ⟨own, da, fcn, csz, sz, len, ln, wz, lo, tg, weg, stg, tpg, CN, eg, thg, LN, ne, n, z, F, G, hI9, hS9, hR, hN, ⟨hda, hwz, hln, hfc, htp, hrB, hnm, hco⟩, h09, ha9, (by omega), (by omega)⟩

set_option maxHeartbeats 4000000 in
set_option maxRecDepth 100000 in
theorem lw_case_18 {l : Launch} {D : va_G} {cy : Nat → ClassId} {b bs L x m t cells slots : Nat} {a : Nat → Nat} {xs : Nat → Int32} {nm : String} {i : Int32} {f : gMem} (hL : L ≤ 3072) (hi : i.toInt = 6 * (t : Int) ∧ 6 * t + 6 ≤ L) (hI0 : lwI cy x m a t cells slots f) (hq : ∀ (cells2 slots2 : Nat) (f2 : gMem), lwI cy x m a (t + 1) cells2 slots2 f2 → gG l room_1 lwQf (lwEx bs L b xs) D cy b code 4 ret RL nm cells2 slots2 f2 1084 [(3, .int i), (2, .ref m), (1, .ref x), (0, .ref bs)] []) : gG l room_1 lwQf (lwEx bs L b xs) D cy b code 4 ret RL nm cells slots f 754 [(3, .int i), (2, .ref m), (1, .ref x), (0, .ref bs)] [] := by
  have hrm0 := lwI_room hI0 (by omega)
  obtain ⟨own, da, fcn, csz, sz, len, ln, wz, lo, tg, weg, stg, tpg, CN, eg, thg, LN, ne, n, z, F, G, hI, hS, hR, hN, ⟨hda, hwz, hln, hfc, htp, hrB, hnm, hco⟩, h0, ha, hcc, hss⟩ := hI0
  obtain ⟨Tf, W, hcv⟩ := id hco
  obtain ⟨hcw, hLX, hRL, htd, htn, hsn⟩ := id hcv
  have hdaR : 0 ≤ da.toInt ∧ da.toInt ≤ 399 := by rw [hda]; exact hR.1
  have hco1 := hcw.2.2.2.2
  have hco2 := hLX
  have hsn2 : sCn (sNow (n 0) (F 2)) da thg := by rw [← hda]; exact hsn
  have hok5 : okW (n 5).toInt Tf W := by rw [← hfc]; exact hcw.2.2.2.1
  have hLX5 : ∀ f : Nat, (f : Int) < (n 5).toInt → LX F f (Tf f) := by rw [← hfc]; exact hLX
  have hne := xI_ne hI
  obtain ⟨fs, hfx⟩ := xI_x hI
  have hv1 : vp_in (i + 1) L := vin_T (T_add hi.1 (show (1 : Int32).toInt = 1 from rfl) (by omega)) (by omega) (by omega)
  refine gz_aload_n dL_law_754 rfl rfl ?_
  refine gz_aload_n dL_law_755 rfl rfl ?_
  refine gz_iload_n dL_law_756 rfl rfl ?_
  refine gz_iconst (v := 1) dL_law_757 (by decide) ?_
  refine gz_iadd dL_law_758 ?_
  refine lz_sld hv1 dL_law_759 ?_
  refine scL_92 (i_X11_got (x := (xs (Int32.toNatClampNeg (i + 1)))) hI) hfx ⟨(Nat.le_of_ble_eq_true rfl), (Nat.le_of_ble_eq_true rfl)⟩ ⟨(show cells + 0 ≤ 600000 by omega), (show slots + 0 ≤ 7302250 by omega)⟩ rfl rfl (Nat.le_of_ble_eq_true rfl) dL_law_760 ?_
  rintro v9 f9 ⟨hI9, hk9⟩
  obtain ⟨hS9, h09, ha9⟩ := mS_kp hS h0 ha hk9
  refine gz_pop2 dL_law_763 rfl ?_
  refine gz_aload_n dL_law_764 rfl rfl ?_
  refine gz_aload_n dL_law_765 rfl rfl ?_
  refine gz_iload_n dL_law_766 rfl rfl ?_
  refine gz_iconst (v := 1) dL_law_767 (by decide) ?_
  refine gz_iadd dL_law_768 ?_
  refine lz_sld hv1 dL_law_769 ?_
  refine scL_96 (k_X12_got (x1 := (xs (Int32.toNatClampNeg (i + 1)))) hS9 hR) hS9.1 ⟨(Nat.le_of_ble_eq_true rfl), (Nat.le_of_ble_eq_true rfl)⟩ ⟨(show cells + 0 + 0 ≤ 600000 by omega), (show slots + 0 + 0 ≤ 7302250 by omega)⟩ rfl rfl (Nat.le_of_ble_eq_true rfl) dL_law_770 ?_
  rintro v8 f8 ⟨-, e8⟩
  rw [e8]
  refine gz_pop2 dL_law_773 rfl ?_
  refine gz_goto (tgt := 1084) dL_law_774 (by decide) ?_
  exact hq (cells + 0 + 0) (slots + 0 + 0) _ ⟨own, da, fcn, csz, sz, len, ln, wz, lo, tg, weg, stg, tpg, CN, eg, thg, LN, ne, n, z, F, G, hI9, hS9, hR, hN, ⟨hda, hwz, hln, hfc, htp, hrB, hnm, hco⟩, h09, ha9, (by omega), (by omega)⟩

set_option maxHeartbeats 4000000 in
set_option maxRecDepth 100000 in
theorem lw_case_19 {l : Launch} {D : va_G} {cy : Nat → ClassId} {b bs L x m t cells slots : Nat} {a : Nat → Nat} {xs : Nat → Int32} {nm : String} {i : Int32} {f : gMem} (hL : L ≤ 3072) (hi : i.toInt = 6 * (t : Int) ∧ 6 * t + 6 ≤ L) (hI0 : lwI cy x m a t cells slots f) (hq : ∀ (cells2 slots2 : Nat) (f2 : gMem), lwI cy x m a (t + 1) cells2 slots2 f2 → gG l room_1 lwQf (lwEx bs L b xs) D cy b code 4 ret RL nm cells2 slots2 f2 1084 [(3, .int i), (2, .ref m), (1, .ref x), (0, .ref bs)] []) : gG l room_1 lwQf (lwEx bs L b xs) D cy b code 4 ret RL nm cells slots f 777 [(3, .int i), (2, .ref m), (1, .ref x), (0, .ref bs)] [] := by
  have hrm0 := lwI_room hI0 (by omega)
  obtain ⟨own, da, fcn, csz, sz, len, ln, wz, lo, tg, weg, stg, tpg, CN, eg, thg, LN, ne, n, z, F, G, hI, hS, hR, hN, ⟨hda, hwz, hln, hfc, htp, hrB, hnm, hco⟩, h0, ha, hcc, hss⟩ := hI0
  obtain ⟨Tf, W, hcv⟩ := id hco
  obtain ⟨hcw, hLX, hRL, htd, htn, hsn⟩ := id hcv
  have hdaR : 0 ≤ da.toInt ∧ da.toInt ≤ 399 := by rw [hda]; exact hR.1
  have hco1 := hcw.2.2.2.2
  have hco2 := hLX
  have hsn2 : sCn (sNow (n 0) (F 2)) da thg := by rw [← hda]; exact hsn
  have hok5 : okW (n 5).toInt Tf W := by rw [← hfc]; exact hcw.2.2.2.1
  have hLX5 : ∀ f : Nat, (f : Int) < (n 5).toInt → LX F f (Tf f) := by rw [← hfc]; exact hLX
  have hne := xI_ne hI
  obtain ⟨fs, hfx⟩ := xI_x hI
  have hv1 : vp_in (i + 1) L := vin_T (T_add hi.1 (show (1 : Int32).toInt = 1 from rfl) (by omega)) (by omega) (by omega)
  refine gz_aload_n dL_law_777 rfl rfl ?_
  refine gz_aload_n dL_law_778 rfl rfl ?_
  refine gz_iload_n dL_law_779 rfl rfl ?_
  refine gz_iconst (v := 1) dL_law_780 (by decide) ?_
  refine gz_iadd dL_law_781 ?_
  refine lz_sld hv1 dL_law_782 ?_
  refine scL_97 (i_X11_net (x := (xs (Int32.toNatClampNeg (i + 1)))) hI) hfx ⟨(Nat.le_of_ble_eq_true rfl), (Nat.le_of_ble_eq_true rfl)⟩ ⟨(show cells + 0 ≤ 600000 by omega), (show slots + 0 ≤ 7302250 by omega)⟩ rfl rfl (Nat.le_of_ble_eq_true rfl) dL_law_783 ?_
  rintro v9 f9 ⟨hI9, hk9⟩
  obtain ⟨hS9, h09, ha9⟩ := mS_kp hS h0 ha hk9
  refine gz_pop dL_law_786 rfl ?_
  refine gz_aload_n dL_law_787 rfl rfl ?_
  refine gz_aload_n dL_law_788 rfl rfl ?_
  refine gz_iload_n dL_law_789 rfl rfl ?_
  refine gz_iconst (v := 1) dL_law_790 (by decide) ?_
  refine gz_iadd dL_law_791 ?_
  refine lz_sld hv1 dL_law_792 ?_
  refine scL_100 (k_X12_net (x1 := (xs (Int32.toNatClampNeg (i + 1)))) hS9 hR) hS9.1 ⟨(Nat.le_of_ble_eq_true rfl), (Nat.le_of_ble_eq_true rfl)⟩ ⟨(show cells + 0 + 0 ≤ 600000 by omega), (show slots + 0 + 0 ≤ 7302250 by omega)⟩ rfl rfl (Nat.le_of_ble_eq_true rfl) dL_law_793 ?_
  rintro v8 f8 ⟨n8, z8, F8, G8, hS8, hx8, hR8⟩
  have hN8 := NR_fx hN hx8 (by decide)
  have hI8 := xI_mS hI9 hS8 h09 ha9
  have qco : ∃ (Tf : Nat → List Hd) (W : Lw), coV Tf W da fcn csz sz lo tg eg thg CN LN n8 F8 G8 := ⟨Tf, W, coV_cg hcv (fun k9 hk9 => hx8.1 k9 (by revert hk9; revert k9; decide)) (fun k9 hk9 => hx8.2.2.1 k9 (by revert hk9; revert k9; decide)) (fun k9 hk9 => hx8.2.2.2 k9 (by revert hk9; revert k9; decide)) (fun r9 h1 h2 => hx8.2.2.1 r9 (fun h => by simp only [List.mem_cons, List.not_mem_nil, or_false] at h <;> omega))⟩
  refine gz_pop dL_law_796 rfl ?_
  refine gz_goto (tgt := 1084) dL_law_797 (by decide) ?_
  exact hq (cells + 0 + 0) (slots + 0 + 0) _ ⟨own, da, fcn, csz, sz, len, ln, wz, lo, tg, weg, stg, tpg, CN, eg, thg, LN, ne, n8, z8, F8, G8, hI8, mS_rf hS8, hR8, hN8, ⟨(by rw [hx8.1 0 (by decide)]; exact hda), (by rw [hx8.1 53 (by decide)]; exact hwz), (by rw [hx8.1 4 (by decide)]; exact hln), (by rw [hx8.1 5 (by decide)]; exact hfc), (by rw [hx8.1 4 (by decide), hx8.2.2.1 3 (by decide)]; exact htp), (rB_cg (hx8.2.2.1 3 (by decide)) hrB), (nmG_cg (hx8.2.2.2 27 (by decide)) hnm), qco⟩, h09, ha9, (by omega), (by omega)⟩

set_option maxHeartbeats 4000000 in
set_option maxRecDepth 100000 in
theorem lw_case_20 {l : Launch} {D : va_G} {cy : Nat → ClassId} {b bs L x m t cells slots : Nat} {a : Nat → Nat} {xs : Nat → Int32} {nm : String} {i : Int32} {f : gMem} (hL : L ≤ 3072) (hi : i.toInt = 6 * (t : Int) ∧ 6 * t + 6 ≤ L) (hI0 : lwI cy x m a t cells slots f) (hq : ∀ (cells2 slots2 : Nat) (f2 : gMem), lwI cy x m a (t + 1) cells2 slots2 f2 → gG l room_1 lwQf (lwEx bs L b xs) D cy b code 4 ret RL nm cells2 slots2 f2 1084 [(3, .int i), (2, .ref m), (1, .ref x), (0, .ref bs)] []) : gG l room_1 lwQf (lwEx bs L b xs) D cy b code 4 ret RL nm cells slots f 800 [(3, .int i), (2, .ref m), (1, .ref x), (0, .ref bs)] [] := by
  have hrm0 := lwI_room hI0 (by omega)
  obtain ⟨own, da, fcn, csz, sz, len, ln, wz, lo, tg, weg, stg, tpg, CN, eg, thg, LN, ne, n, z, F, G, hI, hS, hR, hN, ⟨hda, hwz, hln, hfc, htp, hrB, hnm, hco⟩, h0, ha, hcc, hss⟩ := hI0
  obtain ⟨Tf, W, hcv⟩ := id hco
  obtain ⟨hcw, hLX, hRL, htd, htn, hsn⟩ := id hcv
  have hdaR : 0 ≤ da.toInt ∧ da.toInt ≤ 399 := by rw [hda]; exact hR.1
  have hco1 := hcw.2.2.2.2
  have hco2 := hLX
  have hsn2 : sCn (sNow (n 0) (F 2)) da thg := by rw [← hda]; exact hsn
  have hok5 : okW (n 5).toInt Tf W := by rw [← hfc]; exact hcw.2.2.2.1
  have hLX5 : ∀ f : Nat, (f : Int) < (n 5).toInt → LX F f (Tf f) := by rw [← hfc]; exact hLX
  have hne := xI_ne hI
  obtain ⟨fs, hfx⟩ := xI_x hI
  have hv1 : vp_in (i + 1) L := vin_T (T_add hi.1 (show (1 : Int32).toInt = 1 from rfl) (by omega)) (by omega) (by omega)
  have hv2 : vp_in (i + 2) L := vin_T (T_add hi.1 (show (2 : Int32).toInt = 2 from rfl) (by omega)) (by omega) (by omega)
  refine gz_aload_n dL_law_800 rfl rfl ?_
  refine gz_aload_n dL_law_801 rfl rfl ?_
  refine gz_iload_n dL_law_802 rfl rfl ?_
  refine gz_iconst (v := 1) dL_law_803 (by decide) ?_
  refine gz_iadd dL_law_804 ?_
  refine lz_sld hv1 dL_law_805 ?_
  refine gz_aload_n dL_law_806 rfl rfl ?_
  refine gz_iload_n dL_law_807 rfl rfl ?_
  refine gz_iconst (v := 2) dL_law_808 (by decide) ?_
  refine gz_iadd dL_law_809 ?_
  refine lz_sld hv2 dL_law_810 ?_
  refine scL_101 (i_X11_netted (x := (xs (Int32.toNatClampNeg (i + 1)))) (y := (xs (Int32.toNatClampNeg (i + 2)))) hI) hfx ⟨(Nat.le_of_ble_eq_true rfl), (Nat.le_of_ble_eq_true rfl)⟩ ⟨(show cells + 0 ≤ 600000 by omega), (show slots + 0 ≤ 7302250 by omega)⟩ rfl rfl (Nat.le_of_ble_eq_true rfl) dL_law_811 ?_
  rintro v9 f9 ⟨hI9, hk9⟩
  obtain ⟨hS9, h09, ha9⟩ := mS_kp hS h0 ha hk9
  refine gz_pop2 dL_law_814 rfl ?_
  refine gz_aload_n dL_law_815 rfl rfl ?_
  refine gz_aload_n dL_law_816 rfl rfl ?_
  refine gz_iload_n dL_law_817 rfl rfl ?_
  refine gz_iconst (v := 1) dL_law_818 (by decide) ?_
  refine gz_iadd dL_law_819 ?_
  refine lz_sld hv1 dL_law_820 ?_
  refine gz_aload_n dL_law_821 rfl rfl ?_
  refine gz_iload_n dL_law_822 rfl rfl ?_
  refine gz_iconst (v := 2) dL_law_823 (by decide) ?_
  refine gz_iadd dL_law_824 ?_
  refine lz_sld hv2 dL_law_825 ?_
  refine scL_105 (k_X12_netted (x1 := (xs (Int32.toNatClampNeg (i + 1)))) (x2 := (xs (Int32.toNatClampNeg (i + 2)))) hS9 hR) hS9.1 ⟨(Nat.le_of_ble_eq_true rfl), (Nat.le_of_ble_eq_true rfl)⟩ ⟨(show cells + 0 + 0 ≤ 600000 by omega), (show slots + 0 + 0 ≤ 7302250 by omega)⟩ rfl rfl (Nat.le_of_ble_eq_true rfl) dL_law_826 ?_
  rintro v8 f8 ⟨-, e8⟩
  rw [e8]
  refine gz_pop2 dL_law_829 rfl ?_
  refine gz_goto (tgt := 1084) dL_law_830 (by decide) ?_
  exact hq (cells + 0 + 0) (slots + 0 + 0) _ ⟨own, da, fcn, csz, sz, len, ln, wz, lo, tg, weg, stg, tpg, CN, eg, thg, LN, ne, n, z, F, G, hI9, hS9, hR, hN, ⟨hda, hwz, hln, hfc, htp, hrB, hnm, hco⟩, h09, ha9, (by omega), (by omega)⟩

set_option maxHeartbeats 4000000 in
set_option maxRecDepth 100000 in
theorem lw_case_21 {l : Launch} {D : va_G} {cy : Nat → ClassId} {b bs L x m t cells slots : Nat} {a : Nat → Nat} {xs : Nat → Int32} {nm : String} {i : Int32} {f : gMem} (hL : L ≤ 3072) (hi : i.toInt = 6 * (t : Int) ∧ 6 * t + 6 ≤ L) (hI0 : lwI cy x m a t cells slots f) (hq : ∀ (cells2 slots2 : Nat) (f2 : gMem), lwI cy x m a (t + 1) cells2 slots2 f2 → gG l room_1 lwQf (lwEx bs L b xs) D cy b code 4 ret RL nm cells2 slots2 f2 1084 [(3, .int i), (2, .ref m), (1, .ref x), (0, .ref bs)] []) : gG l room_1 lwQf (lwEx bs L b xs) D cy b code 4 ret RL nm cells slots f 833 [(3, .int i), (2, .ref m), (1, .ref x), (0, .ref bs)] [] := by
  have hrm0 := lwI_room hI0 (by omega)
  obtain ⟨own, da, fcn, csz, sz, len, ln, wz, lo, tg, weg, stg, tpg, CN, eg, thg, LN, ne, n, z, F, G, hI, hS, hR, hN, ⟨hda, hwz, hln, hfc, htp, hrB, hnm, hco⟩, h0, ha, hcc, hss⟩ := hI0
  obtain ⟨Tf, W, hcv⟩ := id hco
  obtain ⟨hcw, hLX, hRL, htd, htn, hsn⟩ := id hcv
  have hdaR : 0 ≤ da.toInt ∧ da.toInt ≤ 399 := by rw [hda]; exact hR.1
  have hco1 := hcw.2.2.2.2
  have hco2 := hLX
  have hsn2 : sCn (sNow (n 0) (F 2)) da thg := by rw [← hda]; exact hsn
  have hok5 : okW (n 5).toInt Tf W := by rw [← hfc]; exact hcw.2.2.2.1
  have hLX5 : ∀ f : Nat, (f : Int) < (n 5).toInt → LX F f (Tf f) := by rw [← hfc]; exact hLX
  have hne := xI_ne hI
  obtain ⟨fs, hfx⟩ := xI_x hI
  have hv1 : vp_in (i + 1) L := vin_T (T_add hi.1 (show (1 : Int32).toInt = 1 from rfl) (by omega)) (by omega) (by omega)
  refine gz_aload_n dL_law_833 rfl rfl ?_
  refine gz_aload_n dL_law_834 rfl rfl ?_
  refine gz_iload_n dL_law_835 rfl rfl ?_
  refine gz_iconst (v := 1) dL_law_836 (by decide) ?_
  refine gz_iadd dL_law_837 ?_
  refine lz_sld hv1 dL_law_838 ?_
  refine scL_106 (i_X11_waysT (x := (xs (Int32.toNatClampNeg (i + 1)))) hI) hfx ⟨(Nat.le_of_ble_eq_true rfl), (Nat.le_of_ble_eq_true rfl)⟩ ⟨(show cells + 0 ≤ 600000 by omega), (show slots + 0 ≤ 7302250 by omega)⟩ rfl rfl (Nat.le_of_ble_eq_true rfl) dL_law_839 ?_
  rintro v9 f9 ⟨hr9, wz9, weg9, stg9, hw9, hI9, hk9⟩
  obtain ⟨hS9, h09, ha9⟩ := mS_kp hS h0 ha hk9
  refine gz_pop dL_law_842 rfl ?_
  refine gz_aload_n dL_law_843 rfl rfl ?_
  refine gz_aload_n dL_law_844 rfl rfl ?_
  refine gz_iload_n dL_law_845 rfl rfl ?_
  refine gz_iconst (v := 1) dL_law_846 (by decide) ?_
  refine gz_iadd dL_law_847 ?_
  refine lz_sld hv1 dL_law_848 ?_
  refine scL_110 (k_X12_waysT (x1 := (xs (Int32.toNatClampNeg (i + 1)))) hS9 hR) hS9.1 ⟨(Nat.le_of_ble_eq_true rfl), (Nat.le_of_ble_eq_true rfl)⟩ ⟨(show cells + 0 + 0 ≤ 600000 by omega), (show slots + 0 + 0 ≤ 7302250 by omega)⟩ rfl rfl (Nat.le_of_ble_eq_true rfl) dL_law_849 ?_
  rintro v8 f8 ⟨n8, z8, F8, G8, hS8, hx8, hr8, h538, hR8⟩
  have hN8 := NR_fx hN hx8 (by decide)
  have hI8 := xI_mS hI9 hS8 h09 ha9
  have qco : ∃ (Tf : Nat → List Hd) (W : Lw), coV Tf W da fcn csz sz lo tg eg thg CN LN n8 F8 G8 := ⟨Tf, W, coV_cg hcv (fun k9 hk9 => hx8.1 k9 (by revert hk9; revert k9; decide)) (fun k9 hk9 => hx8.2.2.1 k9 (by revert hk9; revert k9; decide)) (fun k9 hk9 => hx8.2.2.2 k9 (by revert hk9; revert k9; decide)) (fun r9 h1 h2 => hx8.2.2.1 r9 (fun h => by simp only [List.mem_cons, List.not_mem_nil, or_false] at h <;> omega))⟩
  refine gz_pop dL_law_852 rfl ?_
  refine gz_goto (tgt := 1084) dL_law_853 (by decide) ?_
  exact hq (cells + 0 + 0) (slots + 0 + 0) _ ⟨own, da, fcn, csz, sz, len, ln, wz9, lo, tg, weg9, stg9, tpg, CN, eg, thg, LN, ne, n8, z8, F8, G8, hI8, mS_rf hS8, hR8, hN8, ⟨(by rw [hx8.1 0 (by decide)]; exact hda), (by rw [hw9, h538, hwz]), (by rw [hx8.1 4 (by decide)]; exact hln), (by rw [hx8.1 5 (by decide)]; exact hfc), (by rw [hx8.1 4 (by decide), hx8.2.2.1 3 (by decide)]; exact htp), (rB_cg (hx8.2.2.1 3 (by decide)) hrB), (nmG_cg (hx8.2.2.2 27 (by decide)) hnm), qco⟩, h09, ha9, (by omega), (by omega)⟩

set_option maxHeartbeats 4000000 in
set_option maxRecDepth 100000 in
theorem lw_case_22 {l : Launch} {D : va_G} {cy : Nat → ClassId} {b bs L x m t cells slots : Nat} {a : Nat → Nat} {xs : Nat → Int32} {nm : String} {i : Int32} {f : gMem} (hL : L ≤ 3072) (hi : i.toInt = 6 * (t : Int) ∧ 6 * t + 6 ≤ L) (hI0 : lwI cy x m a t cells slots f) (hq : ∀ (cells2 slots2 : Nat) (f2 : gMem), lwI cy x m a (t + 1) cells2 slots2 f2 → gG l room_1 lwQf (lwEx bs L b xs) D cy b code 4 ret RL nm cells2 slots2 f2 1084 [(3, .int i), (2, .ref m), (1, .ref x), (0, .ref bs)] []) : gG l room_1 lwQf (lwEx bs L b xs) D cy b code 4 ret RL nm cells slots f 856 [(3, .int i), (2, .ref m), (1, .ref x), (0, .ref bs)] [] := by
  have hrm0 := lwI_room hI0 (by omega)
  obtain ⟨own, da, fcn, csz, sz, len, ln, wz, lo, tg, weg, stg, tpg, CN, eg, thg, LN, ne, n, z, F, G, hI, hS, hR, hN, ⟨hda, hwz, hln, hfc, htp, hrB, hnm, hco⟩, h0, ha, hcc, hss⟩ := hI0
  obtain ⟨Tf, W, hcv⟩ := id hco
  obtain ⟨hcw, hLX, hRL, htd, htn, hsn⟩ := id hcv
  have hdaR : 0 ≤ da.toInt ∧ da.toInt ≤ 399 := by rw [hda]; exact hR.1
  have hco1 := hcw.2.2.2.2
  have hco2 := hLX
  have hsn2 : sCn (sNow (n 0) (F 2)) da thg := by rw [← hda]; exact hsn
  have hok5 : okW (n 5).toInt Tf W := by rw [← hfc]; exact hcw.2.2.2.1
  have hLX5 : ∀ f : Nat, (f : Int) < (n 5).toInt → LX F f (Tf f) := by rw [← hfc]; exact hLX
  have hne := xI_ne hI
  obtain ⟨fs, hfx⟩ := xI_x hI
  have hv1 : vp_in (i + 1) L := vin_T (T_add hi.1 (show (1 : Int32).toInt = 1 from rfl) (by omega)) (by omega) (by omega)
  have hv2 : vp_in (i + 2) L := vin_T (T_add hi.1 (show (2 : Int32).toInt = 2 from rfl) (by omega)) (by omega) (by omega)
  refine gz_aload_n dL_law_856 rfl rfl ?_
  refine gz_aload_n dL_law_857 rfl rfl ?_
  refine gz_iload_n dL_law_858 rfl rfl ?_
  refine gz_iconst (v := 1) dL_law_859 (by decide) ?_
  refine gz_iadd dL_law_860 ?_
  refine lz_sld hv1 dL_law_861 ?_
  refine gz_aload_n dL_law_862 rfl rfl ?_
  refine gz_iload_n dL_law_863 rfl rfl ?_
  refine gz_iconst (v := 2) dL_law_864 (by decide) ?_
  refine gz_iadd dL_law_865 ?_
  refine lz_sld hv2 dL_law_866 ?_
  refine scL_111 (i_X11_weight (x := (xs (Int32.toNatClampNeg (i + 1)))) (y := (xs (Int32.toNatClampNeg (i + 2)))) hI) hfx ⟨(Nat.le_of_ble_eq_true rfl), (Nat.le_of_ble_eq_true rfl)⟩ ⟨(show cells + 0 ≤ 600000 by omega), (show slots + 0 ≤ 7302250 by omega)⟩ rfl rfl (Nat.le_of_ble_eq_true rfl) dL_law_867 ?_
  rintro v9 f9 ⟨hr9, weg9, hI9, hk9⟩
  obtain ⟨hS9, h09, ha9⟩ := mS_kp hS h0 ha hk9
  refine gz_pop dL_law_870 rfl ?_
  refine gz_aload_n dL_law_871 rfl rfl ?_
  refine gz_aload_n dL_law_872 rfl rfl ?_
  refine gz_iload_n dL_law_873 rfl rfl ?_
  refine gz_iconst (v := 1) dL_law_874 (by decide) ?_
  refine gz_iadd dL_law_875 ?_
  refine lz_sld hv1 dL_law_876 ?_
  refine gz_aload_n dL_law_877 rfl rfl ?_
  refine gz_iload_n dL_law_878 rfl rfl ?_
  refine gz_iconst (v := 2) dL_law_879 (by decide) ?_
  refine gz_iadd dL_law_880 ?_
  refine lz_sld hv2 dL_law_881 ?_
  refine scL_115 (k_X12_weight (x1 := (xs (Int32.toNatClampNeg (i + 1)))) (x2 := (xs (Int32.toNatClampNeg (i + 2)))) hS9 hR) hS9.1 ⟨(Nat.le_of_ble_eq_true rfl), (Nat.le_of_ble_eq_true rfl)⟩ ⟨(show cells + 0 + 0 ≤ 600000 by omega), (show slots + 0 + 0 ≤ 7302250 by omega)⟩ rfl rfl (Nat.le_of_ble_eq_true rfl) dL_law_882 ?_
  rintro v8 f8 ⟨n8, z8, F8, G8, hS8, hx8, hr8, hR8⟩
  have hN8 := NR_fx hN hx8 (by decide)
  have hI8 := xI_mS hI9 hS8 h09 ha9
  have qco : ∃ (Tf : Nat → List Hd) (W : Lw), coV Tf W da fcn csz sz lo tg eg thg CN LN n8 F8 G8 := ⟨Tf, W, coV_cg hcv (fun k9 hk9 => hx8.1 k9 (by revert hk9; revert k9; decide)) (fun k9 hk9 => hx8.2.2.1 k9 (by revert hk9; revert k9; decide)) (fun k9 hk9 => hx8.2.2.2 k9 (by revert hk9; revert k9; decide)) (fun r9 h1 h2 => hx8.2.2.1 r9 (fun h => by simp only [List.mem_cons, List.not_mem_nil, or_false] at h <;> omega))⟩
  refine gz_pop dL_law_885 rfl ?_
  refine gz_goto (tgt := 1084) dL_law_886 (by decide) ?_
  exact hq (cells + 0 + 0) (slots + 0 + 0) _ ⟨own, da, fcn, csz, sz, len, ln, wz, lo, tg, weg9, stg, tpg, CN, eg, thg, LN, ne, n8, z8, F8, G8, hI8, mS_rf hS8, hR8, hN8, ⟨(by rw [hx8.1 0 (by decide)]; exact hda), (by rw [hx8.1 53 (by decide)]; exact hwz), (by rw [hx8.1 4 (by decide)]; exact hln), (by rw [hx8.1 5 (by decide)]; exact hfc), (by rw [hx8.1 4 (by decide), hx8.2.2.1 3 (by decide)]; exact htp), (rB_cg (hx8.2.2.1 3 (by decide)) hrB), (nmG_cg (hx8.2.2.2 27 (by decide)) hnm), qco⟩, h09, ha9, (by omega), (by omega)⟩

set_option maxHeartbeats 4000000 in
set_option maxRecDepth 100000 in
theorem lw_case_23 {l : Launch} {D : va_G} {cy : Nat → ClassId} {b bs L x m t cells slots : Nat} {a : Nat → Nat} {xs : Nat → Int32} {nm : String} {i : Int32} {f : gMem} (hL : L ≤ 3072) (hi : i.toInt = 6 * (t : Int) ∧ 6 * t + 6 ≤ L) (hI0 : lwI cy x m a t cells slots f) (hq : ∀ (cells2 slots2 : Nat) (f2 : gMem), lwI cy x m a (t + 1) cells2 slots2 f2 → gG l room_1 lwQf (lwEx bs L b xs) D cy b code 4 ret RL nm cells2 slots2 f2 1084 [(3, .int i), (2, .ref m), (1, .ref x), (0, .ref bs)] []) : gG l room_1 lwQf (lwEx bs L b xs) D cy b code 4 ret RL nm cells slots f 889 [(3, .int i), (2, .ref m), (1, .ref x), (0, .ref bs)] [] := by
  have hrm0 := lwI_room hI0 (by omega)
  obtain ⟨own, da, fcn, csz, sz, len, ln, wz, lo, tg, weg, stg, tpg, CN, eg, thg, LN, ne, n, z, F, G, hI, hS, hR, hN, ⟨hda, hwz, hln, hfc, htp, hrB, hnm, hco⟩, h0, ha, hcc, hss⟩ := hI0
  obtain ⟨Tf, W, hcv⟩ := id hco
  obtain ⟨hcw, hLX, hRL, htd, htn, hsn⟩ := id hcv
  have hdaR : 0 ≤ da.toInt ∧ da.toInt ≤ 399 := by rw [hda]; exact hR.1
  have hco1 := hcw.2.2.2.2
  have hco2 := hLX
  have hsn2 : sCn (sNow (n 0) (F 2)) da thg := by rw [← hda]; exact hsn
  have hok5 : okW (n 5).toInt Tf W := by rw [← hfc]; exact hcw.2.2.2.1
  have hLX5 : ∀ f : Nat, (f : Int) < (n 5).toInt → LX F f (Tf f) := by rw [← hfc]; exact hLX
  have hne := xI_ne hI
  obtain ⟨fs, hfx⟩ := xI_x hI
  have hv1 : vp_in (i + 1) L := vin_T (T_add hi.1 (show (1 : Int32).toInt = 1 from rfl) (by omega)) (by omega) (by omega)
  have hv2 : vp_in (i + 2) L := vin_T (T_add hi.1 (show (2 : Int32).toInt = 2 from rfl) (by omega)) (by omega) (by omega)
  have hv3 : vp_in (i + 3) L := vin_T (T_add hi.1 (show (3 : Int32).toInt = 3 from rfl) (by omega)) (by omega) (by omega)
  refine gz_aload_n dL_law_889 rfl rfl ?_
  refine gz_aload_n dL_law_890 rfl rfl ?_
  refine gz_iload_n dL_law_891 rfl rfl ?_
  refine gz_iconst (v := 1) dL_law_892 (by decide) ?_
  refine gz_iadd dL_law_893 ?_
  refine lz_sld hv1 dL_law_894 ?_
  refine gz_aload_n dL_law_895 rfl rfl ?_
  refine gz_iload_n dL_law_896 rfl rfl ?_
  refine gz_iconst (v := 2) dL_law_897 (by decide) ?_
  refine gz_iadd dL_law_898 ?_
  refine lz_sld hv2 dL_law_899 ?_
  refine gz_aload_n dL_law_900 rfl rfl ?_
  refine gz_iload_n dL_law_901 rfl rfl ?_
  refine gz_iconst (v := 3) dL_law_902 (by decide) ?_
  refine gz_iadd dL_law_903 ?_
  refine lz_sld hv3 dL_law_904 ?_
  refine scL_116 (i_X11_adds (x := (xs (Int32.toNatClampNeg (i + 1)))) (y := (xs (Int32.toNatClampNeg (i + 2)))) (u := (xs (Int32.toNatClampNeg (i + 3)))) hI) hfx ⟨(Nat.le_of_ble_eq_true rfl), (Nat.le_of_ble_eq_true rfl)⟩ ⟨(show cells + 0 ≤ 600000 by omega), (show slots + 0 ≤ 7302250 by omega)⟩ rfl rfl (Nat.le_of_ble_eq_true rfl) dL_law_905 ?_
  rintro v9 f9 ⟨hr9, stg9, hI9, hk9⟩
  obtain ⟨hS9, h09, ha9⟩ := mS_kp hS h0 ha hk9
  refine gz_pop dL_law_908 rfl ?_
  refine gz_aload_n dL_law_909 rfl rfl ?_
  refine gz_aload_n dL_law_910 rfl rfl ?_
  refine gz_iload_n dL_law_911 rfl rfl ?_
  refine gz_iconst (v := 1) dL_law_912 (by decide) ?_
  refine gz_iadd dL_law_913 ?_
  refine lz_sld hv1 dL_law_914 ?_
  refine gz_aload_n dL_law_915 rfl rfl ?_
  refine gz_iload_n dL_law_916 rfl rfl ?_
  refine gz_iconst (v := 2) dL_law_917 (by decide) ?_
  refine gz_iadd dL_law_918 ?_
  refine lz_sld hv2 dL_law_919 ?_
  refine gz_aload_n dL_law_920 rfl rfl ?_
  refine gz_iload_n dL_law_921 rfl rfl ?_
  refine gz_iconst (v := 3) dL_law_922 (by decide) ?_
  refine gz_iadd dL_law_923 ?_
  refine lz_sld hv3 dL_law_924 ?_
  refine scL_119 (k_X12_adds (x1 := (xs (Int32.toNatClampNeg (i + 1)))) (x2 := (xs (Int32.toNatClampNeg (i + 2)))) (x3 := (xs (Int32.toNatClampNeg (i + 3)))) hS9 hR) hS9.1 ⟨(Nat.le_of_ble_eq_true rfl), (Nat.le_of_ble_eq_true rfl)⟩ ⟨(show cells + 0 + 0 ≤ 600000 by omega), (show slots + 0 + 0 ≤ 7302250 by omega)⟩ rfl rfl (Nat.le_of_ble_eq_true rfl) dL_law_925 ?_
  rintro v8 f8 ⟨n8, z8, F8, G8, hS8, hx8, hr8, hR8⟩
  have hN8 := NR_fx hN hx8 (by decide)
  have hI8 := xI_mS hI9 hS8 h09 ha9
  have qco : ∃ (Tf : Nat → List Hd) (W : Lw), coV Tf W da fcn csz sz lo tg eg thg CN LN n8 F8 G8 := ⟨Tf, W, coV_cg hcv (fun k9 hk9 => hx8.1 k9 (by revert hk9; revert k9; decide)) (fun k9 hk9 => hx8.2.2.1 k9 (by revert hk9; revert k9; decide)) (fun k9 hk9 => hx8.2.2.2 k9 (by revert hk9; revert k9; decide)) (fun r9 h1 h2 => hx8.2.2.1 r9 (fun h => by simp only [List.mem_cons, List.not_mem_nil, or_false] at h <;> omega))⟩
  refine gz_pop dL_law_928 rfl ?_
  refine gz_goto (tgt := 1084) dL_law_929 (by decide) ?_
  exact hq (cells + 0 + 0) (slots + 0 + 0) _ ⟨own, da, fcn, csz, sz, len, ln, wz, lo, tg, weg, stg9, tpg, CN, eg, thg, LN, ne, n8, z8, F8, G8, hI8, mS_rf hS8, hR8, hN8, ⟨(by rw [hx8.1 0 (by decide)]; exact hda), (by rw [hx8.1 53 (by decide)]; exact hwz), (by rw [hx8.1 4 (by decide)]; exact hln), (by rw [hx8.1 5 (by decide)]; exact hfc), (by rw [hx8.1 4 (by decide), hx8.2.2.1 3 (by decide)]; exact htp), (rB_cg (hx8.2.2.1 3 (by decide)) hrB), (nmG_cg (hx8.2.2.2 27 (by decide)) hnm), qco⟩, h09, ha9, (by omega), (by omega)⟩

set_option maxHeartbeats 4000000 in
set_option maxRecDepth 100000 in
theorem lw_case_24 {l : Launch} {D : va_G} {cy : Nat → ClassId} {b bs L x m t cells slots : Nat} {a : Nat → Nat} {xs : Nat → Int32} {nm : String} {i : Int32} {f : gMem} (hL : L ≤ 3072) (hi : i.toInt = 6 * (t : Int) ∧ 6 * t + 6 ≤ L) (hI0 : lwI cy x m a t cells slots f) (hq : ∀ (cells2 slots2 : Nat) (f2 : gMem), lwI cy x m a (t + 1) cells2 slots2 f2 → gG l room_1 lwQf (lwEx bs L b xs) D cy b code 4 ret RL nm cells2 slots2 f2 1084 [(3, .int i), (2, .ref m), (1, .ref x), (0, .ref bs)] []) : gG l room_1 lwQf (lwEx bs L b xs) D cy b code 4 ret RL nm cells slots f 932 [(3, .int i), (2, .ref m), (1, .ref x), (0, .ref bs)] [] := by
  have hrm0 := lwI_room hI0 (by omega)
  obtain ⟨own, da, fcn, csz, sz, len, ln, wz, lo, tg, weg, stg, tpg, CN, eg, thg, LN, ne, n, z, F, G, hI, hS, hR, hN, ⟨hda, hwz, hln, hfc, htp, hrB, hnm, hco⟩, h0, ha, hcc, hss⟩ := hI0
  obtain ⟨Tf, W, hcv⟩ := id hco
  obtain ⟨hcw, hLX, hRL, htd, htn, hsn⟩ := id hcv
  have hdaR : 0 ≤ da.toInt ∧ da.toInt ≤ 399 := by rw [hda]; exact hR.1
  have hco1 := hcw.2.2.2.2
  have hco2 := hLX
  have hsn2 : sCn (sNow (n 0) (F 2)) da thg := by rw [← hda]; exact hsn
  have hok5 : okW (n 5).toInt Tf W := by rw [← hfc]; exact hcw.2.2.2.1
  have hLX5 : ∀ f : Nat, (f : Int) < (n 5).toInt → LX F f (Tf f) := by rw [← hfc]; exact hLX
  have hne := xI_ne hI
  obtain ⟨fs, hfx⟩ := xI_x hI
  have hv1 : vp_in (i + 1) L := vin_T (T_add hi.1 (show (1 : Int32).toInt = 1 from rfl) (by omega)) (by omega) (by omega)
  have hv2 : vp_in (i + 2) L := vin_T (T_add hi.1 (show (2 : Int32).toInt = 2 from rfl) (by omega)) (by omega) (by omega)
  have hv3 : vp_in (i + 3) L := vin_T (T_add hi.1 (show (3 : Int32).toInt = 3 from rfl) (by omega)) (by omega) (by omega)
  refine gz_aload_n dL_law_932 rfl rfl ?_
  refine gz_aload_n dL_law_933 rfl rfl ?_
  refine gz_iload_n dL_law_934 rfl rfl ?_
  refine gz_iconst (v := 1) dL_law_935 (by decide) ?_
  refine gz_iadd dL_law_936 ?_
  refine lz_sld hv1 dL_law_937 ?_
  refine gz_aload_n dL_law_938 rfl rfl ?_
  refine gz_iload_n dL_law_939 rfl rfl ?_
  refine gz_iconst (v := 2) dL_law_940 (by decide) ?_
  refine gz_iadd dL_law_941 ?_
  refine lz_sld hv2 dL_law_942 ?_
  refine gz_aload_n dL_law_943 rfl rfl ?_
  refine gz_iload_n dL_law_944 rfl rfl ?_
  refine gz_iconst (v := 3) dL_law_945 (by decide) ?_
  refine gz_iadd dL_law_946 ?_
  refine lz_sld hv3 dL_law_947 ?_
  refine scL_120 (i_X11_worth (x := (xs (Int32.toNatClampNeg (i + 1)))) (y := (xs (Int32.toNatClampNeg (i + 2)))) (u := (xs (Int32.toNatClampNeg (i + 3)))) hI) hfx ⟨(Nat.le_of_ble_eq_true rfl), (Nat.le_of_ble_eq_true rfl)⟩ ⟨(show cells + 0 ≤ 600000 by omega), (show slots + 0 ≤ 7302250 by omega)⟩ rfl rfl (Nat.le_of_ble_eq_true rfl) dL_law_948 ?_
  rintro v9 f9 ⟨hI9, hk9⟩
  obtain ⟨hS9, h09, ha9⟩ := mS_kp hS h0 ha hk9
  refine gz_pop2 dL_law_951 rfl ?_
  refine gz_aload_n dL_law_952 rfl rfl ?_
  refine gz_aload_n dL_law_953 rfl rfl ?_
  refine gz_iload_n dL_law_954 rfl rfl ?_
  refine gz_iconst (v := 1) dL_law_955 (by decide) ?_
  refine gz_iadd dL_law_956 ?_
  refine lz_sld hv1 dL_law_957 ?_
  refine gz_aload_n dL_law_958 rfl rfl ?_
  refine gz_iload_n dL_law_959 rfl rfl ?_
  refine gz_iconst (v := 2) dL_law_960 (by decide) ?_
  refine gz_iadd dL_law_961 ?_
  refine lz_sld hv2 dL_law_962 ?_
  refine gz_aload_n dL_law_963 rfl rfl ?_
  refine gz_iload_n dL_law_964 rfl rfl ?_
  refine gz_iconst (v := 3) dL_law_965 (by decide) ?_
  refine gz_iadd dL_law_966 ?_
  refine lz_sld hv3 dL_law_967 ?_
  refine scL_124 (k_X12_worth (x1 := (xs (Int32.toNatClampNeg (i + 1)))) (x2 := (xs (Int32.toNatClampNeg (i + 2)))) (x3 := (xs (Int32.toNatClampNeg (i + 3)))) hS9 hR) hS9.1 ⟨(Nat.le_of_ble_eq_true rfl), (Nat.le_of_ble_eq_true rfl)⟩ ⟨(show cells + 0 + 0 ≤ 600000 by omega), (show slots + 0 + 0 ≤ 7302250 by omega)⟩ rfl rfl (Nat.le_of_ble_eq_true rfl) dL_law_968 ?_
  rintro v8 f8 ⟨n8, z8, F8, G8, hS8, hx8, hR8⟩
  have hN8 := NR_fx hN hx8 (by decide)
  have hI8 := xI_mS hI9 hS8 h09 ha9
  have qco : ∃ (Tf : Nat → List Hd) (W : Lw), coV Tf W da fcn csz sz lo tg eg thg CN LN n8 F8 G8 := ⟨Tf, W, coV_cg hcv (fun k9 hk9 => hx8.1 k9 (by revert hk9; revert k9; decide)) (fun k9 hk9 => hx8.2.2.1 k9 (by revert hk9; revert k9; decide)) (fun k9 hk9 => hx8.2.2.2 k9 (by revert hk9; revert k9; decide)) (fun r9 h1 h2 => hx8.2.2.1 r9 (fun h => by simp only [List.mem_cons, List.not_mem_nil, or_false] at h <;> omega))⟩
  refine gz_pop2 dL_law_971 rfl ?_
  refine gz_goto (tgt := 1084) dL_law_972 (by decide) ?_
  exact hq (cells + 0 + 0) (slots + 0 + 0) _ ⟨own, da, fcn, csz, sz, len, ln, wz, lo, tg, weg, stg, tpg, CN, eg, thg, LN, ne, n8, z8, F8, G8, hI8, mS_rf hS8, hR8, hN8, ⟨(by rw [hx8.1 0 (by decide)]; exact hda), (by rw [hx8.1 53 (by decide)]; exact hwz), (by rw [hx8.1 4 (by decide)]; exact hln), (by rw [hx8.1 5 (by decide)]; exact hfc), (by rw [hx8.1 4 (by decide), hx8.2.2.1 3 (by decide)]; exact htp), (rB_cg (hx8.2.2.1 3 (by decide)) hrB), (nmG_cg (hx8.2.2.2 27 (by decide)) hnm), qco⟩, h09, ha9, (by omega), (by omega)⟩

set_option maxHeartbeats 4000000 in
set_option maxRecDepth 100000 in
theorem lw_case_25 {l : Launch} {D : va_G} {cy : Nat → ClassId} {b bs L x m t cells slots : Nat} {a : Nat → Nat} {xs : Nat → Int32} {nm : String} {i : Int32} {f : gMem} (hL : L ≤ 3072) (hi : i.toInt = 6 * (t : Int) ∧ 6 * t + 6 ≤ L) (hI0 : lwI cy x m a t cells slots f) (hq : ∀ (cells2 slots2 : Nat) (f2 : gMem), lwI cy x m a (t + 1) cells2 slots2 f2 → gG l room_1 lwQf (lwEx bs L b xs) D cy b code 4 ret RL nm cells2 slots2 f2 1084 [(3, .int i), (2, .ref m), (1, .ref x), (0, .ref bs)] []) : gG l room_1 lwQf (lwEx bs L b xs) D cy b code 4 ret RL nm cells slots f 975 [(3, .int i), (2, .ref m), (1, .ref x), (0, .ref bs)] [] := by
  have hrm0 := lwI_room hI0 (by omega)
  obtain ⟨own, da, fcn, csz, sz, len, ln, wz, lo, tg, weg, stg, tpg, CN, eg, thg, LN, ne, n, z, F, G, hI, hS, hR, hN, ⟨hda, hwz, hln, hfc, htp, hrB, hnm, hco⟩, h0, ha, hcc, hss⟩ := hI0
  obtain ⟨Tf, W, hcv⟩ := id hco
  obtain ⟨hcw, hLX, hRL, htd, htn, hsn⟩ := id hcv
  have hdaR : 0 ≤ da.toInt ∧ da.toInt ≤ 399 := by rw [hda]; exact hR.1
  have hco1 := hcw.2.2.2.2
  have hco2 := hLX
  have hsn2 : sCn (sNow (n 0) (F 2)) da thg := by rw [← hda]; exact hsn
  have hok5 : okW (n 5).toInt Tf W := by rw [← hfc]; exact hcw.2.2.2.1
  have hLX5 : ∀ f : Nat, (f : Int) < (n 5).toInt → LX F f (Tf f) := by rw [← hfc]; exact hLX
  have hne := xI_ne hI
  obtain ⟨fs, hfx⟩ := xI_x hI
  have hv1 : vp_in (i + 1) L := vin_T (T_add hi.1 (show (1 : Int32).toInt = 1 from rfl) (by omega)) (by omega) (by omega)
  have hv2 : vp_in (i + 2) L := vin_T (T_add hi.1 (show (2 : Int32).toInt = 2 from rfl) (by omega)) (by omega) (by omega)
  have hv3 : vp_in (i + 3) L := vin_T (T_add hi.1 (show (3 : Int32).toInt = 3 from rfl) (by omega)) (by omega) (by omega)
  refine gz_aload_n dL_law_975 rfl rfl ?_
  refine gz_aload_n dL_law_976 rfl rfl ?_
  refine gz_iload_n dL_law_977 rfl rfl ?_
  refine gz_iconst (v := 1) dL_law_978 (by decide) ?_
  refine gz_iadd dL_law_979 ?_
  refine lz_sld hv1 dL_law_980 ?_
  refine gz_aload_n dL_law_981 rfl rfl ?_
  refine gz_iload_n dL_law_982 rfl rfl ?_
  refine gz_iconst (v := 2) dL_law_983 (by decide) ?_
  refine gz_iadd dL_law_984 ?_
  refine lz_sld hv2 dL_law_985 ?_
  refine gz_aload_n dL_law_986 rfl rfl ?_
  refine gz_iload_n dL_law_987 rfl rfl ?_
  refine gz_iconst (v := 3) dL_law_988 (by decide) ?_
  refine gz_iadd dL_law_989 ?_
  refine lz_sld hv3 dL_law_990 ?_
  refine scL_125 (i_X11_comeTo (x := (xs (Int32.toNatClampNeg (i + 1)))) (y := (xs (Int32.toNatClampNeg (i + 2)))) (u := (xs (Int32.toNatClampNeg (i + 3)))) hI) hfx ⟨(Nat.le_of_ble_eq_true rfl), (Nat.le_of_ble_eq_true rfl)⟩ ⟨(show cells + 0 ≤ 600000 by omega), (show slots + 0 ≤ 7302250 by omega)⟩ rfl rfl (Nat.le_of_ble_eq_true rfl) dL_law_991 ?_
  rintro v9 f9 ⟨hI9, hk9⟩
  obtain ⟨hS9, h09, ha9⟩ := mS_kp hS h0 ha hk9
  refine gz_pop dL_law_994 rfl ?_
  refine gz_aload_n dL_law_995 rfl rfl ?_
  refine gz_aload_n dL_law_996 rfl rfl ?_
  refine gz_iload_n dL_law_997 rfl rfl ?_
  refine gz_iconst (v := 1) dL_law_998 (by decide) ?_
  refine gz_iadd dL_law_999 ?_
  refine lz_sld hv1 dL_law_1000 ?_
  refine gz_aload_n dL_law_1001 rfl rfl ?_
  refine gz_iload_n dL_law_1002 rfl rfl ?_
  refine gz_iconst (v := 2) dL_law_1003 (by decide) ?_
  refine gz_iadd dL_law_1004 ?_
  refine lz_sld hv2 dL_law_1005 ?_
  refine gz_aload_n dL_law_1006 rfl rfl ?_
  refine gz_iload_n dL_law_1007 rfl rfl ?_
  refine gz_iconst (v := 3) dL_law_1008 (by decide) ?_
  refine gz_iadd dL_law_1009 ?_
  refine lz_sld hv3 dL_law_1010 ?_
  refine scL_128 (k_X12_comeTo (x1 := (xs (Int32.toNatClampNeg (i + 1)))) (x2 := (xs (Int32.toNatClampNeg (i + 2)))) (x3 := (xs (Int32.toNatClampNeg (i + 3)))) hS9 hR) hS9.1 ⟨(Nat.le_of_ble_eq_true rfl), (Nat.le_of_ble_eq_true rfl)⟩ ⟨(show cells + 0 + 0 ≤ 600000 by omega), (show slots + 0 + 0 ≤ 7302250 by omega)⟩ rfl rfl (Nat.le_of_ble_eq_true rfl) dL_law_1011 ?_
  rintro v8 f8 ⟨n8, z8, F8, G8, hS8, hx8, hR8⟩
  have hN8 := NR_fx hN hx8 (by decide)
  have hI8 := xI_mS hI9 hS8 h09 ha9
  have qco : ∃ (Tf : Nat → List Hd) (W : Lw), coV Tf W da fcn csz sz lo tg eg thg CN LN n8 F8 G8 := ⟨Tf, W, coV_cg hcv (fun k9 hk9 => hx8.1 k9 (by revert hk9; revert k9; decide)) (fun k9 hk9 => hx8.2.2.1 k9 (by revert hk9; revert k9; decide)) (fun k9 hk9 => hx8.2.2.2 k9 (by revert hk9; revert k9; decide)) (fun r9 h1 h2 => hx8.2.2.1 r9 (fun h => by simp only [List.mem_cons, List.not_mem_nil, or_false] at h <;> omega))⟩
  refine gz_pop dL_law_1014 rfl ?_
  refine gz_goto (tgt := 1084) dL_law_1015 (by decide) ?_
  exact hq (cells + 0 + 0) (slots + 0 + 0) _ ⟨own, da, fcn, csz, sz, len, ln, wz, lo, tg, weg, stg, tpg, CN, eg, thg, LN, ne, n8, z8, F8, G8, hI8, mS_rf hS8, hR8, hN8, ⟨(by rw [hx8.1 0 (by decide)]; exact hda), (by rw [hx8.1 53 (by decide)]; exact hwz), (by rw [hx8.1 4 (by decide)]; exact hln), (by rw [hx8.1 5 (by decide)]; exact hfc), (by rw [hx8.1 4 (by decide), hx8.2.2.1 3 (by decide)]; exact htp), (rB_cg (hx8.2.2.1 3 (by decide)) hrB), (nmG_cg (hx8.2.2.2 27 (by decide)) hnm), qco⟩, h09, ha9, (by omega), (by omega)⟩

set_option maxHeartbeats 4000000 in
set_option maxRecDepth 100000 in
theorem lw_case_26 {l : Launch} {D : va_G} {cy : Nat → ClassId} {b bs L x m t cells slots : Nat} {a : Nat → Nat} {xs : Nat → Int32} {nm : String} {i : Int32} {f : gMem} (hL : L ≤ 3072) (hi : i.toInt = 6 * (t : Int) ∧ 6 * t + 6 ≤ L) (hI0 : lwI cy x m a t cells slots f) (hq : ∀ (cells2 slots2 : Nat) (f2 : gMem), lwI cy x m a (t + 1) cells2 slots2 f2 → gG l room_1 lwQf (lwEx bs L b xs) D cy b code 4 ret RL nm cells2 slots2 f2 1084 [(3, .int i), (2, .ref m), (1, .ref x), (0, .ref bs)] []) : gG l room_1 lwQf (lwEx bs L b xs) D cy b code 4 ret RL nm cells slots f 1018 [(3, .int i), (2, .ref m), (1, .ref x), (0, .ref bs)] [] := by
  have hrm0 := lwI_room hI0 (by omega)
  obtain ⟨own, da, fcn, csz, sz, len, ln, wz, lo, tg, weg, stg, tpg, CN, eg, thg, LN, ne, n, z, F, G, hI, hS, hR, hN, ⟨hda, hwz, hln, hfc, htp, hrB, hnm, hco⟩, h0, ha, hcc, hss⟩ := hI0
  obtain ⟨Tf, W, hcv⟩ := id hco
  obtain ⟨hcw, hLX, hRL, htd, htn, hsn⟩ := id hcv
  have hdaR : 0 ≤ da.toInt ∧ da.toInt ≤ 399 := by rw [hda]; exact hR.1
  have hco1 := hcw.2.2.2.2
  have hco2 := hLX
  have hsn2 : sCn (sNow (n 0) (F 2)) da thg := by rw [← hda]; exact hsn
  have hok5 : okW (n 5).toInt Tf W := by rw [← hfc]; exact hcw.2.2.2.1
  have hLX5 : ∀ f : Nat, (f : Int) < (n 5).toInt → LX F f (Tf f) := by rw [← hfc]; exact hLX
  have hne := xI_ne hI
  obtain ⟨fs, hfx⟩ := xI_x hI
  have hv1 : vp_in (i + 1) L := vin_T (T_add hi.1 (show (1 : Int32).toInt = 1 from rfl) (by omega)) (by omega) (by omega)
  have hv2 : vp_in (i + 2) L := vin_T (T_add hi.1 (show (2 : Int32).toInt = 2 from rfl) (by omega)) (by omega) (by omega)
  have hv3 : vp_in (i + 3) L := vin_T (T_add hi.1 (show (3 : Int32).toInt = 3 from rfl) (by omega)) (by omega) (by omega)
  refine gz_aload_n dL_law_1018 rfl rfl ?_
  refine gz_aload_n dL_law_1019 rfl rfl ?_
  refine gz_iload_n dL_law_1020 rfl rfl ?_
  refine gz_iconst (v := 1) dL_law_1021 (by decide) ?_
  refine gz_iadd dL_law_1022 ?_
  refine lz_sld hv1 dL_law_1023 ?_
  refine gz_aload_n dL_law_1024 rfl rfl ?_
  refine gz_iload_n dL_law_1025 rfl rfl ?_
  refine gz_iconst (v := 2) dL_law_1026 (by decide) ?_
  refine gz_iadd dL_law_1027 ?_
  refine lz_sld hv2 dL_law_1028 ?_
  refine gz_aload_n dL_law_1029 rfl rfl ?_
  refine gz_iload_n dL_law_1030 rfl rfl ?_
  refine gz_iconst (v := 3) dL_law_1031 (by decide) ?_
  refine gz_iadd dL_law_1032 ?_
  refine lz_sld hv3 dL_law_1033 ?_
  refine scL_129 (i_X11_parted (x := (xs (Int32.toNatClampNeg (i + 1)))) (y := (xs (Int32.toNatClampNeg (i + 2)))) (u := (xs (Int32.toNatClampNeg (i + 3)))) hI) hfx ⟨(Nat.le_of_ble_eq_true rfl), (Nat.le_of_ble_eq_true rfl)⟩ ⟨(show cells + 0 ≤ 600000 by omega), (show slots + 0 ≤ 7302250 by omega)⟩ rfl rfl (Nat.le_of_ble_eq_true rfl) dL_law_1034 ?_
  rintro v9 f9 ⟨hI9, hk9⟩
  obtain ⟨hS9, h09, ha9⟩ := mS_kp hS h0 ha hk9
  refine gz_pop dL_law_1037 rfl ?_
  refine gz_aload_n dL_law_1038 rfl rfl ?_
  refine gz_aload_n dL_law_1039 rfl rfl ?_
  refine gz_iload_n dL_law_1040 rfl rfl ?_
  refine gz_iconst (v := 1) dL_law_1041 (by decide) ?_
  refine gz_iadd dL_law_1042 ?_
  refine lz_sld hv1 dL_law_1043 ?_
  refine gz_aload_n dL_law_1044 rfl rfl ?_
  refine gz_iload_n dL_law_1045 rfl rfl ?_
  refine gz_iconst (v := 2) dL_law_1046 (by decide) ?_
  refine gz_iadd dL_law_1047 ?_
  refine lz_sld hv2 dL_law_1048 ?_
  refine gz_aload_n dL_law_1049 rfl rfl ?_
  refine gz_iload_n dL_law_1050 rfl rfl ?_
  refine gz_iconst (v := 3) dL_law_1051 (by decide) ?_
  refine gz_iadd dL_law_1052 ?_
  refine lz_sld hv3 dL_law_1053 ?_
  refine scL_132 (k_X12_parted (x1 := (xs (Int32.toNatClampNeg (i + 1)))) (x2 := (xs (Int32.toNatClampNeg (i + 2)))) (x3 := (xs (Int32.toNatClampNeg (i + 3)))) hS9 hR) hS9.1 ⟨(Nat.le_of_ble_eq_true rfl), (Nat.le_of_ble_eq_true rfl)⟩ ⟨(show cells + 0 + 0 ≤ 600000 by omega), (show slots + 0 + 0 ≤ 7302250 by omega)⟩ rfl rfl (Nat.le_of_ble_eq_true rfl) dL_law_1054 ?_
  rintro v8 f8 ⟨n8, z8, F8, G8, hS8, hx8, hR8⟩
  have hN8 := NR_fx hN hx8 (by decide)
  have hI8 := xI_mS hI9 hS8 h09 ha9
  have qco : ∃ (Tf : Nat → List Hd) (W : Lw), coV Tf W da fcn csz sz lo tg eg thg CN LN n8 F8 G8 := ⟨Tf, W, coV_cg hcv (fun k9 hk9 => hx8.1 k9 (by revert hk9; revert k9; decide)) (fun k9 hk9 => hx8.2.2.1 k9 (by revert hk9; revert k9; decide)) (fun k9 hk9 => hx8.2.2.2 k9 (by revert hk9; revert k9; decide)) (fun r9 h1 h2 => hx8.2.2.1 r9 (fun h => by simp only [List.mem_cons, List.not_mem_nil, or_false] at h <;> omega))⟩
  refine gz_pop dL_law_1057 rfl ?_
  refine gz_goto (tgt := 1084) dL_law_1058 (by decide) ?_
  exact hq (cells + 0 + 0) (slots + 0 + 0) _ ⟨own, da, fcn, csz, sz, len, ln, wz, lo, tg, weg, stg, tpg, CN, eg, thg, LN, ne, n8, z8, F8, G8, hI8, mS_rf hS8, hR8, hN8, ⟨(by rw [hx8.1 0 (by decide)]; exact hda), (by rw [hx8.1 53 (by decide)]; exact hwz), (by rw [hx8.1 4 (by decide)]; exact hln), (by rw [hx8.1 5 (by decide)]; exact hfc), (by rw [hx8.1 4 (by decide), hx8.2.2.1 3 (by decide)]; exact htp), (rB_cg (hx8.2.2.1 3 (by decide)) hrB), (nmG_cg (hx8.2.2.2 27 (by decide)) hnm), qco⟩, h09, ha9, (by omega), (by omega)⟩

set_option maxHeartbeats 4000000 in
set_option maxRecDepth 100000 in
theorem lw_case_27 {l : Launch} {D : va_G} {cy : Nat → ClassId} {b bs L x m t cells slots : Nat} {a : Nat → Nat} {xs : Nat → Int32} {nm : String} {i : Int32} {f : gMem} (hL : L ≤ 3072) (hi : i.toInt = 6 * (t : Int) ∧ 6 * t + 6 ≤ L) (hI0 : lwI cy x m a t cells slots f) (hq : ∀ (cells2 slots2 : Nat) (f2 : gMem), lwI cy x m a (t + 1) cells2 slots2 f2 → gG l room_1 lwQf (lwEx bs L b xs) D cy b code 4 ret RL nm cells2 slots2 f2 1084 [(3, .int i), (2, .ref m), (1, .ref x), (0, .ref bs)] []) : gG l room_1 lwQf (lwEx bs L b xs) D cy b code 4 ret RL nm cells slots f 1061 [(3, .int i), (2, .ref m), (1, .ref x), (0, .ref bs)] [] := by
  have hrm0 := lwI_room hI0 (by omega)
  obtain ⟨own, da, fcn, csz, sz, len, ln, wz, lo, tg, weg, stg, tpg, CN, eg, thg, LN, ne, n, z, F, G, hI, hS, hR, hN, ⟨hda, hwz, hln, hfc, htp, hrB, hnm, hco⟩, h0, ha, hcc, hss⟩ := hI0
  obtain ⟨Tf, W, hcv⟩ := id hco
  obtain ⟨hcw, hLX, hRL, htd, htn, hsn⟩ := id hcv
  have hdaR : 0 ≤ da.toInt ∧ da.toInt ≤ 399 := by rw [hda]; exact hR.1
  have hco1 := hcw.2.2.2.2
  have hco2 := hLX
  have hsn2 : sCn (sNow (n 0) (F 2)) da thg := by rw [← hda]; exact hsn
  have hok5 : okW (n 5).toInt Tf W := by rw [← hfc]; exact hcw.2.2.2.1
  have hLX5 : ∀ f : Nat, (f : Int) < (n 5).toInt → LX F f (Tf f) := by rw [← hfc]; exact hLX
  have hne := xI_ne hI
  obtain ⟨fs, hfx⟩ := xI_x hI
  have hv1 : vp_in (i + 1) L := vin_T (T_add hi.1 (show (1 : Int32).toInt = 1 from rfl) (by omega)) (by omega) (by omega)
  refine gz_aload_n dL_law_1061 rfl rfl ?_
  refine gz_aload_n dL_law_1062 rfl rfl ?_
  refine gz_iload_n dL_law_1063 rfl rfl ?_
  refine gz_iconst (v := 1) dL_law_1064 (by decide) ?_
  refine gz_iadd dL_law_1065 ?_
  refine lz_sld hv1 dL_law_1066 ?_
  refine scL_133 (i_X11_count (x := (xs (Int32.toNatClampNeg (i + 1)))) hI) hfx ⟨(Nat.le_of_ble_eq_true rfl), (Nat.le_of_ble_eq_true rfl)⟩ ⟨(show cells + 0 ≤ 600000 by omega), (show slots + 0 ≤ 7302250 by omega)⟩ rfl rfl (Nat.le_of_ble_eq_true rfl) dL_law_1067 ?_
  rintro v9 f9 ⟨hI9, hk9⟩
  obtain ⟨hS9, h09, ha9⟩ := mS_kp hS h0 ha hk9
  refine gz_pop dL_law_1070 rfl ?_
  refine gz_aload_n dL_law_1071 rfl rfl ?_
  refine gz_aload_n dL_law_1072 rfl rfl ?_
  refine gz_iload_n dL_law_1073 rfl rfl ?_
  refine gz_iconst (v := 1) dL_law_1074 (by decide) ?_
  refine gz_iadd dL_law_1075 ?_
  refine lz_sld hv1 dL_law_1076 ?_
  refine scL_136 (k_X12_count (x1 := (xs (Int32.toNatClampNeg (i + 1)))) hS9 ) hS9.1 ⟨(Nat.le_of_ble_eq_true rfl), (Nat.le_of_ble_eq_true rfl)⟩ ⟨(show cells + 0 + 0 ≤ 600000 by omega), (show slots + 0 + 0 ≤ 7302250 by omega)⟩ rfl rfl (Nat.le_of_ble_eq_true rfl) dL_law_1077 ?_
  rintro v8 f8 ⟨-, e8⟩
  rw [e8]
  refine gz_pop dL_law_1080 rfl ?_
  refine gz_goto (tgt := 1084) dL_law_1081 (by decide) ?_
  exact hq (cells + 0 + 0) (slots + 0 + 0) _ ⟨own, da, fcn, csz, sz, len, ln, wz, lo, tg, weg, stg, tpg, CN, eg, thg, LN, ne, n, z, F, G, hI9, hS9, hR, hN, ⟨hda, hwz, hln, hfc, htp, hrB, hnm, hco⟩, h09, ha9, (by omega), (by omega)⟩
