theorem gNF_in : ∀ q ∈ gNF, Cond.fieldLinkNest q.1 q.2.1 q.2.2.1 q.2.2.2.1 q.2.2.2.2.1 q.2.2.2.2.2 ∈ lw_tbl := by decide +kernel
theorem gNM_in : ∀ q ∈ gNM, Cond.methodLinkNest q.1 q.2.1 q.2.2.1 q.2.2.2 ∈ lw_tbl := by decide +kernel
theorem gNO_in : ∀ C ∈ gNO, Cond.arrayOver (.object C) ∈ lw_tbl := by decide +kernel
theorem gin_0 : Cond.instantiable RX0 2 ∈ lw_tbl := by decide +kernel
theorem gin_1 : Cond.instantiable RX1 4 ∈ lw_tbl := by decide +kernel
theorem gin_2 : Cond.instantiable RX2 4 ∈ lw_tbl := by decide +kernel
theorem gin_3 : Cond.instantiable RX3 2 ∈ lw_tbl := by decide +kernel
theorem gin_4 : Cond.instantiable RX4 9 ∈ lw_tbl := by decide +kernel
theorem gin_5 : Cond.instantiable RX5 8 ∈ lw_tbl := by decide +kernel
theorem gin_6 : Cond.instantiable RX6 4 ∈ lw_tbl := by decide +kernel
theorem gin_7 : Cond.instantiable RX7 2 ∈ lw_tbl := by decide +kernel
theorem gin_8 : Cond.instantiable RX8 1 ∈ lw_tbl := by decide +kernel
theorem gin_9 : Cond.instantiable RX9 2 ∈ lw_tbl := by decide +kernel
theorem gin_10 : Cond.instantiable RX10 9 ∈ lw_tbl := by decide +kernel
theorem gin_11 : Cond.instantiable RX11 13 ∈ lw_tbl := by decide +kernel
theorem gin_12 : Cond.instantiable RX12 90 ∈ lw_tbl := by decide +kernel
theorem gac_0 : Cond.arrayClass .int ∈ lw_tbl := by decide +kernel
theorem gac_1 : Cond.arrayClass .byte ∈ lw_tbl := by decide +kernel
theorem gac_2 : Cond.arrayClass .long ∈ lw_tbl := by decide +kernel
theorem gac_3 : Cond.arrayClass .boolean ∈ lw_tbl := by decide +kernel
set_option maxHeartbeats 4000000 in
set_option maxRecDepth 100000 in
theorem whole_start {p : Program} {e : Env} {s : State} {m : MethodId} {below : List Frame} {meth : Method} {c : Code} (l : Launch) {b L : Nat} {xs : Nat → Int32} (hL : L ≤ 6) (C0 : lw_At p s m meth c b L xs) : W p l e room_1 s m #[Value.ref b] below meth c s.heap [] 0 0 (lw_Z below #[Value.ref b] s) (entryFrame m ([Value.ref b] : List Value).toArray 4) := by
  obtain ⟨hx, hb, hr, hml, hown, hts, hX, hbl, hlocks, hgv⟩ := id C0
  obtain ⟨c0, i0, k0⟩ := u_known (C := RX0) (T := TX0) (N := 2) (n := 2) hts (fun w h => gWl (giX0 w h)) (hts _ gin_0)
  obtain ⟨c1, i1, k1⟩ := u_known (C := RX1) (T := TX1) (N := 4) (n := 4) hts (fun w h => gWl (giX1 w h)) (hts _ gin_1)
  obtain ⟨c2, i2, k2⟩ := u_known (C := RX2) (T := TX2) (N := 4) (n := 4) hts (fun w h => gWl (giX2 w h)) (hts _ gin_2)
  obtain ⟨c3, i3, k3⟩ := u_known (C := RX3) (T := TX3) (N := 2) (n := 2) hts (fun w h => gWl (giX3 w h)) (hts _ gin_3)
  obtain ⟨c4, i4, k4⟩ := u_known (C := RX4) (T := TX4) (N := 9) (n := 9) hts (fun w h => gWl (giX4 w h)) (hts _ gin_4)
  obtain ⟨c5, i5, k5⟩ := u_known (C := RX5) (T := TX5) (N := 8) (n := 8) hts (fun w h => gWl (giX5 w h)) (hts _ gin_5)
  obtain ⟨c6, i6, k6⟩ := u_known (C := RX6) (T := TX6) (N := 4) (n := 4) hts (fun w h => gWl (giX6 w h)) (hts _ gin_6)
  obtain ⟨c7, i7, k7⟩ := u_known (C := RX7) (T := TX7) (N := 2) (n := 2) hts (fun w h => gWl (giX7 w h)) (hts _ gin_7)
  obtain ⟨c8, i8, k8⟩ := u_known (C := RX8) (T := TX8) (N := 1) (n := 1) hts (fun w h => gWl (giX8 w h)) (hts _ gin_8)
  obtain ⟨c9, i9, k9⟩ := u_known (C := RX9) (T := TX9) (N := 2) (n := 2) hts (fun w h => gWl (giX9 w h)) (hts _ gin_9)
  obtain ⟨c10, i10, k10⟩ := u_known (C := RX10) (T := TX10) (N := 9) (n := 9) hts (fun w h => gWl (giX10 w h)) (hts _ gin_10)
  obtain ⟨c11, i11, k11⟩ := u_known (C := RX11) (T := TX11) (N := 13) (n := 13) hts (fun w h => gWl (giX11 w h)) (hts _ gin_11)
  obtain ⟨c12, i12, k12⟩ := u_known (C := RX12) (T := TX12) (N := 90) (n := 90) hts (fun w h => gWl (giX12 w h)) (hts _ gin_12)
  obtain ⟨dC, dI, hKc⟩ : ∃ (dC : Nat → ClassId) (dI : Nat → Nat → Nat), ∀ (k : Nat) (q : vw_C), vwCl[k]? = some q → u_Kn s q.1 q.2.1 q.2.2 (dC k) (dI k) := by
    refine ⟨fun k => [c0, c1, c2, c3, c4, c5, c6, c7, c8, c9, c10, c11, c12].getD k c0, fun k => [i0, i1, i2, i3, i4, i5, i6, i7, i8, i9, i10, i11, i12].getD k i0, ?_⟩
    intro k q hq
    match k, hq with
    | 0, hq => cases hq; exact k0
    | 1, hq => cases hq; exact k1
    | 2, hq => cases hq; exact k2
    | 3, hq => cases hq; exact k3
    | 4, hq => cases hq; exact k4
    | 5, hq => cases hq; exact k5
    | 6, hq => cases hq; exact k6
    | 7, hq => cases hq; exact k7
    | 8, hq => cases hq; exact k8
    | 9, hq => cases hq; exact k9
    | 10, hq => cases hq; exact k10
    | 11, hq => cases hq; exact k11
    | 12, hq => cases hq; exact k12
    | k + 13, hq => simp [vwCl] at hq
  obtain ⟨y0, ya0, yc0, yf0, yk0, yd0⟩ := Cond.arrayClass_spec (hts _ gac_0)
  obtain ⟨y1, ya1, yc1, yf1, yk1, yd1⟩ := Cond.arrayClass_spec (hts _ gac_1)
  obtain ⟨y2, ya2, yc2, yf2, yk2, yd2⟩ := Cond.arrayClass_spec (hts _ gac_2)
  obtain ⟨y3, ya3, yc3, yf3, yk3, yd3⟩ := Cond.arrayClass_spec (hts _ gac_3)
  obtain ⟨yc4, y4, ya4, yg4, yi4, yk4, yd4, yf4⟩ := Cond.arrayOver_spec (hts _ (gNO_in "DeedTongue$Form" (by decide)))
  obtain ⟨yc5, y5, ya5, yg5, yi5, yk5, yd5, yf5⟩ := Cond.arrayOver_spec (hts _ (gNO_in "DeedTongue$Life" (by decide)))
  obtain ⟨yc6, y6, ya6, yg6, yi6, yk6, yd6, yf6⟩ := Cond.arrayOver_spec (hts _ (gNO_in "DeedTongue$Scene" (by decide)))
  obtain ⟨cy, hcy⟩ : ∃ cy : Nat → ClassId, cy 0 = y0 ∧ cy 1 = y1 ∧ cy 2 = y2 ∧ cy 3 = y3 ∧ cy 4 = y4 ∧ cy 5 = y5 ∧ cy 6 = y6 := ⟨fun k => [y0, y1, y2, y3, y4, y5, y6].getD k y0, rfl, rfl, rfl, rfl, rfl, rfl, rfl⟩
  obtain ⟨e0, e1, e2, e3, e4, e5, e6⟩ := hcy
  have hK : va_K (dC, dI) vwCl (gTy cy) s := by
    refine ⟨hKc, fun k q hk => ?_⟩
    match k, hk with
    | 0, hk => cases hk; rw [e0]; exact ⟨fun n z => ⟨fun k h => (by cases h), ya0, yk0, yc0, yd0⟩, yf0⟩
    | 1, hk => cases hk; rw [e1]; exact ⟨fun n z => ⟨fun k h => (by cases h), ya1, yk1, yc1, yd1⟩, yf1⟩
    | 2, hk => cases hk; rw [e2]; exact ⟨fun n z => ⟨fun k h => (by cases h), ya2, yk2, yc2, yd2⟩, yf2⟩
    | 3, hk => cases hk; rw [e3]; exact ⟨fun n z => ⟨fun k h => (by cases h), ya3, yk3, yc3, yd3⟩, yf3⟩
    | 4, hk => cases hk; rw [e4]; exact ⟨fun n z => ⟨fun k h => (by cases h), ya4, yk4, yc4, yd4⟩, ya4, yc4, yk4, yd4, yg4, yf4⟩
    | 5, hk => cases hk; rw [e5]; exact ⟨fun n z => ⟨fun k h => (by cases h), ya5, yk5, yc5, yd5⟩, ya5, yc5, yk5, yd5, yg5, yf5⟩
    | 6, hk => cases hk; rw [e6]; exact ⟨fun n z => ⟨fun k h => (by cases h), ya6, yk6, yc6, yd6⟩, ya6, yc6, yk6, yd6, yg6, yf6⟩
    | k + 7, hk => simp [gTy] at hk
  have hN : gN s := ⟨fun q hq => va_Nw.of rfl (hts _ (gNF_in q hq)), fun q hq => va_Nw.of rfl (hts _ (gNM_in q hq)), fun C hC => va_AO.of (hts _ (gNO_in C hC))⟩
  have hl := lv_entry ([.ref b]) (n := 4) (Nat.le_of_ble_eq_true rfl)
  rw [lg_entry_eq]
  exact lw_all (D := (dC, dI)) (cy := cy) (b := s.heap.size) (bs := b) (L := L) (xs := xs) (nm := meth.name) hL p e s m _ below meth c s.heap [] _ ⟨hx, hb, hml, hr, hown, fun w hw => hts w (gWl hw), hlocks, rfl, ⟨hK, hN⟩, Nat.le_refl _, ⟨hX, hbl, hbl⟩, Nat.le_refl _⟩ ⟨[], (fun _ => .inr (0, [])), (fun a e h => (by cases h)), (fun k q h => (by simp [va_pl] at h)), ⟨(fun i j p q h => (by simp [va_pl] at h)), (fun k q h => (by simp [va_pl] at h))⟩⟩ va_S.rf hl
