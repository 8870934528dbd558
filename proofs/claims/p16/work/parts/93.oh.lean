/-! readValue -/
theorem nuR_c {T : Nat → Int} {p c : Nat} (h : nuR T p = .inl c) : c = 1 + 8 * p ∨ c = 1 + 8 * p + 1 := by
  unfold nuR at h
  by_cases c1 : dgR T p = 0
  · rw [if_pos c1] at h; cases h; exact Or.inl rfl
  · rw [if_neg c1] at h
    by_cases c2 : 5 < dgR T p
    · rw [if_pos c2] at h; cases h; exact Or.inr rfl
    · rw [if_neg c2] at h; cases h
theorem rva_va {len : Int32} {tg h : Nat → Int32} {pl v jo : Int32} {p V : Nat} (hl : 0 ≤ len.toInt ∧ len.toInt ≤ 400) (hp : pl.toInt = p) (h4 : (p : Int) ≤ len.toInt) (hv : v.toInt = V) (hV : V ≤ 40) :
    exV (vaR (tX tg len) p V) (rvaF len 400 tg pl 0 80 h v jo).1 (rvaF len 400 tg pl 0 80 h v jo).2.1 (rvaF len 400 tg pl 0 80 h v jo).2.2.1 (rvaF len 400 tg pl 0 80 h v jo).2.2.2.1 := by
  obtain ⟨u1, u2⟩ := upnF_sk (tg := tg) hl hp (by omega)
  have hs := skR_le (tX_ln (g := tg) hl) (p := p) (by omega)
  have e : rvaF len 400 tg pl 0 80 h v jo = (if digF (upnF len 400 tg pl).1 = 0 then (if letF (upnF len 400 tg pl).1 = 0 then rvT (upnF len 400 tg pl).2 (upnF len 400 tg pl).2 (faiF 0 (upnF len 400 tg pl).2 0).2 (addF 80 h v jo (-1)) else rvT (upnF len 400 tg pl).2 (rnvF len 400 tg (upnF len 400 tg pl).2 0 (ltrF len 400 tg (upnF len 400 tg pl).2)).2.1 (rnvF len 400 tg (upnF len 400 tg pl).2 0 (ltrF len 400 tg (upnF len 400 tg pl).2)).2.2 (addF 80 h v jo (rnvF len 400 tg (upnF len 400 tg pl).2 0 (ltrF len 400 tg (upnF len 400 tg pl).2)).1)) else rvT (upnF len 400 tg pl).2 (rnuF len 400 tg (upnF len 400 tg pl).2 0).2.1 (rnuF len 400 tg (upnF len 400 tg pl).2 0).2.2 (addF 80 h v jo (rnuF len 400 tg (upnF len 400 tg pl).2 0).1)) := rfl
  rw [e]
  clear e
  generalize (upnF len 400 tg pl).1 = b at u1 ⊢
  generalize (upnF len 400 tg pl).2 = s at u2 ⊢
  have h40 : skR (tX tg len) p ≤ 400 := by omega
  unfold vaR
  generalize skR (tX tg len) p = q at u1 u2 hs h40 ⊢
  by_cases c1 : digF b = 0
  · rw [if_pos c1]
    rw [digF_b, u1] at c1
    rw [if_neg c1]
    by_cases c2 : letF b = 0
    · rw [if_pos c2]
      rw [letF_b, u1] at c2
      have l0 := ltR_no c2
      rw [if_neg (fun d => by omega), if_neg (fun d => by omega)]
      have f0 := fai_0 (k := 0) (c := 0) u2 (by omega) rfl (by omega)
      obtain ⟨r1, r2⟩ := rvT_f (h := h) (q := s) (jo := jo) (x := -1) (c := 1 + 8 * q) u2 h40 (fa := (faiF 0 s 0).2) (by omega) (by omega) hv hV
      exact ⟨r1, by rw [r2, if_neg (by omega)]⟩
    · rw [if_neg c2]
      have hg := ltrF_lt (tg := tg) hl u2 h40
      obtain ⟨n1, n2, n3, n4⟩ := rnv_va (tg := tg) hl u2 h40 hg
      generalize rnvF len 400 tg s 0 (ltrF len 400 tg s) = w at n1 n2 n3 n4 ⊢
      by_cases D : ltR (tX tg len) q = 3 ∧ tX tg len q = 100 ∧ tX tg len (q + 1) = 97 ∧ tX tg len (q + 2) = 121
      · rw [if_pos D]
        obtain ⟨a1, a2⟩ := n1 D
        rw [a2]
        exact rvT_0 u2 h40 (Q := q + 3) (by omega) hv hV
      · rw [if_neg D]
        by_cases Sx : ltR (tX tg len) q = 1 ∧ tX tg len q = 115
        · rw [if_pos Sx]
          by_cases ok : 48 ≤ tX tg len (q + 1) ∧ tX tg len (q + 1) ≤ 53
          · rw [if_pos ok]
            obtain ⟨a1, a2⟩ := n2 Sx ok
            rw [a2]
            exact rvT_0 u2 h40 (Q := q + 2) (by omega) hv hV
          · have a1 := n3 Sx ok
            obtain ⟨r1, r2⟩ := rvT_f (h := h) (q := w.2.1) (jo := jo) (x := w.1) (c := 1 + 8 * (q + 1)) u2 h40 (fa := w.2.2) (by omega) (by omega) hv hV
            by_cases cV : V = 40
            · rw [if_pos cV]
              exact ⟨r1, by rw [r2, if_pos ⟨cV, by omega⟩]⟩
            · rw [if_neg cV, if_neg ok]
              exact ⟨r1, by rw [r2, if_neg (fun z => cV z.1)]⟩
        · rw [if_neg Sx]
          have a1 := n4 D Sx
          obtain ⟨r1, r2⟩ := rvT_f (h := h) (q := w.2.1) (jo := jo) (x := w.1) (c := 1 + 8 * q) u2 h40 (fa := w.2.2) (by omega) (by omega) hv hV
          exact ⟨r1, by rw [r2, if_neg (by omega)]⟩
  · rw [if_neg c1]
    rw [digF_b, u1] at c1
    rw [if_pos (Classical.not_not.mp c1)]
    have ex := rnuF_nu (tg := tg) hl u2 h40
    generalize rnuF len 400 tg s 0 = w at ex ⊢
    cases hn : nuR (tX tg len) q with
    | inl c =>
      rw [hn] at ex
      obtain ⟨-, hf⟩ := ex
      have hc := nuR_c hn
      obtain ⟨r1, r2⟩ := rvT_f (h := h) (q := w.2.1) (jo := jo) (x := w.1) (c := c) u2 h40 (fa := w.2.2) hf (by omega) hv hV
      exact ⟨r1, by rw [r2, if_neg (by omega)]⟩
    | inr Q =>
      rw [hn] at ex
      obtain ⟨-, hq, hf⟩ := ex
      rw [hf]
      exact rvT_0 u2 h40 hq hv hV