theorem sw2 {x : Int32} (h : ¬ (x.toInt < 0 ∨ 2 < x.toInt)) : x = 0 ∨ x = 1 ∨ x = 2 := by
  have key : x.toInt = 0 ∨ x.toInt = 1 ∨ x.toInt = 2 := by omega
  rcases key with h | h | h
  · exact Or.inl (Int32.toInt_inj.mp h)
  · exact Or.inr (Or.inl (Int32.toInt_inj.mp h))
  · exact Or.inr (Or.inr ((Int32.toInt_inj.mp h)))
theorem sw3 {x : Int32} (h : ¬ (x.toInt < 0 ∨ 3 < x.toInt)) : x = 0 ∨ x = 1 ∨ x = 2 ∨ x = 3 := by
  have key : x.toInt = 0 ∨ x.toInt = 1 ∨ x.toInt = 2 ∨ x.toInt = 3 := by omega
  rcases key with h | h | h | h
  · exact Or.inl (Int32.toInt_inj.mp h)
  · exact Or.inr (Or.inl (Int32.toInt_inj.mp h))
  · exact Or.inr (Or.inr (Or.inl (Int32.toInt_inj.mp h)))
  · exact Or.inr (Or.inr (Or.inr ((Int32.toInt_inj.mp h))))
theorem sw7 {x : Int32} (h : ¬ (x.toInt < 0 ∨ 7 < x.toInt)) : x = 0 ∨ x = 1 ∨ x = 2 ∨ x = 3 ∨ x = 4 ∨ x = 5 ∨ x = 6 ∨ x = 7 := by
  have key : x.toInt = 0 ∨ x.toInt = 1 ∨ x.toInt = 2 ∨ x.toInt = 3 ∨ x.toInt = 4 ∨ x.toInt = 5 ∨ x.toInt = 6 ∨ x.toInt = 7 := by omega
  rcases key with h | h | h | h | h | h | h | h
  · exact Or.inl (Int32.toInt_inj.mp h)
  · exact Or.inr (Or.inl (Int32.toInt_inj.mp h))
  · exact Or.inr (Or.inr (Or.inl (Int32.toInt_inj.mp h)))
  · exact Or.inr (Or.inr (Or.inr (Or.inl (Int32.toInt_inj.mp h))))
  · exact Or.inr (Or.inr (Or.inr (Or.inr (Or.inl (Int32.toInt_inj.mp h)))))
  · exact Or.inr (Or.inr (Or.inr (Or.inr (Or.inr (Or.inl (Int32.toInt_inj.mp h))))))
  · exact Or.inr (Or.inr (Or.inr (Or.inr (Or.inr (Or.inr (Or.inl (Int32.toInt_inj.mp h)))))))
  · exact Or.inr (Or.inr (Or.inr (Or.inr (Or.inr (Or.inr (Or.inr ((Int32.toInt_inj.mp h))))))))
set_option maxHeartbeats 4000000 in
set_option maxRecDepth 100000 in
theorem k_X12_isForm {l : Launch} {D : va_G} {cy : Nat → ClassId} {b : Nat} {f : gMem} {m : Nat} {a : Nat → Nat} {f0 : gMem} {n : Nat → Int32} {z : Nat → Int64} {F : Nat → Nat → Int32} {G : Nat → Nat → Int64} {i : Int32}  (hS : mS cy m a f0 n z F G f) (h5 : n 5 = 0) : gC l D cy b yX12_isForm cX12_isForm 2 (some .boolean) 0 0 0 [.ref m, .int i] f (pI fun r f2 => r = 0 ∧ f2 = f) := by
  refine gC_of (by decide) (Nat.le_of_ble_eq_true rfl) ?_
  show gG l _ _ _ D cy b cX12_isForm 2 _ RX12 "isForm" 0 0 f 0 [(0, .ref m), (1, .int i)] []
  refine gz_iload_n dX12_isForm_0 rfl rfl ?_
  refine gz_if_lt (tgt := 16) dX12_isForm_1 (by decide) (fun c_1 => ?_) (fun c_1 => ?_)
  ·
    refine gz_iconst (v := 0) dX12_isForm_16 (by decide) ?_
    exact gz_zret rfl (by decide) dX12_isForm_17 (Nat.le_of_ble_eq_true rfl) (Nat.le_of_ble_eq_true rfl) (⟨_, rfl, rfl, rfl⟩)
  ·
    refine gz_iload_n dX12_isForm_4 rfl rfl ?_
    refine gz_aload_n dX12_isForm_5 rfl rfl ?_
    refine mg_307 hS dX12_isForm_6 ?_
    refine gz_ev (w := .int 0) (congrArg Value.int h5) ?_
    refine gz_icmp_ge (tgt := 16) dX12_isForm_9 (by decide) (fun c_9 => ?_) (fun c_9 => ?_)
    ·
      refine gz_iconst (v := 0) dX12_isForm_16 (by decide) ?_
      exact gz_zret rfl (by decide) dX12_isForm_17 (Nat.le_of_ble_eq_true rfl) (Nat.le_of_ble_eq_true rfl) (⟨_, rfl, rfl, rfl⟩)
    · exfalso; simp only [fl_lt, fl_le] at c_1 c_9; have e0 : (0 : Int32).toInt = 0 := rfl; omega

set_option maxHeartbeats 4000000 in
set_option maxRecDepth 100000 in
theorem k_X12_isLife {l : Launch} {D : va_G} {cy : Nat → ClassId} {b : Nat} {f : gMem} {m : Nat} {a : Nat → Nat} {f0 : gMem} {n : Nat → Int32} {z : Nat → Int64} {F : Nat → Nat → Int32} {G : Nat → Nat → Int64} {i : Int32}  (hS : mS cy m a f0 n z F G f) (h30 : n 30 = 0) : gC l D cy b yX12_isLife cX12_isLife 2 (some .boolean) 0 0 0 [.ref m, .int i] f (pI fun r f2 => r = 0 ∧ f2 = f) := by
  refine gC_of (by decide) (Nat.le_of_ble_eq_true rfl) ?_
  show gG l _ _ _ D cy b cX12_isLife 2 _ RX12 "isLife" 0 0 f 0 [(0, .ref m), (1, .int i)] []
  refine gz_iload_n dX12_isLife_0 rfl rfl ?_
  refine gz_if_lt (tgt := 16) dX12_isLife_1 (by decide) (fun c_1 => ?_) (fun c_1 => ?_)
  ·
    refine gz_iconst (v := 0) dX12_isLife_16 (by decide) ?_
    exact gz_zret rfl (by decide) dX12_isLife_17 (Nat.le_of_ble_eq_true rfl) (Nat.le_of_ble_eq_true rfl) (⟨_, rfl, rfl, rfl⟩)
  ·
    refine gz_iload_n dX12_isLife_4 rfl rfl ?_
    refine gz_aload_n dX12_isLife_5 rfl rfl ?_
    refine mg_394 hS dX12_isLife_6 ?_
    refine gz_ev (w := .int 0) (congrArg Value.int h30) ?_
    refine gz_icmp_ge (tgt := 16) dX12_isLife_9 (by decide) (fun c_9 => ?_) (fun c_9 => ?_)
    ·
      refine gz_iconst (v := 0) dX12_isLife_16 (by decide) ?_
      exact gz_zret rfl (by decide) dX12_isLife_17 (Nat.le_of_ble_eq_true rfl) (Nat.le_of_ble_eq_true rfl) (⟨_, rfl, rfl, rfl⟩)
    · exfalso; simp only [fl_lt, fl_le] at c_1 c_9; have e0 : (0 : Int32).toInt = 0 := rfl; omega

set_option maxHeartbeats 4000000 in
set_option maxRecDepth 100000 in
theorem k_X12_isStanding {l : Launch} {D : va_G} {cy : Nat → ClassId} {b : Nat} {f : gMem} {m : Nat} {a : Nat → Nat} {f0 : gMem} {n : Nat → Int32} {z : Nat → Int64} {F : Nat → Nat → Int32} {G : Nat → Nat → Int64} {i j : Int32}  (hS : mS cy m a f0 n z F G f) (h30 : n 30 = 0) : gC l D cy b yX12_isStanding cX12_isStanding 3 (some .boolean) 1 0 0 [.ref m, .int i, .int j] f (pI fun r f2 => r = 0 ∧ f2 = f) := by
  refine gC_of (by decide) (Nat.le_of_ble_eq_true rfl) ?_
  show gG l _ _ _ D cy b cX12_isStanding 3 _ RX12 "isStanding" 0 0 f 0 [(0, .ref m), (1, .int i), (2, .int j)] []
  refine gz_aload_n dX12_isStanding_0 rfl rfl ?_
  refine gz_iload_n dX12_isStanding_1 rfl rfl ?_
  refine scX12_410 (k_X12_isLife (i := i) hS h30) hS.1 ⟨(Nat.le_of_ble_eq_true rfl), (Nat.le_of_ble_eq_true rfl)⟩ ⟨(Nat.le_of_ble_eq_true rfl), (Nat.le_of_ble_eq_true rfl)⟩ rfl rfl (Nat.le_of_ble_eq_true rfl) dX12_isStanding_2 ?_
  intro v9 f9 z9; rw [z9.1, z9.2]
  refine gz_if_eq (tgt := 30) dX12_isStanding_5 (by decide) (fun c_5 => ?_) (fun c_5 => ?_)
  ·
    refine gz_iconst (v := 0) dX12_isStanding_30 (by decide) ?_
    exact gz_zret rfl (by decide) dX12_isStanding_31 (Nat.le_of_ble_eq_true rfl) (Nat.le_of_ble_eq_true rfl) (⟨_, rfl, rfl, rfl⟩)
  · exact absurd c_5 (by decide)

set_option maxHeartbeats 4000000 in
set_option maxRecDepth 100000 in
theorem k_X12_word {l : Launch} {D : va_G} {cy : Nat → ClassId} {b : Nat} {f : gMem} {m : Nat} {a : Nat → Nat} {f0 : gMem} {n : Nat → Int32} {z : Nat → Int64} {F : Nat → Nat → Int32} {G : Nat → Nat → Int64} {x1 x2 x3 : Int32}  (hS : mS cy m a f0 n z F G f) (h5 : n 5 = 0) : gC l D cy b yX12_word cX12_word 5 (some .int) 1 0 0 [.ref m, .int x1, .int x2, .int x3] f (pI fun r f2 => r = -1) := by
  refine gC_of (by decide) (Nat.le_of_ble_eq_true rfl) ?_
  show gG l _ _ _ D cy b cX12_word 5 _ RX12 "word" 0 0 f 0 [(0, .ref m), (1, .int x1), (2, .int x2), (3, .int x3)] []
  refine gz_aload_n dX12_word_0 rfl rfl ?_
  refine gz_iload_n dX12_word_1 rfl rfl ?_
  refine scX12_337 (k_X12_isForm (i := x1) hS h5) hS.1 ⟨(Nat.le_of_ble_eq_true rfl), (Nat.le_of_ble_eq_true rfl)⟩ ⟨(Nat.le_of_ble_eq_true rfl), (Nat.le_of_ble_eq_true rfl)⟩ rfl rfl (Nat.le_of_ble_eq_true rfl) dX12_word_2 ?_
  intro v9 f9 z9; rw [z9.1, z9.2]
  refine gz_if_eq (tgt := 26) dX12_word_5 (by decide) (fun c_5 => ?_) (fun c_5 => ?_)
  ·
    refine gz_iconst (v := (-1)) dX12_word_26 (by decide) ?_
    exact gz_iret rfl dX12_word_27 (Nat.le_of_ble_eq_true rfl) (Nat.le_of_ble_eq_true rfl) (⟨_, rfl, rfl⟩)
  · exact absurd c_5 (by decide)

set_option maxHeartbeats 4000000 in
set_option maxRecDepth 100000 in
theorem k_X12_words {l : Launch} {D : va_G} {cy : Nat → ClassId} {b : Nat} {f : gMem} {m : Nat} {a : Nat → Nat} {f0 : gMem} {n : Nat → Int32} {z : Nat → Int64} {F : Nat → Nat → Int32} {G : Nat → Nat → Int64} {x1 : Int32}  (hS : mS cy m a f0 n z F G f) (h5 : n 5 = 0) : gC l D cy b yX12_words cX12_words 2 (some .int) 1 0 0 [.ref m, .int x1] f (pI fun r f2 => r = -1) := by
  refine gC_of (by decide) (Nat.le_of_ble_eq_true rfl) ?_
  show gG l _ _ _ D cy b cX12_words 2 _ RX12 "words" 0 0 f 0 [(0, .ref m), (1, .int x1)] []
  refine gz_aload_n dX12_words_0 rfl rfl ?_
  refine gz_iload_n dX12_words_1 rfl rfl ?_
  refine scX12_337 (k_X12_isForm (i := x1) hS h5) hS.1 ⟨(Nat.le_of_ble_eq_true rfl), (Nat.le_of_ble_eq_true rfl)⟩ ⟨(Nat.le_of_ble_eq_true rfl), (Nat.le_of_ble_eq_true rfl)⟩ rfl rfl (Nat.le_of_ble_eq_true rfl) dX12_words_2 ?_
  intro v9 f9 z9; rw [z9.1, z9.2]
  refine gz_if_eq (tgt := 17) dX12_words_5 (by decide) (fun c_5 => ?_) (fun c_5 => ?_)
  ·
    refine gz_iconst (v := (-1)) dX12_words_17 (by decide) ?_
    exact gz_iret rfl dX12_words_18 (Nat.le_of_ble_eq_true rfl) (Nat.le_of_ble_eq_true rfl) (⟨_, rfl, rfl⟩)
  · exact absurd c_5 (by decide)

set_option maxHeartbeats 4000000 in
set_option maxRecDepth 100000 in
theorem k_X12_shorter {l : Launch} {D : va_G} {cy : Nat → ClassId} {b : Nat} {f : gMem} {m : Nat} {a : Nat → Nat} {f0 : gMem} {n : Nat → Int32} {z : Nat → Int64} {F : Nat → Nat → Int32} {G : Nat → Nat → Int64} {x1 : Int32}  (hS : mS cy m a f0 n z F G f) (h5 : n 5 = 0) : gC l D cy b yX12_shorter cX12_shorter 2 (some .int) 1 0 0 [.ref m, .int x1] f (pI fun r f2 => r = -1) := by
  refine gC_of (by decide) (Nat.le_of_ble_eq_true rfl) ?_
  show gG l _ _ _ D cy b cX12_shorter 2 _ RX12 "shorter" 0 0 f 0 [(0, .ref m), (1, .int x1)] []
  refine gz_aload_n dX12_shorter_0 rfl rfl ?_
  refine gz_iload_n dX12_shorter_1 rfl rfl ?_
  refine scX12_337 (k_X12_isForm (i := x1) hS h5) hS.1 ⟨(Nat.le_of_ble_eq_true rfl), (Nat.le_of_ble_eq_true rfl)⟩ ⟨(Nat.le_of_ble_eq_true rfl), (Nat.le_of_ble_eq_true rfl)⟩ rfl rfl (Nat.le_of_ble_eq_true rfl) dX12_shorter_2 ?_
  intro v9 f9 z9; rw [z9.1, z9.2]
  refine gz_if_eq (tgt := 17) dX12_shorter_5 (by decide) (fun c_5 => ?_) (fun c_5 => ?_)
  ·
    refine gz_iconst (v := (-1)) dX12_shorter_17 (by decide) ?_
    exact gz_iret rfl dX12_shorter_18 (Nat.le_of_ble_eq_true rfl) (Nat.le_of_ble_eq_true rfl) (⟨_, rfl, rfl⟩)
  · exact absurd c_5 (by decide)

set_option maxHeartbeats 4000000 in
set_option maxRecDepth 100000 in
theorem k_X12_same {l : Launch} {D : va_G} {cy : Nat → ClassId} {b : Nat} {f : gMem} {m : Nat} {a : Nat → Nat} {f0 : gMem} {n : Nat → Int32} {z : Nat → Int64} {F : Nat → Nat → Int32} {G : Nat → Nat → Int64} {x1 x2 : Int32}  (hS : mS cy m a f0 n z F G f) (h5 : n 5 = 0) : gC l D cy b yX12_same cX12_same 9 (some .int) 1 0 0 [.ref m, .int x1, .int x2] f (pI fun r f2 => r = -1) := by
  refine gC_of (by decide) (Nat.le_of_ble_eq_true rfl) ?_
  show gG l _ _ _ D cy b cX12_same 9 _ RX12 "same" 0 0 f 0 [(0, .ref m), (1, .int x1), (2, .int x2)] []
  refine gz_aload_n dX12_same_0 rfl rfl ?_
  refine gz_iload_n dX12_same_1 rfl rfl ?_
  refine scX12_337 (k_X12_isForm (i := x1) hS h5) hS.1 ⟨(Nat.le_of_ble_eq_true rfl), (Nat.le_of_ble_eq_true rfl)⟩ ⟨(Nat.le_of_ble_eq_true rfl), (Nat.le_of_ble_eq_true rfl)⟩ rfl rfl (Nat.le_of_ble_eq_true rfl) dX12_same_2 ?_
  intro v9 f9 z9; rw [z9.1, z9.2]
  refine gz_if_eq (tgt := 16) dX12_same_5 (by decide) (fun c_5 => ?_) (fun c_5 => ?_)
  ·
    refine gz_iconst (v := (-1)) dX12_same_16 (by decide) ?_
    exact gz_iret rfl dX12_same_17 (Nat.le_of_ble_eq_true rfl) (Nat.le_of_ble_eq_true rfl) (⟨_, rfl, rfl⟩)
  · exact absurd c_5 (by decide)

set_option maxHeartbeats 4000000 in
set_option maxRecDepth 100000 in
theorem k_X12_tell {l : Launch} {D : va_G} {cy : Nat → ClassId} {b : Nat} {f : gMem} {m : Nat} {a : Nat → Nat} {f0 : gMem} {n : Nat → Int32} {z : Nat → Int64} {F : Nat → Nat → Int32} {G : Nat → Nat → Int64} {x1 : Int32}  (hS : mS cy m a f0 n z F G f) (h5 : n 5 = 0) : gC l D cy b yX12_tell cX12_tell 4 (some .int) 1 0 0 [.ref m, .int x1] f (pI fun r f2 => r = -1) := by
  refine gC_of (by decide) (Nat.le_of_ble_eq_true rfl) ?_
  show gG l _ _ _ D cy b cX12_tell 4 _ RX12 "tell" 0 0 f 0 [(0, .ref m), (1, .int x1)] []
  refine gz_aload_n dX12_tell_0 rfl rfl ?_
  refine gz_iload_n dX12_tell_1 rfl rfl ?_
  refine scX12_337 (k_X12_isForm (i := x1) hS h5) hS.1 ⟨(Nat.le_of_ble_eq_true rfl), (Nat.le_of_ble_eq_true rfl)⟩ ⟨(Nat.le_of_ble_eq_true rfl), (Nat.le_of_ble_eq_true rfl)⟩ rfl rfl (Nat.le_of_ble_eq_true rfl) dX12_tell_2 ?_
  intro v9 f9 z9; rw [z9.1, z9.2]
  refine gz_if_ne (tgt := 10) dX12_tell_5 (by decide) (fun c_5 => ?_) (fun c_5 => ?_)
  · exact absurd c_5 (by decide)
  ·
    refine gz_iconst (v := (-1)) dX12_tell_8 (by decide) ?_
    exact gz_iret rfl dX12_tell_9 (Nat.le_of_ble_eq_true rfl) (Nat.le_of_ble_eq_true rfl) (⟨_, rfl, rfl⟩)

set_option maxHeartbeats 4000000 in
set_option maxRecDepth 100000 in
theorem k_X12_octet {l : Launch} {D : va_G} {cy : Nat → ClassId} {b : Nat} {f : gMem} {m : Nat} {a : Nat → Nat} {f0 : gMem} {n : Nat → Int32} {z : Nat → Int64} {F : Nat → Nat → Int32} {G : Nat → Nat → Int64} {x1 : Int32}  (hS : mS cy m a f0 n z F G f) (h88 : n 88 = 0) : gC l D cy b yX12_octet cX12_octet 2 (some .int) 1 0 0 [.ref m, .int x1] f (pI fun r f2 => r = -1) := by
  refine gC_of (by decide) (Nat.le_of_ble_eq_true rfl) ?_
  show gG l _ _ _ D cy b cX12_octet 2 _ RX12 "octet" 0 0 f 0 [(0, .ref m), (1, .int x1)] []
  refine gz_iload_n dX12_octet_0 rfl rfl ?_
  refine gz_i2l dX12_octet_1 ?_
  refine gz_lconst (v := 0) dX12_octet_2 (by decide) ?_
  refine gz_aload_n dX12_octet_3 rfl rfl ?_
  refine mg_541 hS dX12_octet_4 ?_
  refine gz_ev (w := .int 0) (congrArg Value.int h88) ?_
  refine gz_iconst (v := 1) dX12_octet_7 (by decide) ?_
  refine gz_isub dX12_octet_8 ?_
  refine gz_ev (w := .int (-1)) (by decide) ?_
  refine gz_i2l dX12_octet_9 ?_
  refine scX12_245 (k_X12_in (x := x1.toInt64) (y := 0) (w := ((-1) : Int32).toInt64)) ⟨(Nat.le_of_ble_eq_true rfl), (Nat.le_of_ble_eq_true rfl)⟩ ⟨(Nat.le_of_ble_eq_true rfl), (Nat.le_of_ble_eq_true rfl)⟩ rfl rfl (Nat.le_of_ble_eq_true rfl) dX12_octet_10 ?_
  intro v9 f9 z9; rw [z9.1, z9.2]
  refine gz_if_eq (tgt := 25) dX12_octet_13 (by decide) (fun c_13 => ?_) (fun c_13 => ?_)
  ·
    refine gz_iconst (v := (-1)) dX12_octet_25 (by decide) ?_
    exact gz_iret rfl dX12_octet_26 (Nat.le_of_ble_eq_true rfl) (Nat.le_of_ble_eq_true rfl) (⟨_, rfl, rfl⟩)
  · exfalso; simp only [mIn_0, fL_w] at c_13; have E0 : (0 : Int64).toInt = 0 := rfl; have em : (-1 : Int32).toInt = -1 := rfl; omega

set_option maxHeartbeats 4000000 in
set_option maxRecDepth 100000 in
theorem k_X12_begin {l : Launch} {D : va_G} {cy : Nat → ClassId} {b : Nat} {f : gMem} {m : Nat} {a : Nat → Nat} {f0 : gMem} {n : Nat → Int32} {z : Nat → Int64} {F : Nat → Nat → Int32} {G : Nat → Nat → Int64} {x1 x2 x3 : Int32}  (hS : mS cy m a f0 n z F G f) (h30 : n 30 = 0) (h5 : n 5 = 0) : gC l D cy b yX12_begin cX12_begin 4 (some .int) 1 0 0 [.ref m, .int x1, .int x2, .int x3] f (pI fun r f2 => r = -1) := by
  refine gC_of (by decide) (Nat.le_of_ble_eq_true rfl) ?_
  show gG l _ _ _ D cy b cX12_begin 4 _ RX12 "begin" 0 0 f 0 [(0, .ref m), (1, .int x1), (2, .int x2), (3, .int x3)] []
  refine gz_aload_n dX12_begin_0 rfl rfl ?_
  refine mg_394 hS dX12_begin_1 ?_
  refine gz_ev (w := .int 0) (congrArg Value.int h30) ?_
  refine gz_bipush (v := 40) dX12_begin_4 (by decide) ?_
  refine gz_icmp_eq (tgt := 38) dX12_begin_6 (by decide) (fun c_6 => ?_) (fun c_6 => ?_)
  · exact absurd c_6 (by decide)
  ·
    refine gz_aload_n dX12_begin_9 rfl rfl ?_
    refine gz_iload_n dX12_begin_10 rfl rfl ?_
    refine scX12_337 (k_X12_isForm (i := x1) hS h5) hS.1 ⟨(Nat.le_of_ble_eq_true rfl), (Nat.le_of_ble_eq_true rfl)⟩ ⟨(Nat.le_of_ble_eq_true rfl), (Nat.le_of_ble_eq_true rfl)⟩ rfl rfl (Nat.le_of_ble_eq_true rfl) dX12_begin_11 ?_
    intro v9 f9 z9; rw [z9.1, z9.2]
    refine gz_if_eq (tgt := 38) dX12_begin_14 (by decide) (fun c_14 => ?_) (fun c_14 => ?_)
    ·
      refine gz_iconst (v := (-1)) dX12_begin_38 (by decide) ?_
      exact gz_iret rfl dX12_begin_39 (Nat.le_of_ble_eq_true rfl) (Nat.le_of_ble_eq_true rfl) (⟨_, rfl, rfl⟩)
    · exact absurd c_14 (by decide)

set_option maxHeartbeats 4000000 in
set_option maxRecDepth 100000 in
theorem k_X12_stands {l : Launch} {D : va_G} {cy : Nat → ClassId} {b : Nat} {f : gMem} {m : Nat} {a : Nat → Nat} {f0 : gMem} {n : Nat → Int32} {z : Nat → Int64} {F : Nat → Nat → Int32} {G : Nat → Nat → Int64} {x1 : Int32}  (hS : mS cy m a f0 n z F G f) (h30 : n 30 = 0) : gC l D cy b yX12_stands cX12_stands 2 (some .int) 1 0 0 [.ref m, .int x1] f (pI fun r f2 => r = -1) := by
  refine gC_of (by decide) (Nat.le_of_ble_eq_true rfl) ?_
  show gG l _ _ _ D cy b cX12_stands 2 _ RX12 "stands" 0 0 f 0 [(0, .ref m), (1, .int x1)] []
  refine gz_aload_n dX12_stands_0 rfl rfl ?_
  refine gz_iload_n dX12_stands_1 rfl rfl ?_
  refine scX12_410 (k_X12_isLife (i := x1) hS h30) hS.1 ⟨(Nat.le_of_ble_eq_true rfl), (Nat.le_of_ble_eq_true rfl)⟩ ⟨(Nat.le_of_ble_eq_true rfl), (Nat.le_of_ble_eq_true rfl)⟩ rfl rfl (Nat.le_of_ble_eq_true rfl) dX12_stands_2 ?_
  intro v9 f9 z9; rw [z9.1, z9.2]
  refine gz_if_eq (tgt := 17) dX12_stands_5 (by decide) (fun c_5 => ?_) (fun c_5 => ?_)
  ·
    refine gz_iconst (v := (-1)) dX12_stands_17 (by decide) ?_
    exact gz_iret rfl dX12_stands_18 (Nat.le_of_ble_eq_true rfl) (Nat.le_of_ble_eq_true rfl) (⟨_, rfl, rfl⟩)
  · exact absurd c_5 (by decide)

set_option maxHeartbeats 4000000 in
set_option maxRecDepth 100000 in
theorem k_X12_standing {l : Launch} {D : va_G} {cy : Nat → ClassId} {b : Nat} {f : gMem} {m : Nat} {a : Nat → Nat} {f0 : gMem} {n : Nat → Int32} {z : Nat → Int64} {F : Nat → Nat → Int32} {G : Nat → Nat → Int64} {x1 x2 x3 : Int32}  (hS : mS cy m a f0 n z F G f) (h30 : n 30 = 0) : gC l D cy b yX12_standing cX12_standing 5 (some .int) 2 0 0 [.ref m, .int x1, .int x2, .int x3] f (pI fun r f2 => r = -1) := by
  refine gC_of (by decide) (Nat.le_of_ble_eq_true rfl) ?_
  show gG l _ _ _ D cy b cX12_standing 5 _ RX12 "standing" 0 0 f 0 [(0, .ref m), (1, .int x1), (2, .int x2), (3, .int x3)] []
  refine gz_aload_n dX12_standing_0 rfl rfl ?_
  refine gz_iload_n dX12_standing_1 rfl rfl ?_
  refine gz_iload_n dX12_standing_2 rfl rfl ?_
  refine scX12_416 (k_X12_isStanding (i := x1) (j := x2) hS h30) hS.1 ⟨(Nat.le_of_ble_eq_true rfl), (Nat.le_of_ble_eq_true rfl)⟩ ⟨(Nat.le_of_ble_eq_true rfl), (Nat.le_of_ble_eq_true rfl)⟩ rfl rfl (Nat.le_of_ble_eq_true rfl) dX12_standing_3 ?_
  intro v9 f9 z9; rw [z9.1, z9.2]
  refine gz_if_ne (tgt := 11) dX12_standing_6 (by decide) (fun c_6 => ?_) (fun c_6 => ?_)
  · exact absurd c_6 (by decide)
  ·
    refine gz_iconst (v := (-1)) dX12_standing_9 (by decide) ?_
    exact gz_iret rfl dX12_standing_10 (Nat.le_of_ble_eq_true rfl) (Nat.le_of_ble_eq_true rfl) (⟨_, rfl, rfl⟩)

set_option maxHeartbeats 4000000 in
set_option maxRecDepth 100000 in
theorem k_X12_choose {l : Launch} {D : va_G} {cy : Nat → ClassId} {b : Nat} {f : gMem} {m : Nat} {a : Nat → Nat} {f0 : gMem} {n : Nat → Int32} {z : Nat → Int64} {F : Nat → Nat → Int32} {G : Nat → Nat → Int64} {x1 x2 x3 x4 : Int32}  (hS : mS cy m a f0 n z F G f) (h30 : n 30 = 0) : gC l D cy b yX12_choose cX12_choose 9 (some .int) 2 0 0 [.ref m, .int x1, .int x2, .int x3, .int x4] f (pI fun r f2 => r = -1) := by
  refine gC_of (by decide) (Nat.le_of_ble_eq_true rfl) ?_
  show gG l _ _ _ D cy b cX12_choose 9 _ RX12 "choose" 0 0 f 0 [(0, .ref m), (1, .int x1), (2, .int x2), (3, .int x3), (4, .int x4)] []
  refine gz_aload_n dX12_choose_0 rfl rfl ?_
  refine gz_iload_n dX12_choose_1 rfl rfl ?_
  refine gz_iload_n dX12_choose_2 rfl rfl ?_
  refine scX12_416 (k_X12_isStanding (i := x1) (j := x2) hS h30) hS.1 ⟨(Nat.le_of_ble_eq_true rfl), (Nat.le_of_ble_eq_true rfl)⟩ ⟨(Nat.le_of_ble_eq_true rfl), (Nat.le_of_ble_eq_true rfl)⟩ rfl rfl (Nat.le_of_ble_eq_true rfl) dX12_choose_3 ?_
  intro v9 f9 z9; rw [z9.1, z9.2]
  refine gz_if_eq (tgt := 20) dX12_choose_6 (by decide) (fun c_6 => ?_) (fun c_6 => ?_)
  ·
    refine gz_iconst (v := (-1)) dX12_choose_20 (by decide) ?_
    exact gz_iret rfl dX12_choose_21 (Nat.le_of_ble_eq_true rfl) (Nat.le_of_ble_eq_true rfl) (⟨_, rfl, rfl⟩)
  · exact absurd c_6 (by decide)

set_option maxHeartbeats 4000000 in
set_option maxRecDepth 100000 in
theorem k_X12_take {l : Launch} {D : va_G} {cy : Nat → ClassId} {b : Nat} {f : gMem} {m : Nat} {a : Nat → Nat} {f0 : gMem} {n : Nat → Int32} {z : Nat → Int64} {F : Nat → Nat → Int32} {G : Nat → Nat → Int64} {x1 x2 x3 : Int32}  (hS : mS cy m a f0 n z F G f) (h30 : n 30 = 0) : gC l D cy b yX12_take cX12_take 8 (some .int) 2 0 0 [.ref m, .int x1, .int x2, .int x3] f (pI fun r f2 => r = -1) := by
  refine gC_of (by decide) (Nat.le_of_ble_eq_true rfl) ?_
  show gG l _ _ _ D cy b cX12_take 8 _ RX12 "take" 0 0 f 0 [(0, .ref m), (1, .int x1), (2, .int x2), (3, .int x3)] []
  refine gz_aload_n dX12_take_0 rfl rfl ?_
  refine gz_iload_n dX12_take_1 rfl rfl ?_
  refine gz_iload_n dX12_take_2 rfl rfl ?_
  refine scX12_416 (k_X12_isStanding (i := x1) (j := x2) hS h30) hS.1 ⟨(Nat.le_of_ble_eq_true rfl), (Nat.le_of_ble_eq_true rfl)⟩ ⟨(Nat.le_of_ble_eq_true rfl), (Nat.le_of_ble_eq_true rfl)⟩ rfl rfl (Nat.le_of_ble_eq_true rfl) dX12_take_3 ?_
  intro v9 f9 z9; rw [z9.1, z9.2]
  refine gz_if_ne (tgt := 11) dX12_take_6 (by decide) (fun c_6 => ?_) (fun c_6 => ?_)
  · exact absurd c_6 (by decide)
  ·
    refine gz_iconst (v := (-1)) dX12_take_9 (by decide) ?_
    exact gz_iret rfl dX12_take_10 (Nat.le_of_ble_eq_true rfl) (Nat.le_of_ble_eq_true rfl) (⟨_, rfl, rfl⟩)

set_option maxHeartbeats 4000000 in
set_option maxRecDepth 100000 in
theorem k_X12_payment {l : Launch} {D : va_G} {cy : Nat → ClassId} {b : Nat} {f : gMem} {m : Nat} {a : Nat → Nat} {f0 : gMem} {n : Nat → Int32} {z : Nat → Int64} {F : Nat → Nat → Int32} {G : Nat → Nat → Int64} {x1 x2 : Int32}  (hS : mS cy m a f0 n z F G f) (h38 : n 38 = 0) : gC l D cy b yX12_payment cX12_payment 3 (some .int) 1 0 0 [.ref m, .int x1, .int x2] f (pI fun r f2 => r = -10000000) := by
  refine gC_of (by decide) (Nat.le_of_ble_eq_true rfl) ?_
  show gG l _ _ _ D cy b cX12_payment 3 _ RX12 "payment" 0 0 f 0 [(0, .ref m), (1, .int x1), (2, .int x2)] []
  refine gz_iload_n dX12_payment_0 rfl rfl ?_
  refine gz_i2l dX12_payment_1 ?_
  refine gz_lconst (v := 0) dX12_payment_2 (by decide) ?_
  refine gz_aload_n dX12_payment_3 rfl rfl ?_
  refine mg_364 hS dX12_payment_4 ?_
  refine gz_ev (w := .int 0) (congrArg Value.int h38) ?_
  refine gz_iconst (v := 1) dX12_payment_7 (by decide) ?_
  refine gz_isub dX12_payment_8 ?_
  refine gz_ev (w := .int (-1)) (by decide) ?_
  refine gz_i2l dX12_payment_9 ?_
  refine scX12_245 (k_X12_in (x := x1.toInt64) (y := 0) (w := ((-1) : Int32).toInt64)) ⟨(Nat.le_of_ble_eq_true rfl), (Nat.le_of_ble_eq_true rfl)⟩ ⟨(Nat.le_of_ble_eq_true rfl), (Nat.le_of_ble_eq_true rfl)⟩ rfl rfl (Nat.le_of_ble_eq_true rfl) dX12_payment_10 ?_
  intro v9 f9 z9; rw [z9.1, z9.2]
  refine gz_if_ne (tgt := 20) dX12_payment_13 (by decide) (fun c_13 => ?_) (fun c_13 => ?_)
  · exfalso; simp only [mIn_0, fL_w] at c_13; have E0 : (0 : Int64).toInt = 0 := rfl; have em : (-1 : Int32).toInt = -1 := rfl; omega
  ·
    refine gz_ldcw (v := (-10000000)) wd_237 dX12_payment_16 ?_
    exact gz_iret rfl dX12_payment_19 (Nat.le_of_ble_eq_true rfl) (Nat.le_of_ble_eq_true rfl) (⟨_, rfl, rfl⟩)

set_option maxHeartbeats 4000000 in
set_option maxRecDepth 100000 in
theorem k_X12_got {l : Launch} {D : va_G} {cy : Nat → ClassId} {b : Nat} {f : gMem} {m : Nat} {a : Nat → Nat} {f0 : gMem} {n : Nat → Int32} {z : Nat → Int64} {F : Nat → Nat → Int32} {G : Nat → Nat → Int64} {x1 : Int32}  (hS : mS cy m a f0 n z F G f) (h30 : n 30 = 0) : gC l D cy b yX12_got cX12_got 2 (some .long) 1 0 0 [.ref m, .int x1] f (pL fun r f2 => r = 0) := by
  refine gC_of (by decide) (Nat.le_of_ble_eq_true rfl) ?_
  show gG l _ _ _ D cy b cX12_got 2 _ RX12 "got" 0 0 f 0 [(0, .ref m), (1, .int x1)] []
  refine gz_aload_n dX12_got_0 rfl rfl ?_
  refine gz_iload_n dX12_got_1 rfl rfl ?_
  refine scX12_410 (k_X12_isLife (i := x1) hS h30) hS.1 ⟨(Nat.le_of_ble_eq_true rfl), (Nat.le_of_ble_eq_true rfl)⟩ ⟨(Nat.le_of_ble_eq_true rfl), (Nat.le_of_ble_eq_true rfl)⟩ rfl rfl (Nat.le_of_ble_eq_true rfl) dX12_got_2 ?_
  intro v9 f9 z9; rw [z9.1, z9.2]
  refine gz_if_eq (tgt := 17) dX12_got_5 (by decide) (fun c_5 => ?_) (fun c_5 => ?_)
  ·
    refine gz_lconst (v := 0) dX12_got_17 (by decide) ?_
    exact gz_lret rfl dX12_got_18 (Nat.le_of_ble_eq_true rfl) (Nat.le_of_ble_eq_true rfl) (⟨_, rfl, rfl⟩)
  · exact absurd c_5 (by decide)

set_option maxHeartbeats 4000000 in
set_option maxRecDepth 100000 in
theorem k_X12_netted {l : Launch} {D : va_G} {cy : Nat → ClassId} {b : Nat} {f : gMem} {m : Nat} {a : Nat → Nat} {f0 : gMem} {n : Nat → Int32} {z : Nat → Int64} {F : Nat → Nat → Int32} {G : Nat → Nat → Int64} {x1 x2 : Int32}  (hS : mS cy m a f0 n z F G f) (h46 : n 46 = 0) : gC l D cy b yX12_netted cX12_netted 3 (some .long) 0 0 0 [.ref m, .int x1, .int x2] f (pL fun r f2 => r = -1000000000000) := by
  refine gC_of (by decide) (Nat.le_of_ble_eq_true rfl) ?_
  show gG l _ _ _ D cy b cX12_netted 3 _ RX12 "netted" 0 0 f 0 [(0, .ref m), (1, .int x1), (2, .int x2)] []
  refine gz_aload_n dX12_netted_0 rfl rfl ?_
  refine mg_426 hS dX12_netted_1 ?_
  refine gz_ev (w := .int 0) (congrArg Value.int h46) ?_
  refine gz_if_ne (tgt := 11) dX12_netted_4 (by decide) (fun c_4 => ?_) (fun c_4 => ?_)
  · exact absurd c_4 (by decide)
  ·
    refine gz_ldc2 (v := (-1000000000000)) wd_240 dX12_netted_7 ?_
    exact gz_lret rfl dX12_netted_10 (Nat.le_of_ble_eq_true rfl) (Nat.le_of_ble_eq_true rfl) (⟨_, rfl, rfl⟩)

set_option maxHeartbeats 4000000 in
set_option maxRecDepth 100000 in
theorem k_X12_worth {l : Launch} {D : va_G} {cy : Nat → ClassId} {b : Nat} {f : gMem} {m : Nat} {a : Nat → Nat} {f0 : gMem} {n : Nat → Int32} {z : Nat → Int64} {F : Nat → Nat → Int32} {G : Nat → Nat → Int64} {x1 x2 x3 : Int32}  (hS : mS cy m a f0 n z F G f) (h5 : n 5 = 0) : gC l D cy b yX12_worth cX12_worth 5 (some .long) 1 0 0 [.ref m, .int x1, .int x2, .int x3] f (pL fun r f2 => r = -1000000000000000000) := by
  refine gC_of (by decide) (Nat.le_of_ble_eq_true rfl) ?_
  show gG l _ _ _ D cy b cX12_worth 5 _ RX12 "worth" 0 0 f 0 [(0, .ref m), (1, .int x1), (2, .int x2), (3, .int x3)] []
  refine gz_aload_n dX12_worth_0 rfl rfl ?_
  refine gz_iload_n dX12_worth_1 rfl rfl ?_
  refine scX12_337 (k_X12_isForm (i := x1) hS h5) hS.1 ⟨(Nat.le_of_ble_eq_true rfl), (Nat.le_of_ble_eq_true rfl)⟩ ⟨(Nat.le_of_ble_eq_true rfl), (Nat.le_of_ble_eq_true rfl)⟩ rfl rfl (Nat.le_of_ble_eq_true rfl) dX12_worth_2 ?_
  intro v9 f9 z9; rw [z9.1, z9.2]
  refine gz_if_eq (tgt := 32) dX12_worth_5 (by decide) (fun c_5 => ?_) (fun c_5 => ?_)
  ·
    refine gz_ldc2 (v := (-1000000000000000000)) wd_247 dX12_worth_32 ?_
    exact gz_lret rfl dX12_worth_35 (Nat.le_of_ble_eq_true rfl) (Nat.le_of_ble_eq_true rfl) (⟨_, rfl, rfl⟩)
  · exact absurd c_5 (by decide)

set_option maxHeartbeats 4000000 in
set_option maxRecDepth 100000 in
theorem k_X12_comeTo {l : Launch} {D : va_G} {cy : Nat → ClassId} {b : Nat} {f : gMem} {m : Nat} {a : Nat → Nat} {f0 : gMem} {n : Nat → Int32} {z : Nat → Int64} {F : Nat → Nat → Int32} {G : Nat → Nat → Int64} {x1 x2 x3 : Int32}  (hS : mS cy m a f0 n z F G f) (h5 : n 5 = 0) : gC l D cy b yX12_comeTo cX12_comeTo 13 (some .int) 1 0 0 [.ref m, .int x1, .int x2, .int x3] f (pI fun r f2 => r = -1) := by
  refine gC_of (by decide) (Nat.le_of_ble_eq_true rfl) ?_
  show gG l _ _ _ D cy b cX12_comeTo 13 _ RX12 "comeTo" 0 0 f 0 [(0, .ref m), (1, .int x1), (2, .int x2), (3, .int x3)] []
  refine gz_aload_n dX12_comeTo_0 rfl rfl ?_
  refine gz_iload_n dX12_comeTo_1 rfl rfl ?_
  refine scX12_337 (k_X12_isForm (i := x1) hS h5) hS.1 ⟨(Nat.le_of_ble_eq_true rfl), (Nat.le_of_ble_eq_true rfl)⟩ ⟨(Nat.le_of_ble_eq_true rfl), (Nat.le_of_ble_eq_true rfl)⟩ rfl rfl (Nat.le_of_ble_eq_true rfl) dX12_comeTo_2 ?_
  intro v9 f9 z9; rw [z9.1, z9.2]
  refine gz_if_eq (tgt := 38) dX12_comeTo_5 (by decide) (fun c_5 => ?_) (fun c_5 => ?_)
  ·
    refine gz_iconst (v := (-1)) dX12_comeTo_38 (by decide) ?_
    exact gz_iret rfl dX12_comeTo_39 (Nat.le_of_ble_eq_true rfl) (Nat.le_of_ble_eq_true rfl) (⟨_, rfl, rfl⟩)
  · exact absurd c_5 (by decide)

set_option maxHeartbeats 4000000 in
set_option maxRecDepth 100000 in
theorem k_X12_parted {l : Launch} {D : va_G} {cy : Nat → ClassId} {b : Nat} {f : gMem} {m : Nat} {a : Nat → Nat} {f0 : gMem} {n : Nat → Int32} {z : Nat → Int64} {F : Nat → Nat → Int32} {G : Nat → Nat → Int64} {x1 x2 x3 : Int32}  (hS : mS cy m a f0 n z F G f) (h5 : n 5 = 0) : gC l D cy b yX12_parted cX12_parted 6 (some .int) 1 0 0 [.ref m, .int x1, .int x2, .int x3] f (pI fun r f2 => r = -1) := by
  refine gC_of (by decide) (Nat.le_of_ble_eq_true rfl) ?_
  show gG l _ _ _ D cy b cX12_parted 6 _ RX12 "parted" 0 0 f 0 [(0, .ref m), (1, .int x1), (2, .int x2), (3, .int x3)] []
  refine gz_aload_n dX12_parted_0 rfl rfl ?_
  refine gz_iload_n dX12_parted_1 rfl rfl ?_
  refine scX12_337 (k_X12_isForm (i := x1) hS h5) hS.1 ⟨(Nat.le_of_ble_eq_true rfl), (Nat.le_of_ble_eq_true rfl)⟩ ⟨(Nat.le_of_ble_eq_true rfl), (Nat.le_of_ble_eq_true rfl)⟩ rfl rfl (Nat.le_of_ble_eq_true rfl) dX12_parted_2 ?_
  intro v9 f9 z9; rw [z9.1, z9.2]
  refine gz_if_eq (tgt := 44) dX12_parted_5 (by decide) (fun c_5 => ?_) (fun c_5 => ?_)
  ·
    refine gz_iconst (v := (-1)) dX12_parted_44 (by decide) ?_
    exact gz_iret rfl dX12_parted_45 (Nat.le_of_ble_eq_true rfl) (Nat.le_of_ble_eq_true rfl) (⟨_, rfl, rfl⟩)
  · exact absurd c_5 (by decide)

set_option maxHeartbeats 4000000 in
set_option maxRecDepth 100000 in
theorem k_X12_ways {l : Launch} {D : va_G} {cy : Nat → ClassId} {b : Nat} {f : gMem} {m : Nat} {a : Nat → Nat} {f0 : gMem} {n : Nat → Int32} {z : Nat → Int64} {F : Nat → Nat → Int32} {G : Nat → Nat → Int64} {x1 : Int32}  (hS : mS cy m a f0 n z F G f) : gC l D cy b yX12_ways cX12_ways 3 (some .boolean) 1 0 0 [.ref m, .int x1] f (pI fun r f2 => r = spWays x1) := by
  refine gC_of (by decide) (Nat.le_of_ble_eq_true rfl) ?_
  show gG l _ _ _ D cy b cX12_ways 3 _ RX12 "ways" 0 0 f 0 [(0, .ref m), (1, .int x1)] []
  refine gz_iload_n dX12_ways_0 rfl rfl ?_
  refine gz_i2l dX12_ways_1 ?_
  refine gz_lconst (v := 1) dX12_ways_2 (by decide) ?_
  refine gz_ldc2 (v := (3)) wd_243 dX12_ways_3 ?_
  refine scX12_245 (k_X12_in (x := x1.toInt64) (y := 1) (w := (3))) ⟨(Nat.le_of_ble_eq_true rfl), (Nat.le_of_ble_eq_true rfl)⟩ ⟨(Nat.le_of_ble_eq_true rfl), (Nat.le_of_ble_eq_true rfl)⟩ rfl rfl (Nat.le_of_ble_eq_true rfl) dX12_ways_6 ?_
  intro v9 f9 z9; rw [z9.1, z9.2]
  refine gz_if_ne (tgt := 14) dX12_ways_9 (by decide) (fun c_9 => ?_) (fun c_9 => ?_)
  ·
    refine gz_aload_n dX12_ways_14 rfl rfl ?_
    refine gz_iload_n dX12_ways_15 rfl rfl ?_
    refine mp_151 hS dX12_ways_16 (fun f_1 hS_1 => ?_)
    refine gz_iconst (v := 0) dX12_ways_19 (by decide) ?_
    refine gz_istore_n (lv' := [(2, .int 0), (0, .ref m), (1, .int x1)]) dX12_ways_20 rfl (by decide) rfl ?_
    refine gz_iload_n dX12_ways_21 rfl rfl ?_
    refine gz_iconst (v := 3) dX12_ways_22 (by decide) ?_
    refine gz_icmp_ge (tgt := 39) dX12_ways_23 (by decide) (fun c_23 => ?_) (fun c_23 => ?_)
    · exact absurd c_23 (by decide)
    ·
      refine gz_aload_n dX12_ways_26 rfl rfl ?_
      refine mg_155 hS_1 dX12_ways_27 ?_
      refine gz_iload_n dX12_ways_30 rfl rfl ?_
      refine gz_iconst (v := 1) dX12_ways_31 (by decide) ?_
      refine m_iast 54 hS_1 rfl (N := 3) rfl (vin_T (v := 0) rfl (by decide) (by decide)) dX12_ways_32 (fun f_2 hS_2 => ?_)
      refine gz_iinc (v := 1) (lv' := [(2, .int 1), (0, .ref m), (1, .int x1)]) dX12_ways_33 rfl (by decide) (by decide) rfl ?_
      refine gz_goto (tgt := 21) dX12_ways_36 (by decide) ?_
      refine gz_iload_n dX12_ways_21 rfl rfl ?_
      refine gz_iconst (v := 3) dX12_ways_22 (by decide) ?_
      refine gz_icmp_ge (tgt := 39) dX12_ways_23 (by decide) (fun c_23_1 => ?_) (fun c_23_1 => ?_)
      · exact absurd c_23_1 (by decide)
      ·
        refine gz_aload_n dX12_ways_26 rfl rfl ?_
        refine mg_155 hS_2 dX12_ways_27 ?_
        refine gz_iload_n dX12_ways_30 rfl rfl ?_
        refine gz_iconst (v := 1) dX12_ways_31 (by decide) ?_
        refine m_iast 54 hS_2 rfl (N := 3) rfl (vin_T (v := 1) rfl (by decide) (by decide)) dX12_ways_32 (fun f_3 hS_3 => ?_)
        refine gz_iinc (v := 2) (lv' := [(2, .int 2), (0, .ref m), (1, .int x1)]) dX12_ways_33 rfl (by decide) (by decide) rfl ?_
        refine gz_goto (tgt := 21) dX12_ways_36 (by decide) ?_
        refine gz_iload_n dX12_ways_21 rfl rfl ?_
        refine gz_iconst (v := 3) dX12_ways_22 (by decide) ?_
        refine gz_icmp_ge (tgt := 39) dX12_ways_23 (by decide) (fun c_23_2 => ?_) (fun c_23_2 => ?_)
        · exact absurd c_23_2 (by decide)
        ·
          refine gz_aload_n dX12_ways_26 rfl rfl ?_
          refine mg_155 hS_3 dX12_ways_27 ?_
          refine gz_iload_n dX12_ways_30 rfl rfl ?_
          refine gz_iconst (v := 1) dX12_ways_31 (by decide) ?_
          refine m_iast 54 hS_3 rfl (N := 3) rfl (vin_T (v := 2) rfl (by decide) (by decide)) dX12_ways_32 (fun f_4 hS_4 => ?_)
          refine gz_iinc (v := 3) (lv' := [(2, .int 3), (0, .ref m), (1, .int x1)]) dX12_ways_33 rfl (by decide) (by decide) rfl ?_
          refine gz_goto (tgt := 21) dX12_ways_36 (by decide) ?_
          refine gz_iload_n dX12_ways_21 rfl rfl ?_
          refine gz_iconst (v := 3) dX12_ways_22 (by decide) ?_
          refine gz_icmp_ge (tgt := 39) dX12_ways_23 (by decide) (fun c_23_3 => ?_) (fun c_23_3 => ?_)
          ·
            refine gz_iconst (v := 0) dX12_ways_39 (by decide) ?_
            refine gz_istore_n (lv' := [(2, .int 0), (0, .ref m), (1, .int x1)]) dX12_ways_40 rfl (by decide) rfl ?_
            refine gz_iload_n dX12_ways_41 rfl rfl ?_
            refine gz_bipush (v := 18) dX12_ways_42 (by decide) ?_
            refine gz_icmp_ge (tgt := 60) dX12_ways_44 (by decide) (fun c_44 => ?_) (fun c_44 => ?_)
            · exact absurd c_44 (by decide)
            ·
              refine gz_aload_n dX12_ways_47 rfl rfl ?_
              refine mg_158 hS_4 dX12_ways_48 ?_
              refine gz_iload_n dX12_ways_51 rfl rfl ?_
              refine gz_iconst (v := 0) dX12_ways_52 (by decide) ?_
              refine m_iast 55 hS_4 rfl (N := 18) rfl (vin_T (v := 0) rfl (by decide) (by decide)) dX12_ways_53 (fun f_5 hS_5 => ?_)
              refine gz_iinc (v := 1) (lv' := [(2, .int 1), (0, .ref m), (1, .int x1)]) dX12_ways_54 rfl (by decide) (by decide) rfl ?_
              refine gz_goto (tgt := 41) dX12_ways_57 (by decide) ?_
              refine gz_iload_n dX12_ways_41 rfl rfl ?_
              refine gz_bipush (v := 18) dX12_ways_42 (by decide) ?_
              refine gz_icmp_ge (tgt := 60) dX12_ways_44 (by decide) (fun c_44_4 => ?_) (fun c_44_4 => ?_)
              · exact absurd c_44_4 (by decide)
              ·
                refine gz_aload_n dX12_ways_47 rfl rfl ?_
                refine mg_158 hS_5 dX12_ways_48 ?_
                refine gz_iload_n dX12_ways_51 rfl rfl ?_
                refine gz_iconst (v := 0) dX12_ways_52 (by decide) ?_
                refine m_iast 55 hS_5 rfl (N := 18) rfl (vin_T (v := 1) rfl (by decide) (by decide)) dX12_ways_53 (fun f_6 hS_6 => ?_)
                refine gz_iinc (v := 2) (lv' := [(2, .int 2), (0, .ref m), (1, .int x1)]) dX12_ways_54 rfl (by decide) (by decide) rfl ?_
                refine gz_goto (tgt := 41) dX12_ways_57 (by decide) ?_
                refine gz_iload_n dX12_ways_41 rfl rfl ?_
                refine gz_bipush (v := 18) dX12_ways_42 (by decide) ?_
                refine gz_icmp_ge (tgt := 60) dX12_ways_44 (by decide) (fun c_44_5 => ?_) (fun c_44_5 => ?_)
                · exact absurd c_44_5 (by decide)
                ·
                  refine gz_aload_n dX12_ways_47 rfl rfl ?_
                  refine mg_158 hS_6 dX12_ways_48 ?_
                  refine gz_iload_n dX12_ways_51 rfl rfl ?_
                  refine gz_iconst (v := 0) dX12_ways_52 (by decide) ?_
                  refine m_iast 55 hS_6 rfl (N := 18) rfl (vin_T (v := 2) rfl (by decide) (by decide)) dX12_ways_53 (fun f_7 hS_7 => ?_)
                  refine gz_iinc (v := 3) (lv' := [(2, .int 3), (0, .ref m), (1, .int x1)]) dX12_ways_54 rfl (by decide) (by decide) rfl ?_
                  refine gz_goto (tgt := 41) dX12_ways_57 (by decide) ?_
                  refine gz_iload_n dX12_ways_41 rfl rfl ?_
                  refine gz_bipush (v := 18) dX12_ways_42 (by decide) ?_
                  refine gz_icmp_ge (tgt := 60) dX12_ways_44 (by decide) (fun c_44_6 => ?_) (fun c_44_6 => ?_)
                  · exact absurd c_44_6 (by decide)
                  ·
                    refine gz_aload_n dX12_ways_47 rfl rfl ?_
                    refine mg_158 hS_7 dX12_ways_48 ?_
                    refine gz_iload_n dX12_ways_51 rfl rfl ?_
                    refine gz_iconst (v := 0) dX12_ways_52 (by decide) ?_
                    refine m_iast 55 hS_7 rfl (N := 18) rfl (vin_T (v := 3) rfl (by decide) (by decide)) dX12_ways_53 (fun f_8 hS_8 => ?_)
                    refine gz_iinc (v := 4) (lv' := [(2, .int 4), (0, .ref m), (1, .int x1)]) dX12_ways_54 rfl (by decide) (by decide) rfl ?_
                    refine gz_goto (tgt := 41) dX12_ways_57 (by decide) ?_
                    refine gz_iload_n dX12_ways_41 rfl rfl ?_
                    refine gz_bipush (v := 18) dX12_ways_42 (by decide) ?_
                    refine gz_icmp_ge (tgt := 60) dX12_ways_44 (by decide) (fun c_44_7 => ?_) (fun c_44_7 => ?_)
                    · exact absurd c_44_7 (by decide)
                    ·
                      refine gz_aload_n dX12_ways_47 rfl rfl ?_
                      refine mg_158 hS_8 dX12_ways_48 ?_
                      refine gz_iload_n dX12_ways_51 rfl rfl ?_
                      refine gz_iconst (v := 0) dX12_ways_52 (by decide) ?_
                      refine m_iast 55 hS_8 rfl (N := 18) rfl (vin_T (v := 4) rfl (by decide) (by decide)) dX12_ways_53 (fun f_9 hS_9 => ?_)
                      refine gz_iinc (v := 5) (lv' := [(2, .int 5), (0, .ref m), (1, .int x1)]) dX12_ways_54 rfl (by decide) (by decide) rfl ?_
                      refine gz_goto (tgt := 41) dX12_ways_57 (by decide) ?_
                      refine gz_iload_n dX12_ways_41 rfl rfl ?_
                      refine gz_bipush (v := 18) dX12_ways_42 (by decide) ?_
                      refine gz_icmp_ge (tgt := 60) dX12_ways_44 (by decide) (fun c_44_8 => ?_) (fun c_44_8 => ?_)
                      · exact absurd c_44_8 (by decide)
                      ·
                        refine gz_aload_n dX12_ways_47 rfl rfl ?_
                        refine mg_158 hS_9 dX12_ways_48 ?_
                        refine gz_iload_n dX12_ways_51 rfl rfl ?_
                        refine gz_iconst (v := 0) dX12_ways_52 (by decide) ?_
                        refine m_iast 55 hS_9 rfl (N := 18) rfl (vin_T (v := 5) rfl (by decide) (by decide)) dX12_ways_53 (fun f_10 hS_10 => ?_)
                        refine gz_iinc (v := 6) (lv' := [(2, .int 6), (0, .ref m), (1, .int x1)]) dX12_ways_54 rfl (by decide) (by decide) rfl ?_
                        refine gz_goto (tgt := 41) dX12_ways_57 (by decide) ?_
                        refine gz_iload_n dX12_ways_41 rfl rfl ?_
                        refine gz_bipush (v := 18) dX12_ways_42 (by decide) ?_
                        refine gz_icmp_ge (tgt := 60) dX12_ways_44 (by decide) (fun c_44_9 => ?_) (fun c_44_9 => ?_)
                        · exact absurd c_44_9 (by decide)
                        ·
                          refine gz_aload_n dX12_ways_47 rfl rfl ?_
                          refine mg_158 hS_10 dX12_ways_48 ?_
                          refine gz_iload_n dX12_ways_51 rfl rfl ?_
                          refine gz_iconst (v := 0) dX12_ways_52 (by decide) ?_
                          refine m_iast 55 hS_10 rfl (N := 18) rfl (vin_T (v := 6) rfl (by decide) (by decide)) dX12_ways_53 (fun f_11 hS_11 => ?_)
                          refine gz_iinc (v := 7) (lv' := [(2, .int 7), (0, .ref m), (1, .int x1)]) dX12_ways_54 rfl (by decide) (by decide) rfl ?_
                          refine gz_goto (tgt := 41) dX12_ways_57 (by decide) ?_
                          refine gz_iload_n dX12_ways_41 rfl rfl ?_
                          refine gz_bipush (v := 18) dX12_ways_42 (by decide) ?_
                          refine gz_icmp_ge (tgt := 60) dX12_ways_44 (by decide) (fun c_44_10 => ?_) (fun c_44_10 => ?_)
                          · exact absurd c_44_10 (by decide)
                          ·
                            refine gz_aload_n dX12_ways_47 rfl rfl ?_
                            refine mg_158 hS_11 dX12_ways_48 ?_
                            refine gz_iload_n dX12_ways_51 rfl rfl ?_
                            refine gz_iconst (v := 0) dX12_ways_52 (by decide) ?_
                            refine m_iast 55 hS_11 rfl (N := 18) rfl (vin_T (v := 7) rfl (by decide) (by decide)) dX12_ways_53 (fun f_12 hS_12 => ?_)
                            refine gz_iinc (v := 8) (lv' := [(2, .int 8), (0, .ref m), (1, .int x1)]) dX12_ways_54 rfl (by decide) (by decide) rfl ?_
                            refine gz_goto (tgt := 41) dX12_ways_57 (by decide) ?_
                            refine gz_iload_n dX12_ways_41 rfl rfl ?_
                            refine gz_bipush (v := 18) dX12_ways_42 (by decide) ?_
                            refine gz_icmp_ge (tgt := 60) dX12_ways_44 (by decide) (fun c_44_11 => ?_) (fun c_44_11 => ?_)
                            · exact absurd c_44_11 (by decide)
                            ·
                              refine gz_aload_n dX12_ways_47 rfl rfl ?_
                              refine mg_158 hS_12 dX12_ways_48 ?_
                              refine gz_iload_n dX12_ways_51 rfl rfl ?_
                              refine gz_iconst (v := 0) dX12_ways_52 (by decide) ?_
                              refine m_iast 55 hS_12 rfl (N := 18) rfl (vin_T (v := 8) rfl (by decide) (by decide)) dX12_ways_53 (fun f_13 hS_13 => ?_)
                              refine gz_iinc (v := 9) (lv' := [(2, .int 9), (0, .ref m), (1, .int x1)]) dX12_ways_54 rfl (by decide) (by decide) rfl ?_
                              refine gz_goto (tgt := 41) dX12_ways_57 (by decide) ?_
                              refine gz_iload_n dX12_ways_41 rfl rfl ?_
                              refine gz_bipush (v := 18) dX12_ways_42 (by decide) ?_
                              refine gz_icmp_ge (tgt := 60) dX12_ways_44 (by decide) (fun c_44_12 => ?_) (fun c_44_12 => ?_)
                              · exact absurd c_44_12 (by decide)
                              ·
                                refine gz_aload_n dX12_ways_47 rfl rfl ?_
                                refine mg_158 hS_13 dX12_ways_48 ?_
                                refine gz_iload_n dX12_ways_51 rfl rfl ?_
                                refine gz_iconst (v := 0) dX12_ways_52 (by decide) ?_
                                refine m_iast 55 hS_13 rfl (N := 18) rfl (vin_T (v := 9) rfl (by decide) (by decide)) dX12_ways_53 (fun f_14 hS_14 => ?_)
                                refine gz_iinc (v := 10) (lv' := [(2, .int 10), (0, .ref m), (1, .int x1)]) dX12_ways_54 rfl (by decide) (by decide) rfl ?_
                                refine gz_goto (tgt := 41) dX12_ways_57 (by decide) ?_
                                refine gz_iload_n dX12_ways_41 rfl rfl ?_
                                refine gz_bipush (v := 18) dX12_ways_42 (by decide) ?_
                                refine gz_icmp_ge (tgt := 60) dX12_ways_44 (by decide) (fun c_44_13 => ?_) (fun c_44_13 => ?_)
                                · exact absurd c_44_13 (by decide)
                                ·
                                  refine gz_aload_n dX12_ways_47 rfl rfl ?_
                                  refine mg_158 hS_14 dX12_ways_48 ?_
                                  refine gz_iload_n dX12_ways_51 rfl rfl ?_
                                  refine gz_iconst (v := 0) dX12_ways_52 (by decide) ?_
                                  refine m_iast 55 hS_14 rfl (N := 18) rfl (vin_T (v := 10) rfl (by decide) (by decide)) dX12_ways_53 (fun f_15 hS_15 => ?_)
                                  refine gz_iinc (v := 11) (lv' := [(2, .int 11), (0, .ref m), (1, .int x1)]) dX12_ways_54 rfl (by decide) (by decide) rfl ?_
                                  refine gz_goto (tgt := 41) dX12_ways_57 (by decide) ?_
                                  refine gz_iload_n dX12_ways_41 rfl rfl ?_
                                  refine gz_bipush (v := 18) dX12_ways_42 (by decide) ?_
                                  refine gz_icmp_ge (tgt := 60) dX12_ways_44 (by decide) (fun c_44_14 => ?_) (fun c_44_14 => ?_)
                                  · exact absurd c_44_14 (by decide)
                                  ·
                                    refine gz_aload_n dX12_ways_47 rfl rfl ?_
                                    refine mg_158 hS_15 dX12_ways_48 ?_
                                    refine gz_iload_n dX12_ways_51 rfl rfl ?_
                                    refine gz_iconst (v := 0) dX12_ways_52 (by decide) ?_
                                    refine m_iast 55 hS_15 rfl (N := 18) rfl (vin_T (v := 11) rfl (by decide) (by decide)) dX12_ways_53 (fun f_16 hS_16 => ?_)
                                    refine gz_iinc (v := 12) (lv' := [(2, .int 12), (0, .ref m), (1, .int x1)]) dX12_ways_54 rfl (by decide) (by decide) rfl ?_
                                    refine gz_goto (tgt := 41) dX12_ways_57 (by decide) ?_
                                    refine gz_iload_n dX12_ways_41 rfl rfl ?_
                                    refine gz_bipush (v := 18) dX12_ways_42 (by decide) ?_
                                    refine gz_icmp_ge (tgt := 60) dX12_ways_44 (by decide) (fun c_44_15 => ?_) (fun c_44_15 => ?_)
                                    · exact absurd c_44_15 (by decide)
                                    ·
                                      refine gz_aload_n dX12_ways_47 rfl rfl ?_
                                      refine mg_158 hS_16 dX12_ways_48 ?_
                                      refine gz_iload_n dX12_ways_51 rfl rfl ?_
                                      refine gz_iconst (v := 0) dX12_ways_52 (by decide) ?_
                                      refine m_iast 55 hS_16 rfl (N := 18) rfl (vin_T (v := 12) rfl (by decide) (by decide)) dX12_ways_53 (fun f_17 hS_17 => ?_)
                                      refine gz_iinc (v := 13) (lv' := [(2, .int 13), (0, .ref m), (1, .int x1)]) dX12_ways_54 rfl (by decide) (by decide) rfl ?_
                                      refine gz_goto (tgt := 41) dX12_ways_57 (by decide) ?_
                                      refine gz_iload_n dX12_ways_41 rfl rfl ?_
                                      refine gz_bipush (v := 18) dX12_ways_42 (by decide) ?_
                                      refine gz_icmp_ge (tgt := 60) dX12_ways_44 (by decide) (fun c_44_16 => ?_) (fun c_44_16 => ?_)
                                      · exact absurd c_44_16 (by decide)
                                      ·
                                        refine gz_aload_n dX12_ways_47 rfl rfl ?_
                                        refine mg_158 hS_17 dX12_ways_48 ?_
                                        refine gz_iload_n dX12_ways_51 rfl rfl ?_
                                        refine gz_iconst (v := 0) dX12_ways_52 (by decide) ?_
                                        refine m_iast 55 hS_17 rfl (N := 18) rfl (vin_T (v := 13) rfl (by decide) (by decide)) dX12_ways_53 (fun f_18 hS_18 => ?_)
                                        refine gz_iinc (v := 14) (lv' := [(2, .int 14), (0, .ref m), (1, .int x1)]) dX12_ways_54 rfl (by decide) (by decide) rfl ?_
                                        refine gz_goto (tgt := 41) dX12_ways_57 (by decide) ?_
                                        refine gz_iload_n dX12_ways_41 rfl rfl ?_
                                        refine gz_bipush (v := 18) dX12_ways_42 (by decide) ?_
                                        refine gz_icmp_ge (tgt := 60) dX12_ways_44 (by decide) (fun c_44_17 => ?_) (fun c_44_17 => ?_)
                                        · exact absurd c_44_17 (by decide)
                                        ·
                                          refine gz_aload_n dX12_ways_47 rfl rfl ?_
                                          refine mg_158 hS_18 dX12_ways_48 ?_
                                          refine gz_iload_n dX12_ways_51 rfl rfl ?_
                                          refine gz_iconst (v := 0) dX12_ways_52 (by decide) ?_
                                          refine m_iast 55 hS_18 rfl (N := 18) rfl (vin_T (v := 14) rfl (by decide) (by decide)) dX12_ways_53 (fun f_19 hS_19 => ?_)
                                          refine gz_iinc (v := 15) (lv' := [(2, .int 15), (0, .ref m), (1, .int x1)]) dX12_ways_54 rfl (by decide) (by decide) rfl ?_
                                          refine gz_goto (tgt := 41) dX12_ways_57 (by decide) ?_
                                          refine gz_iload_n dX12_ways_41 rfl rfl ?_
                                          refine gz_bipush (v := 18) dX12_ways_42 (by decide) ?_
                                          refine gz_icmp_ge (tgt := 60) dX12_ways_44 (by decide) (fun c_44_18 => ?_) (fun c_44_18 => ?_)
                                          · exact absurd c_44_18 (by decide)
                                          ·
                                            refine gz_aload_n dX12_ways_47 rfl rfl ?_
                                            refine mg_158 hS_19 dX12_ways_48 ?_
                                            refine gz_iload_n dX12_ways_51 rfl rfl ?_
                                            refine gz_iconst (v := 0) dX12_ways_52 (by decide) ?_
                                            refine m_iast 55 hS_19 rfl (N := 18) rfl (vin_T (v := 15) rfl (by decide) (by decide)) dX12_ways_53 (fun f_20 hS_20 => ?_)
                                            refine gz_iinc (v := 16) (lv' := [(2, .int 16), (0, .ref m), (1, .int x1)]) dX12_ways_54 rfl (by decide) (by decide) rfl ?_
                                            refine gz_goto (tgt := 41) dX12_ways_57 (by decide) ?_
                                            refine gz_iload_n dX12_ways_41 rfl rfl ?_
                                            refine gz_bipush (v := 18) dX12_ways_42 (by decide) ?_
                                            refine gz_icmp_ge (tgt := 60) dX12_ways_44 (by decide) (fun c_44_19 => ?_) (fun c_44_19 => ?_)
                                            · exact absurd c_44_19 (by decide)
                                            ·
                                              refine gz_aload_n dX12_ways_47 rfl rfl ?_
                                              refine mg_158 hS_20 dX12_ways_48 ?_
                                              refine gz_iload_n dX12_ways_51 rfl rfl ?_
                                              refine gz_iconst (v := 0) dX12_ways_52 (by decide) ?_
                                              refine m_iast 55 hS_20 rfl (N := 18) rfl (vin_T (v := 16) rfl (by decide) (by decide)) dX12_ways_53 (fun f_21 hS_21 => ?_)
                                              refine gz_iinc (v := 17) (lv' := [(2, .int 17), (0, .ref m), (1, .int x1)]) dX12_ways_54 rfl (by decide) (by decide) rfl ?_
                                              refine gz_goto (tgt := 41) dX12_ways_57 (by decide) ?_
                                              refine gz_iload_n dX12_ways_41 rfl rfl ?_
                                              refine gz_bipush (v := 18) dX12_ways_42 (by decide) ?_
                                              refine gz_icmp_ge (tgt := 60) dX12_ways_44 (by decide) (fun c_44_20 => ?_) (fun c_44_20 => ?_)
                                              · exact absurd c_44_20 (by decide)
                                              ·
                                                refine gz_aload_n dX12_ways_47 rfl rfl ?_
                                                refine mg_158 hS_21 dX12_ways_48 ?_
                                                refine gz_iload_n dX12_ways_51 rfl rfl ?_
                                                refine gz_iconst (v := 0) dX12_ways_52 (by decide) ?_
                                                refine m_iast 55 hS_21 rfl (N := 18) rfl (vin_T (v := 17) rfl (by decide) (by decide)) dX12_ways_53 (fun f_22 hS_22 => ?_)
                                                refine gz_iinc (v := 18) (lv' := [(2, .int 18), (0, .ref m), (1, .int x1)]) dX12_ways_54 rfl (by decide) (by decide) rfl ?_
                                                refine gz_goto (tgt := 41) dX12_ways_57 (by decide) ?_
                                                refine gz_iload_n dX12_ways_41 rfl rfl ?_
                                                refine gz_bipush (v := 18) dX12_ways_42 (by decide) ?_
                                                refine gz_icmp_ge (tgt := 60) dX12_ways_44 (by decide) (fun c_44_21 => ?_) (fun c_44_21 => ?_)
                                                ·
                                                  refine gz_iconst (v := 1) dX12_ways_60 (by decide) ?_
                                                  exact gz_zret rfl (by decide) dX12_ways_61 (Nat.le_of_ble_eq_true rfl) (Nat.le_of_ble_eq_true rfl) (⟨_, rfl, (by show _ = _; have e0 : (0 : Int32).toInt = 0 := rfl; have E0 : (0 : Int64).toInt = 0 := rfl; have e1 : (1 : Int32).toInt = 1 := rfl; have E1 : (1 : Int64).toInt = 1 := rfl; have e2 : (2 : Int32).toInt = 2 := rfl; have E2 : (2 : Int64).toInt = 2 := rfl; have e3 : (3 : Int32).toInt = 3 := rfl; have E3 : (3 : Int64).toInt = 3 := rfl; have e4 : (4 : Int32).toInt = 4 := rfl; have E4 : (4 : Int64).toInt = 4 := rfl; have e5 : (5 : Int32).toInt = 5 := rfl; have E5 : (5 : Int64).toInt = 5 := rfl; have e6 : (6 : Int32).toInt = 6 := rfl; have E6 : (6 : Int64).toInt = 6 := rfl; have e7 : (7 : Int32).toInt = 7 := rfl; have E7 : (7 : Int64).toInt = 7 := rfl; have e8 : (8 : Int32).toInt = 8 := rfl; have E8 : (8 : Int64).toInt = 8 := rfl; have e20 : (20 : Int32).toInt = 20 := rfl; have E20 : (20 : Int64).toInt = 20 := rfl; have e39 : (39 : Int32).toInt = 39 := rfl; have E39 : (39 : Int64).toInt = 39 := rfl; have e40 : (40 : Int32).toInt = 40 := rfl; have E40 : (40 : Int64).toInt = 40 := rfl; have e99 : (99 : Int32).toInt = 99 := rfl; have E99 : (99 : Int64).toInt = 99 := rfl; have em99 : ((-99) : Int32).toInt = (-99) := rfl; have Em99 : ((-99) : Int64).toInt = (-99) := rfl; have e399 : (399 : Int32).toInt = 399 := rfl; have E399 : (399 : Int64).toInt = 399 := rfl; have e400 : (400 : Int32).toInt = 400 := rfl; have E400 : (400 : Int64).toInt = 400 := rfl; have e9999 : (9999 : Int32).toInt = 9999 := rfl; have E9999 : (9999 : Int64).toInt = 9999 := rfl; have em9999 : ((-9999) : Int32).toInt = (-9999) := rfl; have Em9999 : ((-9999) : Int64).toInt = (-9999) := rfl; have em10000 : ((-10000) : Int32).toInt = (-10000) := rfl; have Em10000 : ((-10000) : Int64).toInt = (-10000) := rfl; have em1 : ((-1) : Int32).toInt = (-1) := rfl; have Em1 : ((-1) : Int64).toInt = (-1) := rfl; have e10 : (10 : Int32).toInt = 10 := rfl; have E10 : (10 : Int64).toInt = 10 := rfl; have e17 : (17 : Int32).toInt = 17 := rfl; have E17 : (17 : Int64).toInt = 17 := rfl; (try simp only [mIn_0, lgc_lt, lgc_gt, lgc_eq, lgc_le, lgc_ge] at c_9); (try simp only [fl_lt, fl_le, fl_eq, fL_lt, fL_le, fL_w] at c_9); first | (rw [spWays, if_pos (by omega)]; first | done | rfl) | (rw [spWays, if_neg (by omega)]; first | done | rfl))⟩)
                                                · exact absurd c_44_21 (by decide)
          · exact absurd c_23_3 (by decide)
  ·
    refine gz_iconst (v := 0) dX12_ways_12 (by decide) ?_
    exact gz_zret rfl (by decide) dX12_ways_13 (Nat.le_of_ble_eq_true rfl) (Nat.le_of_ble_eq_true rfl) (⟨_, rfl, (by show _ = _; have e0 : (0 : Int32).toInt = 0 := rfl; have E0 : (0 : Int64).toInt = 0 := rfl; have e1 : (1 : Int32).toInt = 1 := rfl; have E1 : (1 : Int64).toInt = 1 := rfl; have e2 : (2 : Int32).toInt = 2 := rfl; have E2 : (2 : Int64).toInt = 2 := rfl; have e3 : (3 : Int32).toInt = 3 := rfl; have E3 : (3 : Int64).toInt = 3 := rfl; have e4 : (4 : Int32).toInt = 4 := rfl; have E4 : (4 : Int64).toInt = 4 := rfl; have e5 : (5 : Int32).toInt = 5 := rfl; have E5 : (5 : Int64).toInt = 5 := rfl; have e6 : (6 : Int32).toInt = 6 := rfl; have E6 : (6 : Int64).toInt = 6 := rfl; have e7 : (7 : Int32).toInt = 7 := rfl; have E7 : (7 : Int64).toInt = 7 := rfl; have e8 : (8 : Int32).toInt = 8 := rfl; have E8 : (8 : Int64).toInt = 8 := rfl; have e20 : (20 : Int32).toInt = 20 := rfl; have E20 : (20 : Int64).toInt = 20 := rfl; have e39 : (39 : Int32).toInt = 39 := rfl; have E39 : (39 : Int64).toInt = 39 := rfl; have e40 : (40 : Int32).toInt = 40 := rfl; have E40 : (40 : Int64).toInt = 40 := rfl; have e99 : (99 : Int32).toInt = 99 := rfl; have E99 : (99 : Int64).toInt = 99 := rfl; have em99 : ((-99) : Int32).toInt = (-99) := rfl; have Em99 : ((-99) : Int64).toInt = (-99) := rfl; have e399 : (399 : Int32).toInt = 399 := rfl; have E399 : (399 : Int64).toInt = 399 := rfl; have e400 : (400 : Int32).toInt = 400 := rfl; have E400 : (400 : Int64).toInt = 400 := rfl; have e9999 : (9999 : Int32).toInt = 9999 := rfl; have E9999 : (9999 : Int64).toInt = 9999 := rfl; have em9999 : ((-9999) : Int32).toInt = (-9999) := rfl; have Em9999 : ((-9999) : Int64).toInt = (-9999) := rfl; have em10000 : ((-10000) : Int32).toInt = (-10000) := rfl; have Em10000 : ((-10000) : Int64).toInt = (-10000) := rfl; have em1 : ((-1) : Int32).toInt = (-1) := rfl; have Em1 : ((-1) : Int64).toInt = (-1) := rfl; have e10 : (10 : Int32).toInt = 10 := rfl; have E10 : (10 : Int64).toInt = 10 := rfl; have e17 : (17 : Int32).toInt = 17 := rfl; have E17 : (17 : Int64).toInt = 17 := rfl; (try simp only [mIn_0, lgc_lt, lgc_gt, lgc_eq, lgc_le, lgc_ge] at c_9); (try simp only [fl_lt, fl_le, fl_eq, fL_lt, fL_le, fL_w] at c_9); first | (rw [spWays, if_pos (by omega)]; first | done | rfl) | (rw [spWays, if_neg (by omega)]; first | done | rfl))⟩)

set_option maxHeartbeats 4000000 in
set_option maxRecDepth 100000 in
theorem k_X12_weight {l : Launch} {D : va_G} {cy : Nat → ClassId} {b : Nat} {f : gMem} {m : Nat} {a : Nat → Nat} {f0 : gMem} {n : Nat → Int32} {z : Nat → Int64} {F : Nat → Nat → Int32} {G : Nat → Nat → Int64} {x1 x2 : Int32}  (hS : mS cy m a f0 n z F G f) (h53 : n 53 = 1) : gC l D cy b yX12_weight cX12_weight 3 (some .boolean) 1 0 0 [.ref m, .int x1, .int x2] f (pI fun r f2 => r = spWeight x1 x2) := by
  refine gC_of (by decide) (Nat.le_of_ble_eq_true rfl) ?_
  show gG l _ _ _ D cy b cX12_weight 3 _ RX12 "weight" 0 0 f 0 [(0, .ref m), (1, .int x1), (2, .int x2)] []
  refine gz_iload_n dX12_weight_0 rfl rfl ?_
  refine gz_i2l dX12_weight_1 ?_
  refine gz_lconst (v := 0) dX12_weight_2 (by decide) ?_
  refine gz_aload_n dX12_weight_3 rfl rfl ?_
  refine mg_151 hS dX12_weight_4 ?_
  refine gz_ev (w := .int 1) (congrArg Value.int h53) ?_
  refine gz_iconst (v := 1) dX12_weight_7 (by decide) ?_
  refine gz_isub dX12_weight_8 ?_
  refine gz_ev (w := .int 0) (by decide) ?_
  refine gz_i2l dX12_weight_9 ?_
  refine scX12_245 (k_X12_in (x := x1.toInt64) (y := 0) (w := (0 : Int32).toInt64)) ⟨(Nat.le_of_ble_eq_true rfl), (Nat.le_of_ble_eq_true rfl)⟩ ⟨(Nat.le_of_ble_eq_true rfl), (Nat.le_of_ble_eq_true rfl)⟩ rfl rfl (Nat.le_of_ble_eq_true rfl) dX12_weight_10 ?_
  intro v9 f9 z9; rw [z9.1, z9.2]
  refine gz_if_eq (tgt := 28) dX12_weight_13 (by decide) (fun c_13 => ?_) (fun c_13 => ?_)
  ·
    refine gz_iconst (v := 0) dX12_weight_28 (by decide) ?_
    exact gz_zret rfl (by decide) dX12_weight_29 (Nat.le_of_ble_eq_true rfl) (Nat.le_of_ble_eq_true rfl) (⟨_, rfl, (by show _ = _; have e0 : (0 : Int32).toInt = 0 := rfl; have E0 : (0 : Int64).toInt = 0 := rfl; have e1 : (1 : Int32).toInt = 1 := rfl; have E1 : (1 : Int64).toInt = 1 := rfl; have e2 : (2 : Int32).toInt = 2 := rfl; have E2 : (2 : Int64).toInt = 2 := rfl; have e3 : (3 : Int32).toInt = 3 := rfl; have E3 : (3 : Int64).toInt = 3 := rfl; have e4 : (4 : Int32).toInt = 4 := rfl; have E4 : (4 : Int64).toInt = 4 := rfl; have e5 : (5 : Int32).toInt = 5 := rfl; have E5 : (5 : Int64).toInt = 5 := rfl; have e6 : (6 : Int32).toInt = 6 := rfl; have E6 : (6 : Int64).toInt = 6 := rfl; have e7 : (7 : Int32).toInt = 7 := rfl; have E7 : (7 : Int64).toInt = 7 := rfl; have e8 : (8 : Int32).toInt = 8 := rfl; have E8 : (8 : Int64).toInt = 8 := rfl; have e20 : (20 : Int32).toInt = 20 := rfl; have E20 : (20 : Int64).toInt = 20 := rfl; have e39 : (39 : Int32).toInt = 39 := rfl; have E39 : (39 : Int64).toInt = 39 := rfl; have e40 : (40 : Int32).toInt = 40 := rfl; have E40 : (40 : Int64).toInt = 40 := rfl; have e99 : (99 : Int32).toInt = 99 := rfl; have E99 : (99 : Int64).toInt = 99 := rfl; have em99 : ((-99) : Int32).toInt = (-99) := rfl; have Em99 : ((-99) : Int64).toInt = (-99) := rfl; have e399 : (399 : Int32).toInt = 399 := rfl; have E399 : (399 : Int64).toInt = 399 := rfl; have e400 : (400 : Int32).toInt = 400 := rfl; have E400 : (400 : Int64).toInt = 400 := rfl; have e9999 : (9999 : Int32).toInt = 9999 := rfl; have E9999 : (9999 : Int64).toInt = 9999 := rfl; have em9999 : ((-9999) : Int32).toInt = (-9999) := rfl; have Em9999 : ((-9999) : Int64).toInt = (-9999) := rfl; have em10000 : ((-10000) : Int32).toInt = (-10000) := rfl; have Em10000 : ((-10000) : Int64).toInt = (-10000) := rfl; have em1 : ((-1) : Int32).toInt = (-1) := rfl; have Em1 : ((-1) : Int64).toInt = (-1) := rfl; have e10 : (10 : Int32).toInt = 10 := rfl; have E10 : (10 : Int64).toInt = 10 := rfl; have e17 : (17 : Int32).toInt = 17 := rfl; have E17 : (17 : Int64).toInt = 17 := rfl; (try simp only [mIn_0, lgc_lt, lgc_gt, lgc_eq, lgc_le, lgc_ge] at c_13); (try simp only [fl_lt, fl_le, fl_eq, fL_lt, fL_le, fL_w] at c_13); first | (rw [spWeight, if_pos (by omega)]; first | done | rfl) | (rw [spWeight, if_neg (by omega)]; first | done | rfl))⟩)
  ·
    refine gz_iload_n dX12_weight_16 rfl rfl ?_
    refine gz_i2l dX12_weight_17 ?_
    refine gz_lconst (v := 1) dX12_weight_18 (by decide) ?_
    refine gz_ldc2 (v := (4)) wd_244 dX12_weight_19 ?_
    refine scX12_245 (k_X12_in (x := x2.toInt64) (y := 1) (w := (4))) ⟨(Nat.le_of_ble_eq_true rfl), (Nat.le_of_ble_eq_true rfl)⟩ ⟨(Nat.le_of_ble_eq_true rfl), (Nat.le_of_ble_eq_true rfl)⟩ rfl rfl (Nat.le_of_ble_eq_true rfl) dX12_weight_22 ?_
    intro v9 f9 z9; rw [z9.1, z9.2]
    refine gz_if_ne (tgt := 30) dX12_weight_25 (by decide) (fun c_25 => ?_) (fun c_25 => ?_)
    ·
      refine gz_aload_n dX12_weight_30 rfl rfl ?_
      refine mg_155 hS dX12_weight_31 ?_
      refine gz_iload_n dX12_weight_34 rfl rfl ?_
      refine gz_iload_n dX12_weight_35 rfl rfl ?_
      refine m_iast 54 hS rfl (N := 3) rfl (vin_T (v := x1.toInt) rfl (by have e0 : (0 : Int32).toInt = 0 := rfl; have E0 : (0 : Int64).toInt = 0 := rfl; have e1 : (1 : Int32).toInt = 1 := rfl; have E1 : (1 : Int64).toInt = 1 := rfl; have e2 : (2 : Int32).toInt = 2 := rfl; have E2 : (2 : Int64).toInt = 2 := rfl; have e3 : (3 : Int32).toInt = 3 := rfl; have E3 : (3 : Int64).toInt = 3 := rfl; have e4 : (4 : Int32).toInt = 4 := rfl; have E4 : (4 : Int64).toInt = 4 := rfl; have e5 : (5 : Int32).toInt = 5 := rfl; have E5 : (5 : Int64).toInt = 5 := rfl; have e6 : (6 : Int32).toInt = 6 := rfl; have E6 : (6 : Int64).toInt = 6 := rfl; have e7 : (7 : Int32).toInt = 7 := rfl; have E7 : (7 : Int64).toInt = 7 := rfl; have e8 : (8 : Int32).toInt = 8 := rfl; have E8 : (8 : Int64).toInt = 8 := rfl; have e20 : (20 : Int32).toInt = 20 := rfl; have E20 : (20 : Int64).toInt = 20 := rfl; have e39 : (39 : Int32).toInt = 39 := rfl; have E39 : (39 : Int64).toInt = 39 := rfl; have e40 : (40 : Int32).toInt = 40 := rfl; have E40 : (40 : Int64).toInt = 40 := rfl; have e99 : (99 : Int32).toInt = 99 := rfl; have E99 : (99 : Int64).toInt = 99 := rfl; have em99 : ((-99) : Int32).toInt = (-99) := rfl; have Em99 : ((-99) : Int64).toInt = (-99) := rfl; have e399 : (399 : Int32).toInt = 399 := rfl; have E399 : (399 : Int64).toInt = 399 := rfl; have e400 : (400 : Int32).toInt = 400 := rfl; have E400 : (400 : Int64).toInt = 400 := rfl; have e9999 : (9999 : Int32).toInt = 9999 := rfl; have E9999 : (9999 : Int64).toInt = 9999 := rfl; have em9999 : ((-9999) : Int32).toInt = (-9999) := rfl; have Em9999 : ((-9999) : Int64).toInt = (-9999) := rfl; have em10000 : ((-10000) : Int32).toInt = (-10000) := rfl; have Em10000 : ((-10000) : Int64).toInt = (-10000) := rfl; have em1 : ((-1) : Int32).toInt = (-1) := rfl; have Em1 : ((-1) : Int64).toInt = (-1) := rfl; have e10 : (10 : Int32).toInt = 10 := rfl; have E10 : (10 : Int64).toInt = 10 := rfl; have e17 : (17 : Int32).toInt = 17 := rfl; have E17 : (17 : Int64).toInt = 17 := rfl; (try simp only [mIn_0] at c_13 c_25); simp only [fL_w] at c_13 c_25; omega) (by have e0 : (0 : Int32).toInt = 0 := rfl; have E0 : (0 : Int64).toInt = 0 := rfl; have e1 : (1 : Int32).toInt = 1 := rfl; have E1 : (1 : Int64).toInt = 1 := rfl; have e2 : (2 : Int32).toInt = 2 := rfl; have E2 : (2 : Int64).toInt = 2 := rfl; have e3 : (3 : Int32).toInt = 3 := rfl; have E3 : (3 : Int64).toInt = 3 := rfl; have e4 : (4 : Int32).toInt = 4 := rfl; have E4 : (4 : Int64).toInt = 4 := rfl; have e5 : (5 : Int32).toInt = 5 := rfl; have E5 : (5 : Int64).toInt = 5 := rfl; have e6 : (6 : Int32).toInt = 6 := rfl; have E6 : (6 : Int64).toInt = 6 := rfl; have e7 : (7 : Int32).toInt = 7 := rfl; have E7 : (7 : Int64).toInt = 7 := rfl; have e8 : (8 : Int32).toInt = 8 := rfl; have E8 : (8 : Int64).toInt = 8 := rfl; have e20 : (20 : Int32).toInt = 20 := rfl; have E20 : (20 : Int64).toInt = 20 := rfl; have e39 : (39 : Int32).toInt = 39 := rfl; have E39 : (39 : Int64).toInt = 39 := rfl; have e40 : (40 : Int32).toInt = 40 := rfl; have E40 : (40 : Int64).toInt = 40 := rfl; have e99 : (99 : Int32).toInt = 99 := rfl; have E99 : (99 : Int64).toInt = 99 := rfl; have em99 : ((-99) : Int32).toInt = (-99) := rfl; have Em99 : ((-99) : Int64).toInt = (-99) := rfl; have e399 : (399 : Int32).toInt = 399 := rfl; have E399 : (399 : Int64).toInt = 399 := rfl; have e400 : (400 : Int32).toInt = 400 := rfl; have E400 : (400 : Int64).toInt = 400 := rfl; have e9999 : (9999 : Int32).toInt = 9999 := rfl; have E9999 : (9999 : Int64).toInt = 9999 := rfl; have em9999 : ((-9999) : Int32).toInt = (-9999) := rfl; have Em9999 : ((-9999) : Int64).toInt = (-9999) := rfl; have em10000 : ((-10000) : Int32).toInt = (-10000) := rfl; have Em10000 : ((-10000) : Int64).toInt = (-10000) := rfl; have em1 : ((-1) : Int32).toInt = (-1) := rfl; have Em1 : ((-1) : Int64).toInt = (-1) := rfl; have e10 : (10 : Int32).toInt = 10 := rfl; have E10 : (10 : Int64).toInt = 10 := rfl; have e17 : (17 : Int32).toInt = 17 := rfl; have E17 : (17 : Int64).toInt = 17 := rfl; (try simp only [mIn_0] at c_13 c_25); simp only [fL_w] at c_13 c_25; omega)) dX12_weight_36 (fun f_1 hS_1 => ?_)
      refine gz_iconst (v := 1) dX12_weight_37 (by decide) ?_
      exact gz_zret rfl (by decide) dX12_weight_38 (Nat.le_of_ble_eq_true rfl) (Nat.le_of_ble_eq_true rfl) (⟨_, rfl, (by show _ = _; have e0 : (0 : Int32).toInt = 0 := rfl; have E0 : (0 : Int64).toInt = 0 := rfl; have e1 : (1 : Int32).toInt = 1 := rfl; have E1 : (1 : Int64).toInt = 1 := rfl; have e2 : (2 : Int32).toInt = 2 := rfl; have E2 : (2 : Int64).toInt = 2 := rfl; have e3 : (3 : Int32).toInt = 3 := rfl; have E3 : (3 : Int64).toInt = 3 := rfl; have e4 : (4 : Int32).toInt = 4 := rfl; have E4 : (4 : Int64).toInt = 4 := rfl; have e5 : (5 : Int32).toInt = 5 := rfl; have E5 : (5 : Int64).toInt = 5 := rfl; have e6 : (6 : Int32).toInt = 6 := rfl; have E6 : (6 : Int64).toInt = 6 := rfl; have e7 : (7 : Int32).toInt = 7 := rfl; have E7 : (7 : Int64).toInt = 7 := rfl; have e8 : (8 : Int32).toInt = 8 := rfl; have E8 : (8 : Int64).toInt = 8 := rfl; have e20 : (20 : Int32).toInt = 20 := rfl; have E20 : (20 : Int64).toInt = 20 := rfl; have e39 : (39 : Int32).toInt = 39 := rfl; have E39 : (39 : Int64).toInt = 39 := rfl; have e40 : (40 : Int32).toInt = 40 := rfl; have E40 : (40 : Int64).toInt = 40 := rfl; have e99 : (99 : Int32).toInt = 99 := rfl; have E99 : (99 : Int64).toInt = 99 := rfl; have em99 : ((-99) : Int32).toInt = (-99) := rfl; have Em99 : ((-99) : Int64).toInt = (-99) := rfl; have e399 : (399 : Int32).toInt = 399 := rfl; have E399 : (399 : Int64).toInt = 399 := rfl; have e400 : (400 : Int32).toInt = 400 := rfl; have E400 : (400 : Int64).toInt = 400 := rfl; have e9999 : (9999 : Int32).toInt = 9999 := rfl; have E9999 : (9999 : Int64).toInt = 9999 := rfl; have em9999 : ((-9999) : Int32).toInt = (-9999) := rfl; have Em9999 : ((-9999) : Int64).toInt = (-9999) := rfl; have em10000 : ((-10000) : Int32).toInt = (-10000) := rfl; have Em10000 : ((-10000) : Int64).toInt = (-10000) := rfl; have em1 : ((-1) : Int32).toInt = (-1) := rfl; have Em1 : ((-1) : Int64).toInt = (-1) := rfl; have e10 : (10 : Int32).toInt = 10 := rfl; have E10 : (10 : Int64).toInt = 10 := rfl; have e17 : (17 : Int32).toInt = 17 := rfl; have E17 : (17 : Int64).toInt = 17 := rfl; (try simp only [mIn_0, lgc_lt, lgc_gt, lgc_eq, lgc_le, lgc_ge] at c_13 c_25); (try simp only [fl_lt, fl_le, fl_eq, fL_lt, fL_le, fL_w] at c_13 c_25); first | (rw [spWeight, if_pos (by omega)]; first | done | rfl) | (rw [spWeight, if_neg (by omega)]; first | done | rfl))⟩)
    ·
      refine gz_iconst (v := 0) dX12_weight_28 (by decide) ?_
      exact gz_zret rfl (by decide) dX12_weight_29 (Nat.le_of_ble_eq_true rfl) (Nat.le_of_ble_eq_true rfl) (⟨_, rfl, (by show _ = _; have e0 : (0 : Int32).toInt = 0 := rfl; have E0 : (0 : Int64).toInt = 0 := rfl; have e1 : (1 : Int32).toInt = 1 := rfl; have E1 : (1 : Int64).toInt = 1 := rfl; have e2 : (2 : Int32).toInt = 2 := rfl; have E2 : (2 : Int64).toInt = 2 := rfl; have e3 : (3 : Int32).toInt = 3 := rfl; have E3 : (3 : Int64).toInt = 3 := rfl; have e4 : (4 : Int32).toInt = 4 := rfl; have E4 : (4 : Int64).toInt = 4 := rfl; have e5 : (5 : Int32).toInt = 5 := rfl; have E5 : (5 : Int64).toInt = 5 := rfl; have e6 : (6 : Int32).toInt = 6 := rfl; have E6 : (6 : Int64).toInt = 6 := rfl; have e7 : (7 : Int32).toInt = 7 := rfl; have E7 : (7 : Int64).toInt = 7 := rfl; have e8 : (8 : Int32).toInt = 8 := rfl; have E8 : (8 : Int64).toInt = 8 := rfl; have e20 : (20 : Int32).toInt = 20 := rfl; have E20 : (20 : Int64).toInt = 20 := rfl; have e39 : (39 : Int32).toInt = 39 := rfl; have E39 : (39 : Int64).toInt = 39 := rfl; have e40 : (40 : Int32).toInt = 40 := rfl; have E40 : (40 : Int64).toInt = 40 := rfl; have e99 : (99 : Int32).toInt = 99 := rfl; have E99 : (99 : Int64).toInt = 99 := rfl; have em99 : ((-99) : Int32).toInt = (-99) := rfl; have Em99 : ((-99) : Int64).toInt = (-99) := rfl; have e399 : (399 : Int32).toInt = 399 := rfl; have E399 : (399 : Int64).toInt = 399 := rfl; have e400 : (400 : Int32).toInt = 400 := rfl; have E400 : (400 : Int64).toInt = 400 := rfl; have e9999 : (9999 : Int32).toInt = 9999 := rfl; have E9999 : (9999 : Int64).toInt = 9999 := rfl; have em9999 : ((-9999) : Int32).toInt = (-9999) := rfl; have Em9999 : ((-9999) : Int64).toInt = (-9999) := rfl; have em10000 : ((-10000) : Int32).toInt = (-10000) := rfl; have Em10000 : ((-10000) : Int64).toInt = (-10000) := rfl; have em1 : ((-1) : Int32).toInt = (-1) := rfl; have Em1 : ((-1) : Int64).toInt = (-1) := rfl; have e10 : (10 : Int32).toInt = 10 := rfl; have E10 : (10 : Int64).toInt = 10 := rfl; have e17 : (17 : Int32).toInt = 17 := rfl; have E17 : (17 : Int64).toInt = 17 := rfl; (try simp only [mIn_0, lgc_lt, lgc_gt, lgc_eq, lgc_le, lgc_ge] at c_13 c_25); (try simp only [fl_lt, fl_le, fl_eq, fL_lt, fL_le, fL_w] at c_13 c_25); first | (rw [spWeight, if_pos (by omega)]; first | done | rfl) | (rw [spWeight, if_neg (by omega)]; first | done | rfl))⟩)

theorem idx6 {t x : Int32} (h : t.toInt = 0) (hx : 0 ≤ x.toInt ∧ x.toInt ≤ 5) : (6 * t + x).toInt = x.toInt := by
  have e : (6 : Int32).toInt = 6 := rfl
  have h1 : (6 * t).toInt = 0 := by rw [mulT (by rw [e]; omega) (by rw [e]; omega), e]; omega
  rw [addT (by rw [h1]; omega) (by rw [h1]; omega), h1]
  omega

set_option maxHeartbeats 4000000 in
set_option maxRecDepth 100000 in
theorem k_X12_adds {l : Launch} {D : va_G} {cy : Nat → ClassId} {b : Nat} {f : gMem} {m : Nat} {a : Nat → Nat} {f0 : gMem} {n : Nat → Int32} {z : Nat → Int64} {F : Nat → Nat → Int32} {G : Nat → Nat → Int64} {x1 x2 x3 : Int32}  (hS : mS cy m a f0 n z F G f) (h53 : n 53 = 1) : gC l D cy b yX12_adds cX12_adds 4 (some .boolean) 1 0 0 [.ref m, .int x1, .int x2, .int x3] f (pI fun r f2 => r = spAdds x1 x2 x3) := by
  refine gC_of (by decide) (Nat.le_of_ble_eq_true rfl) ?_
  show gG l _ _ _ D cy b cX12_adds 4 _ RX12 "adds" 0 0 f 0 [(0, .ref m), (1, .int x1), (2, .int x2), (3, .int x3)] []
  refine gz_iload_n dX12_adds_0 rfl rfl ?_
  refine gz_i2l dX12_adds_1 ?_
  refine gz_lconst (v := 0) dX12_adds_2 (by decide) ?_
  refine gz_aload_n dX12_adds_3 rfl rfl ?_
  refine mg_151 hS dX12_adds_4 ?_
  refine gz_ev (w := .int 1) (congrArg Value.int h53) ?_
  refine gz_iconst (v := 1) dX12_adds_7 (by decide) ?_
  refine gz_isub dX12_adds_8 ?_
  refine gz_ev (w := .int 0) (by decide) ?_
  refine gz_i2l dX12_adds_9 ?_
  refine scX12_245 (k_X12_in (x := x1.toInt64) (y := 0) (w := (0 : Int32).toInt64)) ⟨(Nat.le_of_ble_eq_true rfl), (Nat.le_of_ble_eq_true rfl)⟩ ⟨(Nat.le_of_ble_eq_true rfl), (Nat.le_of_ble_eq_true rfl)⟩ rfl rfl (Nat.le_of_ble_eq_true rfl) dX12_adds_10 ?_
  intro v9 f9 z9; rw [z9.1, z9.2]
  refine gz_if_eq (tgt := 42) dX12_adds_13 (by decide) (fun c_13 => ?_) (fun c_13 => ?_)
  ·
    refine gz_iconst (v := 0) dX12_adds_42 (by decide) ?_
    exact gz_zret rfl (by decide) dX12_adds_43 (Nat.le_of_ble_eq_true rfl) (Nat.le_of_ble_eq_true rfl) (⟨_, rfl, (by show _ = _; have e0 : (0 : Int32).toInt = 0 := rfl; have E0 : (0 : Int64).toInt = 0 := rfl; have e1 : (1 : Int32).toInt = 1 := rfl; have E1 : (1 : Int64).toInt = 1 := rfl; have e2 : (2 : Int32).toInt = 2 := rfl; have E2 : (2 : Int64).toInt = 2 := rfl; have e3 : (3 : Int32).toInt = 3 := rfl; have E3 : (3 : Int64).toInt = 3 := rfl; have e4 : (4 : Int32).toInt = 4 := rfl; have E4 : (4 : Int64).toInt = 4 := rfl; have e5 : (5 : Int32).toInt = 5 := rfl; have E5 : (5 : Int64).toInt = 5 := rfl; have e6 : (6 : Int32).toInt = 6 := rfl; have E6 : (6 : Int64).toInt = 6 := rfl; have e7 : (7 : Int32).toInt = 7 := rfl; have E7 : (7 : Int64).toInt = 7 := rfl; have e8 : (8 : Int32).toInt = 8 := rfl; have E8 : (8 : Int64).toInt = 8 := rfl; have e20 : (20 : Int32).toInt = 20 := rfl; have E20 : (20 : Int64).toInt = 20 := rfl; have e39 : (39 : Int32).toInt = 39 := rfl; have E39 : (39 : Int64).toInt = 39 := rfl; have e40 : (40 : Int32).toInt = 40 := rfl; have E40 : (40 : Int64).toInt = 40 := rfl; have e99 : (99 : Int32).toInt = 99 := rfl; have E99 : (99 : Int64).toInt = 99 := rfl; have em99 : ((-99) : Int32).toInt = (-99) := rfl; have Em99 : ((-99) : Int64).toInt = (-99) := rfl; have e399 : (399 : Int32).toInt = 399 := rfl; have E399 : (399 : Int64).toInt = 399 := rfl; have e400 : (400 : Int32).toInt = 400 := rfl; have E400 : (400 : Int64).toInt = 400 := rfl; have e9999 : (9999 : Int32).toInt = 9999 := rfl; have E9999 : (9999 : Int64).toInt = 9999 := rfl; have em9999 : ((-9999) : Int32).toInt = (-9999) := rfl; have Em9999 : ((-9999) : Int64).toInt = (-9999) := rfl; have em10000 : ((-10000) : Int32).toInt = (-10000) := rfl; have Em10000 : ((-10000) : Int64).toInt = (-10000) := rfl; have em1 : ((-1) : Int32).toInt = (-1) := rfl; have Em1 : ((-1) : Int64).toInt = (-1) := rfl; have e10 : (10 : Int32).toInt = 10 := rfl; have E10 : (10 : Int64).toInt = 10 := rfl; have e17 : (17 : Int32).toInt = 17 := rfl; have E17 : (17 : Int64).toInt = 17 := rfl; (try simp only [mIn_0, lgc_lt, lgc_gt, lgc_eq, lgc_le, lgc_ge] at c_13); (try simp only [fl_lt, fl_le, fl_eq, fL_lt, fL_le, fL_w] at c_13); first | (rw [spAdds, if_pos (by omega)]; first | done | rfl) | (rw [spAdds, if_neg (by omega)]; first | done | rfl))⟩)
  ·
    refine gz_iload_n dX12_adds_16 rfl rfl ?_
    refine gz_i2l dX12_adds_17 ?_
    refine gz_lconst (v := 0) dX12_adds_18 (by decide) ?_
    refine gz_ldc2 (v := (5)) wd_87 dX12_adds_19 ?_
    refine scX12_245 (k_X12_in (x := x2.toInt64) (y := 0) (w := (5))) ⟨(Nat.le_of_ble_eq_true rfl), (Nat.le_of_ble_eq_true rfl)⟩ ⟨(Nat.le_of_ble_eq_true rfl), (Nat.le_of_ble_eq_true rfl)⟩ rfl rfl (Nat.le_of_ble_eq_true rfl) dX12_adds_22 ?_
    intro v9 f9 z9; rw [z9.1, z9.2]
    refine gz_if_eq (tgt := 42) dX12_adds_25 (by decide) (fun c_25 => ?_) (fun c_25 => ?_)
    ·
      refine gz_iconst (v := 0) dX12_adds_42 (by decide) ?_
      exact gz_zret rfl (by decide) dX12_adds_43 (Nat.le_of_ble_eq_true rfl) (Nat.le_of_ble_eq_true rfl) (⟨_, rfl, (by show _ = _; have e0 : (0 : Int32).toInt = 0 := rfl; have E0 : (0 : Int64).toInt = 0 := rfl; have e1 : (1 : Int32).toInt = 1 := rfl; have E1 : (1 : Int64).toInt = 1 := rfl; have e2 : (2 : Int32).toInt = 2 := rfl; have E2 : (2 : Int64).toInt = 2 := rfl; have e3 : (3 : Int32).toInt = 3 := rfl; have E3 : (3 : Int64).toInt = 3 := rfl; have e4 : (4 : Int32).toInt = 4 := rfl; have E4 : (4 : Int64).toInt = 4 := rfl; have e5 : (5 : Int32).toInt = 5 := rfl; have E5 : (5 : Int64).toInt = 5 := rfl; have e6 : (6 : Int32).toInt = 6 := rfl; have E6 : (6 : Int64).toInt = 6 := rfl; have e7 : (7 : Int32).toInt = 7 := rfl; have E7 : (7 : Int64).toInt = 7 := rfl; have e8 : (8 : Int32).toInt = 8 := rfl; have E8 : (8 : Int64).toInt = 8 := rfl; have e20 : (20 : Int32).toInt = 20 := rfl; have E20 : (20 : Int64).toInt = 20 := rfl; have e39 : (39 : Int32).toInt = 39 := rfl; have E39 : (39 : Int64).toInt = 39 := rfl; have e40 : (40 : Int32).toInt = 40 := rfl; have E40 : (40 : Int64).toInt = 40 := rfl; have e99 : (99 : Int32).toInt = 99 := rfl; have E99 : (99 : Int64).toInt = 99 := rfl; have em99 : ((-99) : Int32).toInt = (-99) := rfl; have Em99 : ((-99) : Int64).toInt = (-99) := rfl; have e399 : (399 : Int32).toInt = 399 := rfl; have E399 : (399 : Int64).toInt = 399 := rfl; have e400 : (400 : Int32).toInt = 400 := rfl; have E400 : (400 : Int64).toInt = 400 := rfl; have e9999 : (9999 : Int32).toInt = 9999 := rfl; have E9999 : (9999 : Int64).toInt = 9999 := rfl; have em9999 : ((-9999) : Int32).toInt = (-9999) := rfl; have Em9999 : ((-9999) : Int64).toInt = (-9999) := rfl; have em10000 : ((-10000) : Int32).toInt = (-10000) := rfl; have Em10000 : ((-10000) : Int64).toInt = (-10000) := rfl; have em1 : ((-1) : Int32).toInt = (-1) := rfl; have Em1 : ((-1) : Int64).toInt = (-1) := rfl; have e10 : (10 : Int32).toInt = 10 := rfl; have E10 : (10 : Int64).toInt = 10 := rfl; have e17 : (17 : Int32).toInt = 17 := rfl; have E17 : (17 : Int64).toInt = 17 := rfl; (try simp only [mIn_0, lgc_lt, lgc_gt, lgc_eq, lgc_le, lgc_ge] at c_13 c_25); (try simp only [fl_lt, fl_le, fl_eq, fL_lt, fL_le, fL_w] at c_13 c_25); first | (rw [spAdds, if_pos (by omega)]; first | done | rfl) | (rw [spAdds, if_neg (by omega)]; first | done | rfl))⟩)
    ·
      refine gz_iload_n dX12_adds_28 rfl rfl ?_
      refine gz_i2l dX12_adds_29 ?_
      refine gz_ldc2 (v := (-99)) wd_245 dX12_adds_30 ?_
      refine gz_ldc2 (v := (99)) wd_246 dX12_adds_33 ?_
      refine scX12_245 (k_X12_in (x := x3.toInt64) (y := (-99)) (w := (99))) ⟨(Nat.le_of_ble_eq_true rfl), (Nat.le_of_ble_eq_true rfl)⟩ ⟨(Nat.le_of_ble_eq_true rfl), (Nat.le_of_ble_eq_true rfl)⟩ rfl rfl (Nat.le_of_ble_eq_true rfl) dX12_adds_36 ?_
      intro v9 f9 z9; rw [z9.1, z9.2]
      refine gz_if_ne (tgt := 44) dX12_adds_39 (by decide) (fun c_39 => ?_) (fun c_39 => ?_)
      ·
        refine gz_aload_n dX12_adds_44 rfl rfl ?_
        refine mg_158 hS dX12_adds_45 ?_
        refine gz_bipush (v := 6) dX12_adds_48 (by decide) ?_
        refine gz_iload_n dX12_adds_50 rfl rfl ?_
        refine gz_imul dX12_adds_51 ?_
        refine gz_iload_n dX12_adds_52 rfl rfl ?_
        refine gz_iadd dX12_adds_53 ?_
        refine gz_iload_n dX12_adds_54 rfl rfl ?_
        refine m_iast 55 hS rfl (N := 18) rfl (vin_T (idx6 (t := x1) (x := x2) (by have e0 : (0 : Int32).toInt = 0 := rfl; have E0 : (0 : Int64).toInt = 0 := rfl; have e1 : (1 : Int32).toInt = 1 := rfl; have E1 : (1 : Int64).toInt = 1 := rfl; have e2 : (2 : Int32).toInt = 2 := rfl; have E2 : (2 : Int64).toInt = 2 := rfl; have e3 : (3 : Int32).toInt = 3 := rfl; have E3 : (3 : Int64).toInt = 3 := rfl; have e4 : (4 : Int32).toInt = 4 := rfl; have E4 : (4 : Int64).toInt = 4 := rfl; have e5 : (5 : Int32).toInt = 5 := rfl; have E5 : (5 : Int64).toInt = 5 := rfl; have e6 : (6 : Int32).toInt = 6 := rfl; have E6 : (6 : Int64).toInt = 6 := rfl; have e7 : (7 : Int32).toInt = 7 := rfl; have E7 : (7 : Int64).toInt = 7 := rfl; have e8 : (8 : Int32).toInt = 8 := rfl; have E8 : (8 : Int64).toInt = 8 := rfl; have e20 : (20 : Int32).toInt = 20 := rfl; have E20 : (20 : Int64).toInt = 20 := rfl; have e39 : (39 : Int32).toInt = 39 := rfl; have E39 : (39 : Int64).toInt = 39 := rfl; have e40 : (40 : Int32).toInt = 40 := rfl; have E40 : (40 : Int64).toInt = 40 := rfl; have e99 : (99 : Int32).toInt = 99 := rfl; have E99 : (99 : Int64).toInt = 99 := rfl; have em99 : ((-99) : Int32).toInt = (-99) := rfl; have Em99 : ((-99) : Int64).toInt = (-99) := rfl; have e399 : (399 : Int32).toInt = 399 := rfl; have E399 : (399 : Int64).toInt = 399 := rfl; have e400 : (400 : Int32).toInt = 400 := rfl; have E400 : (400 : Int64).toInt = 400 := rfl; have e9999 : (9999 : Int32).toInt = 9999 := rfl; have E9999 : (9999 : Int64).toInt = 9999 := rfl; have em9999 : ((-9999) : Int32).toInt = (-9999) := rfl; have Em9999 : ((-9999) : Int64).toInt = (-9999) := rfl; have em10000 : ((-10000) : Int32).toInt = (-10000) := rfl; have Em10000 : ((-10000) : Int64).toInt = (-10000) := rfl; have em1 : ((-1) : Int32).toInt = (-1) := rfl; have Em1 : ((-1) : Int64).toInt = (-1) := rfl; have e10 : (10 : Int32).toInt = 10 := rfl; have E10 : (10 : Int64).toInt = 10 := rfl; have e17 : (17 : Int32).toInt = 17 := rfl; have E17 : (17 : Int64).toInt = 17 := rfl; (try simp only [mIn_0] at c_13 c_25); simp only [fL_w] at c_13 c_25; omega) (by have e0 : (0 : Int32).toInt = 0 := rfl; have E0 : (0 : Int64).toInt = 0 := rfl; have e1 : (1 : Int32).toInt = 1 := rfl; have E1 : (1 : Int64).toInt = 1 := rfl; have e2 : (2 : Int32).toInt = 2 := rfl; have E2 : (2 : Int64).toInt = 2 := rfl; have e3 : (3 : Int32).toInt = 3 := rfl; have E3 : (3 : Int64).toInt = 3 := rfl; have e4 : (4 : Int32).toInt = 4 := rfl; have E4 : (4 : Int64).toInt = 4 := rfl; have e5 : (5 : Int32).toInt = 5 := rfl; have E5 : (5 : Int64).toInt = 5 := rfl; have e6 : (6 : Int32).toInt = 6 := rfl; have E6 : (6 : Int64).toInt = 6 := rfl; have e7 : (7 : Int32).toInt = 7 := rfl; have E7 : (7 : Int64).toInt = 7 := rfl; have e8 : (8 : Int32).toInt = 8 := rfl; have E8 : (8 : Int64).toInt = 8 := rfl; have e20 : (20 : Int32).toInt = 20 := rfl; have E20 : (20 : Int64).toInt = 20 := rfl; have e39 : (39 : Int32).toInt = 39 := rfl; have E39 : (39 : Int64).toInt = 39 := rfl; have e40 : (40 : Int32).toInt = 40 := rfl; have E40 : (40 : Int64).toInt = 40 := rfl; have e99 : (99 : Int32).toInt = 99 := rfl; have E99 : (99 : Int64).toInt = 99 := rfl; have em99 : ((-99) : Int32).toInt = (-99) := rfl; have Em99 : ((-99) : Int64).toInt = (-99) := rfl; have e399 : (399 : Int32).toInt = 399 := rfl; have E399 : (399 : Int64).toInt = 399 := rfl; have e400 : (400 : Int32).toInt = 400 := rfl; have E400 : (400 : Int64).toInt = 400 := rfl; have e9999 : (9999 : Int32).toInt = 9999 := rfl; have E9999 : (9999 : Int64).toInt = 9999 := rfl; have em9999 : ((-9999) : Int32).toInt = (-9999) := rfl; have Em9999 : ((-9999) : Int64).toInt = (-9999) := rfl; have em10000 : ((-10000) : Int32).toInt = (-10000) := rfl; have Em10000 : ((-10000) : Int64).toInt = (-10000) := rfl; have em1 : ((-1) : Int32).toInt = (-1) := rfl; have Em1 : ((-1) : Int64).toInt = (-1) := rfl; have e10 : (10 : Int32).toInt = 10 := rfl; have E10 : (10 : Int64).toInt = 10 := rfl; have e17 : (17 : Int32).toInt = 17 := rfl; have E17 : (17 : Int64).toInt = 17 := rfl; (try simp only [mIn_0] at c_13 c_25); simp only [fL_w] at c_13 c_25; omega)) (by have e0 : (0 : Int32).toInt = 0 := rfl; have E0 : (0 : Int64).toInt = 0 := rfl; have e1 : (1 : Int32).toInt = 1 := rfl; have E1 : (1 : Int64).toInt = 1 := rfl; have e2 : (2 : Int32).toInt = 2 := rfl; have E2 : (2 : Int64).toInt = 2 := rfl; have e3 : (3 : Int32).toInt = 3 := rfl; have E3 : (3 : Int64).toInt = 3 := rfl; have e4 : (4 : Int32).toInt = 4 := rfl; have E4 : (4 : Int64).toInt = 4 := rfl; have e5 : (5 : Int32).toInt = 5 := rfl; have E5 : (5 : Int64).toInt = 5 := rfl; have e6 : (6 : Int32).toInt = 6 := rfl; have E6 : (6 : Int64).toInt = 6 := rfl; have e7 : (7 : Int32).toInt = 7 := rfl; have E7 : (7 : Int64).toInt = 7 := rfl; have e8 : (8 : Int32).toInt = 8 := rfl; have E8 : (8 : Int64).toInt = 8 := rfl; have e20 : (20 : Int32).toInt = 20 := rfl; have E20 : (20 : Int64).toInt = 20 := rfl; have e39 : (39 : Int32).toInt = 39 := rfl; have E39 : (39 : Int64).toInt = 39 := rfl; have e40 : (40 : Int32).toInt = 40 := rfl; have E40 : (40 : Int64).toInt = 40 := rfl; have e99 : (99 : Int32).toInt = 99 := rfl; have E99 : (99 : Int64).toInt = 99 := rfl; have em99 : ((-99) : Int32).toInt = (-99) := rfl; have Em99 : ((-99) : Int64).toInt = (-99) := rfl; have e399 : (399 : Int32).toInt = 399 := rfl; have E399 : (399 : Int64).toInt = 399 := rfl; have e400 : (400 : Int32).toInt = 400 := rfl; have E400 : (400 : Int64).toInt = 400 := rfl; have e9999 : (9999 : Int32).toInt = 9999 := rfl; have E9999 : (9999 : Int64).toInt = 9999 := rfl; have em9999 : ((-9999) : Int32).toInt = (-9999) := rfl; have Em9999 : ((-9999) : Int64).toInt = (-9999) := rfl; have em10000 : ((-10000) : Int32).toInt = (-10000) := rfl; have Em10000 : ((-10000) : Int64).toInt = (-10000) := rfl; have em1 : ((-1) : Int32).toInt = (-1) := rfl; have Em1 : ((-1) : Int64).toInt = (-1) := rfl; have e10 : (10 : Int32).toInt = 10 := rfl; have E10 : (10 : Int64).toInt = 10 := rfl; have e17 : (17 : Int32).toInt = 17 := rfl; have E17 : (17 : Int64).toInt = 17 := rfl; (try simp only [mIn_0] at c_13 c_25); simp only [fL_w] at c_13 c_25; omega) (by have e0 : (0 : Int32).toInt = 0 := rfl; have E0 : (0 : Int64).toInt = 0 := rfl; have e1 : (1 : Int32).toInt = 1 := rfl; have E1 : (1 : Int64).toInt = 1 := rfl; have e2 : (2 : Int32).toInt = 2 := rfl; have E2 : (2 : Int64).toInt = 2 := rfl; have e3 : (3 : Int32).toInt = 3 := rfl; have E3 : (3 : Int64).toInt = 3 := rfl; have e4 : (4 : Int32).toInt = 4 := rfl; have E4 : (4 : Int64).toInt = 4 := rfl; have e5 : (5 : Int32).toInt = 5 := rfl; have E5 : (5 : Int64).toInt = 5 := rfl; have e6 : (6 : Int32).toInt = 6 := rfl; have E6 : (6 : Int64).toInt = 6 := rfl; have e7 : (7 : Int32).toInt = 7 := rfl; have E7 : (7 : Int64).toInt = 7 := rfl; have e8 : (8 : Int32).toInt = 8 := rfl; have E8 : (8 : Int64).toInt = 8 := rfl; have e20 : (20 : Int32).toInt = 20 := rfl; have E20 : (20 : Int64).toInt = 20 := rfl; have e39 : (39 : Int32).toInt = 39 := rfl; have E39 : (39 : Int64).toInt = 39 := rfl; have e40 : (40 : Int32).toInt = 40 := rfl; have E40 : (40 : Int64).toInt = 40 := rfl; have e99 : (99 : Int32).toInt = 99 := rfl; have E99 : (99 : Int64).toInt = 99 := rfl; have em99 : ((-99) : Int32).toInt = (-99) := rfl; have Em99 : ((-99) : Int64).toInt = (-99) := rfl; have e399 : (399 : Int32).toInt = 399 := rfl; have E399 : (399 : Int64).toInt = 399 := rfl; have e400 : (400 : Int32).toInt = 400 := rfl; have E400 : (400 : Int64).toInt = 400 := rfl; have e9999 : (9999 : Int32).toInt = 9999 := rfl; have E9999 : (9999 : Int64).toInt = 9999 := rfl; have em9999 : ((-9999) : Int32).toInt = (-9999) := rfl; have Em9999 : ((-9999) : Int64).toInt = (-9999) := rfl; have em10000 : ((-10000) : Int32).toInt = (-10000) := rfl; have Em10000 : ((-10000) : Int64).toInt = (-10000) := rfl; have em1 : ((-1) : Int32).toInt = (-1) := rfl; have Em1 : ((-1) : Int64).toInt = (-1) := rfl; have e10 : (10 : Int32).toInt = 10 := rfl; have E10 : (10 : Int64).toInt = 10 := rfl; have e17 : (17 : Int32).toInt = 17 := rfl; have E17 : (17 : Int64).toInt = 17 := rfl; (try simp only [mIn_0] at c_13 c_25); simp only [fL_w] at c_13 c_25; omega)) dX12_adds_55 (fun f_1 hS_1 => ?_)
        refine gz_iconst (v := 1) dX12_adds_56 (by decide) ?_
        exact gz_zret rfl (by decide) dX12_adds_57 (Nat.le_of_ble_eq_true rfl) (Nat.le_of_ble_eq_true rfl) (⟨_, rfl, (by show _ = _; have e0 : (0 : Int32).toInt = 0 := rfl; have E0 : (0 : Int64).toInt = 0 := rfl; have e1 : (1 : Int32).toInt = 1 := rfl; have E1 : (1 : Int64).toInt = 1 := rfl; have e2 : (2 : Int32).toInt = 2 := rfl; have E2 : (2 : Int64).toInt = 2 := rfl; have e3 : (3 : Int32).toInt = 3 := rfl; have E3 : (3 : Int64).toInt = 3 := rfl; have e4 : (4 : Int32).toInt = 4 := rfl; have E4 : (4 : Int64).toInt = 4 := rfl; have e5 : (5 : Int32).toInt = 5 := rfl; have E5 : (5 : Int64).toInt = 5 := rfl; have e6 : (6 : Int32).toInt = 6 := rfl; have E6 : (6 : Int64).toInt = 6 := rfl; have e7 : (7 : Int32).toInt = 7 := rfl; have E7 : (7 : Int64).toInt = 7 := rfl; have e8 : (8 : Int32).toInt = 8 := rfl; have E8 : (8 : Int64).toInt = 8 := rfl; have e20 : (20 : Int32).toInt = 20 := rfl; have E20 : (20 : Int64).toInt = 20 := rfl; have e39 : (39 : Int32).toInt = 39 := rfl; have E39 : (39 : Int64).toInt = 39 := rfl; have e40 : (40 : Int32).toInt = 40 := rfl; have E40 : (40 : Int64).toInt = 40 := rfl; have e99 : (99 : Int32).toInt = 99 := rfl; have E99 : (99 : Int64).toInt = 99 := rfl; have em99 : ((-99) : Int32).toInt = (-99) := rfl; have Em99 : ((-99) : Int64).toInt = (-99) := rfl; have e399 : (399 : Int32).toInt = 399 := rfl; have E399 : (399 : Int64).toInt = 399 := rfl; have e400 : (400 : Int32).toInt = 400 := rfl; have E400 : (400 : Int64).toInt = 400 := rfl; have e9999 : (9999 : Int32).toInt = 9999 := rfl; have E9999 : (9999 : Int64).toInt = 9999 := rfl; have em9999 : ((-9999) : Int32).toInt = (-9999) := rfl; have Em9999 : ((-9999) : Int64).toInt = (-9999) := rfl; have em10000 : ((-10000) : Int32).toInt = (-10000) := rfl; have Em10000 : ((-10000) : Int64).toInt = (-10000) := rfl; have em1 : ((-1) : Int32).toInt = (-1) := rfl; have Em1 : ((-1) : Int64).toInt = (-1) := rfl; have e10 : (10 : Int32).toInt = 10 := rfl; have E10 : (10 : Int64).toInt = 10 := rfl; have e17 : (17 : Int32).toInt = 17 := rfl; have E17 : (17 : Int64).toInt = 17 := rfl; (try simp only [mIn_0, lgc_lt, lgc_gt, lgc_eq, lgc_le, lgc_ge] at c_13 c_25 c_39); (try simp only [fl_lt, fl_le, fl_eq, fL_lt, fL_le, fL_w] at c_13 c_25 c_39); first | (rw [spAdds, if_pos (by omega)]; first | done | rfl) | (rw [spAdds, if_neg (by omega)]; first | done | rfl))⟩)
      ·
        refine gz_iconst (v := 0) dX12_adds_42 (by decide) ?_
        exact gz_zret rfl (by decide) dX12_adds_43 (Nat.le_of_ble_eq_true rfl) (Nat.le_of_ble_eq_true rfl) (⟨_, rfl, (by show _ = _; have e0 : (0 : Int32).toInt = 0 := rfl; have E0 : (0 : Int64).toInt = 0 := rfl; have e1 : (1 : Int32).toInt = 1 := rfl; have E1 : (1 : Int64).toInt = 1 := rfl; have e2 : (2 : Int32).toInt = 2 := rfl; have E2 : (2 : Int64).toInt = 2 := rfl; have e3 : (3 : Int32).toInt = 3 := rfl; have E3 : (3 : Int64).toInt = 3 := rfl; have e4 : (4 : Int32).toInt = 4 := rfl; have E4 : (4 : Int64).toInt = 4 := rfl; have e5 : (5 : Int32).toInt = 5 := rfl; have E5 : (5 : Int64).toInt = 5 := rfl; have e6 : (6 : Int32).toInt = 6 := rfl; have E6 : (6 : Int64).toInt = 6 := rfl; have e7 : (7 : Int32).toInt = 7 := rfl; have E7 : (7 : Int64).toInt = 7 := rfl; have e8 : (8 : Int32).toInt = 8 := rfl; have E8 : (8 : Int64).toInt = 8 := rfl; have e20 : (20 : Int32).toInt = 20 := rfl; have E20 : (20 : Int64).toInt = 20 := rfl; have e39 : (39 : Int32).toInt = 39 := rfl; have E39 : (39 : Int64).toInt = 39 := rfl; have e40 : (40 : Int32).toInt = 40 := rfl; have E40 : (40 : Int64).toInt = 40 := rfl; have e99 : (99 : Int32).toInt = 99 := rfl; have E99 : (99 : Int64).toInt = 99 := rfl; have em99 : ((-99) : Int32).toInt = (-99) := rfl; have Em99 : ((-99) : Int64).toInt = (-99) := rfl; have e399 : (399 : Int32).toInt = 399 := rfl; have E399 : (399 : Int64).toInt = 399 := rfl; have e400 : (400 : Int32).toInt = 400 := rfl; have E400 : (400 : Int64).toInt = 400 := rfl; have e9999 : (9999 : Int32).toInt = 9999 := rfl; have E9999 : (9999 : Int64).toInt = 9999 := rfl; have em9999 : ((-9999) : Int32).toInt = (-9999) := rfl; have Em9999 : ((-9999) : Int64).toInt = (-9999) := rfl; have em10000 : ((-10000) : Int32).toInt = (-10000) := rfl; have Em10000 : ((-10000) : Int64).toInt = (-10000) := rfl; have em1 : ((-1) : Int32).toInt = (-1) := rfl; have Em1 : ((-1) : Int64).toInt = (-1) := rfl; have e10 : (10 : Int32).toInt = 10 := rfl; have E10 : (10 : Int64).toInt = 10 := rfl; have e17 : (17 : Int32).toInt = 17 := rfl; have E17 : (17 : Int64).toInt = 17 := rfl; (try simp only [mIn_0, lgc_lt, lgc_gt, lgc_eq, lgc_le, lgc_ge] at c_13 c_25 c_39); (try simp only [fl_lt, fl_le, fl_eq, fL_lt, fL_le, fL_w] at c_13 c_25 c_39); first | (rw [spAdds, if_pos (by omega)]; first | done | rfl) | (rw [spAdds, if_neg (by omega)]; first | done | rfl))⟩)

set_option maxHeartbeats 4000000 in
set_option maxRecDepth 100000 in
theorem k_X12_count {l : Launch} {D : va_G} {cy : Nat → ClassId} {b : Nat} {f : gMem} {m : Nat} {a : Nat → Nat} {f0 : gMem} {n : Nat → Int32} {z : Nat → Int64} {F : Nat → Nat → Int32} {G : Nat → Nat → Int64} {x1 : Int32}  (hS : mS cy m a f0 n z F G f) (h0 : n 0 = 0) (h5 : n 5 = 0) (h30 : n 30 = 0) (h38 : n 38 = 0) (h4 : n 4 = 0) (h88 : n 88 = 0) (h53 : n 53 = 1) (h1 : n 1 = 0) : gC l D cy b yX12_count cX12_count 2 (some .int) 0 0 0 [.ref m, .int x1] f (pI fun r f2 => r = spCount x1) := by
  refine gC_of (by decide) (Nat.le_of_ble_eq_true rfl) ?_
  show gG l _ _ _ D cy b cX12_count 2 _ RX12 "count" 0 0 f 0 [(0, .ref m), (1, .int x1)] []
  refine gz_iload_n dX12_count_0 rfl rfl ?_
  by_cases hsw : x1.toInt < 0 ∨ 7 < x1.toInt
  ·
    refine gz_tableOut (tgt := 88) dX12_count_1 hsw (by decide) ?_
    refine gz_iconst (v := (-1)) dX12_count_88 (by decide) ?_
    exact gz_iret rfl dX12_count_89 (Nat.le_of_ble_eq_true rfl) (Nat.le_of_ble_eq_true rfl) (⟨_, rfl, (by show _ = _; rw [spCount, if_neg (by omega), if_neg (by omega)])⟩)
  · rcases sw7 hsw with rfl | rfl | rfl | rfl | rfl | rfl | rfl | rfl
    ·
      refine gz_tableIn (off := 47) (tgt := 48) dX12_count_1 (by decide) (by decide) rfl (by decide) ?_
      refine gz_aload_n dX12_count_48 rfl rfl ?_
      refine mg_249 hS dX12_count_49 ?_
      refine gz_ev (w := .int 0) (congrArg Value.int h0) ?_
      exact gz_iret rfl dX12_count_52 (Nat.le_of_ble_eq_true rfl) (Nat.le_of_ble_eq_true rfl) (⟨_, rfl, by show _ = _; decide⟩)
    ·
      refine gz_tableIn (off := 52) (tgt := 53) dX12_count_1 (by decide) (by decide) rfl (by decide) ?_
      refine gz_aload_n dX12_count_53 rfl rfl ?_
      refine mg_307 hS dX12_count_54 ?_
      refine gz_ev (w := .int 0) (congrArg Value.int h5) ?_
      exact gz_iret rfl dX12_count_57 (Nat.le_of_ble_eq_true rfl) (Nat.le_of_ble_eq_true rfl) (⟨_, rfl, by show _ = _; decide⟩)
    ·
      refine gz_tableIn (off := 57) (tgt := 58) dX12_count_1 (by decide) (by decide) rfl (by decide) ?_
      refine gz_aload_n dX12_count_58 rfl rfl ?_
      refine mg_394 hS dX12_count_59 ?_
      refine gz_ev (w := .int 0) (congrArg Value.int h30) ?_
      exact gz_iret rfl dX12_count_62 (Nat.le_of_ble_eq_true rfl) (Nat.le_of_ble_eq_true rfl) (⟨_, rfl, by show _ = _; decide⟩)
    ·
      refine gz_tableIn (off := 62) (tgt := 63) dX12_count_1 (by decide) (by decide) rfl (by decide) ?_
      refine gz_aload_n dX12_count_63 rfl rfl ?_
      refine mg_364 hS dX12_count_64 ?_
      refine gz_ev (w := .int 0) (congrArg Value.int h38) ?_
      exact gz_iret rfl dX12_count_67 (Nat.le_of_ble_eq_true rfl) (Nat.le_of_ble_eq_true rfl) (⟨_, rfl, by show _ = _; decide⟩)
    ·
      refine gz_tableIn (off := 67) (tgt := 68) dX12_count_1 (by decide) (by decide) rfl (by decide) ?_
      refine gz_aload_n dX12_count_68 rfl rfl ?_
      refine mg_262 hS dX12_count_69 ?_
      refine gz_ev (w := .int 0) (congrArg Value.int h4) ?_
      exact gz_iret rfl dX12_count_72 (Nat.le_of_ble_eq_true rfl) (Nat.le_of_ble_eq_true rfl) (⟨_, rfl, by show _ = _; decide⟩)
    ·
      refine gz_tableIn (off := 72) (tgt := 73) dX12_count_1 (by decide) (by decide) rfl (by decide) ?_
      refine gz_aload_n dX12_count_73 rfl rfl ?_
      refine mg_541 hS dX12_count_74 ?_
      refine gz_ev (w := .int 0) (congrArg Value.int h88) ?_
      exact gz_iret rfl dX12_count_77 (Nat.le_of_ble_eq_true rfl) (Nat.le_of_ble_eq_true rfl) (⟨_, rfl, by show _ = _; decide⟩)
    ·
      refine gz_tableIn (off := 77) (tgt := 78) dX12_count_1 (by decide) (by decide) rfl (by decide) ?_
      refine gz_aload_n dX12_count_78 rfl rfl ?_
      refine mg_151 hS dX12_count_79 ?_
      refine gz_ev (w := .int 1) (congrArg Value.int h53) ?_
      exact gz_iret rfl dX12_count_82 (Nat.le_of_ble_eq_true rfl) (Nat.le_of_ble_eq_true rfl) (⟨_, rfl, by show _ = _; decide⟩)
    ·
      refine gz_tableIn (off := 82) (tgt := 83) dX12_count_1 (by decide) (by decide) rfl (by decide) ?_
      refine gz_aload_n dX12_count_83 rfl rfl ?_
      refine mg_367 hS dX12_count_84 ?_
      refine gz_ev (w := .int 0) (congrArg Value.int h1) ?_
      exact gz_iret rfl dX12_count_87 (Nat.le_of_ble_eq_true rfl) (Nat.le_of_ble_eq_true rfl) (⟨_, rfl, by show _ = _; decide⟩)

set_option maxHeartbeats 4000000 in
set_option maxRecDepth 100000 in
theorem k_X12_net {l : Launch} {D : va_G} {cy : Nat → ClassId} {b : Nat} {f : gMem} {m : Nat} {a : Nat → Nat} {f0 : gMem} {n : Nat → Int32} {z : Nat → Int64} {F : Nat → Nat → Int32} {G : Nat → Nat → Int64} {x1 : Int32}  (hS : mS cy m a f0 n z F G f) (h38 : n 38 = 0) : gC l D cy b yX12_net cX12_net 6 (some .int) 1 0 0 [.ref m, .int x1] f (pI fun r f2 => r = spNet x1) := by
  refine gC_of (by decide) (Nat.le_of_ble_eq_true rfl) ?_
  show gG l _ _ _ D cy b cX12_net 6 _ RX12 "net" 0 0 f 0 [(0, .ref m), (1, .int x1)] []
  refine gz_iload_n dX12_net_0 rfl rfl ?_
  refine gz_i2l dX12_net_1 ?_
  refine gz_lconst (v := 0) dX12_net_2 (by decide) ?_
  refine gz_ldc2 (v := (399)) wd_95 dX12_net_3 ?_
  refine scX12_245 (k_X12_in (x := x1.toInt64) (y := 0) (w := (399))) ⟨(Nat.le_of_ble_eq_true rfl), (Nat.le_of_ble_eq_true rfl)⟩ ⟨(Nat.le_of_ble_eq_true rfl), (Nat.le_of_ble_eq_true rfl)⟩ rfl rfl (Nat.le_of_ble_eq_true rfl) dX12_net_6 ?_
  intro v9 f9 z9; rw [z9.1, z9.2]
  refine gz_if_ne (tgt := 14) dX12_net_9 (by decide) (fun c_9 => ?_) (fun c_9 => ?_)
  ·
    refine gz_iconst (v := 0) dX12_net_14 (by decide) ?_
    refine gz_istore_n (lv' := [(2, .int 0), (0, .ref m), (1, .int x1)]) dX12_net_15 rfl (by decide) rfl ?_
    refine gz_iload_n dX12_net_16 rfl rfl ?_
    refine gz_bipush (v := 8) dX12_net_17 (by decide) ?_
    refine gz_icmp_ge (tgt := 35) dX12_net_19 (by decide) (fun c_19 => ?_) (fun c_19 => ?_)
    · exact absurd c_19 (by decide)
    ·
      refine gz_aload_n dX12_net_22 rfl rfl ?_
      refine mg_145 hS dX12_net_23 ?_
      refine gz_iload_n dX12_net_26 rfl rfl ?_
      refine gz_lconst (v := 0) dX12_net_27 (by decide) ?_
      refine m_last 51 hS rfl (N := 8) rfl (vin_T (v := 0) rfl (by decide) (by decide)) dX12_net_28 (fun f_1 hS_1 => ?_)
      refine gz_iinc (v := 1) (lv' := [(2, .int 1), (0, .ref m), (1, .int x1)]) dX12_net_29 rfl (by decide) (by decide) rfl ?_
      refine gz_goto (tgt := 16) dX12_net_32 (by decide) ?_
      refine gz_iload_n dX12_net_16 rfl rfl ?_
      refine gz_bipush (v := 8) dX12_net_17 (by decide) ?_
      refine gz_icmp_ge (tgt := 35) dX12_net_19 (by decide) (fun c_19_1 => ?_) (fun c_19_1 => ?_)
      · exact absurd c_19_1 (by decide)
      ·
        refine gz_aload_n dX12_net_22 rfl rfl ?_
        refine mg_145 hS_1 dX12_net_23 ?_
        refine gz_iload_n dX12_net_26 rfl rfl ?_
        refine gz_lconst (v := 0) dX12_net_27 (by decide) ?_
        refine m_last 51 hS_1 rfl (N := 8) rfl (vin_T (v := 1) rfl (by decide) (by decide)) dX12_net_28 (fun f_2 hS_2 => ?_)
        refine gz_iinc (v := 2) (lv' := [(2, .int 2), (0, .ref m), (1, .int x1)]) dX12_net_29 rfl (by decide) (by decide) rfl ?_
        refine gz_goto (tgt := 16) dX12_net_32 (by decide) ?_
        refine gz_iload_n dX12_net_16 rfl rfl ?_
        refine gz_bipush (v := 8) dX12_net_17 (by decide) ?_
        refine gz_icmp_ge (tgt := 35) dX12_net_19 (by decide) (fun c_19_2 => ?_) (fun c_19_2 => ?_)
        · exact absurd c_19_2 (by decide)
        ·
          refine gz_aload_n dX12_net_22 rfl rfl ?_
          refine mg_145 hS_2 dX12_net_23 ?_
          refine gz_iload_n dX12_net_26 rfl rfl ?_
          refine gz_lconst (v := 0) dX12_net_27 (by decide) ?_
          refine m_last 51 hS_2 rfl (N := 8) rfl (vin_T (v := 2) rfl (by decide) (by decide)) dX12_net_28 (fun f_3 hS_3 => ?_)
          refine gz_iinc (v := 3) (lv' := [(2, .int 3), (0, .ref m), (1, .int x1)]) dX12_net_29 rfl (by decide) (by decide) rfl ?_
          refine gz_goto (tgt := 16) dX12_net_32 (by decide) ?_
          refine gz_iload_n dX12_net_16 rfl rfl ?_
          refine gz_bipush (v := 8) dX12_net_17 (by decide) ?_
          refine gz_icmp_ge (tgt := 35) dX12_net_19 (by decide) (fun c_19_3 => ?_) (fun c_19_3 => ?_)
          · exact absurd c_19_3 (by decide)
          ·
            refine gz_aload_n dX12_net_22 rfl rfl ?_
            refine mg_145 hS_3 dX12_net_23 ?_
            refine gz_iload_n dX12_net_26 rfl rfl ?_
            refine gz_lconst (v := 0) dX12_net_27 (by decide) ?_
            refine m_last 51 hS_3 rfl (N := 8) rfl (vin_T (v := 3) rfl (by decide) (by decide)) dX12_net_28 (fun f_4 hS_4 => ?_)
            refine gz_iinc (v := 4) (lv' := [(2, .int 4), (0, .ref m), (1, .int x1)]) dX12_net_29 rfl (by decide) (by decide) rfl ?_
            refine gz_goto (tgt := 16) dX12_net_32 (by decide) ?_
            refine gz_iload_n dX12_net_16 rfl rfl ?_
            refine gz_bipush (v := 8) dX12_net_17 (by decide) ?_
            refine gz_icmp_ge (tgt := 35) dX12_net_19 (by decide) (fun c_19_4 => ?_) (fun c_19_4 => ?_)
            · exact absurd c_19_4 (by decide)
            ·
              refine gz_aload_n dX12_net_22 rfl rfl ?_
              refine mg_145 hS_4 dX12_net_23 ?_
              refine gz_iload_n dX12_net_26 rfl rfl ?_
              refine gz_lconst (v := 0) dX12_net_27 (by decide) ?_
              refine m_last 51 hS_4 rfl (N := 8) rfl (vin_T (v := 4) rfl (by decide) (by decide)) dX12_net_28 (fun f_5 hS_5 => ?_)
              refine gz_iinc (v := 5) (lv' := [(2, .int 5), (0, .ref m), (1, .int x1)]) dX12_net_29 rfl (by decide) (by decide) rfl ?_
              refine gz_goto (tgt := 16) dX12_net_32 (by decide) ?_
              refine gz_iload_n dX12_net_16 rfl rfl ?_
              refine gz_bipush (v := 8) dX12_net_17 (by decide) ?_
              refine gz_icmp_ge (tgt := 35) dX12_net_19 (by decide) (fun c_19_5 => ?_) (fun c_19_5 => ?_)
              · exact absurd c_19_5 (by decide)
              ·
                refine gz_aload_n dX12_net_22 rfl rfl ?_
                refine mg_145 hS_5 dX12_net_23 ?_
                refine gz_iload_n dX12_net_26 rfl rfl ?_
                refine gz_lconst (v := 0) dX12_net_27 (by decide) ?_
                refine m_last 51 hS_5 rfl (N := 8) rfl (vin_T (v := 5) rfl (by decide) (by decide)) dX12_net_28 (fun f_6 hS_6 => ?_)
                refine gz_iinc (v := 6) (lv' := [(2, .int 6), (0, .ref m), (1, .int x1)]) dX12_net_29 rfl (by decide) (by decide) rfl ?_
                refine gz_goto (tgt := 16) dX12_net_32 (by decide) ?_
                refine gz_iload_n dX12_net_16 rfl rfl ?_
                refine gz_bipush (v := 8) dX12_net_17 (by decide) ?_
                refine gz_icmp_ge (tgt := 35) dX12_net_19 (by decide) (fun c_19_6 => ?_) (fun c_19_6 => ?_)
                · exact absurd c_19_6 (by decide)
                ·
                  refine gz_aload_n dX12_net_22 rfl rfl ?_
                  refine mg_145 hS_6 dX12_net_23 ?_
                  refine gz_iload_n dX12_net_26 rfl rfl ?_
                  refine gz_lconst (v := 0) dX12_net_27 (by decide) ?_
                  refine m_last 51 hS_6 rfl (N := 8) rfl (vin_T (v := 6) rfl (by decide) (by decide)) dX12_net_28 (fun f_7 hS_7 => ?_)
                  refine gz_iinc (v := 7) (lv' := [(2, .int 7), (0, .ref m), (1, .int x1)]) dX12_net_29 rfl (by decide) (by decide) rfl ?_
                  refine gz_goto (tgt := 16) dX12_net_32 (by decide) ?_
                  refine gz_iload_n dX12_net_16 rfl rfl ?_
                  refine gz_bipush (v := 8) dX12_net_17 (by decide) ?_
                  refine gz_icmp_ge (tgt := 35) dX12_net_19 (by decide) (fun c_19_7 => ?_) (fun c_19_7 => ?_)
                  · exact absurd c_19_7 (by decide)
                  ·
                    refine gz_aload_n dX12_net_22 rfl rfl ?_
                    refine mg_145 hS_7 dX12_net_23 ?_
                    refine gz_iload_n dX12_net_26 rfl rfl ?_
                    refine gz_lconst (v := 0) dX12_net_27 (by decide) ?_
                    refine m_last 51 hS_7 rfl (N := 8) rfl (vin_T (v := 7) rfl (by decide) (by decide)) dX12_net_28 (fun f_8 hS_8 => ?_)
                    refine gz_iinc (v := 8) (lv' := [(2, .int 8), (0, .ref m), (1, .int x1)]) dX12_net_29 rfl (by decide) (by decide) rfl ?_
                    refine gz_goto (tgt := 16) dX12_net_32 (by decide) ?_
                    refine gz_iload_n dX12_net_16 rfl rfl ?_
                    refine gz_bipush (v := 8) dX12_net_17 (by decide) ?_
                    refine gz_icmp_ge (tgt := 35) dX12_net_19 (by decide) (fun c_19_8 => ?_) (fun c_19_8 => ?_)
                    ·
                      refine gz_iconst (v := 0) dX12_net_35 (by decide) ?_
                      refine gz_istore_n (lv' := [(2, .int 0), (0, .ref m), (1, .int x1)]) dX12_net_36 rfl (by decide) rfl ?_
                      refine gz_iload_n dX12_net_37 rfl rfl ?_
                      refine gz_aload_n dX12_net_38 rfl rfl ?_
                      refine mg_364 hS_8 dX12_net_39 ?_
                      refine gz_ev (w := .int 0) (congrArg Value.int h38) ?_
                      refine gz_icmp_ge (tgt := 116) dX12_net_42 (by decide) (fun c_42 => ?_) (fun c_42 => ?_)
                      ·
                        refine gz_iconst (v := 0) dX12_net_116 (by decide) ?_
                        refine gz_istore_n (lv' := [(2, .int 0), (0, .ref m), (1, .int x1)]) dX12_net_117 rfl (by decide) rfl ?_
                        refine gz_iload_n dX12_net_118 rfl rfl ?_
                        refine gz_bipush (v := 8) dX12_net_119 (by decide) ?_
                        refine gz_icmp_ge (tgt := 142) dX12_net_121 (by decide) (fun c_121 => ?_) (fun c_121 => ?_)
                        · exact absurd c_121 (by decide)
                        ·
                          refine gz_aload_n dX12_net_124 rfl rfl ?_
                          refine mg_148 hS_8 dX12_net_125 ?_
                          refine gz_iload_n dX12_net_128 rfl rfl ?_
                          refine gz_aload_n dX12_net_129 rfl rfl ?_
                          refine mg_145 hS_8 dX12_net_130 ?_
                          refine gz_iload_n dX12_net_133 rfl rfl ?_
                          refine m_lald 51 hS_8 rfl (N := 8) rfl (vin_T (v := 0) rfl (by decide) (by decide)) dX12_net_134 ?_
                          refine gz_ev (w := .long 0) (rfl) ?_
                          refine m_last 52 hS_8 rfl (N := 8) rfl (vin_T (v := 0) rfl (by decide) (by decide)) dX12_net_135 (fun f_9 hS_9 => ?_)
                          refine gz_iinc (v := 1) (lv' := [(2, .int 1), (0, .ref m), (1, .int x1)]) dX12_net_136 rfl (by decide) (by decide) rfl ?_
                          refine gz_goto (tgt := 118) dX12_net_139 (by decide) ?_
                          refine gz_iload_n dX12_net_118 rfl rfl ?_
                          refine gz_bipush (v := 8) dX12_net_119 (by decide) ?_
                          refine gz_icmp_ge (tgt := 142) dX12_net_121 (by decide) (fun c_121_9 => ?_) (fun c_121_9 => ?_)
                          · exact absurd c_121_9 (by decide)
                          ·
                            refine gz_aload_n dX12_net_124 rfl rfl ?_
                            refine mg_148 hS_9 dX12_net_125 ?_
                            refine gz_iload_n dX12_net_128 rfl rfl ?_
                            refine gz_aload_n dX12_net_129 rfl rfl ?_
                            refine mg_145 hS_9 dX12_net_130 ?_
                            refine gz_iload_n dX12_net_133 rfl rfl ?_
                            refine m_lald 51 hS_9 rfl (N := 8) rfl (vin_T (v := 1) rfl (by decide) (by decide)) dX12_net_134 ?_
                            refine gz_ev (w := .long 0) (rfl) ?_
                            refine m_last 52 hS_9 rfl (N := 8) rfl (vin_T (v := 1) rfl (by decide) (by decide)) dX12_net_135 (fun f_10 hS_10 => ?_)
                            refine gz_iinc (v := 2) (lv' := [(2, .int 2), (0, .ref m), (1, .int x1)]) dX12_net_136 rfl (by decide) (by decide) rfl ?_
                            refine gz_goto (tgt := 118) dX12_net_139 (by decide) ?_
                            refine gz_iload_n dX12_net_118 rfl rfl ?_
                            refine gz_bipush (v := 8) dX12_net_119 (by decide) ?_
                            refine gz_icmp_ge (tgt := 142) dX12_net_121 (by decide) (fun c_121_10 => ?_) (fun c_121_10 => ?_)
                            · exact absurd c_121_10 (by decide)
                            ·
                              refine gz_aload_n dX12_net_124 rfl rfl ?_
                              refine mg_148 hS_10 dX12_net_125 ?_
                              refine gz_iload_n dX12_net_128 rfl rfl ?_
                              refine gz_aload_n dX12_net_129 rfl rfl ?_
                              refine mg_145 hS_10 dX12_net_130 ?_
                              refine gz_iload_n dX12_net_133 rfl rfl ?_
                              refine m_lald 51 hS_10 rfl (N := 8) rfl (vin_T (v := 2) rfl (by decide) (by decide)) dX12_net_134 ?_
                              refine gz_ev (w := .long 0) (rfl) ?_
                              refine m_last 52 hS_10 rfl (N := 8) rfl (vin_T (v := 2) rfl (by decide) (by decide)) dX12_net_135 (fun f_11 hS_11 => ?_)
                              refine gz_iinc (v := 3) (lv' := [(2, .int 3), (0, .ref m), (1, .int x1)]) dX12_net_136 rfl (by decide) (by decide) rfl ?_
                              refine gz_goto (tgt := 118) dX12_net_139 (by decide) ?_
                              refine gz_iload_n dX12_net_118 rfl rfl ?_
                              refine gz_bipush (v := 8) dX12_net_119 (by decide) ?_
                              refine gz_icmp_ge (tgt := 142) dX12_net_121 (by decide) (fun c_121_11 => ?_) (fun c_121_11 => ?_)
                              · exact absurd c_121_11 (by decide)
                              ·
                                refine gz_aload_n dX12_net_124 rfl rfl ?_
                                refine mg_148 hS_11 dX12_net_125 ?_
                                refine gz_iload_n dX12_net_128 rfl rfl ?_
                                refine gz_aload_n dX12_net_129 rfl rfl ?_
                                refine mg_145 hS_11 dX12_net_130 ?_
                                refine gz_iload_n dX12_net_133 rfl rfl ?_
                                refine m_lald 51 hS_11 rfl (N := 8) rfl (vin_T (v := 3) rfl (by decide) (by decide)) dX12_net_134 ?_
                                refine gz_ev (w := .long 0) (rfl) ?_
                                refine m_last 52 hS_11 rfl (N := 8) rfl (vin_T (v := 3) rfl (by decide) (by decide)) dX12_net_135 (fun f_12 hS_12 => ?_)
                                refine gz_iinc (v := 4) (lv' := [(2, .int 4), (0, .ref m), (1, .int x1)]) dX12_net_136 rfl (by decide) (by decide) rfl ?_
                                refine gz_goto (tgt := 118) dX12_net_139 (by decide) ?_
                                refine gz_iload_n dX12_net_118 rfl rfl ?_
                                refine gz_bipush (v := 8) dX12_net_119 (by decide) ?_
                                refine gz_icmp_ge (tgt := 142) dX12_net_121 (by decide) (fun c_121_12 => ?_) (fun c_121_12 => ?_)
                                · exact absurd c_121_12 (by decide)
                                ·
                                  refine gz_aload_n dX12_net_124 rfl rfl ?_
                                  refine mg_148 hS_12 dX12_net_125 ?_
                                  refine gz_iload_n dX12_net_128 rfl rfl ?_
                                  refine gz_aload_n dX12_net_129 rfl rfl ?_
                                  refine mg_145 hS_12 dX12_net_130 ?_
                                  refine gz_iload_n dX12_net_133 rfl rfl ?_
                                  refine m_lald 51 hS_12 rfl (N := 8) rfl (vin_T (v := 4) rfl (by decide) (by decide)) dX12_net_134 ?_
                                  refine gz_ev (w := .long 0) (rfl) ?_
                                  refine m_last 52 hS_12 rfl (N := 8) rfl (vin_T (v := 4) rfl (by decide) (by decide)) dX12_net_135 (fun f_13 hS_13 => ?_)
                                  refine gz_iinc (v := 5) (lv' := [(2, .int 5), (0, .ref m), (1, .int x1)]) dX12_net_136 rfl (by decide) (by decide) rfl ?_
                                  refine gz_goto (tgt := 118) dX12_net_139 (by decide) ?_
                                  refine gz_iload_n dX12_net_118 rfl rfl ?_
                                  refine gz_bipush (v := 8) dX12_net_119 (by decide) ?_
                                  refine gz_icmp_ge (tgt := 142) dX12_net_121 (by decide) (fun c_121_13 => ?_) (fun c_121_13 => ?_)
                                  · exact absurd c_121_13 (by decide)
                                  ·
                                    refine gz_aload_n dX12_net_124 rfl rfl ?_
                                    refine mg_148 hS_13 dX12_net_125 ?_
                                    refine gz_iload_n dX12_net_128 rfl rfl ?_
                                    refine gz_aload_n dX12_net_129 rfl rfl ?_
                                    refine mg_145 hS_13 dX12_net_130 ?_
                                    refine gz_iload_n dX12_net_133 rfl rfl ?_
                                    refine m_lald 51 hS_13 rfl (N := 8) rfl (vin_T (v := 5) rfl (by decide) (by decide)) dX12_net_134 ?_
                                    refine gz_ev (w := .long 0) (rfl) ?_
                                    refine m_last 52 hS_13 rfl (N := 8) rfl (vin_T (v := 5) rfl (by decide) (by decide)) dX12_net_135 (fun f_14 hS_14 => ?_)
                                    refine gz_iinc (v := 6) (lv' := [(2, .int 6), (0, .ref m), (1, .int x1)]) dX12_net_136 rfl (by decide) (by decide) rfl ?_
                                    refine gz_goto (tgt := 118) dX12_net_139 (by decide) ?_
                                    refine gz_iload_n dX12_net_118 rfl rfl ?_
                                    refine gz_bipush (v := 8) dX12_net_119 (by decide) ?_
                                    refine gz_icmp_ge (tgt := 142) dX12_net_121 (by decide) (fun c_121_14 => ?_) (fun c_121_14 => ?_)
                                    · exact absurd c_121_14 (by decide)
                                    ·
                                      refine gz_aload_n dX12_net_124 rfl rfl ?_
                                      refine mg_148 hS_14 dX12_net_125 ?_
                                      refine gz_iload_n dX12_net_128 rfl rfl ?_
                                      refine gz_aload_n dX12_net_129 rfl rfl ?_
                                      refine mg_145 hS_14 dX12_net_130 ?_
                                      refine gz_iload_n dX12_net_133 rfl rfl ?_
                                      refine m_lald 51 hS_14 rfl (N := 8) rfl (vin_T (v := 6) rfl (by decide) (by decide)) dX12_net_134 ?_
                                      refine gz_ev (w := .long 0) (rfl) ?_
                                      refine m_last 52 hS_14 rfl (N := 8) rfl (vin_T (v := 6) rfl (by decide) (by decide)) dX12_net_135 (fun f_15 hS_15 => ?_)
                                      refine gz_iinc (v := 7) (lv' := [(2, .int 7), (0, .ref m), (1, .int x1)]) dX12_net_136 rfl (by decide) (by decide) rfl ?_
                                      refine gz_goto (tgt := 118) dX12_net_139 (by decide) ?_
                                      refine gz_iload_n dX12_net_118 rfl rfl ?_
                                      refine gz_bipush (v := 8) dX12_net_119 (by decide) ?_
                                      refine gz_icmp_ge (tgt := 142) dX12_net_121 (by decide) (fun c_121_15 => ?_) (fun c_121_15 => ?_)
                                      · exact absurd c_121_15 (by decide)
                                      ·
                                        refine gz_aload_n dX12_net_124 rfl rfl ?_
                                        refine mg_148 hS_15 dX12_net_125 ?_
                                        refine gz_iload_n dX12_net_128 rfl rfl ?_
                                        refine gz_aload_n dX12_net_129 rfl rfl ?_
                                        refine mg_145 hS_15 dX12_net_130 ?_
                                        refine gz_iload_n dX12_net_133 rfl rfl ?_
                                        refine m_lald 51 hS_15 rfl (N := 8) rfl (vin_T (v := 7) rfl (by decide) (by decide)) dX12_net_134 ?_
                                        refine gz_ev (w := .long 0) (rfl) ?_
                                        refine m_last 52 hS_15 rfl (N := 8) rfl (vin_T (v := 7) rfl (by decide) (by decide)) dX12_net_135 (fun f_16 hS_16 => ?_)
                                        refine gz_iinc (v := 8) (lv' := [(2, .int 8), (0, .ref m), (1, .int x1)]) dX12_net_136 rfl (by decide) (by decide) rfl ?_
                                        refine gz_goto (tgt := 118) dX12_net_139 (by decide) ?_
                                        refine gz_iload_n dX12_net_118 rfl rfl ?_
                                        refine gz_bipush (v := 8) dX12_net_119 (by decide) ?_
                                        refine gz_icmp_ge (tgt := 142) dX12_net_121 (by decide) (fun c_121_16 => ?_) (fun c_121_16 => ?_)
                                        ·
                                          refine gz_aload_n dX12_net_142 rfl rfl ?_
                                          refine gz_iconst (v := 1) dX12_net_143 (by decide) ?_
                                          refine mp_426 hS_16 ⟨rfl, rfl⟩ dX12_net_144 (fun f_17 hS_17 => ?_)
                                          refine gz_aload_n dX12_net_147 rfl rfl ?_
                                          refine gz_iconst (v := 0) dX12_net_148 (by decide) ?_
                                          refine mp_430 hS_17 dX12_net_149 (fun f_18 hS_18 => ?_)
                                          refine gz_iconst (v := 0) dX12_net_152 (by decide) ?_
                                          refine gz_istore_n (lv' := [(2, .int 0), (0, .ref m), (1, .int x1)]) dX12_net_153 rfl (by decide) rfl ?_
                                          refine gz_iconst (v := 0) dX12_net_154 (by decide) ?_
                                          refine gz_istore_n (lv' := [(3, .int 0), (2, .int 0), (0, .ref m), (1, .int x1)]) dX12_net_155 rfl (by decide) rfl ?_
                                          refine gz_iload_n dX12_net_156 rfl rfl ?_
                                          refine gz_bipush (v := 8) dX12_net_157 (by decide) ?_
                                          refine gz_icmp_ge (tgt := 303) dX12_net_159 (by decide) (fun c_159 => ?_) (fun c_159 => ?_)
                                          · exact absurd c_159 (by decide)
                                          ·
                                            refine gz_iload_n dX12_net_162 rfl rfl ?_
                                            refine gz_bipush (v := 8) dX12_net_163 (by decide) ?_
                                            refine gz_icmp_ge (tgt := 303) dX12_net_165 (by decide) (fun c_165 => ?_) (fun c_165 => ?_)
                                            · exact absurd c_165 (by decide)
                                            ·
                                              refine gz_aload_n dX12_net_168 rfl rfl ?_
                                              refine mg_148 hS_18 dX12_net_169 ?_
                                              refine gz_iload_n dX12_net_172 rfl rfl ?_
                                              refine m_lald 52 hS_18 rfl (N := 8) rfl (vin_T (v := 0) rfl (by decide) (by decide)) dX12_net_173 ?_
                                              refine gz_ev (w := .long 0) (rfl) ?_
                                              refine gz_lconst (v := 0) dX12_net_174 (by decide) ?_
                                              refine gz_lcmp dX12_net_175 ?_
                                              refine gz_ev (w := .int 0) (by decide) ?_
                                              refine gz_if_lt (tgt := 185) dX12_net_176 (by decide) (fun c_176 => ?_) (fun c_176 => ?_)
                                              · exact absurd c_176 (by decide)
                                              ·
                                                refine gz_iinc (v := 1) (lv' := [(2, .int 1), (3, .int 0), (0, .ref m), (1, .int x1)]) dX12_net_179 rfl (by decide) (by decide) rfl ?_
                                                refine gz_goto (tgt := 156) dX12_net_182 (by decide) ?_
                                                refine gz_iload_n dX12_net_156 rfl rfl ?_
                                                refine gz_bipush (v := 8) dX12_net_157 (by decide) ?_
                                                refine gz_icmp_ge (tgt := 303) dX12_net_159 (by decide) (fun c_159_17 => ?_) (fun c_159_17 => ?_)
                                                · exact absurd c_159_17 (by decide)
                                                ·
                                                  refine gz_iload_n dX12_net_162 rfl rfl ?_
                                                  refine gz_bipush (v := 8) dX12_net_163 (by decide) ?_
                                                  refine gz_icmp_ge (tgt := 303) dX12_net_165 (by decide) (fun c_165_18 => ?_) (fun c_165_18 => ?_)
                                                  · exact absurd c_165_18 (by decide)
                                                  ·
                                                    refine gz_aload_n dX12_net_168 rfl rfl ?_
                                                    refine mg_148 hS_18 dX12_net_169 ?_
                                                    refine gz_iload_n dX12_net_172 rfl rfl ?_
                                                    refine m_lald 52 hS_18 rfl (N := 8) rfl (vin_T (v := 1) rfl (by decide) (by decide)) dX12_net_173 ?_
                                                    refine gz_ev (w := .long 0) (rfl) ?_
                                                    refine gz_lconst (v := 0) dX12_net_174 (by decide) ?_
                                                    refine gz_lcmp dX12_net_175 ?_
                                                    refine gz_ev (w := .int 0) (by decide) ?_
                                                    refine gz_if_lt (tgt := 185) dX12_net_176 (by decide) (fun c_176_19 => ?_) (fun c_176_19 => ?_)
                                                    · exact absurd c_176_19 (by decide)
                                                    ·
                                                      refine gz_iinc (v := 2) (lv' := [(2, .int 2), (3, .int 0), (0, .ref m), (1, .int x1)]) dX12_net_179 rfl (by decide) (by decide) rfl ?_
                                                      refine gz_goto (tgt := 156) dX12_net_182 (by decide) ?_
                                                      refine gz_iload_n dX12_net_156 rfl rfl ?_
                                                      refine gz_bipush (v := 8) dX12_net_157 (by decide) ?_
                                                      refine gz_icmp_ge (tgt := 303) dX12_net_159 (by decide) (fun c_159_20 => ?_) (fun c_159_20 => ?_)
                                                      · exact absurd c_159_20 (by decide)
                                                      ·
                                                        refine gz_iload_n dX12_net_162 rfl rfl ?_
                                                        refine gz_bipush (v := 8) dX12_net_163 (by decide) ?_
                                                        refine gz_icmp_ge (tgt := 303) dX12_net_165 (by decide) (fun c_165_21 => ?_) (fun c_165_21 => ?_)
                                                        · exact absurd c_165_21 (by decide)
                                                        ·
                                                          refine gz_aload_n dX12_net_168 rfl rfl ?_
                                                          refine mg_148 hS_18 dX12_net_169 ?_
                                                          refine gz_iload_n dX12_net_172 rfl rfl ?_
                                                          refine m_lald 52 hS_18 rfl (N := 8) rfl (vin_T (v := 2) rfl (by decide) (by decide)) dX12_net_173 ?_
                                                          refine gz_ev (w := .long 0) (rfl) ?_
                                                          refine gz_lconst (v := 0) dX12_net_174 (by decide) ?_
                                                          refine gz_lcmp dX12_net_175 ?_
                                                          refine gz_ev (w := .int 0) (by decide) ?_
                                                          refine gz_if_lt (tgt := 185) dX12_net_176 (by decide) (fun c_176_22 => ?_) (fun c_176_22 => ?_)
                                                          · exact absurd c_176_22 (by decide)
                                                          ·
                                                            refine gz_iinc (v := 3) (lv' := [(2, .int 3), (3, .int 0), (0, .ref m), (1, .int x1)]) dX12_net_179 rfl (by decide) (by decide) rfl ?_
                                                            refine gz_goto (tgt := 156) dX12_net_182 (by decide) ?_
                                                            refine gz_iload_n dX12_net_156 rfl rfl ?_
                                                            refine gz_bipush (v := 8) dX12_net_157 (by decide) ?_
                                                            refine gz_icmp_ge (tgt := 303) dX12_net_159 (by decide) (fun c_159_23 => ?_) (fun c_159_23 => ?_)
                                                            · exact absurd c_159_23 (by decide)
                                                            ·
                                                              refine gz_iload_n dX12_net_162 rfl rfl ?_
                                                              refine gz_bipush (v := 8) dX12_net_163 (by decide) ?_
                                                              refine gz_icmp_ge (tgt := 303) dX12_net_165 (by decide) (fun c_165_24 => ?_) (fun c_165_24 => ?_)
                                                              · exact absurd c_165_24 (by decide)
                                                              ·
                                                                refine gz_aload_n dX12_net_168 rfl rfl ?_
                                                                refine mg_148 hS_18 dX12_net_169 ?_
                                                                refine gz_iload_n dX12_net_172 rfl rfl ?_
                                                                refine m_lald 52 hS_18 rfl (N := 8) rfl (vin_T (v := 3) rfl (by decide) (by decide)) dX12_net_173 ?_
                                                                refine gz_ev (w := .long 0) (rfl) ?_
                                                                refine gz_lconst (v := 0) dX12_net_174 (by decide) ?_
                                                                refine gz_lcmp dX12_net_175 ?_
                                                                refine gz_ev (w := .int 0) (by decide) ?_
                                                                refine gz_if_lt (tgt := 185) dX12_net_176 (by decide) (fun c_176_25 => ?_) (fun c_176_25 => ?_)
                                                                · exact absurd c_176_25 (by decide)
                                                                ·
                                                                  refine gz_iinc (v := 4) (lv' := [(2, .int 4), (3, .int 0), (0, .ref m), (1, .int x1)]) dX12_net_179 rfl (by decide) (by decide) rfl ?_
                                                                  refine gz_goto (tgt := 156) dX12_net_182 (by decide) ?_
                                                                  refine gz_iload_n dX12_net_156 rfl rfl ?_
                                                                  refine gz_bipush (v := 8) dX12_net_157 (by decide) ?_
                                                                  refine gz_icmp_ge (tgt := 303) dX12_net_159 (by decide) (fun c_159_26 => ?_) (fun c_159_26 => ?_)
                                                                  · exact absurd c_159_26 (by decide)
                                                                  ·
                                                                    refine gz_iload_n dX12_net_162 rfl rfl ?_
                                                                    refine gz_bipush (v := 8) dX12_net_163 (by decide) ?_
                                                                    refine gz_icmp_ge (tgt := 303) dX12_net_165 (by decide) (fun c_165_27 => ?_) (fun c_165_27 => ?_)
                                                                    · exact absurd c_165_27 (by decide)
                                                                    ·
                                                                      refine gz_aload_n dX12_net_168 rfl rfl ?_
                                                                      refine mg_148 hS_18 dX12_net_169 ?_
                                                                      refine gz_iload_n dX12_net_172 rfl rfl ?_
                                                                      refine m_lald 52 hS_18 rfl (N := 8) rfl (vin_T (v := 4) rfl (by decide) (by decide)) dX12_net_173 ?_
                                                                      refine gz_ev (w := .long 0) (rfl) ?_
                                                                      refine gz_lconst (v := 0) dX12_net_174 (by decide) ?_
                                                                      refine gz_lcmp dX12_net_175 ?_
                                                                      refine gz_ev (w := .int 0) (by decide) ?_
                                                                      refine gz_if_lt (tgt := 185) dX12_net_176 (by decide) (fun c_176_28 => ?_) (fun c_176_28 => ?_)
                                                                      · exact absurd c_176_28 (by decide)
                                                                      ·
                                                                        refine gz_iinc (v := 5) (lv' := [(2, .int 5), (3, .int 0), (0, .ref m), (1, .int x1)]) dX12_net_179 rfl (by decide) (by decide) rfl ?_
                                                                        refine gz_goto (tgt := 156) dX12_net_182 (by decide) ?_
                                                                        refine gz_iload_n dX12_net_156 rfl rfl ?_
                                                                        refine gz_bipush (v := 8) dX12_net_157 (by decide) ?_
                                                                        refine gz_icmp_ge (tgt := 303) dX12_net_159 (by decide) (fun c_159_29 => ?_) (fun c_159_29 => ?_)
                                                                        · exact absurd c_159_29 (by decide)
                                                                        ·
                                                                          refine gz_iload_n dX12_net_162 rfl rfl ?_
                                                                          refine gz_bipush (v := 8) dX12_net_163 (by decide) ?_
                                                                          refine gz_icmp_ge (tgt := 303) dX12_net_165 (by decide) (fun c_165_30 => ?_) (fun c_165_30 => ?_)
                                                                          · exact absurd c_165_30 (by decide)
                                                                          ·
                                                                            refine gz_aload_n dX12_net_168 rfl rfl ?_
                                                                            refine mg_148 hS_18 dX12_net_169 ?_
                                                                            refine gz_iload_n dX12_net_172 rfl rfl ?_
                                                                            refine m_lald 52 hS_18 rfl (N := 8) rfl (vin_T (v := 5) rfl (by decide) (by decide)) dX12_net_173 ?_
                                                                            refine gz_ev (w := .long 0) (rfl) ?_
                                                                            refine gz_lconst (v := 0) dX12_net_174 (by decide) ?_
                                                                            refine gz_lcmp dX12_net_175 ?_
                                                                            refine gz_ev (w := .int 0) (by decide) ?_
                                                                            refine gz_if_lt (tgt := 185) dX12_net_176 (by decide) (fun c_176_31 => ?_) (fun c_176_31 => ?_)
                                                                            · exact absurd c_176_31 (by decide)
                                                                            ·
                                                                              refine gz_iinc (v := 6) (lv' := [(2, .int 6), (3, .int 0), (0, .ref m), (1, .int x1)]) dX12_net_179 rfl (by decide) (by decide) rfl ?_
                                                                              refine gz_goto (tgt := 156) dX12_net_182 (by decide) ?_
                                                                              refine gz_iload_n dX12_net_156 rfl rfl ?_
                                                                              refine gz_bipush (v := 8) dX12_net_157 (by decide) ?_
                                                                              refine gz_icmp_ge (tgt := 303) dX12_net_159 (by decide) (fun c_159_32 => ?_) (fun c_159_32 => ?_)
                                                                              · exact absurd c_159_32 (by decide)
                                                                              ·
                                                                                refine gz_iload_n dX12_net_162 rfl rfl ?_
                                                                                refine gz_bipush (v := 8) dX12_net_163 (by decide) ?_
                                                                                refine gz_icmp_ge (tgt := 303) dX12_net_165 (by decide) (fun c_165_33 => ?_) (fun c_165_33 => ?_)
                                                                                · exact absurd c_165_33 (by decide)
                                                                                ·
                                                                                  refine gz_aload_n dX12_net_168 rfl rfl ?_
                                                                                  refine mg_148 hS_18 dX12_net_169 ?_
                                                                                  refine gz_iload_n dX12_net_172 rfl rfl ?_
                                                                                  refine m_lald 52 hS_18 rfl (N := 8) rfl (vin_T (v := 6) rfl (by decide) (by decide)) dX12_net_173 ?_
                                                                                  refine gz_ev (w := .long 0) (rfl) ?_
                                                                                  refine gz_lconst (v := 0) dX12_net_174 (by decide) ?_
                                                                                  refine gz_lcmp dX12_net_175 ?_
                                                                                  refine gz_ev (w := .int 0) (by decide) ?_
                                                                                  refine gz_if_lt (tgt := 185) dX12_net_176 (by decide) (fun c_176_34 => ?_) (fun c_176_34 => ?_)
                                                                                  · exact absurd c_176_34 (by decide)
                                                                                  ·
                                                                                    refine gz_iinc (v := 7) (lv' := [(2, .int 7), (3, .int 0), (0, .ref m), (1, .int x1)]) dX12_net_179 rfl (by decide) (by decide) rfl ?_
                                                                                    refine gz_goto (tgt := 156) dX12_net_182 (by decide) ?_
                                                                                    refine gz_iload_n dX12_net_156 rfl rfl ?_
                                                                                    refine gz_bipush (v := 8) dX12_net_157 (by decide) ?_
                                                                                    refine gz_icmp_ge (tgt := 303) dX12_net_159 (by decide) (fun c_159_35 => ?_) (fun c_159_35 => ?_)
                                                                                    · exact absurd c_159_35 (by decide)
                                                                                    ·
                                                                                      refine gz_iload_n dX12_net_162 rfl rfl ?_
                                                                                      refine gz_bipush (v := 8) dX12_net_163 (by decide) ?_
                                                                                      refine gz_icmp_ge (tgt := 303) dX12_net_165 (by decide) (fun c_165_36 => ?_) (fun c_165_36 => ?_)
                                                                                      · exact absurd c_165_36 (by decide)
                                                                                      ·
                                                                                        refine gz_aload_n dX12_net_168 rfl rfl ?_
                                                                                        refine mg_148 hS_18 dX12_net_169 ?_
                                                                                        refine gz_iload_n dX12_net_172 rfl rfl ?_
                                                                                        refine m_lald 52 hS_18 rfl (N := 8) rfl (vin_T (v := 7) rfl (by decide) (by decide)) dX12_net_173 ?_
                                                                                        refine gz_ev (w := .long 0) (rfl) ?_
                                                                                        refine gz_lconst (v := 0) dX12_net_174 (by decide) ?_
                                                                                        refine gz_lcmp dX12_net_175 ?_
                                                                                        refine gz_ev (w := .int 0) (by decide) ?_
                                                                                        refine gz_if_lt (tgt := 185) dX12_net_176 (by decide) (fun c_176_37 => ?_) (fun c_176_37 => ?_)
                                                                                        · exact absurd c_176_37 (by decide)
                                                                                        ·
                                                                                          refine gz_iinc (v := 8) (lv' := [(2, .int 8), (3, .int 0), (0, .ref m), (1, .int x1)]) dX12_net_179 rfl (by decide) (by decide) rfl ?_
                                                                                          refine gz_goto (tgt := 156) dX12_net_182 (by decide) ?_
                                                                                          refine gz_iload_n dX12_net_156 rfl rfl ?_
                                                                                          refine gz_bipush (v := 8) dX12_net_157 (by decide) ?_
                                                                                          refine gz_icmp_ge (tgt := 303) dX12_net_159 (by decide) (fun c_159_38 => ?_) (fun c_159_38 => ?_)
                                                                                          ·
                                                                                            refine gz_aload_n dX12_net_303 rfl rfl ?_
                                                                                            refine mg_430 hS_18 dX12_net_304 ?_
                                                                                            exact gz_iret rfl dX12_net_307 (Nat.le_of_ble_eq_true rfl) (Nat.le_of_ble_eq_true rfl) (⟨_, rfl, (by show _ = _; have e0 : (0 : Int32).toInt = 0 := rfl; have E0 : (0 : Int64).toInt = 0 := rfl; have e1 : (1 : Int32).toInt = 1 := rfl; have E1 : (1 : Int64).toInt = 1 := rfl; have e2 : (2 : Int32).toInt = 2 := rfl; have E2 : (2 : Int64).toInt = 2 := rfl; have e3 : (3 : Int32).toInt = 3 := rfl; have E3 : (3 : Int64).toInt = 3 := rfl; have e4 : (4 : Int32).toInt = 4 := rfl; have E4 : (4 : Int64).toInt = 4 := rfl; have e5 : (5 : Int32).toInt = 5 := rfl; have E5 : (5 : Int64).toInt = 5 := rfl; have e6 : (6 : Int32).toInt = 6 := rfl; have E6 : (6 : Int64).toInt = 6 := rfl; have e7 : (7 : Int32).toInt = 7 := rfl; have E7 : (7 : Int64).toInt = 7 := rfl; have e8 : (8 : Int32).toInt = 8 := rfl; have E8 : (8 : Int64).toInt = 8 := rfl; have e20 : (20 : Int32).toInt = 20 := rfl; have E20 : (20 : Int64).toInt = 20 := rfl; have e39 : (39 : Int32).toInt = 39 := rfl; have E39 : (39 : Int64).toInt = 39 := rfl; have e40 : (40 : Int32).toInt = 40 := rfl; have E40 : (40 : Int64).toInt = 40 := rfl; have e99 : (99 : Int32).toInt = 99 := rfl; have E99 : (99 : Int64).toInt = 99 := rfl; have em99 : ((-99) : Int32).toInt = (-99) := rfl; have Em99 : ((-99) : Int64).toInt = (-99) := rfl; have e399 : (399 : Int32).toInt = 399 := rfl; have E399 : (399 : Int64).toInt = 399 := rfl; have e400 : (400 : Int32).toInt = 400 := rfl; have E400 : (400 : Int64).toInt = 400 := rfl; have e9999 : (9999 : Int32).toInt = 9999 := rfl; have E9999 : (9999 : Int64).toInt = 9999 := rfl; have em9999 : ((-9999) : Int32).toInt = (-9999) := rfl; have Em9999 : ((-9999) : Int64).toInt = (-9999) := rfl; have em10000 : ((-10000) : Int32).toInt = (-10000) := rfl; have Em10000 : ((-10000) : Int64).toInt = (-10000) := rfl; have em1 : ((-1) : Int32).toInt = (-1) := rfl; have Em1 : ((-1) : Int64).toInt = (-1) := rfl; have e10 : (10 : Int32).toInt = 10 := rfl; have E10 : (10 : Int64).toInt = 10 := rfl; have e17 : (17 : Int32).toInt = 17 := rfl; have E17 : (17 : Int64).toInt = 17 := rfl; (try simp only [mIn_0, lgc_lt, lgc_gt, lgc_eq, lgc_le, lgc_ge] at c_9); (try simp only [fl_lt, fl_le, fl_eq, fL_lt, fL_le, fL_w] at c_9); first | (rw [spNet, if_pos (by omega)]; first | done | rfl) | (rw [spNet, if_neg (by omega)]; first | done | rfl))⟩)
                                                                                          · exact absurd c_159_38 (by decide)
                                        · exact absurd c_121_16 (by decide)
                      · exact absurd c_42 (by decide)
                    · exact absurd c_19_8 (by decide)
  ·
    refine gz_iconst (v := (-1)) dX12_net_12 (by decide) ?_
    exact gz_iret rfl dX12_net_13 (Nat.le_of_ble_eq_true rfl) (Nat.le_of_ble_eq_true rfl) (⟨_, rfl, (by show _ = _; have e0 : (0 : Int32).toInt = 0 := rfl; have E0 : (0 : Int64).toInt = 0 := rfl; have e1 : (1 : Int32).toInt = 1 := rfl; have E1 : (1 : Int64).toInt = 1 := rfl; have e2 : (2 : Int32).toInt = 2 := rfl; have E2 : (2 : Int64).toInt = 2 := rfl; have e3 : (3 : Int32).toInt = 3 := rfl; have E3 : (3 : Int64).toInt = 3 := rfl; have e4 : (4 : Int32).toInt = 4 := rfl; have E4 : (4 : Int64).toInt = 4 := rfl; have e5 : (5 : Int32).toInt = 5 := rfl; have E5 : (5 : Int64).toInt = 5 := rfl; have e6 : (6 : Int32).toInt = 6 := rfl; have E6 : (6 : Int64).toInt = 6 := rfl; have e7 : (7 : Int32).toInt = 7 := rfl; have E7 : (7 : Int64).toInt = 7 := rfl; have e8 : (8 : Int32).toInt = 8 := rfl; have E8 : (8 : Int64).toInt = 8 := rfl; have e20 : (20 : Int32).toInt = 20 := rfl; have E20 : (20 : Int64).toInt = 20 := rfl; have e39 : (39 : Int32).toInt = 39 := rfl; have E39 : (39 : Int64).toInt = 39 := rfl; have e40 : (40 : Int32).toInt = 40 := rfl; have E40 : (40 : Int64).toInt = 40 := rfl; have e99 : (99 : Int32).toInt = 99 := rfl; have E99 : (99 : Int64).toInt = 99 := rfl; have em99 : ((-99) : Int32).toInt = (-99) := rfl; have Em99 : ((-99) : Int64).toInt = (-99) := rfl; have e399 : (399 : Int32).toInt = 399 := rfl; have E399 : (399 : Int64).toInt = 399 := rfl; have e400 : (400 : Int32).toInt = 400 := rfl; have E400 : (400 : Int64).toInt = 400 := rfl; have e9999 : (9999 : Int32).toInt = 9999 := rfl; have E9999 : (9999 : Int64).toInt = 9999 := rfl; have em9999 : ((-9999) : Int32).toInt = (-9999) := rfl; have Em9999 : ((-9999) : Int64).toInt = (-9999) := rfl; have em10000 : ((-10000) : Int32).toInt = (-10000) := rfl; have Em10000 : ((-10000) : Int64).toInt = (-10000) := rfl; have em1 : ((-1) : Int32).toInt = (-1) := rfl; have Em1 : ((-1) : Int64).toInt = (-1) := rfl; have e10 : (10 : Int32).toInt = 10 := rfl; have E10 : (10 : Int64).toInt = 10 := rfl; have e17 : (17 : Int32).toInt = 17 := rfl; have E17 : (17 : Int64).toInt = 17 := rfl; (try simp only [mIn_0, lgc_lt, lgc_gt, lgc_eq, lgc_le, lgc_ge] at c_9); (try simp only [fl_lt, fl_le, fl_eq, fL_lt, fL_le, fL_w] at c_9); first | (rw [spNet, if_pos (by omega)]; first | done | rfl) | (rw [spNet, if_neg (by omega)]; first | done | rfl))⟩)

set_option maxHeartbeats 4000000 in
set_option maxRecDepth 100000 in
theorem k_X12_asNow {l : Launch} {D : va_G} {cy : Nat → ClassId} {b : Nat} {f : gMem} {m : Nat} {a : Nat → Nat} {f0 : gMem} {n : Nat → Int32} {z : Nat → Int64} {F : Nat → Nat → Int32} {G : Nat → Nat → Int64}   (hS : mS cy m a f0 n z F G f) (hF : ∀ i, i < 2400 → F 2 i = -10000) (hn : 0 ≤ (n 0).toInt ∧ (n 0).toInt < 400) : gC l D cy b yX12_asNow cX12_asNow 2 none 1 0 0 [.ref m] f (pV fun f2 => ∃ z2 G2, mS cy m a f0 n z2 F G2 f2) := by
  refine gC_of (by decide) (Nat.le_of_ble_eq_true rfl) ?_
  show gG l _ _ _ D cy b cX12_asNow 2 _ RX12 "asNow" 0 0 f 0 [(0, .ref m)] []
  refine gz_aload_n dX12_asNow_0 rfl rfl ?_
  refine gz_aload_n dX12_asNow_1 rfl rfl ?_
  refine mg_249 hS dX12_asNow_2 ?_
  refine gz_i2l dX12_asNow_5 ?_
  refine mp_340 hS dX12_asNow_6 (fun f_1 hS_1 => ?_)
  refine gz_iconst (v := 0) dX12_asNow_9 (by decide) ?_
  refine gz_istore_n (lv' := [(1, .int 0), (0, .ref m)]) dX12_asNow_10 rfl (by decide) rfl ?_
  refine gz_iload_n dX12_asNow_11 rfl rfl ?_
  refine gz_bipush (v := 6) dX12_asNow_12 (by decide) ?_
  refine gz_icmp_ge (tgt := 39) dX12_asNow_14 (by decide) (fun c_14 => ?_) (fun c_14 => ?_)
  · exact absurd c_14 (by decide)
  ·
    refine gz_aload_n dX12_asNow_17 rfl rfl ?_
    refine mg_94 hS_1 dX12_asNow_18 ?_
    refine gz_iload_n dX12_asNow_21 rfl rfl ?_
    refine gz_aload_n dX12_asNow_22 rfl rfl ?_
    refine gz_iload_n dX12_asNow_23 rfl rfl ?_
    refine gz_aload_n dX12_asNow_24 rfl rfl ?_
    refine mg_249 hS_1 dX12_asNow_25 ?_
    refine scX12_258 (k_X12_thingOn (t := 0) (d := n 0) hS_1 hF ⟨by decide, by decide⟩ hn) hS_1.1 ⟨(Nat.le_of_ble_eq_true rfl), (Nat.le_of_ble_eq_true rfl)⟩ ⟨(Nat.le_of_ble_eq_true rfl), (Nat.le_of_ble_eq_true rfl)⟩ rfl rfl (Nat.le_of_ble_eq_true rfl) dX12_asNow_28 ?_
    intro v9 f9 z9; rw [z9.1, z9.2]
    refine gz_i2l dX12_asNow_31 ?_
    refine m_last 28 hS_1 rfl (N := 6) rfl (vin_T (v := 0) rfl (by decide) (by decide)) dX12_asNow_32 (fun f_2 hS_2 => ?_)
    refine gz_iinc (v := 1) (lv' := [(1, .int 1), (0, .ref m)]) dX12_asNow_33 rfl (by decide) (by decide) rfl ?_
    refine gz_goto (tgt := 11) dX12_asNow_36 (by decide) ?_
    refine gz_iload_n dX12_asNow_11 rfl rfl ?_
    refine gz_bipush (v := 6) dX12_asNow_12 (by decide) ?_
    refine gz_icmp_ge (tgt := 39) dX12_asNow_14 (by decide) (fun c_14_1 => ?_) (fun c_14_1 => ?_)
    · exact absurd c_14_1 (by decide)
    ·
      refine gz_aload_n dX12_asNow_17 rfl rfl ?_
      refine mg_94 hS_2 dX12_asNow_18 ?_
      refine gz_iload_n dX12_asNow_21 rfl rfl ?_
      refine gz_aload_n dX12_asNow_22 rfl rfl ?_
      refine gz_iload_n dX12_asNow_23 rfl rfl ?_
      refine gz_aload_n dX12_asNow_24 rfl rfl ?_
      refine mg_249 hS_2 dX12_asNow_25 ?_
      refine scX12_258 (k_X12_thingOn (t := 1) (d := n 0) hS_2 hF ⟨by decide, by decide⟩ hn) hS_2.1 ⟨(Nat.le_of_ble_eq_true rfl), (Nat.le_of_ble_eq_true rfl)⟩ ⟨(Nat.le_of_ble_eq_true rfl), (Nat.le_of_ble_eq_true rfl)⟩ rfl rfl (Nat.le_of_ble_eq_true rfl) dX12_asNow_28 ?_
      intro v9 f9 z9; rw [z9.1, z9.2]
      refine gz_i2l dX12_asNow_31 ?_
      refine m_last 28 hS_2 rfl (N := 6) rfl (vin_T (v := 1) rfl (by decide) (by decide)) dX12_asNow_32 (fun f_3 hS_3 => ?_)
      refine gz_iinc (v := 2) (lv' := [(1, .int 2), (0, .ref m)]) dX12_asNow_33 rfl (by decide) (by decide) rfl ?_
      refine gz_goto (tgt := 11) dX12_asNow_36 (by decide) ?_
      refine gz_iload_n dX12_asNow_11 rfl rfl ?_
      refine gz_bipush (v := 6) dX12_asNow_12 (by decide) ?_
      refine gz_icmp_ge (tgt := 39) dX12_asNow_14 (by decide) (fun c_14_2 => ?_) (fun c_14_2 => ?_)
      · exact absurd c_14_2 (by decide)
      ·
        refine gz_aload_n dX12_asNow_17 rfl rfl ?_
        refine mg_94 hS_3 dX12_asNow_18 ?_
        refine gz_iload_n dX12_asNow_21 rfl rfl ?_
        refine gz_aload_n dX12_asNow_22 rfl rfl ?_
        refine gz_iload_n dX12_asNow_23 rfl rfl ?_
        refine gz_aload_n dX12_asNow_24 rfl rfl ?_
        refine mg_249 hS_3 dX12_asNow_25 ?_
        refine scX12_258 (k_X12_thingOn (t := 2) (d := n 0) hS_3 hF ⟨by decide, by decide⟩ hn) hS_3.1 ⟨(Nat.le_of_ble_eq_true rfl), (Nat.le_of_ble_eq_true rfl)⟩ ⟨(Nat.le_of_ble_eq_true rfl), (Nat.le_of_ble_eq_true rfl)⟩ rfl rfl (Nat.le_of_ble_eq_true rfl) dX12_asNow_28 ?_
        intro v9 f9 z9; rw [z9.1, z9.2]
        refine gz_i2l dX12_asNow_31 ?_
        refine m_last 28 hS_3 rfl (N := 6) rfl (vin_T (v := 2) rfl (by decide) (by decide)) dX12_asNow_32 (fun f_4 hS_4 => ?_)
        refine gz_iinc (v := 3) (lv' := [(1, .int 3), (0, .ref m)]) dX12_asNow_33 rfl (by decide) (by decide) rfl ?_
        refine gz_goto (tgt := 11) dX12_asNow_36 (by decide) ?_
        refine gz_iload_n dX12_asNow_11 rfl rfl ?_
        refine gz_bipush (v := 6) dX12_asNow_12 (by decide) ?_
        refine gz_icmp_ge (tgt := 39) dX12_asNow_14 (by decide) (fun c_14_3 => ?_) (fun c_14_3 => ?_)
        · exact absurd c_14_3 (by decide)
        ·
          refine gz_aload_n dX12_asNow_17 rfl rfl ?_
          refine mg_94 hS_4 dX12_asNow_18 ?_
          refine gz_iload_n dX12_asNow_21 rfl rfl ?_
          refine gz_aload_n dX12_asNow_22 rfl rfl ?_
          refine gz_iload_n dX12_asNow_23 rfl rfl ?_
          refine gz_aload_n dX12_asNow_24 rfl rfl ?_
          refine mg_249 hS_4 dX12_asNow_25 ?_
          refine scX12_258 (k_X12_thingOn (t := 3) (d := n 0) hS_4 hF ⟨by decide, by decide⟩ hn) hS_4.1 ⟨(Nat.le_of_ble_eq_true rfl), (Nat.le_of_ble_eq_true rfl)⟩ ⟨(Nat.le_of_ble_eq_true rfl), (Nat.le_of_ble_eq_true rfl)⟩ rfl rfl (Nat.le_of_ble_eq_true rfl) dX12_asNow_28 ?_
          intro v9 f9 z9; rw [z9.1, z9.2]
          refine gz_i2l dX12_asNow_31 ?_
          refine m_last 28 hS_4 rfl (N := 6) rfl (vin_T (v := 3) rfl (by decide) (by decide)) dX12_asNow_32 (fun f_5 hS_5 => ?_)
          refine gz_iinc (v := 4) (lv' := [(1, .int 4), (0, .ref m)]) dX12_asNow_33 rfl (by decide) (by decide) rfl ?_
          refine gz_goto (tgt := 11) dX12_asNow_36 (by decide) ?_
          refine gz_iload_n dX12_asNow_11 rfl rfl ?_
          refine gz_bipush (v := 6) dX12_asNow_12 (by decide) ?_
          refine gz_icmp_ge (tgt := 39) dX12_asNow_14 (by decide) (fun c_14_4 => ?_) (fun c_14_4 => ?_)
          · exact absurd c_14_4 (by decide)
          ·
            refine gz_aload_n dX12_asNow_17 rfl rfl ?_
            refine mg_94 hS_5 dX12_asNow_18 ?_
            refine gz_iload_n dX12_asNow_21 rfl rfl ?_
            refine gz_aload_n dX12_asNow_22 rfl rfl ?_
            refine gz_iload_n dX12_asNow_23 rfl rfl ?_
            refine gz_aload_n dX12_asNow_24 rfl rfl ?_
            refine mg_249 hS_5 dX12_asNow_25 ?_
            refine scX12_258 (k_X12_thingOn (t := 4) (d := n 0) hS_5 hF ⟨by decide, by decide⟩ hn) hS_5.1 ⟨(Nat.le_of_ble_eq_true rfl), (Nat.le_of_ble_eq_true rfl)⟩ ⟨(Nat.le_of_ble_eq_true rfl), (Nat.le_of_ble_eq_true rfl)⟩ rfl rfl (Nat.le_of_ble_eq_true rfl) dX12_asNow_28 ?_
            intro v9 f9 z9; rw [z9.1, z9.2]
            refine gz_i2l dX12_asNow_31 ?_
            refine m_last 28 hS_5 rfl (N := 6) rfl (vin_T (v := 4) rfl (by decide) (by decide)) dX12_asNow_32 (fun f_6 hS_6 => ?_)
            refine gz_iinc (v := 5) (lv' := [(1, .int 5), (0, .ref m)]) dX12_asNow_33 rfl (by decide) (by decide) rfl ?_
            refine gz_goto (tgt := 11) dX12_asNow_36 (by decide) ?_
            refine gz_iload_n dX12_asNow_11 rfl rfl ?_
            refine gz_bipush (v := 6) dX12_asNow_12 (by decide) ?_
            refine gz_icmp_ge (tgt := 39) dX12_asNow_14 (by decide) (fun c_14_5 => ?_) (fun c_14_5 => ?_)
            · exact absurd c_14_5 (by decide)
            ·
              refine gz_aload_n dX12_asNow_17 rfl rfl ?_
              refine mg_94 hS_6 dX12_asNow_18 ?_
              refine gz_iload_n dX12_asNow_21 rfl rfl ?_
              refine gz_aload_n dX12_asNow_22 rfl rfl ?_
              refine gz_iload_n dX12_asNow_23 rfl rfl ?_
              refine gz_aload_n dX12_asNow_24 rfl rfl ?_
              refine mg_249 hS_6 dX12_asNow_25 ?_
              refine scX12_258 (k_X12_thingOn (t := 5) (d := n 0) hS_6 hF ⟨by decide, by decide⟩ hn) hS_6.1 ⟨(Nat.le_of_ble_eq_true rfl), (Nat.le_of_ble_eq_true rfl)⟩ ⟨(Nat.le_of_ble_eq_true rfl), (Nat.le_of_ble_eq_true rfl)⟩ rfl rfl (Nat.le_of_ble_eq_true rfl) dX12_asNow_28 ?_
              intro v9 f9 z9; rw [z9.1, z9.2]
              refine gz_i2l dX12_asNow_31 ?_
              refine m_last 28 hS_6 rfl (N := 6) rfl (vin_T (v := 5) rfl (by decide) (by decide)) dX12_asNow_32 (fun f_7 hS_7 => ?_)
              refine gz_iinc (v := 6) (lv' := [(1, .int 6), (0, .ref m)]) dX12_asNow_33 rfl (by decide) (by decide) rfl ?_
              refine gz_goto (tgt := 11) dX12_asNow_36 (by decide) ?_
              refine gz_iload_n dX12_asNow_11 rfl rfl ?_
              refine gz_bipush (v := 6) dX12_asNow_12 (by decide) ?_
              refine gz_icmp_ge (tgt := 39) dX12_asNow_14 (by decide) (fun c_14_6 => ?_) (fun c_14_6 => ?_)
              ·
                exact gz_vret rfl dX12_asNow_39 (Nat.le_of_ble_eq_true rfl) (Nat.le_of_ble_eq_true rfl) (⟨rfl, _, _, hS_7⟩)
              · exact absurd c_14_6 (by decide)

set_option maxHeartbeats 4000000 in
set_option maxRecDepth 100000 in
theorem k_X12_day {l : Launch} {D : va_G} {cy : Nat → ClassId} {b : Nat} {f : gMem} {m : Nat} {a : Nat → Nat} {f0 : gMem} {n : Nat → Int32} {z : Nat → Int64} {F : Nat → Nat → Int32} {G : Nat → Nat → Int64}   (hS : mS cy m a f0 n z F G f) (h0 : n 0 = 0) (h38 : n 38 = 0) (h30 : n 30 = 0) (hF : ∀ i, i < 2400 → F 2 i = -10000) : gC l D cy b yX12_day cX12_day 10 (some .int) 2 0 0 [.ref m] f (pI fun r f2 => r = 0) := by
  refine gC_of (by decide) (Nat.le_of_ble_eq_true rfl) ?_
  show gG l _ _ _ D cy b cX12_day 10 _ RX12 "day" 0 0 f 0 [(0, .ref m)] []
  refine gz_aload_n dX12_day_0 rfl rfl ?_
  refine mg_249 hS dX12_day_1 ?_
  refine gz_ev (w := .int 0) (congrArg Value.int h0) ?_
  refine gz_sipush (v := 399) dX12_day_4 (by decide) ?_
  refine gz_icmp_ne (tgt := 12) dX12_day_7 (by decide) (fun c_7 => ?_) (fun c_7 => ?_)
  ·
    refine gz_aload_n dX12_day_12 rfl rfl ?_
    refine gz_dup dX12_day_13 rfl ?_
    refine mg_249 hS dX12_day_14 ?_
    refine gz_ev (w := .int 0) (congrArg Value.int h0) ?_
    refine gz_iconst (v := 1) dX12_day_17 (by decide) ?_
    refine gz_iadd dX12_day_18 ?_
    refine gz_ev (w := .int 1) (by decide) ?_
    refine mp_249 hS dX12_day_19 (fun f_1 hS_1 => ?_)
    refine gz_aload_n dX12_day_22 rfl rfl ?_
    refine scX12_400 (k_X12_asNow hS_1 hF ⟨by show (0 : Int) ≤ (1 : Int32).toInt; decide, by show (1 : Int32).toInt < 400; decide⟩) hS_1.1 ⟨(Nat.le_of_ble_eq_true rfl), (Nat.le_of_ble_eq_true rfl)⟩ ⟨(Nat.le_of_ble_eq_true rfl), (Nat.le_of_ble_eq_true rfl)⟩ rfl rfl (Nat.le_of_ble_eq_true rfl) dX12_day_23 ?_
    rintro f_q ⟨z2, G2, hS_q⟩
    refine gz_aload_n dX12_day_26 rfl rfl ?_
    refine mg_364 hS_q dX12_day_27 ?_
    refine gz_ev (w := .int 0) (congrArg Value.int h38) ?_
    refine gz_istore_n (lv' := [(1, .int 0), (0, .ref m)]) dX12_day_30 rfl (by decide) rfl ?_
    refine gz_iconst (v := 0) dX12_day_31 (by decide) ?_
    refine gz_istore_n (lv' := [(2, .int 0), (1, .int 0), (0, .ref m)]) dX12_day_32 rfl (by decide) rfl ?_
    refine gz_iload_n dX12_day_33 rfl rfl ?_
    refine gz_aload_n dX12_day_34 rfl rfl ?_
    refine mg_394 hS_q dX12_day_35 ?_
    refine gz_ev (w := .int 0) (congrArg Value.int h30) ?_
    refine gz_icmp_ge (tgt := 182) dX12_day_38 (by decide) (fun c_38 => ?_) (fun c_38 => ?_)
    ·
      refine gz_aload_n dX12_day_182 rfl rfl ?_
      refine mg_364 hS_q dX12_day_183 ?_
      refine gz_ev (w := .int 0) (congrArg Value.int h38) ?_
      refine gz_iload_n dX12_day_186 rfl rfl ?_
      refine gz_isub dX12_day_187 ?_
      refine gz_ev (w := .int 0) (by decide) ?_
      exact gz_iret rfl dX12_day_188 (Nat.le_of_ble_eq_true rfl) (Nat.le_of_ble_eq_true rfl) (⟨_, rfl, rfl⟩)
    · exact absurd c_38 (by decide)
  · exact absurd c_7 (by decide)

set_option maxHeartbeats 4000000 in
set_option maxRecDepth 100000 in
theorem k_X12_see_ {l : Launch} {D : va_G} {cy : Nat → ClassId} {b : Nat} {f : gMem} {m : Nat} {a : Nat → Nat} {f0 : gMem} {n : Nat → Int32} {z : Nat → Int64} {F : Nat → Nat → Int32} {G : Nat → Nat → Int64}   (hS : mS cy m a f0 n z F G f) (h4 : n 4 = 0) (h21 : n 21 = 0) : gC l D cy b yX12_see_ cX12_see_ 1 (some .int) 0 0 0 [.ref m] f (pI fun r f2 => r = -1 ∧ f2 = f) := by
  refine gC_of (by decide) (Nat.le_of_ble_eq_true rfl) ?_
  show gG l _ _ _ D cy b cX12_see_ 1 _ RX12 "see" 0 0 f 0 [(0, .ref m)] []
  refine gz_aload_n dX12_see__0 rfl rfl ?_
  refine mg_272 hS dX12_see__1 ?_
  refine gz_ev (w := .int 0) (congrArg Value.int h21) ?_
  refine gz_aload_n dX12_see__4 rfl rfl ?_
  refine mg_262 hS dX12_see__5 ?_
  refine gz_ev (w := .int 0) (congrArg Value.int h4) ?_
  refine gz_icmp_ge (tgt := 38) dX12_see__8 (by decide) (fun c_8 => ?_) (fun c_8 => ?_)
  ·
    refine gz_aload_n dX12_see__38 rfl rfl ?_
    refine mg_272 hS dX12_see__39 ?_
    refine gz_ev (w := .int 0) (congrArg Value.int h21) ?_
    refine gz_aload_n dX12_see__42 rfl rfl ?_
    refine mg_262 hS dX12_see__43 ?_
    refine gz_ev (w := .int 0) (congrArg Value.int h4) ?_
    refine gz_icmp_ge (tgt := 65) dX12_see__46 (by decide) (fun c_46 => ?_) (fun c_46 => ?_)
    ·
      refine gz_iconst (v := (-1)) dX12_see__65 (by decide) ?_
      exact gz_iret rfl dX12_see__66 (Nat.le_of_ble_eq_true rfl) (Nat.le_of_ble_eq_true rfl) (⟨_, rfl, rfl, rfl⟩)
    · exact absurd c_46 (by decide)
  · exact absurd c_8 (by decide)

set_option maxHeartbeats 4000000 in
set_option maxRecDepth 100000 in
theorem k_X12_isLetter {l : Launch} {D : va_G} {cy : Nat → ClassId} {b : Nat} {f : gMem} {m : Nat} {a : Nat → Nat} {f0 : gMem} {n : Nat → Int32} {z : Nat → Int64} {F : Nat → Nat → Int32} {G : Nat → Nat → Int64}   (hS : mS cy m a f0 n z F G f) (h4 : n 4 = 0) : gC l D cy b yX12_isLetter cX12_isLetter 2 (some .boolean) 0 0 0 [.ref m, .int 0] f (pI fun r f2 => r = 0 ∧ f2 = f) := by
  refine gC_of (by decide) (Nat.le_of_ble_eq_true rfl) ?_
  show gG l _ _ _ D cy b cX12_isLetter 2 _ RX12 "isLetter" 0 0 f 0 [(0, .ref m), (1, .int 0)] []
  refine gz_iload_n dX12_isLetter_0 rfl rfl ?_
  refine gz_aload_n dX12_isLetter_1 rfl rfl ?_
  refine mg_262 hS dX12_isLetter_2 ?_
  refine gz_ev (w := .int 0) (congrArg Value.int h4) ?_
  refine gz_icmp_ge (tgt := 34) dX12_isLetter_5 (by decide) (fun c_5 => ?_) (fun c_5 => ?_)
  ·
    refine gz_iconst (v := 0) dX12_isLetter_34 (by decide) ?_
    exact gz_zret rfl (by decide) dX12_isLetter_35 (Nat.le_of_ble_eq_true rfl) (Nat.le_of_ble_eq_true rfl) (⟨_, rfl, rfl, rfl⟩)
  · exact absurd c_5 (by decide)

set_option maxHeartbeats 4000000 in
set_option maxRecDepth 100000 in
theorem k_X12_letters {l : Launch} {D : va_G} {cy : Nat → ClassId} {b : Nat} {f : gMem} {m : Nat} {a : Nat → Nat} {f0 : gMem} {n : Nat → Int32} {z : Nat → Int64} {F : Nat → Nat → Int32} {G : Nat → Nat → Int64}   (hS : mS cy m a f0 n z F G f) (h4 : n 4 = 0) (h21 : n 21 = 0) : gC l D cy b yX12_letters cX12_letters 4 (some .long) 1 0 0 [.ref m] f (pL fun r f2 => r = 0 ∧ f2 = f) := by
  refine gC_of (by decide) (Nat.le_of_ble_eq_true rfl) ?_
  show gG l _ _ _ D cy b cX12_letters 4 _ RX12 "letters" 0 0 f 0 [(0, .ref m)] []
  refine gz_aload_n dX12_letters_0 rfl rfl ?_
  refine scX12_275 (k_X12_see_ hS h4 h21) hS.1 ⟨(Nat.le_of_ble_eq_true rfl), (Nat.le_of_ble_eq_true rfl)⟩ ⟨(Nat.le_of_ble_eq_true rfl), (Nat.le_of_ble_eq_true rfl)⟩ rfl rfl (Nat.le_of_ble_eq_true rfl) dX12_letters_1 ?_
  intro v9 f9 z9; rw [z9.1, z9.2]
  refine gz_pop dX12_letters_4 rfl ?_
  refine gz_lconst (v := 0) dX12_letters_5 (by decide) ?_
  refine gz_lstore_n (lv' := [(1, .long 0), (0, .ref m)]) dX12_letters_6 rfl (by decide) rfl ?_
  refine gz_iconst (v := 0) dX12_letters_7 (by decide) ?_
  refine gz_istore_n (lv' := [(3, .int 0), (1, .long 0), (0, .ref m)]) dX12_letters_8 rfl (by decide) rfl ?_
  refine gz_aload_n dX12_letters_9 rfl rfl ?_
  refine gz_aload_n dX12_letters_10 rfl rfl ?_
  refine mg_272 hS dX12_letters_11 ?_
  refine gz_ev (w := .int 0) (congrArg Value.int h21) ?_
  refine gz_iload_n dX12_letters_14 rfl rfl ?_
  refine gz_iadd dX12_letters_15 ?_
  refine gz_ev (w := .int 0) (by decide) ?_
  refine scX12_290 (k_X12_isLetter hS h4) hS.1 ⟨(Nat.le_of_ble_eq_true rfl), (Nat.le_of_ble_eq_true rfl)⟩ ⟨(Nat.le_of_ble_eq_true rfl), (Nat.le_of_ble_eq_true rfl)⟩ rfl rfl (Nat.le_of_ble_eq_true rfl) dX12_letters_16 ?_
  intro v9 f9 z9; rw [z9.1, z9.2]
  refine gz_if_eq (tgt := 52) dX12_letters_19 (by decide) (fun c_19 => ?_) (fun c_19 => ?_)
  ·
    refine gz_iload_n dX12_letters_52 rfl rfl ?_
    refine gz_bipush (v := 7) dX12_letters_53 (by decide) ?_
    refine gz_icmp_le (tgt := 64) dX12_letters_55 (by decide) (fun c_55 => ?_) (fun c_55 => ?_)
    ·
      refine gz_lload_n dX12_letters_64 rfl rfl ?_
      exact gz_lret rfl dX12_letters_65 (Nat.le_of_ble_eq_true rfl) (Nat.le_of_ble_eq_true rfl) (⟨_, rfl, rfl, rfl⟩)
    · exact absurd c_55 (by decide)
  · exact absurd c_19 (by decide)

set_option maxHeartbeats 4000000 in
set_option maxRecDepth 100000 in
theorem k_X12_fails {l : Launch} {D : va_G} {cy : Nat → ClassId} {b : Nat} {f : gMem} {m : Nat} {a : Nat → Nat} {f0 : gMem} {n : Nat → Int32} {z : Nat → Int64} {F : Nat → Nat → Int32} {G : Nat → Nat → Int64}   (hS : mS cy m a f0 n z F G f) (h22 : n 22 = 0) : gC l D cy b yX12_fails cX12_fails 3 (some .boolean) 0 0 0 [.ref m, .int 0, .int 0] f (pI fun r f2 => r = 0 ∧ ∃ n2, mS cy m a f0 n2 z F G f2 ∧ n2 22 = 1) := by
  refine gC_of (by decide) (Nat.le_of_ble_eq_true rfl) ?_
  show gG l _ _ _ D cy b cX12_fails 3 _ RX12 "fails" 0 0 f 0 [(0, .ref m), (1, .int 0), (2, .int 0)] []
  refine gz_aload_n dX12_fails_0 rfl rfl ?_
  refine mg_269 hS dX12_fails_1 ?_
  refine gz_ev (w := .int 0) (congrArg Value.int h22) ?_
  refine gz_if_ne (tgt := 19) dX12_fails_4 (by decide) (fun c_4 => ?_) (fun c_4 => ?_)
  · exact absurd c_4 (by decide)
  ·
    refine gz_aload_n dX12_fails_7 rfl rfl ?_
    refine gz_iconst (v := 1) dX12_fails_8 (by decide) ?_
    refine gz_bipush (v := 8) dX12_fails_9 (by decide) ?_
    refine gz_iload_n dX12_fails_11 rfl rfl ?_
    refine gz_imul dX12_fails_12 ?_
    refine gz_ev (w := .int 0) (by decide) ?_
    refine gz_iadd dX12_fails_13 ?_
    refine gz_ev (w := .int 1) (by decide) ?_
    refine gz_iload_n dX12_fails_14 rfl rfl ?_
    refine gz_iadd dX12_fails_15 ?_
    refine gz_ev (w := .int 1) (by decide) ?_
    refine mp_269 hS dX12_fails_16 (fun f_1 hS_1 => ?_)
    refine gz_iconst (v := 0) dX12_fails_19 (by decide) ?_
    exact gz_zret rfl (by decide) dX12_fails_20 (Nat.le_of_ble_eq_true rfl) (Nat.le_of_ble_eq_true rfl) (⟨_, rfl, rfl, _, hS_1, rfl⟩)

set_option maxHeartbeats 4000000 in
set_option maxRecDepth 100000 in
theorem k_X12_begins {l : Launch} {D : va_G} {cy : Nat → ClassId} {b : Nat} {f : gMem} {m : Nat} {a : Nat → Nat} {f0 : gMem} {n : Nat → Int32} {z : Nat → Int64} {F : Nat → Nat → Int32} {G : Nat → Nat → Int64}   (hS : mS cy m a f0 n z F G f) (h4 : n 4 = 0) (h21 : n 21 = 0) (h22 : n 22 = 0) (hG : ∀ i, i < 11 → G 27 i ≠ 0) : gC l D cy b yX12_begins cX12_begins 9 (some .boolean) 2 0 0 [.ref m] f (pI fun r f2 => r = 0 ∧ ∃ n2, mS cy m a f0 n2 z F G f2 ∧ n2 22 = 1) := by
  refine gC_of (by decide) (Nat.le_of_ble_eq_true rfl) ?_
  show gG l _ _ _ D cy b cX12_begins 9 _ RX12 "begins" 0 0 f 0 [(0, .ref m)] []
  refine gz_aload_n dX12_begins_0 rfl rfl ?_
  refine scX12_295 (k_X12_letters hS h4 h21) hS.1 ⟨(Nat.le_of_ble_eq_true rfl), (Nat.le_of_ble_eq_true rfl)⟩ ⟨(Nat.le_of_ble_eq_true rfl), (Nat.le_of_ble_eq_true rfl)⟩ rfl rfl (Nat.le_of_ble_eq_true rfl) dX12_begins_1 ?_
  intro v9 f9 z9; rw [z9.1, z9.2]
  refine gz_lstore_n (lv' := [(1, .long 0), (0, .ref m)]) dX12_begins_4 rfl (by decide) rfl ?_
  refine gz_aload_n dX12_begins_5 rfl rfl ?_
  refine mg_272 hS dX12_begins_6 ?_
  refine gz_ev (w := .int 0) (congrArg Value.int h21) ?_
  refine gz_istore_n (lv' := [(3, .int 0), (1, .long 0), (0, .ref m)]) dX12_begins_9 rfl (by decide) rfl ?_
  refine gz_iconst (v := (-1)) dX12_begins_10 (by decide) ?_
  refine gz_istore (lv' := [(4, .int (-1)), (3, .int 0), (1, .long 0), (0, .ref m)]) dX12_begins_11 (by decide) rfl ?_
  refine gz_iconst (v := 0) dX12_begins_13 (by decide) ?_
  refine gz_istore (lv' := [(5, .int 0), (4, .int (-1)), (3, .int 0), (1, .long 0), (0, .ref m)]) dX12_begins_14 (by decide) rfl ?_
  refine gz_iload dX12_begins_16 rfl ?_
  refine gz_bipush (v := 10) dX12_begins_18 (by decide) ?_
  refine gz_icmp_gt (tgt := 50) dX12_begins_20 (by decide) (fun c_20 => ?_) (fun c_20 => ?_)
  · exact absurd c_20 (by decide)
  ·
    refine gz_aload_n dX12_begins_23 rfl rfl ?_
    refine mg_90 hS dX12_begins_24 ?_
    refine gz_iload dX12_begins_27 rfl ?_
    refine m_lald 27 hS rfl (N := 11) rfl (vin_T (v := 0) rfl (by decide) (by decide)) dX12_begins_29 ?_
    refine gz_lload_n dX12_begins_30 rfl rfl ?_
    refine gz_lcmp dX12_begins_31 ?_
    refine gz_if_ne (tgt := 40) dX12_begins_32 (by decide) (fun c_32 => ?_) (fun c_32 => ?_)
    ·
      refine gz_iload dX12_begins_40 rfl ?_
      refine gz_istore (lv' := [(4, .int (-1)), (5, .int 0), (3, .int 0), (1, .long 0), (0, .ref m)]) dX12_begins_42 (by decide) rfl ?_
      refine gz_iinc (v := 1) (lv' := [(5, .int 1), (4, .int (-1)), (3, .int 0), (1, .long 0), (0, .ref m)]) dX12_begins_44 rfl (by decide) (by decide) rfl ?_
      refine gz_goto (tgt := 16) dX12_begins_47 (by decide) ?_
      refine gz_iload dX12_begins_16 rfl ?_
      refine gz_bipush (v := 10) dX12_begins_18 (by decide) ?_
      refine gz_icmp_gt (tgt := 50) dX12_begins_20 (by decide) (fun c_20_1 => ?_) (fun c_20_1 => ?_)
      · exact absurd c_20_1 (by decide)
      ·
        refine gz_aload_n dX12_begins_23 rfl rfl ?_
        refine mg_90 hS dX12_begins_24 ?_
        refine gz_iload dX12_begins_27 rfl ?_
        refine m_lald 27 hS rfl (N := 11) rfl (vin_T (v := 1) rfl (by decide) (by decide)) dX12_begins_29 ?_
        refine gz_lload_n dX12_begins_30 rfl rfl ?_
        refine gz_lcmp dX12_begins_31 ?_
        refine gz_if_ne (tgt := 40) dX12_begins_32 (by decide) (fun c_32_2 => ?_) (fun c_32_2 => ?_)
        ·
          refine gz_iload dX12_begins_40 rfl ?_
          refine gz_istore (lv' := [(4, .int (-1)), (5, .int 1), (3, .int 0), (1, .long 0), (0, .ref m)]) dX12_begins_42 (by decide) rfl ?_
          refine gz_iinc (v := 2) (lv' := [(5, .int 2), (4, .int (-1)), (3, .int 0), (1, .long 0), (0, .ref m)]) dX12_begins_44 rfl (by decide) (by decide) rfl ?_
          refine gz_goto (tgt := 16) dX12_begins_47 (by decide) ?_
          refine gz_iload dX12_begins_16 rfl ?_
          refine gz_bipush (v := 10) dX12_begins_18 (by decide) ?_
          refine gz_icmp_gt (tgt := 50) dX12_begins_20 (by decide) (fun c_20_3 => ?_) (fun c_20_3 => ?_)
          · exact absurd c_20_3 (by decide)
          ·
            refine gz_aload_n dX12_begins_23 rfl rfl ?_
            refine mg_90 hS dX12_begins_24 ?_
            refine gz_iload dX12_begins_27 rfl ?_
            refine m_lald 27 hS rfl (N := 11) rfl (vin_T (v := 2) rfl (by decide) (by decide)) dX12_begins_29 ?_
            refine gz_lload_n dX12_begins_30 rfl rfl ?_
            refine gz_lcmp dX12_begins_31 ?_
            refine gz_if_ne (tgt := 40) dX12_begins_32 (by decide) (fun c_32_4 => ?_) (fun c_32_4 => ?_)
            ·
              refine gz_iload dX12_begins_40 rfl ?_
              refine gz_istore (lv' := [(4, .int (-1)), (5, .int 2), (3, .int 0), (1, .long 0), (0, .ref m)]) dX12_begins_42 (by decide) rfl ?_
              refine gz_iinc (v := 3) (lv' := [(5, .int 3), (4, .int (-1)), (3, .int 0), (1, .long 0), (0, .ref m)]) dX12_begins_44 rfl (by decide) (by decide) rfl ?_
              refine gz_goto (tgt := 16) dX12_begins_47 (by decide) ?_
              refine gz_iload dX12_begins_16 rfl ?_
              refine gz_bipush (v := 10) dX12_begins_18 (by decide) ?_
              refine gz_icmp_gt (tgt := 50) dX12_begins_20 (by decide) (fun c_20_5 => ?_) (fun c_20_5 => ?_)
              · exact absurd c_20_5 (by decide)
              ·
                refine gz_aload_n dX12_begins_23 rfl rfl ?_
                refine mg_90 hS dX12_begins_24 ?_
                refine gz_iload dX12_begins_27 rfl ?_
                refine m_lald 27 hS rfl (N := 11) rfl (vin_T (v := 3) rfl (by decide) (by decide)) dX12_begins_29 ?_
                refine gz_lload_n dX12_begins_30 rfl rfl ?_
                refine gz_lcmp dX12_begins_31 ?_
                refine gz_if_ne (tgt := 40) dX12_begins_32 (by decide) (fun c_32_6 => ?_) (fun c_32_6 => ?_)
                ·
                  refine gz_iload dX12_begins_40 rfl ?_
                  refine gz_istore (lv' := [(4, .int (-1)), (5, .int 3), (3, .int 0), (1, .long 0), (0, .ref m)]) dX12_begins_42 (by decide) rfl ?_
                  refine gz_iinc (v := 4) (lv' := [(5, .int 4), (4, .int (-1)), (3, .int 0), (1, .long 0), (0, .ref m)]) dX12_begins_44 rfl (by decide) (by decide) rfl ?_
                  refine gz_goto (tgt := 16) dX12_begins_47 (by decide) ?_
                  refine gz_iload dX12_begins_16 rfl ?_
                  refine gz_bipush (v := 10) dX12_begins_18 (by decide) ?_
                  refine gz_icmp_gt (tgt := 50) dX12_begins_20 (by decide) (fun c_20_7 => ?_) (fun c_20_7 => ?_)
                  · exact absurd c_20_7 (by decide)
                  ·
                    refine gz_aload_n dX12_begins_23 rfl rfl ?_
                    refine mg_90 hS dX12_begins_24 ?_
                    refine gz_iload dX12_begins_27 rfl ?_
                    refine m_lald 27 hS rfl (N := 11) rfl (vin_T (v := 4) rfl (by decide) (by decide)) dX12_begins_29 ?_
                    refine gz_lload_n dX12_begins_30 rfl rfl ?_
                    refine gz_lcmp dX12_begins_31 ?_
                    refine gz_if_ne (tgt := 40) dX12_begins_32 (by decide) (fun c_32_8 => ?_) (fun c_32_8 => ?_)
                    ·
                      refine gz_iload dX12_begins_40 rfl ?_
                      refine gz_istore (lv' := [(4, .int (-1)), (5, .int 4), (3, .int 0), (1, .long 0), (0, .ref m)]) dX12_begins_42 (by decide) rfl ?_
                      refine gz_iinc (v := 5) (lv' := [(5, .int 5), (4, .int (-1)), (3, .int 0), (1, .long 0), (0, .ref m)]) dX12_begins_44 rfl (by decide) (by decide) rfl ?_
                      refine gz_goto (tgt := 16) dX12_begins_47 (by decide) ?_
                      refine gz_iload dX12_begins_16 rfl ?_
                      refine gz_bipush (v := 10) dX12_begins_18 (by decide) ?_
                      refine gz_icmp_gt (tgt := 50) dX12_begins_20 (by decide) (fun c_20_9 => ?_) (fun c_20_9 => ?_)
                      · exact absurd c_20_9 (by decide)
                      ·
                        refine gz_aload_n dX12_begins_23 rfl rfl ?_
                        refine mg_90 hS dX12_begins_24 ?_
                        refine gz_iload dX12_begins_27 rfl ?_
                        refine m_lald 27 hS rfl (N := 11) rfl (vin_T (v := 5) rfl (by decide) (by decide)) dX12_begins_29 ?_
                        refine gz_lload_n dX12_begins_30 rfl rfl ?_
                        refine gz_lcmp dX12_begins_31 ?_
                        refine gz_if_ne (tgt := 40) dX12_begins_32 (by decide) (fun c_32_10 => ?_) (fun c_32_10 => ?_)
                        ·
                          refine gz_iload dX12_begins_40 rfl ?_
                          refine gz_istore (lv' := [(4, .int (-1)), (5, .int 5), (3, .int 0), (1, .long 0), (0, .ref m)]) dX12_begins_42 (by decide) rfl ?_
                          refine gz_iinc (v := 6) (lv' := [(5, .int 6), (4, .int (-1)), (3, .int 0), (1, .long 0), (0, .ref m)]) dX12_begins_44 rfl (by decide) (by decide) rfl ?_
                          refine gz_goto (tgt := 16) dX12_begins_47 (by decide) ?_
                          refine gz_iload dX12_begins_16 rfl ?_
                          refine gz_bipush (v := 10) dX12_begins_18 (by decide) ?_
                          refine gz_icmp_gt (tgt := 50) dX12_begins_20 (by decide) (fun c_20_11 => ?_) (fun c_20_11 => ?_)
                          · exact absurd c_20_11 (by decide)
                          ·
                            refine gz_aload_n dX12_begins_23 rfl rfl ?_
                            refine mg_90 hS dX12_begins_24 ?_
                            refine gz_iload dX12_begins_27 rfl ?_
                            refine m_lald 27 hS rfl (N := 11) rfl (vin_T (v := 6) rfl (by decide) (by decide)) dX12_begins_29 ?_
                            refine gz_lload_n dX12_begins_30 rfl rfl ?_
                            refine gz_lcmp dX12_begins_31 ?_
                            refine gz_if_ne (tgt := 40) dX12_begins_32 (by decide) (fun c_32_12 => ?_) (fun c_32_12 => ?_)
                            ·
                              refine gz_iload dX12_begins_40 rfl ?_
                              refine gz_istore (lv' := [(4, .int (-1)), (5, .int 6), (3, .int 0), (1, .long 0), (0, .ref m)]) dX12_begins_42 (by decide) rfl ?_
                              refine gz_iinc (v := 7) (lv' := [(5, .int 7), (4, .int (-1)), (3, .int 0), (1, .long 0), (0, .ref m)]) dX12_begins_44 rfl (by decide) (by decide) rfl ?_
                              refine gz_goto (tgt := 16) dX12_begins_47 (by decide) ?_
                              refine gz_iload dX12_begins_16 rfl ?_
                              refine gz_bipush (v := 10) dX12_begins_18 (by decide) ?_
                              refine gz_icmp_gt (tgt := 50) dX12_begins_20 (by decide) (fun c_20_13 => ?_) (fun c_20_13 => ?_)
                              · exact absurd c_20_13 (by decide)
                              ·
                                refine gz_aload_n dX12_begins_23 rfl rfl ?_
                                refine mg_90 hS dX12_begins_24 ?_
                                refine gz_iload dX12_begins_27 rfl ?_
                                refine m_lald 27 hS rfl (N := 11) rfl (vin_T (v := 7) rfl (by decide) (by decide)) dX12_begins_29 ?_
                                refine gz_lload_n dX12_begins_30 rfl rfl ?_
                                refine gz_lcmp dX12_begins_31 ?_
                                refine gz_if_ne (tgt := 40) dX12_begins_32 (by decide) (fun c_32_14 => ?_) (fun c_32_14 => ?_)
                                ·
                                  refine gz_iload dX12_begins_40 rfl ?_
                                  refine gz_istore (lv' := [(4, .int (-1)), (5, .int 7), (3, .int 0), (1, .long 0), (0, .ref m)]) dX12_begins_42 (by decide) rfl ?_
                                  refine gz_iinc (v := 8) (lv' := [(5, .int 8), (4, .int (-1)), (3, .int 0), (1, .long 0), (0, .ref m)]) dX12_begins_44 rfl (by decide) (by decide) rfl ?_
                                  refine gz_goto (tgt := 16) dX12_begins_47 (by decide) ?_
                                  refine gz_iload dX12_begins_16 rfl ?_
                                  refine gz_bipush (v := 10) dX12_begins_18 (by decide) ?_
                                  refine gz_icmp_gt (tgt := 50) dX12_begins_20 (by decide) (fun c_20_15 => ?_) (fun c_20_15 => ?_)
                                  · exact absurd c_20_15 (by decide)
                                  ·
                                    refine gz_aload_n dX12_begins_23 rfl rfl ?_
                                    refine mg_90 hS dX12_begins_24 ?_
                                    refine gz_iload dX12_begins_27 rfl ?_
                                    refine m_lald 27 hS rfl (N := 11) rfl (vin_T (v := 8) rfl (by decide) (by decide)) dX12_begins_29 ?_
                                    refine gz_lload_n dX12_begins_30 rfl rfl ?_
                                    refine gz_lcmp dX12_begins_31 ?_
                                    refine gz_if_ne (tgt := 40) dX12_begins_32 (by decide) (fun c_32_16 => ?_) (fun c_32_16 => ?_)
                                    ·
                                      refine gz_iload dX12_begins_40 rfl ?_
                                      refine gz_istore (lv' := [(4, .int (-1)), (5, .int 8), (3, .int 0), (1, .long 0), (0, .ref m)]) dX12_begins_42 (by decide) rfl ?_
                                      refine gz_iinc (v := 9) (lv' := [(5, .int 9), (4, .int (-1)), (3, .int 0), (1, .long 0), (0, .ref m)]) dX12_begins_44 rfl (by decide) (by decide) rfl ?_
                                      refine gz_goto (tgt := 16) dX12_begins_47 (by decide) ?_
                                      refine gz_iload dX12_begins_16 rfl ?_
                                      refine gz_bipush (v := 10) dX12_begins_18 (by decide) ?_
                                      refine gz_icmp_gt (tgt := 50) dX12_begins_20 (by decide) (fun c_20_17 => ?_) (fun c_20_17 => ?_)
                                      · exact absurd c_20_17 (by decide)
                                      ·
                                        refine gz_aload_n dX12_begins_23 rfl rfl ?_
                                        refine mg_90 hS dX12_begins_24 ?_
                                        refine gz_iload dX12_begins_27 rfl ?_
                                        refine m_lald 27 hS rfl (N := 11) rfl (vin_T (v := 9) rfl (by decide) (by decide)) dX12_begins_29 ?_
                                        refine gz_lload_n dX12_begins_30 rfl rfl ?_
                                        refine gz_lcmp dX12_begins_31 ?_
                                        refine gz_if_ne (tgt := 40) dX12_begins_32 (by decide) (fun c_32_18 => ?_) (fun c_32_18 => ?_)
                                        ·
                                          refine gz_iload dX12_begins_40 rfl ?_
                                          refine gz_istore (lv' := [(4, .int (-1)), (5, .int 9), (3, .int 0), (1, .long 0), (0, .ref m)]) dX12_begins_42 (by decide) rfl ?_
                                          refine gz_iinc (v := 10) (lv' := [(5, .int 10), (4, .int (-1)), (3, .int 0), (1, .long 0), (0, .ref m)]) dX12_begins_44 rfl (by decide) (by decide) rfl ?_
                                          refine gz_goto (tgt := 16) dX12_begins_47 (by decide) ?_
                                          refine gz_iload dX12_begins_16 rfl ?_
                                          refine gz_bipush (v := 10) dX12_begins_18 (by decide) ?_
                                          refine gz_icmp_gt (tgt := 50) dX12_begins_20 (by decide) (fun c_20_19 => ?_) (fun c_20_19 => ?_)
                                          · exact absurd c_20_19 (by decide)
                                          ·
                                            refine gz_aload_n dX12_begins_23 rfl rfl ?_
                                            refine mg_90 hS dX12_begins_24 ?_
                                            refine gz_iload dX12_begins_27 rfl ?_
                                            refine m_lald 27 hS rfl (N := 11) rfl (vin_T (v := 10) rfl (by decide) (by decide)) dX12_begins_29 ?_
                                            refine gz_lload_n dX12_begins_30 rfl rfl ?_
                                            refine gz_lcmp dX12_begins_31 ?_
                                            refine gz_if_ne (tgt := 40) dX12_begins_32 (by decide) (fun c_32_20 => ?_) (fun c_32_20 => ?_)
                                            ·
                                              refine gz_iload dX12_begins_40 rfl ?_
                                              refine gz_istore (lv' := [(4, .int (-1)), (5, .int 10), (3, .int 0), (1, .long 0), (0, .ref m)]) dX12_begins_42 (by decide) rfl ?_
                                              refine gz_iinc (v := 11) (lv' := [(5, .int 11), (4, .int (-1)), (3, .int 0), (1, .long 0), (0, .ref m)]) dX12_begins_44 rfl (by decide) (by decide) rfl ?_
                                              refine gz_goto (tgt := 16) dX12_begins_47 (by decide) ?_
                                              refine gz_iload dX12_begins_16 rfl ?_
                                              refine gz_bipush (v := 10) dX12_begins_18 (by decide) ?_
                                              refine gz_icmp_gt (tgt := 50) dX12_begins_20 (by decide) (fun c_20_21 => ?_) (fun c_20_21 => ?_)
                                              ·
                                                refine gz_iload dX12_begins_50 rfl ?_
                                                refine gz_if_ge (tgt := 62) dX12_begins_52 (by decide) (fun c_52 => ?_) (fun c_52 => ?_)
                                                · exact absurd c_52 (by decide)
                                                ·
                                                  refine gz_aload_n dX12_begins_55 rfl rfl ?_
                                                  refine gz_iconst (v := 0) dX12_begins_56 (by decide) ?_
                                                  refine gz_iload_n dX12_begins_57 rfl rfl ?_
                                                  refine scX12_279 (k_X12_fails hS h22) hS.1 ⟨(Nat.le_of_ble_eq_true rfl), (Nat.le_of_ble_eq_true rfl)⟩ ⟨(Nat.le_of_ble_eq_true rfl), (Nat.le_of_ble_eq_true rfl)⟩ rfl rfl (Nat.le_of_ble_eq_true rfl) dX12_begins_58 ?_
                                                  rintro v9 f_q ⟨z9, n2, hS_q, hn2⟩; rw [z9]
                                                  exact gz_zret rfl (by decide) dX12_begins_61 (Nat.le_of_ble_eq_true rfl) (Nat.le_of_ble_eq_true rfl) (⟨_, rfl, rfl, _, hS_q, hn2⟩)
                                              · exact absurd c_20_21 (by decide)
                                            · exact absurd (lgc_eq.mp c_32_20) (hG _ (by decide))
                                        · exact absurd (lgc_eq.mp c_32_18) (hG _ (by decide))
                                    · exact absurd (lgc_eq.mp c_32_16) (hG _ (by decide))
                                · exact absurd (lgc_eq.mp c_32_14) (hG _ (by decide))
                            · exact absurd (lgc_eq.mp c_32_12) (hG _ (by decide))
                        · exact absurd (lgc_eq.mp c_32_10) (hG _ (by decide))
                    · exact absurd (lgc_eq.mp c_32_8) (hG _ (by decide))
                · exact absurd (lgc_eq.mp c_32_6) (hG _ (by decide))
            · exact absurd (lgc_eq.mp c_32_4) (hG _ (by decide))
        · exact absurd (lgc_eq.mp c_32_2) (hG _ (by decide))
    · exact absurd (lgc_eq.mp c_32) (hG _ (by decide))

set_option maxHeartbeats 4000000 in
set_option maxRecDepth 100000 in
theorem k_X12_text {l : Launch} {D : va_G} {cy : Nat → ClassId} {b : Nat} {f : gMem} {m : Nat} {a : Nat → Nat} {f0 : gMem} {n : Nat → Int32} {z : Nat → Int64} {F : Nat → Nat → Int32} {G : Nat → Nat → Int64}   (hS : mS cy m a f0 n z F G f) (h4 : n 4 = 0) (h5 : n 5 = 0) (h21 : n 21 = 0) (h22 : n 22 = 0) (hG : ∀ i, i < 11 → G 27 i ≠ 0) : gC l D cy b yX12_text cX12_text 2 (some .boolean) 3 0 0 [.ref m] f (pI fun r f2 => r = 0 ∧ ∃ n2 F2, mS cy m a f0 n2 z F2 G f2 ∧ n2 22 = 1) := by
  refine gC_of (by decide) (Nat.le_of_ble_eq_true rfl) ?_
  show gG l _ _ _ D cy b cX12_text 2 _ RX12 "text" 0 0 f 0 [(0, .ref m)] []
  refine gz_aload_n dX12_text_0 rfl rfl ?_
  refine gz_iconst (v := 0) dX12_text_1 (by decide) ?_
  refine mp_319 hS dX12_text_2 (fun f_1 hS_1 => ?_)
  refine gz_aload_n dX12_text_5 rfl rfl ?_
  refine mg_17 hS_1 dX12_text_6 ?_
  refine gz_aload_n dX12_text_9 rfl rfl ?_
  refine mg_307 hS_1 dX12_text_10 ?_
  refine gz_ev (w := .int 0) (congrArg Value.int h5) ?_
  refine gz_iconst (v := 0) dX12_text_13 (by decide) ?_
  refine m_iast 6 hS_1 rfl (N := 22) rfl (vin_T (v := 0) rfl (by decide) (by decide)) dX12_text_14 (fun f_2 hS_2 => ?_)
  refine gz_aload_n dX12_text_15 rfl rfl ?_
  refine mg_50 hS_2 dX12_text_16 ?_
  refine gz_aload_n dX12_text_19 rfl rfl ?_
  refine mg_307 hS_2 dX12_text_20 ?_
  refine gz_ev (w := .int 0) (congrArg Value.int h5) ?_
  refine gz_iconst (v := 0) dX12_text_23 (by decide) ?_
  refine m_iast 17 hS_2 rfl (N := 22) rfl (vin_T (v := 0) rfl (by decide) (by decide)) dX12_text_24 (fun f_3 hS_3 => ?_)
  refine gz_aload_n dX12_text_25 rfl rfl ?_
  refine mg_319 hS_3 dX12_text_26 ?_
  refine gz_istore_n (lv' := [(1, .int 0), (0, .ref m)]) dX12_text_29 rfl (by decide) rfl ?_
  refine gz_aload_n dX12_text_30 rfl rfl ?_
  refine scX12_328 (k_X12_begins (n := va_up n 24 0) hS_3 h4 h21 h22 hG) hS_3.1 ⟨(Nat.le_of_ble_eq_true rfl), (Nat.le_of_ble_eq_true rfl)⟩ ⟨(Nat.le_of_ble_eq_true rfl), (Nat.le_of_ble_eq_true rfl)⟩ rfl rfl (Nat.le_of_ble_eq_true rfl) dX12_text_31 ?_
  rintro v9 f_q ⟨z9, n2, hS_q, hn2⟩; rw [z9]
  refine gz_if_ne (tgt := 39) dX12_text_34 (by decide) (fun c_34 => ?_) (fun c_34 => ?_)
  · exact absurd c_34 (by decide)
  ·
    refine gz_iconst (v := 0) dX12_text_37 (by decide) ?_
    exact gz_zret rfl (by decide) dX12_text_38 (Nat.le_of_ble_eq_true rfl) (Nat.le_of_ble_eq_true rfl) (⟨_, rfl, rfl, _, _, hS_q, hn2⟩)

set_option maxHeartbeats 4000000 in
set_option maxRecDepth 100000 in
theorem k_X12_form {l : Launch} {D : va_G} {cy : Nat → ClassId} {b : Nat} {f : gMem} {m : Nat} {a : Nat → Nat} {f0 : gMem} {n : Nat → Int32} {z : Nat → Int64} {F : Nat → Nat → Int32} {G : Nat → Nat → Int64}   (hS : mS cy m a f0 n z F G f) (h4 : n 4 = 0) (h5 : n 5 = 0) (hG : ∀ i, i < 11 → G 27 i ≠ 0) : gC l D cy b yX12_form cX12_form 2 (some .int) 4 0 0 [.ref m] f (pI fun r f2 => r = -3) := by
  refine gC_of (by decide) (Nat.le_of_ble_eq_true rfl) ?_
  show gG l _ _ _ D cy b cX12_form 2 _ RX12 "form" 0 0 f 0 [(0, .ref m)] []
  refine gz_aload_n dX12_form_0 rfl rfl ?_
  refine mg_307 hS dX12_form_1 ?_
  refine gz_ev (w := .int 0) (congrArg Value.int h5) ?_
  refine gz_bipush (v := 20) dX12_form_4 (by decide) ?_
  refine gz_icmp_ne (tgt := 11) dX12_form_6 (by decide) (fun c_6 => ?_) (fun c_6 => ?_)
  ·
    refine gz_aload_n dX12_form_11 rfl rfl ?_
    refine gz_iconst (v := 0) dX12_form_12 (by decide) ?_
    refine mp_272 hS dX12_form_13 (fun f_1 hS_1 => ?_)
    refine gz_aload_n dX12_form_16 rfl rfl ?_
    refine gz_iconst (v := 0) dX12_form_17 (by decide) ?_
    refine mp_269 hS_1 dX12_form_18 (fun f_2 hS_2 => ?_)
    refine gz_aload_n dX12_form_21 rfl rfl ?_
    refine scX12_334 (k_X12_text (n := va_up (va_up n 21 0) 22 0) hS_2 h4 h5 rfl rfl hG) hS_2.1 ⟨(Nat.le_of_ble_eq_true rfl), (Nat.le_of_ble_eq_true rfl)⟩ ⟨(Nat.le_of_ble_eq_true rfl), (Nat.le_of_ble_eq_true rfl)⟩ rfl rfl (Nat.le_of_ble_eq_true rfl) dX12_form_22 ?_
    rintro v9 f_q ⟨z9, n2, F2, hS_q, hn2⟩; rw [z9]
    refine gz_istore_n (lv' := [(1, .int 0), (0, .ref m)]) dX12_form_25 rfl (by decide) rfl ?_
    refine gz_aload_n dX12_form_26 rfl rfl ?_
    refine gz_iconst (v := 0) dX12_form_27 (by decide) ?_
    refine mp_262 hS_q dX12_form_28 (fun f_3 hS_3 => ?_)
    refine gz_iload_n dX12_form_31 rfl rfl ?_
    refine gz_if_ne (tgt := 43) dX12_form_32 (by decide) (fun c_32 => ?_) (fun c_32 => ?_)
    · exact absurd c_32 (by decide)
    ·
      refine gz_bipush (v := (-2)) dX12_form_35 (by decide) ?_
      refine gz_aload_n dX12_form_37 rfl rfl ?_
      refine mg_269 hS_3 dX12_form_38 ?_
      refine gz_ev (w := .int 1) (congrArg Value.int hn2) ?_
      refine gz_isub dX12_form_41 ?_
      refine gz_ev (w := .int (-3)) (by decide) ?_
      exact gz_iret rfl dX12_form_42 (Nat.le_of_ble_eq_true rfl) (Nat.le_of_ble_eq_true rfl) (⟨_, rfl, rfl⟩)
  · exact absurd c_6 (by decide)
