section
-- ===== PART A: goes FIRST, ahead of the names: the tables' words, and 'selects' of the private methods out of them =====
/-- a private method of a class that the tables say can be made, by its rows of tables_1 -/
def lw_okq (q : MethodName × Nat) : Prop := (q.1.cls ≠ "java/lang/invoke/MethodHandle" ∧ q.1.cls ≠ "java/lang/invoke/VarHandle") ∧ Cond.instantiable q.1.cls q.2 ∈ tables_1 ∧ Cond.privateMethod q.1 ∈ tables_1 ∧ Cond.instanceMethod q.1 ∈ tables_1
theorem lw_p0 : lw_okq (⟨"DeedTongue$Reader", "readDeed", "(II)Z"⟩, 4) := ⟨⟨by decide +kernel, by decide +kernel⟩, List.mem_of_getElem? (i := 99) (by decide +kernel), List.mem_of_getElem? (i := 337) (by decide +kernel), List.mem_of_getElem? (i := 338) (by decide +kernel)⟩
theorem lw_p1 : lw_okq (⟨"DeedTongue$Reader", "upNext", "()I"⟩, 4) := ⟨⟨by decide +kernel, by decide +kernel⟩, List.mem_of_getElem? (i := 99) (by decide +kernel), List.mem_of_getElem? (i := 341) (by decide +kernel), List.mem_of_getElem? (i := 342) (by decide +kernel)⟩
theorem lw_p2 : lw_okq (⟨"DeedTongue$Reader", "lettersFrom", "(I)I"⟩, 4) := ⟨⟨by decide +kernel, by decide +kernel⟩, List.mem_of_getElem? (i := 99) (by decide +kernel), List.mem_of_getElem? (i := 349) (by decide +kernel), List.mem_of_getElem? (i := 350) (by decide +kernel)⟩
theorem lw_p3 : lw_okq (⟨"DeedTongue$Reader", "kindFrom", "(II)I"⟩, 4) := ⟨⟨by decide +kernel, by decide +kernel⟩, List.mem_of_getElem? (i := 99) (by decide +kernel), List.mem_of_getElem? (i := 356) (by decide +kernel), List.mem_of_getElem? (i := 357) (by decide +kernel)⟩
theorem lw_p4 : lw_okq (⟨"DeedTongue$Reader", "isNamed", "(III)Z"⟩, 4) := ⟨⟨by decide +kernel, by decide +kernel⟩, List.mem_of_getElem? (i := 99) (by decide +kernel), List.mem_of_getElem? (i := 360) (by decide +kernel), List.mem_of_getElem? (i := 361) (by decide +kernel)⟩
theorem lw_p5 : lw_okq (⟨"DeedTongue$Reader", "fail", "(II)Z"⟩, 4) := ⟨⟨by decide +kernel, by decide +kernel⟩, List.mem_of_getElem? (i := 99) (by decide +kernel), List.mem_of_getElem? (i := 416) (by decide +kernel), List.mem_of_getElem? (i := 417) (by decide +kernel)⟩
theorem lw_p6 : lw_okq (⟨"DeedTongue$Form", "inherit", "(II)V"⟩, 4) := ⟨⟨by decide +kernel, by decide +kernel⟩, List.mem_of_getElem? (i := 79) (by decide +kernel), List.mem_of_getElem? (i := 435) (by decide +kernel), List.mem_of_getElem? (i := 436) (by decide +kernel)⟩
theorem lw_p7 : lw_okq (⟨"DeedTongue$Reader", "readN", "(I)Z"⟩, 4) := ⟨⟨by decide +kernel, by decide +kernel⟩, List.mem_of_getElem? (i := 99) (by decide +kernel), List.mem_of_getElem? (i := 443) (by decide +kernel), List.mem_of_getElem? (i := 444) (by decide +kernel)⟩
theorem lw_p8 : lw_okq (⟨"DeedTongue$Reader", "readNumber", "()I"⟩, 4) := ⟨⟨by decide +kernel, by decide +kernel⟩, List.mem_of_getElem? (i := 99) (by decide +kernel), List.mem_of_getElem? (i := 447) (by decide +kernel), List.mem_of_getElem? (i := 448) (by decide +kernel)⟩
theorem lw_p9 : lw_okq (⟨"DeedTongue$Reader", "readSums", "(II)Z"⟩, 4) := ⟨⟨by decide +kernel, by decide +kernel⟩, List.mem_of_getElem? (i := 99) (by decide +kernel), List.mem_of_getElem? (i := 461) (by decide +kernel), List.mem_of_getElem? (i := 462) (by decide +kernel)⟩
theorem lw_p10 : lw_okq (⟨"DeedTongue$Reader", "readSum", "()Z"⟩, 4) := ⟨⟨by decide +kernel, by decide +kernel⟩, List.mem_of_getElem? (i := 99) (by decide +kernel), List.mem_of_getElem? (i := 469) (by decide +kernel), List.mem_of_getElem? (i := 470) (by decide +kernel)⟩
theorem lw_p11 : lw_okq (⟨"DeedTongue$Reader", "readValue", "(I)Z"⟩, 4) := ⟨⟨by decide +kernel, by decide +kernel⟩, List.mem_of_getElem? (i := 99) (by decide +kernel), List.mem_of_getElem? (i := 473) (by decide +kernel), List.mem_of_getElem? (i := 474) (by decide +kernel)⟩
theorem lw_p12 : lw_okq (⟨"DeedTongue$Reader", "readNamedValue", "(I)I"⟩, 4) := ⟨⟨by decide +kernel, by decide +kernel⟩, List.mem_of_getElem? (i := 99) (by decide +kernel), List.mem_of_getElem? (i := 477) (by decide +kernel), List.mem_of_getElem? (i := 478) (by decide +kernel)⟩
theorem lw_p13 : lw_okq (⟨"DeedTongue$Reader", "readRelation", "(I)Z"⟩, 4) := ⟨⟨by decide +kernel, by decide +kernel⟩, List.mem_of_getElem? (i := 99) (by decide +kernel), List.mem_of_getElem? (i := 486) (by decide +kernel), List.mem_of_getElem? (i := 487) (by decide +kernel)⟩
theorem lw_p14 : lw_okq (⟨"DeedTongue$Reader", "readSign", "(I)Z"⟩, 4) := ⟨⟨by decide +kernel, by decide +kernel⟩, List.mem_of_getElem? (i := 99) (by decide +kernel), List.mem_of_getElem? (i := 490) (by decide +kernel), List.mem_of_getElem? (i := 491) (by decide +kernel)⟩
theorem lw_p15 : lw_okq (⟨"DeedTongue$Reader", "readDeeds", "(III)Z"⟩, 4) := ⟨⟨by decide +kernel, by decide +kernel⟩, List.mem_of_getElem? (i := 99) (by decide +kernel), List.mem_of_getElem? (i := 494) (by decide +kernel), List.mem_of_getElem? (i := 495) (by decide +kernel)⟩
def lw_privs_1 : List (MethodName × Nat) := [(⟨"DeedTongue$Reader", "readDeed", "(II)Z"⟩, 4), (⟨"DeedTongue$Reader", "upNext", "()I"⟩, 4), (⟨"DeedTongue$Reader", "lettersFrom", "(I)I"⟩, 4), (⟨"DeedTongue$Reader", "kindFrom", "(II)I"⟩, 4), (⟨"DeedTongue$Reader", "isNamed", "(III)Z"⟩, 4), (⟨"DeedTongue$Reader", "fail", "(II)Z"⟩, 4), (⟨"DeedTongue$Form", "inherit", "(II)V"⟩, 4), (⟨"DeedTongue$Reader", "readN", "(I)Z"⟩, 4), (⟨"DeedTongue$Reader", "readNumber", "()I"⟩, 4), (⟨"DeedTongue$Reader", "readSums", "(II)Z"⟩, 4), (⟨"DeedTongue$Reader", "readSum", "()Z"⟩, 4), (⟨"DeedTongue$Reader", "readValue", "(I)Z"⟩, 4), (⟨"DeedTongue$Reader", "readNamedValue", "(I)I"⟩, 4), (⟨"DeedTongue$Reader", "readRelation", "(I)Z"⟩, 4), (⟨"DeedTongue$Reader", "readSign", "(I)Z"⟩, 4), (⟨"DeedTongue$Reader", "readDeeds", "(III)Z"⟩, 4)]
theorem lw_r1 : ∀ q ∈ lw_privs_1, lw_okq q := List.forall_mem_cons.mpr ⟨lw_p0, List.forall_mem_cons.mpr ⟨lw_p1, List.forall_mem_cons.mpr ⟨lw_p2, List.forall_mem_cons.mpr ⟨lw_p3, List.forall_mem_cons.mpr ⟨lw_p4, List.forall_mem_cons.mpr ⟨lw_p5, List.forall_mem_cons.mpr ⟨lw_p6, List.forall_mem_cons.mpr ⟨lw_p7, List.forall_mem_cons.mpr ⟨lw_p8, List.forall_mem_cons.mpr ⟨lw_p9, List.forall_mem_cons.mpr ⟨lw_p10, List.forall_mem_cons.mpr ⟨lw_p11, List.forall_mem_cons.mpr ⟨lw_p12, List.forall_mem_cons.mpr ⟨lw_p13, List.forall_mem_cons.mpr ⟨lw_p14, List.forall_mem_cons.mpr ⟨lw_p15, fun _ h => absurd h List.not_mem_nil⟩⟩⟩⟩⟩⟩⟩⟩⟩⟩⟩⟩⟩⟩⟩⟩
theorem lw_p16 : lw_okq (⟨"DeedTongue", "keepDraft", "()I"⟩, 13) := ⟨⟨by decide +kernel, by decide +kernel⟩, List.mem_of_getElem? (i := 20) (by decide +kernel), List.mem_of_getElem? (i := 504) (by decide +kernel), List.mem_of_getElem? (i := 505) (by decide +kernel)⟩
theorem lw_p17 : lw_okq (⟨"DeedTongue", "formAt", "(I)LDeedTongue$Form;"⟩, 13) := ⟨⟨by decide +kernel, by decide +kernel⟩, List.mem_of_getElem? (i := 20) (by decide +kernel), List.mem_of_getElem? (i := 518) (by decide +kernel), List.mem_of_getElem? (i := 519) (by decide +kernel)⟩
theorem lw_p18 : lw_okq (⟨"DeedTongue$Laws", "follow", "(II)V"⟩, 2) := ⟨⟨by decide +kernel, by decide +kernel⟩, List.mem_of_getElem? (i := 128) (by decide +kernel), List.mem_of_getElem? (i := 565) (by decide +kernel), List.mem_of_getElem? (i := 566) (by decide +kernel)⟩
theorem lw_p19 : lw_okq (⟨"DeedTongue$Laws", "apply", "(I)I"⟩, 2) := ⟨⟨by decide +kernel, by decide +kernel⟩, List.mem_of_getElem? (i := 128) (by decide +kernel), List.mem_of_getElem? (i := 569) (by decide +kernel), List.mem_of_getElem? (i := 570) (by decide +kernel)⟩
theorem lw_p20 : lw_okq (⟨"DeedTongue$Laws", "scaleLaw", "(II)I"⟩, 2) := ⟨⟨by decide +kernel, by decide +kernel⟩, List.mem_of_getElem? (i := 128) (by decide +kernel), List.mem_of_getElem? (i := 579) (by decide +kernel), List.mem_of_getElem? (i := 580) (by decide +kernel)⟩
theorem lw_p21 : lw_okq (⟨"DeedTongue$Laws", "makeNothing", "(I)V"⟩, 2) := ⟨⟨by decide +kernel, by decide +kernel⟩, List.mem_of_getElem? (i := 128) (by decide +kernel), List.mem_of_getElem? (i := 583) (by decide +kernel), List.mem_of_getElem? (i := 584) (by decide +kernel)⟩
theorem lw_p22 : lw_okq (⟨"DeedTongue$Laws", "capLaw", "(II)I"⟩, 2) := ⟨⟨by decide +kernel, by decide +kernel⟩, List.mem_of_getElem? (i := 128) (by decide +kernel), List.mem_of_getElem? (i := 587) (by decide +kernel), List.mem_of_getElem? (i := 588) (by decide +kernel)⟩
theorem lw_p23 : lw_okq (⟨"DeedTongue$Teller", "writeDeed", "(LDeedTongue$Form;II)V"⟩, 1) := ⟨⟨by decide +kernel, by decide +kernel⟩, List.mem_of_getElem? (i := 118) (by decide +kernel), List.mem_of_getElem? (i := 608) (by decide +kernel), List.mem_of_getElem? (i := 609) (by decide +kernel)⟩
theorem lw_p24 : lw_okq (⟨"DeedTongue$Teller", "writeName", "(I)V"⟩, 1) := ⟨⟨by decide +kernel, by decide +kernel⟩, List.mem_of_getElem? (i := 118) (by decide +kernel), List.mem_of_getElem? (i := 613) (by decide +kernel), List.mem_of_getElem? (i := 614) (by decide +kernel)⟩
theorem lw_p25 : lw_okq (⟨"DeedTongue$Teller", "gap", "()V"⟩, 1) := ⟨⟨by decide +kernel, by decide +kernel⟩, List.mem_of_getElem? (i := 118) (by decide +kernel), List.mem_of_getElem? (i := 617) (by decide +kernel), List.mem_of_getElem? (i := 618) (by decide +kernel)⟩
theorem lw_p26 : lw_okq (⟨"DeedTongue$Teller", "writeHead", "(LDeedTongue$Form;II)V"⟩, 1) := ⟨⟨by decide +kernel, by decide +kernel⟩, List.mem_of_getElem? (i := 118) (by decide +kernel), List.mem_of_getElem? (i := 627) (by decide +kernel), List.mem_of_getElem? (i := 628) (by decide +kernel)⟩
theorem lw_p27 : lw_okq (⟨"DeedTongue$Teller", "writeNumber", "(I)V"⟩, 1) := ⟨⟨by decide +kernel, by decide +kernel⟩, List.mem_of_getElem? (i := 118) (by decide +kernel), List.mem_of_getElem? (i := 632) (by decide +kernel), List.mem_of_getElem? (i := 633) (by decide +kernel)⟩
theorem lw_p28 : lw_okq (⟨"DeedTongue$Teller", "writeSum", "(LDeedTongue$Form;II)V"⟩, 1) := ⟨⟨by decide +kernel, by decide +kernel⟩, List.mem_of_getElem? (i := 118) (by decide +kernel), List.mem_of_getElem? (i := 637) (by decide +kernel), List.mem_of_getElem? (i := 638) (by decide +kernel)⟩
theorem lw_p29 : lw_okq (⟨"DeedTongue$Teller", "writeValue", "(I)V"⟩, 1) := ⟨⟨by decide +kernel, by decide +kernel⟩, List.mem_of_getElem? (i := 118) (by decide +kernel), List.mem_of_getElem? (i := 645) (by decide +kernel), List.mem_of_getElem? (i := 646) (by decide +kernel)⟩
theorem lw_p30 : lw_okq (⟨"DeedTongue$Teller", "writeRelation", "(I)V"⟩, 1) := ⟨⟨by decide +kernel, by decide +kernel⟩, List.mem_of_getElem? (i := 118) (by decide +kernel), List.mem_of_getElem? (i := 650) (by decide +kernel), List.mem_of_getElem? (i := 651) (by decide +kernel)⟩
theorem lw_p31 : lw_okq (⟨"DeedTongue$Court", "acquire", "(LDeedTongue$Life;III)V"⟩, 4) := ⟨⟨by decide +kernel, by decide +kernel⟩, List.mem_of_getElem? (i := 180) (by decide +kernel), List.mem_of_getElem? (i := 708) (by decide +kernel), List.mem_of_getElem? (i := 709) (by decide +kernel)⟩
def lw_privs_2 : List (MethodName × Nat) := [(⟨"DeedTongue", "keepDraft", "()I"⟩, 13), (⟨"DeedTongue", "formAt", "(I)LDeedTongue$Form;"⟩, 13), (⟨"DeedTongue$Laws", "follow", "(II)V"⟩, 2), (⟨"DeedTongue$Laws", "apply", "(I)I"⟩, 2), (⟨"DeedTongue$Laws", "scaleLaw", "(II)I"⟩, 2), (⟨"DeedTongue$Laws", "makeNothing", "(I)V"⟩, 2), (⟨"DeedTongue$Laws", "capLaw", "(II)I"⟩, 2), (⟨"DeedTongue$Teller", "writeDeed", "(LDeedTongue$Form;II)V"⟩, 1), (⟨"DeedTongue$Teller", "writeName", "(I)V"⟩, 1), (⟨"DeedTongue$Teller", "gap", "()V"⟩, 1), (⟨"DeedTongue$Teller", "writeHead", "(LDeedTongue$Form;II)V"⟩, 1), (⟨"DeedTongue$Teller", "writeNumber", "(I)V"⟩, 1), (⟨"DeedTongue$Teller", "writeSum", "(LDeedTongue$Form;II)V"⟩, 1), (⟨"DeedTongue$Teller", "writeValue", "(I)V"⟩, 1), (⟨"DeedTongue$Teller", "writeRelation", "(I)V"⟩, 1), (⟨"DeedTongue$Court", "acquire", "(LDeedTongue$Life;III)V"⟩, 4)]
theorem lw_r2 : ∀ q ∈ lw_privs_2, lw_okq q := List.forall_mem_cons.mpr ⟨lw_p16, List.forall_mem_cons.mpr ⟨lw_p17, List.forall_mem_cons.mpr ⟨lw_p18, List.forall_mem_cons.mpr ⟨lw_p19, List.forall_mem_cons.mpr ⟨lw_p20, List.forall_mem_cons.mpr ⟨lw_p21, List.forall_mem_cons.mpr ⟨lw_p22, List.forall_mem_cons.mpr ⟨lw_p23, List.forall_mem_cons.mpr ⟨lw_p24, List.forall_mem_cons.mpr ⟨lw_p25, List.forall_mem_cons.mpr ⟨lw_p26, List.forall_mem_cons.mpr ⟨lw_p27, List.forall_mem_cons.mpr ⟨lw_p28, List.forall_mem_cons.mpr ⟨lw_p29, List.forall_mem_cons.mpr ⟨lw_p30, List.forall_mem_cons.mpr ⟨lw_p31, fun _ h => absurd h List.not_mem_nil⟩⟩⟩⟩⟩⟩⟩⟩⟩⟩⟩⟩⟩⟩⟩⟩
theorem lw_p32 : lw_okq (⟨"DeedTongue$Form", "sum", "(IILDeedTongue$Scene;)J"⟩, 4) := ⟨⟨by decide +kernel, by decide +kernel⟩, List.mem_of_getElem? (i := 79) (by decide +kernel), List.mem_of_getElem? (i := 720) (by decide +kernel), List.mem_of_getElem? (i := 721) (by decide +kernel)⟩
theorem lw_p33 : lw_okq (⟨"DeedTongue$Ledger", "makeRoom", "()V"⟩, 9) := ⟨⟨by decide +kernel, by decide +kernel⟩, List.mem_of_getElem? (i := 143) (by decide +kernel), List.mem_of_getElem? (i := 739) (by decide +kernel), List.mem_of_getElem? (i := 740) (by decide +kernel)⟩
theorem lw_p34 : lw_okq (⟨"DeedTongue$Ledger", "set", "(III)V"⟩, 9) := ⟨⟨by decide +kernel, by decide +kernel⟩, List.mem_of_getElem? (i := 143) (by decide +kernel), List.mem_of_getElem? (i := 744) (by decide +kernel), List.mem_of_getElem? (i := 745) (by decide +kernel)⟩
theorem lw_p35 : lw_okq (⟨"DeedTongue$Court", "keep", "(LDeedTongue$Life;II)V"⟩, 4) := ⟨⟨by decide +kernel, by decide +kernel⟩, List.mem_of_getElem? (i := 180) (by decide +kernel), List.mem_of_getElem? (i := 748) (by decide +kernel), List.mem_of_getElem? (i := 749) (by decide +kernel)⟩
theorem lw_p36 : lw_okq (⟨"DeedTongue$Court", "rests", "(LDeedTongue$Life;I)Z"⟩, 4) := ⟨⟨by decide +kernel, by decide +kernel⟩, List.mem_of_getElem? (i := 180) (by decide +kernel), List.mem_of_getElem? (i := 802) (by decide +kernel), List.mem_of_getElem? (i := 803) (by decide +kernel)⟩
theorem lw_p37 : lw_okq (⟨"DeedTongue$Court", "enter", "(LDeedTongue$Life;II)V"⟩, 4) := ⟨⟨by decide +kernel, by decide +kernel⟩, List.mem_of_getElem? (i := 180) (by decide +kernel), List.mem_of_getElem? (i := 806) (by decide +kernel), List.mem_of_getElem? (i := 807) (by decide +kernel)⟩
theorem lw_p38 : lw_okq (⟨"DeedTongue$Ledger", "book", "(II)V"⟩, 9) := ⟨⟨by decide +kernel, by decide +kernel⟩, List.mem_of_getElem? (i := 143) (by decide +kernel), List.mem_of_getElem? (i := 877) (by decide +kernel), List.mem_of_getElem? (i := 878) (by decide +kernel)⟩
theorem lw_p39 : lw_okq (⟨"DeedTongue$Ledger", "addGift", "()Z"⟩, 9) := ⟨⟨by decide +kernel, by decide +kernel⟩, List.mem_of_getElem? (i := 143) (by decide +kernel), List.mem_of_getElem? (i := 882) (by decide +kernel), List.mem_of_getElem? (i := 883) (by decide +kernel)⟩
theorem lw_p40 : lw_okq (⟨"DeedTongue$Ledger", "leastHouse", "(I)I"⟩, 9) := ⟨⟨by decide +kernel, by decide +kernel⟩, List.mem_of_getElem? (i := 143) (by decide +kernel), List.mem_of_getElem? (i := 886) (by decide +kernel), List.mem_of_getElem? (i := 887) (by decide +kernel)⟩
theorem lw_p41 : lw_okq (⟨"DeedTongue$Worlds", "weightOf", "(I)J"⟩, 9) := ⟨⟨by decide +kernel, by decide +kernel⟩, List.mem_of_getElem? (i := 201) (by decide +kernel), List.mem_of_getElem? (i := 936) (by decide +kernel), List.mem_of_getElem? (i := 937) (by decide +kernel)⟩
theorem lw_p42 : lw_okq (⟨"DeedTongue$Worlds", "value", "(III)J"⟩, 9) := ⟨⟨by decide +kernel, by decide +kernel⟩, List.mem_of_getElem? (i := 201) (by decide +kernel), List.mem_of_getElem? (i := 953) (by decide +kernel), List.mem_of_getElem? (i := 954) (by decide +kernel)⟩
theorem lw_p43 : lw_okq (⟨"DeedTongue$Worlds", "sceneAt", "(I)LDeedTongue$Scene;"⟩, 9) := ⟨⟨by decide +kernel, by decide +kernel⟩, List.mem_of_getElem? (i := 201) (by decide +kernel), List.mem_of_getElem? (i := 957) (by decide +kernel), List.mem_of_getElem? (i := 958) (by decide +kernel)⟩
theorem lw_p44 : lw_okq (⟨"DeedTongue$Worlds", "better", "(IJJ)J"⟩, 9) := ⟨⟨by decide +kernel, by decide +kernel⟩, List.mem_of_getElem? (i := 201) (by decide +kernel), List.mem_of_getElem? (i := 966) (by decide +kernel), List.mem_of_getElem? (i := 967) (by decide +kernel)⟩
theorem lw_p45 : lw_okq (⟨"DeedTongue$Worlds", "deedValue", "(III)J"⟩, 9) := ⟨⟨by decide +kernel, by decide +kernel⟩, List.mem_of_getElem? (i := 201) (by decide +kernel), List.mem_of_getElem? (i := 973) (by decide +kernel), List.mem_of_getElem? (i := 974) (by decide +kernel)⟩
theorem lw_p46 : lw_okq (⟨"DeedTongue$Worlds", "waiting", "(III)J"⟩, 9) := ⟨⟨by decide +kernel, by decide +kernel⟩, List.mem_of_getElem? (i := 201) (by decide +kernel), List.mem_of_getElem? (i := 979) (by decide +kernel), List.mem_of_getElem? (i := 980) (by decide +kernel)⟩
theorem lw_p47 : lw_okq (⟨"DeedTongue$Worlds", "go", "(II)V"⟩, 9) := ⟨⟨by decide +kernel, by decide +kernel⟩, List.mem_of_getElem? (i := 201) (by decide +kernel), List.mem_of_getElem? (i := 983) (by decide +kernel), List.mem_of_getElem? (i := 984) (by decide +kernel)⟩
def lw_privs_3 : List (MethodName × Nat) := [(⟨"DeedTongue$Form", "sum", "(IILDeedTongue$Scene;)J"⟩, 4), (⟨"DeedTongue$Ledger", "makeRoom", "()V"⟩, 9), (⟨"DeedTongue$Ledger", "set", "(III)V"⟩, 9), (⟨"DeedTongue$Court", "keep", "(LDeedTongue$Life;II)V"⟩, 4), (⟨"DeedTongue$Court", "rests", "(LDeedTongue$Life;I)Z"⟩, 4), (⟨"DeedTongue$Court", "enter", "(LDeedTongue$Life;II)V"⟩, 4), (⟨"DeedTongue$Ledger", "book", "(II)V"⟩, 9), (⟨"DeedTongue$Ledger", "addGift", "()Z"⟩, 9), (⟨"DeedTongue$Ledger", "leastHouse", "(I)I"⟩, 9), (⟨"DeedTongue$Worlds", "weightOf", "(I)J"⟩, 9), (⟨"DeedTongue$Worlds", "value", "(III)J"⟩, 9), (⟨"DeedTongue$Worlds", "sceneAt", "(I)LDeedTongue$Scene;"⟩, 9), (⟨"DeedTongue$Worlds", "better", "(IJJ)J"⟩, 9), (⟨"DeedTongue$Worlds", "deedValue", "(III)J"⟩, 9), (⟨"DeedTongue$Worlds", "waiting", "(III)J"⟩, 9), (⟨"DeedTongue$Worlds", "go", "(II)V"⟩, 9)]
theorem lw_r3 : ∀ q ∈ lw_privs_3, lw_okq q := List.forall_mem_cons.mpr ⟨lw_p32, List.forall_mem_cons.mpr ⟨lw_p33, List.forall_mem_cons.mpr ⟨lw_p34, List.forall_mem_cons.mpr ⟨lw_p35, List.forall_mem_cons.mpr ⟨lw_p36, List.forall_mem_cons.mpr ⟨lw_p37, List.forall_mem_cons.mpr ⟨lw_p38, List.forall_mem_cons.mpr ⟨lw_p39, List.forall_mem_cons.mpr ⟨lw_p40, List.forall_mem_cons.mpr ⟨lw_p41, List.forall_mem_cons.mpr ⟨lw_p42, List.forall_mem_cons.mpr ⟨lw_p43, List.forall_mem_cons.mpr ⟨lw_p44, List.forall_mem_cons.mpr ⟨lw_p45, List.forall_mem_cons.mpr ⟨lw_p46, List.forall_mem_cons.mpr ⟨lw_p47, fun _ h => absurd h List.not_mem_nil⟩⟩⟩⟩⟩⟩⟩⟩⟩⟩⟩⟩⟩⟩⟩⟩
theorem lw_p48 : lw_okq (⟨"DeedTongue$Worlds", "reaches", "(III)Z"⟩, 9) := ⟨⟨by decide +kernel, by decide +kernel⟩, List.mem_of_getElem? (i := 201) (by decide +kernel), List.mem_of_getElem? (i := 999) (by decide +kernel), List.mem_of_getElem? (i := 1000) (by decide +kernel)⟩
theorem lw_p49 : lw_okq (⟨"DeedTongue$Worlds", "reachesLater", "(III)Z"⟩, 9) := ⟨⟨by decide +kernel, by decide +kernel⟩, List.mem_of_getElem? (i := 201) (by decide +kernel), List.mem_of_getElem? (i := 1003) (by decide +kernel), List.mem_of_getElem? (i := 1004) (by decide +kernel)⟩
theorem lw_p50 : lw_okq (⟨"DeedTongue$Worlds", "isParting", "(LDeedTongue$Form;LDeedTongue$Form;)Z"⟩, 9) := ⟨⟨by decide +kernel, by decide +kernel⟩, List.mem_of_getElem? (i := 201) (by decide +kernel), List.mem_of_getElem? (i := 1020) (by decide +kernel), List.mem_of_getElem? (i := 1021) (by decide +kernel)⟩
theorem lw_p51 : lw_okq (⟨"DeedTongue$Worlds", "run", "(IIII)V"⟩, 9) := ⟨⟨by decide +kernel, by decide +kernel⟩, List.mem_of_getElem? (i := 201) (by decide +kernel), List.mem_of_getElem? (i := 1024) (by decide +kernel), List.mem_of_getElem? (i := 1025) (by decide +kernel)⟩
theorem lw_p52 : lw_okq (⟨"DeedTongueModel", "thingOn", "(II)I"⟩, 90) := ⟨⟨by decide +kernel, by decide +kernel⟩, List.mem_of_getElem? (i := 1041) (by decide +kernel), List.mem_of_getElem? (i := 1345) (by decide +kernel), List.mem_of_getElem? (i := 1346) (by decide +kernel)⟩
theorem lw_p53 : lw_okq (⟨"DeedTongueModel", "four", "(I)V"⟩, 90) := ⟨⟨by decide +kernel, by decide +kernel⟩, List.mem_of_getElem? (i := 1041) (by decide +kernel), List.mem_of_getElem? (i := 1353) (by decide +kernel), List.mem_of_getElem? (i := 1354) (by decide +kernel)⟩
theorem lw_p54 : lw_okq (⟨"DeedTongueModel", "text", "()Z"⟩, 90) := ⟨⟨by decide +kernel, by decide +kernel⟩, List.mem_of_getElem? (i := 1041) (by decide +kernel), List.mem_of_getElem? (i := 1365) (by decide +kernel), List.mem_of_getElem? (i := 1366) (by decide +kernel)⟩
theorem lw_p55 : lw_okq (⟨"DeedTongueModel", "begins", "()Z"⟩, 90) := ⟨⟨by decide +kernel, by decide +kernel⟩, List.mem_of_getElem? (i := 1041) (by decide +kernel), List.mem_of_getElem? (i := 1369) (by decide +kernel), List.mem_of_getElem? (i := 1370) (by decide +kernel)⟩
theorem lw_p56 : lw_okq (⟨"DeedTongueModel", "letters", "()J"⟩, 90) := ⟨⟨by decide +kernel, by decide +kernel⟩, List.mem_of_getElem? (i := 1041) (by decide +kernel), List.mem_of_getElem? (i := 1373) (by decide +kernel), List.mem_of_getElem? (i := 1374) (by decide +kernel)⟩
theorem lw_p57 : lw_okq (⟨"DeedTongueModel", "see", "()I"⟩, 90) := ⟨⟨by decide +kernel, by decide +kernel⟩, List.mem_of_getElem? (i := 1041) (by decide +kernel), List.mem_of_getElem? (i := 1377) (by decide +kernel), List.mem_of_getElem? (i := 1378) (by decide +kernel)⟩
theorem lw_p58 : lw_okq (⟨"DeedTongueModel", "isLetter", "(I)Z"⟩, 90) := ⟨⟨by decide +kernel, by decide +kernel⟩, List.mem_of_getElem? (i := 1041) (by decide +kernel), List.mem_of_getElem? (i := 1381) (by decide +kernel), List.mem_of_getElem? (i := 1382) (by decide +kernel)⟩
theorem lw_p59 : lw_okq (⟨"DeedTongueModel", "fails", "(II)Z"⟩, 90) := ⟨⟨by decide +kernel, by decide +kernel⟩, List.mem_of_getElem? (i := 1041) (by decide +kernel), List.mem_of_getElem? (i := 1386) (by decide +kernel), List.mem_of_getElem? (i := 1387) (by decide +kernel)⟩
theorem lw_p60 : lw_okq (⟨"DeedTongueModel", "skips", "()V"⟩, 90) := ⟨⟨by decide +kernel, by decide +kernel⟩, List.mem_of_getElem? (i := 1041) (by decide +kernel), List.mem_of_getElem? (i := 1390) (by decide +kernel), List.mem_of_getElem? (i := 1391) (by decide +kernel)⟩
theorem lw_p61 : lw_okq (⟨"DeedTongueModel", "reads", "()Z"⟩, 90) := ⟨⟨by decide +kernel, by decide +kernel⟩, List.mem_of_getElem? (i := 1041) (by decide +kernel), List.mem_of_getElem? (i := 1394) (by decide +kernel), List.mem_of_getElem? (i := 1395) (by decide +kernel)⟩
theorem lw_p62 : lw_okq (⟨"DeedTongueModel", "isDigit", "(I)Z"⟩, 90) := ⟨⟨by decide +kernel, by decide +kernel⟩, List.mem_of_getElem? (i := 1041) (by decide +kernel), List.mem_of_getElem? (i := 1398) (by decide +kernel), List.mem_of_getElem? (i := 1399) (by decide +kernel)⟩
theorem lw_p63 : lw_okq (⟨"DeedTongueModel", "test", "(I)Z"⟩, 90) := ⟨⟨by decide +kernel, by decide +kernel⟩, List.mem_of_getElem? (i := 1041) (by decide +kernel), List.mem_of_getElem? (i := 1402) (by decide +kernel), List.mem_of_getElem? (i := 1403) (by decide +kernel)⟩
def lw_privs_4 : List (MethodName × Nat) := [(⟨"DeedTongue$Worlds", "reaches", "(III)Z"⟩, 9), (⟨"DeedTongue$Worlds", "reachesLater", "(III)Z"⟩, 9), (⟨"DeedTongue$Worlds", "isParting", "(LDeedTongue$Form;LDeedTongue$Form;)Z"⟩, 9), (⟨"DeedTongue$Worlds", "run", "(IIII)V"⟩, 9), (⟨"DeedTongueModel", "thingOn", "(II)I"⟩, 90), (⟨"DeedTongueModel", "four", "(I)V"⟩, 90), (⟨"DeedTongueModel", "text", "()Z"⟩, 90), (⟨"DeedTongueModel", "begins", "()Z"⟩, 90), (⟨"DeedTongueModel", "letters", "()J"⟩, 90), (⟨"DeedTongueModel", "see", "()I"⟩, 90), (⟨"DeedTongueModel", "isLetter", "(I)Z"⟩, 90), (⟨"DeedTongueModel", "fails", "(II)Z"⟩, 90), (⟨"DeedTongueModel", "skips", "()V"⟩, 90), (⟨"DeedTongueModel", "reads", "()Z"⟩, 90), (⟨"DeedTongueModel", "isDigit", "(I)Z"⟩, 90), (⟨"DeedTongueModel", "test", "(I)Z"⟩, 90)]
theorem lw_r4 : ∀ q ∈ lw_privs_4, lw_okq q := List.forall_mem_cons.mpr ⟨lw_p48, List.forall_mem_cons.mpr ⟨lw_p49, List.forall_mem_cons.mpr ⟨lw_p50, List.forall_mem_cons.mpr ⟨lw_p51, List.forall_mem_cons.mpr ⟨lw_p52, List.forall_mem_cons.mpr ⟨lw_p53, List.forall_mem_cons.mpr ⟨lw_p54, List.forall_mem_cons.mpr ⟨lw_p55, List.forall_mem_cons.mpr ⟨lw_p56, List.forall_mem_cons.mpr ⟨lw_p57, List.forall_mem_cons.mpr ⟨lw_p58, List.forall_mem_cons.mpr ⟨lw_p59, List.forall_mem_cons.mpr ⟨lw_p60, List.forall_mem_cons.mpr ⟨lw_p61, List.forall_mem_cons.mpr ⟨lw_p62, List.forall_mem_cons.mpr ⟨lw_p63, fun _ h => absurd h List.not_mem_nil⟩⟩⟩⟩⟩⟩⟩⟩⟩⟩⟩⟩⟩⟩⟩⟩
theorem lw_p64 : lw_okq (⟨"DeedTongueModel", "sum", "()Z"⟩, 90) := ⟨⟨by decide +kernel, by decide +kernel⟩, List.mem_of_getElem? (i := 1041) (by decide +kernel), List.mem_of_getElem? (i := 1406) (by decide +kernel), List.mem_of_getElem? (i := 1407) (by decide +kernel)⟩
theorem lw_p65 : lw_okq (⟨"DeedTongueModel", "value", "(I)Z"⟩, 90) := ⟨⟨by decide +kernel, by decide +kernel⟩, List.mem_of_getElem? (i := 1041) (by decide +kernel), List.mem_of_getElem? (i := 1410) (by decide +kernel), List.mem_of_getElem? (i := 1411) (by decide +kernel)⟩
theorem lw_p66 : lw_okq (⟨"DeedTongueModel", "takes", "(I)Z"⟩, 90) := ⟨⟨by decide +kernel, by decide +kernel⟩, List.mem_of_getElem? (i := 1041) (by decide +kernel), List.mem_of_getElem? (i := 1416) (by decide +kernel), List.mem_of_getElem? (i := 1417) (by decide +kernel)⟩
theorem lw_p67 : lw_okq (⟨"DeedTongueModel", "ended", "()Z"⟩, 90) := ⟨⟨by decide +kernel, by decide +kernel⟩, List.mem_of_getElem? (i := 1041) (by decide +kernel), List.mem_of_getElem? (i := 1420) (by decide +kernel), List.mem_of_getElem? (i := 1421) (by decide +kernel)⟩
theorem lw_p68 : lw_okq (⟨"DeedTongueModel", "isForm", "(I)Z"⟩, 90) := ⟨⟨by decide +kernel, by decide +kernel⟩, List.mem_of_getElem? (i := 1041) (by decide +kernel), List.mem_of_getElem? (i := 1428) (by decide +kernel), List.mem_of_getElem? (i := 1429) (by decide +kernel)⟩
theorem lw_p69 : lw_okq (⟨"DeedTongueModel", "isHouse", "(I)Z"⟩, 90) := ⟨⟨by decide +kernel, by decide +kernel⟩, List.mem_of_getElem? (i := 1041) (by decide +kernel), List.mem_of_getElem? (i := 1440) (by decide +kernel), List.mem_of_getElem? (i := 1441) (by decide +kernel)⟩
theorem lw_p70 : lw_okq (⟨"DeedTongueModel", "asNow", "()V"⟩, 90) := ⟨⟨by decide +kernel, by decide +kernel⟩, List.mem_of_getElem? (i := 1041) (by decide +kernel), List.mem_of_getElem? (i := 1444) (by decide +kernel), List.mem_of_getElem? (i := 1445) (by decide +kernel)⟩
theorem lw_p71 : lw_okq (⟨"DeedTongueModel", "acquires", "(IIJ)V"⟩, 90) := ⟨⟨by decide +kernel, by decide +kernel⟩, List.mem_of_getElem? (i := 1041) (by decide +kernel), List.mem_of_getElem? (i := 1448) (by decide +kernel), List.mem_of_getElem? (i := 1449) (by decide +kernel)⟩
theorem lw_p72 : lw_okq (⟨"DeedTongueModel", "comes", "(IJ)V"⟩, 90) := ⟨⟨by decide +kernel, by decide +kernel⟩, List.mem_of_getElem? (i := 1041) (by decide +kernel), List.mem_of_getElem? (i := 1452) (by decide +kernel), List.mem_of_getElem? (i := 1453) (by decide +kernel)⟩
theorem lw_p73 : lw_okq (⟨"DeedTongueModel", "isLapsed", "(I)Z"⟩, 90) := ⟨⟨by decide +kernel, by decide +kernel⟩, List.mem_of_getElem? (i := 1041) (by decide +kernel), List.mem_of_getElem? (i := 1456) (by decide +kernel), List.mem_of_getElem? (i := 1457) (by decide +kernel)⟩
theorem lw_p74 : lw_okq (⟨"DeedTongueModel", "holds", "(I)Z"⟩, 90) := ⟨⟨by decide +kernel, by decide +kernel⟩, List.mem_of_getElem? (i := 1041) (by decide +kernel), List.mem_of_getElem? (i := 1460) (by decide +kernel), List.mem_of_getElem? (i := 1461) (by decide +kernel)⟩
theorem lw_p75 : lw_okq (⟨"DeedTongueModel", "sumOf", "(III)J"⟩, 90) := ⟨⟨by decide +kernel, by decide +kernel⟩, List.mem_of_getElem? (i := 1041) (by decide +kernel), List.mem_of_getElem? (i := 1464) (by decide +kernel), List.mem_of_getElem? (i := 1465) (by decide +kernel)⟩
theorem lw_p76 : lw_okq (⟨"DeedTongueModel", "leadsTo", "(I)I"⟩, 90) := ⟨⟨by decide +kernel, by decide +kernel⟩, List.mem_of_getElem? (i := 1041) (by decide +kernel), List.mem_of_getElem? (i := 1468) (by decide +kernel), List.mem_of_getElem? (i := 1469) (by decide +kernel)⟩
theorem lw_p77 : lw_okq (⟨"DeedTongueModel", "factorBehind", "(IJ)J"⟩, 90) := ⟨⟨by decide +kernel, by decide +kernel⟩, List.mem_of_getElem? (i := 1041) (by decide +kernel), List.mem_of_getElem? (i := 1472) (by decide +kernel), List.mem_of_getElem? (i := 1473) (by decide +kernel)⟩
theorem lw_p78 : lw_okq (⟨"DeedTongueModel", "paysOf", "(IJ)J"⟩, 90) := ⟨⟨by decide +kernel, by decide +kernel⟩, List.mem_of_getElem? (i := 1041) (by decide +kernel), List.mem_of_getElem? (i := 1480) (by decide +kernel), List.mem_of_getElem? (i := 1481) (by decide +kernel)⟩
theorem lw_p79 : lw_okq (⟨"DeedTongueModel", "capOf", "(I)I"⟩, 90) := ⟨⟨by decide +kernel, by decide +kernel⟩, List.mem_of_getElem? (i := 1041) (by decide +kernel), List.mem_of_getElem? (i := 1484) (by decide +kernel), List.mem_of_getElem? (i := 1485) (by decide +kernel)⟩
def lw_privs_5 : List (MethodName × Nat) := [(⟨"DeedTongueModel", "sum", "()Z"⟩, 90), (⟨"DeedTongueModel", "value", "(I)Z"⟩, 90), (⟨"DeedTongueModel", "takes", "(I)Z"⟩, 90), (⟨"DeedTongueModel", "ended", "()Z"⟩, 90), (⟨"DeedTongueModel", "isForm", "(I)Z"⟩, 90), (⟨"DeedTongueModel", "isHouse", "(I)Z"⟩, 90), (⟨"DeedTongueModel", "asNow", "()V"⟩, 90), (⟨"DeedTongueModel", "acquires", "(IIJ)V"⟩, 90), (⟨"DeedTongueModel", "comes", "(IJ)V"⟩, 90), (⟨"DeedTongueModel", "isLapsed", "(I)Z"⟩, 90), (⟨"DeedTongueModel", "holds", "(I)Z"⟩, 90), (⟨"DeedTongueModel", "sumOf", "(III)J"⟩, 90), (⟨"DeedTongueModel", "leadsTo", "(I)I"⟩, 90), (⟨"DeedTongueModel", "factorBehind", "(IJ)J"⟩, 90), (⟨"DeedTongueModel", "paysOf", "(IJ)J"⟩, 90), (⟨"DeedTongueModel", "capOf", "(I)I"⟩, 90)]
theorem lw_r5 : ∀ q ∈ lw_privs_5, lw_okq q := List.forall_mem_cons.mpr ⟨lw_p64, List.forall_mem_cons.mpr ⟨lw_p65, List.forall_mem_cons.mpr ⟨lw_p66, List.forall_mem_cons.mpr ⟨lw_p67, List.forall_mem_cons.mpr ⟨lw_p68, List.forall_mem_cons.mpr ⟨lw_p69, List.forall_mem_cons.mpr ⟨lw_p70, List.forall_mem_cons.mpr ⟨lw_p71, List.forall_mem_cons.mpr ⟨lw_p72, List.forall_mem_cons.mpr ⟨lw_p73, List.forall_mem_cons.mpr ⟨lw_p74, List.forall_mem_cons.mpr ⟨lw_p75, List.forall_mem_cons.mpr ⟨lw_p76, List.forall_mem_cons.mpr ⟨lw_p77, List.forall_mem_cons.mpr ⟨lw_p78, List.forall_mem_cons.mpr ⟨lw_p79, fun _ h => absurd h List.not_mem_nil⟩⟩⟩⟩⟩⟩⟩⟩⟩⟩⟩⟩⟩⟩⟩⟩
theorem lw_p80 : lw_okq (⟨"DeedTongueModel", "pays", "(IIJ)V"⟩, 90) := ⟨⟨by decide +kernel, by decide +kernel⟩, List.mem_of_getElem? (i := 1041) (by decide +kernel), List.mem_of_getElem? (i := 1488) (by decide +kernel), List.mem_of_getElem? (i := 1489) (by decide +kernel)⟩
theorem lw_p81 : lw_okq (⟨"DeedTongueModel", "waits", "(IIJ)V"⟩, 90) := ⟨⟨by decide +kernel, by decide +kernel⟩, List.mem_of_getElem? (i := 1041) (by decide +kernel), List.mem_of_getElem? (i := 1492) (by decide +kernel), List.mem_of_getElem? (i := 1493) (by decide +kernel)⟩
theorem lw_p82 : lw_okq (⟨"DeedTongueModel", "leaves", "(II)V"⟩, 90) := ⟨⟨by decide +kernel, by decide +kernel⟩, List.mem_of_getElem? (i := 1041) (by decide +kernel), List.mem_of_getElem? (i := 1500) (by decide +kernel), List.mem_of_getElem? (i := 1501) (by decide +kernel)⟩
theorem lw_p83 : lw_okq (⟨"DeedTongueModel", "isLife", "(I)Z"⟩, 90) := ⟨⟨by decide +kernel, by decide +kernel⟩, List.mem_of_getElem? (i := 1041) (by decide +kernel), List.mem_of_getElem? (i := 1508) (by decide +kernel), List.mem_of_getElem? (i := 1509) (by decide +kernel)⟩
theorem lw_p84 : lw_okq (⟨"DeedTongueModel", "isStanding", "(II)Z"⟩, 90) := ⟨⟨by decide +kernel, by decide +kernel⟩, List.mem_of_getElem? (i := 1041) (by decide +kernel), List.mem_of_getElem? (i := 1516) (by decide +kernel), List.mem_of_getElem? (i := 1517) (by decide +kernel)⟩
theorem lw_p85 : lw_okq (⟨"DeedTongueModel", "choosing", "(II)I"⟩, 90) := ⟨⟨by decide +kernel, by decide +kernel⟩, List.mem_of_getElem? (i := 1041) (by decide +kernel), List.mem_of_getElem? (i := 1520) (by decide +kernel), List.mem_of_getElem? (i := 1521) (by decide +kernel)⟩
theorem lw_p86 : lw_okq (⟨"DeedTongueModel", "chooser", "(I)I"⟩, 90) := ⟨⟨by decide +kernel, by decide +kernel⟩, List.mem_of_getElem? (i := 1041) (by decide +kernel), List.mem_of_getElem? (i := 1524) (by decide +kernel), List.mem_of_getElem? (i := 1525) (by decide +kernel)⟩
theorem lw_p87 : lw_okq (⟨"DeedTongueModel", "untils", "(I)I"⟩, 90) := ⟨⟨by decide +kernel, by decide +kernel⟩, List.mem_of_getElem? (i := 1041) (by decide +kernel), List.mem_of_getElem? (i := 1528) (by decide +kernel), List.mem_of_getElem? (i := 1529) (by decide +kernel)⟩
theorem lw_p88 : lw_okq (⟨"DeedTongueModel", "allWeights", "()I"⟩, 90) := ⟨⟨by decide +kernel, by decide +kernel⟩, List.mem_of_getElem? (i := 1041) (by decide +kernel), List.mem_of_getElem? (i := 1581) (by decide +kernel), List.mem_of_getElem? (i := 1582) (by decide +kernel)⟩
theorem lw_p89 : lw_okq (⟨"DeedTongueModel", "starts", "()V"⟩, 90) := ⟨⟨by decide +kernel, by decide +kernel⟩, List.mem_of_getElem? (i := 1041) (by decide +kernel), List.mem_of_getElem? (i := 1588) (by decide +kernel), List.mem_of_getElem? (i := 1589) (by decide +kernel)⟩
theorem lw_p90 : lw_okq (⟨"DeedTongueModel", "pushes", "(IIIJ)V"⟩, 90) := ⟨⟨by decide +kernel, by decide +kernel⟩, List.mem_of_getElem? (i := 1041) (by decide +kernel), List.mem_of_getElem? (i := 1592) (by decide +kernel), List.mem_of_getElem? (i := 1593) (by decide +kernel)⟩
theorem lw_p91 : lw_okq (⟨"DeedTongueModel", "enters", "(III)V"⟩, 90) := ⟨⟨by decide +kernel, by decide +kernel⟩, List.mem_of_getElem? (i := 1041) (by decide +kernel), List.mem_of_getElem? (i := 1596) (by decide +kernel), List.mem_of_getElem? (i := 1597) (by decide +kernel)⟩
theorem lw_p92 : lw_okq (⟨"DeedTongueModel", "asIn", "(II)V"⟩, 90) := ⟨⟨by decide +kernel, by decide +kernel⟩, List.mem_of_getElem? (i := 1041) (by decide +kernel), List.mem_of_getElem? (i := 1600) (by decide +kernel), List.mem_of_getElem? (i := 1601) (by decide +kernel)⟩
theorem lw_p93 : lw_okq (⟨"DeedTongueModel", "answers", "(J)V"⟩, 90) := ⟨⟨by decide +kernel, by decide +kernel⟩, List.mem_of_getElem? (i := 1041) (by decide +kernel), List.mem_of_getElem? (i := 1604) (by decide +kernel), List.mem_of_getElem? (i := 1605) (by decide +kernel)⟩
theorem lw_p94 : lw_okq (⟨"DeedTongueModel", "goesOn", "(III)V"⟩, 90) := ⟨⟨by decide +kernel, by decide +kernel⟩, List.mem_of_getElem? (i := 1041) (by decide +kernel), List.mem_of_getElem? (i := 1608) (by decide +kernel), List.mem_of_getElem? (i := 1609) (by decide +kernel)⟩
theorem lw_p95 : lw_okq (⟨"DeedTongueModel", "waitsOn", "(II)V"⟩, 90) := ⟨⟨by decide +kernel, by decide +kernel⟩, List.mem_of_getElem? (i := 1041) (by decide +kernel), List.mem_of_getElem? (i := 1615) (by decide +kernel), List.mem_of_getElem? (i := 1616) (by decide +kernel)⟩
def lw_privs_6 : List (MethodName × Nat) := [(⟨"DeedTongueModel", "pays", "(IIJ)V"⟩, 90), (⟨"DeedTongueModel", "waits", "(IIJ)V"⟩, 90), (⟨"DeedTongueModel", "leaves", "(II)V"⟩, 90), (⟨"DeedTongueModel", "isLife", "(I)Z"⟩, 90), (⟨"DeedTongueModel", "isStanding", "(II)Z"⟩, 90), (⟨"DeedTongueModel", "choosing", "(II)I"⟩, 90), (⟨"DeedTongueModel", "chooser", "(I)I"⟩, 90), (⟨"DeedTongueModel", "untils", "(I)I"⟩, 90), (⟨"DeedTongueModel", "allWeights", "()I"⟩, 90), (⟨"DeedTongueModel", "starts", "()V"⟩, 90), (⟨"DeedTongueModel", "pushes", "(IIIJ)V"⟩, 90), (⟨"DeedTongueModel", "enters", "(III)V"⟩, 90), (⟨"DeedTongueModel", "asIn", "(II)V"⟩, 90), (⟨"DeedTongueModel", "answers", "(J)V"⟩, 90), (⟨"DeedTongueModel", "goesOn", "(III)V"⟩, 90), (⟨"DeedTongueModel", "waitsOn", "(II)V"⟩, 90)]
theorem lw_r6 : ∀ q ∈ lw_privs_6, lw_okq q := List.forall_mem_cons.mpr ⟨lw_p80, List.forall_mem_cons.mpr ⟨lw_p81, List.forall_mem_cons.mpr ⟨lw_p82, List.forall_mem_cons.mpr ⟨lw_p83, List.forall_mem_cons.mpr ⟨lw_p84, List.forall_mem_cons.mpr ⟨lw_p85, List.forall_mem_cons.mpr ⟨lw_p86, List.forall_mem_cons.mpr ⟨lw_p87, List.forall_mem_cons.mpr ⟨lw_p88, List.forall_mem_cons.mpr ⟨lw_p89, List.forall_mem_cons.mpr ⟨lw_p90, List.forall_mem_cons.mpr ⟨lw_p91, List.forall_mem_cons.mpr ⟨lw_p92, List.forall_mem_cons.mpr ⟨lw_p93, List.forall_mem_cons.mpr ⟨lw_p94, List.forall_mem_cons.mpr ⟨lw_p95, fun _ h => absurd h List.not_mem_nil⟩⟩⟩⟩⟩⟩⟩⟩⟩⟩⟩⟩⟩⟩⟩⟩
theorem lw_p96 : lw_okq (⟨"DeedTongueModel", "reaches", "(III)V"⟩, 90) := ⟨⟨by decide +kernel, by decide +kernel⟩, List.mem_of_getElem? (i := 1041) (by decide +kernel), List.mem_of_getElem? (i := 1623) (by decide +kernel), List.mem_of_getElem? (i := 1624) (by decide +kernel)⟩
theorem lw_p97 : lw_okq (⟨"DeedTongueModel", "hasChoice", "(I)Z"⟩, 90) := ⟨⟨by decide +kernel, by decide +kernel⟩, List.mem_of_getElem? (i := 1041) (by decide +kernel), List.mem_of_getElem? (i := 1631) (by decide +kernel), List.mem_of_getElem? (i := 1632) (by decide +kernel)⟩
theorem lw_p98 : lw_okq (⟨"DeedTongueModel", "runs", "(IIIJ)V"⟩, 90) := ⟨⟨by decide +kernel, by decide +kernel⟩, List.mem_of_getElem? (i := 1041) (by decide +kernel), List.mem_of_getElem? (i := 1635) (by decide +kernel), List.mem_of_getElem? (i := 1636) (by decide +kernel)⟩
theorem lw_p99 : lw_okq (⟨"DeedTongueModel", "brings", "(IJ)J"⟩, 90) := ⟨⟨by decide +kernel, by decide +kernel⟩, List.mem_of_getElem? (i := 1041) (by decide +kernel), List.mem_of_getElem? (i := 1639) (by decide +kernel), List.mem_of_getElem? (i := 1640) (by decide +kernel)⟩
theorem lw_p100 : lw_okq (⟨"DeedTongueModel", "shortens", "(II)V"⟩, 90) := ⟨⟨by decide +kernel, by decide +kernel⟩, List.mem_of_getElem? (i := 1041) (by decide +kernel), List.mem_of_getElem? (i := 1647) (by decide +kernel), List.mem_of_getElem? (i := 1648) (by decide +kernel)⟩
theorem lw_p101 : lw_okq (⟨"DeedTongueModel", "lawOf", "(II)I"⟩, 90) := ⟨⟨by decide +kernel, by decide +kernel⟩, List.mem_of_getElem? (i := 1041) (by decide +kernel), List.mem_of_getElem? (i := 1651) (by decide +kernel), List.mem_of_getElem? (i := 1652) (by decide +kernel)⟩
theorem lw_p102 : lw_okq (⟨"DeedTongueModel", "isAlone", "(II)Z"⟩, 90) := ⟨⟨by decide +kernel, by decide +kernel⟩, List.mem_of_getElem? (i := 1041) (by decide +kernel), List.mem_of_getElem? (i := 1655) (by decide +kernel), List.mem_of_getElem? (i := 1656) (by decide +kernel)⟩
theorem lw_p103 : lw_okq (⟨"DeedTongueModel", "areLike", "(IIZ)Z"⟩, 90) := ⟨⟨by decide +kernel, by decide +kernel⟩, List.mem_of_getElem? (i := 1041) (by decide +kernel), List.mem_of_getElem? (i := 1659) (by decide +kernel), List.mem_of_getElem? (i := 1660) (by decide +kernel)⟩
theorem lw_p104 : lw_okq (⟨"DeedTongueModel", "areTests", "(II)Z"⟩, 90) := ⟨⟨by decide +kernel, by decide +kernel⟩, List.mem_of_getElem? (i := 1041) (by decide +kernel), List.mem_of_getElem? (i := 1663) (by decide +kernel), List.mem_of_getElem? (i := 1664) (by decide +kernel)⟩
theorem lw_p105 : lw_okq (⟨"DeedTongueModel", "areSums", "(IIIIII)Z"⟩, 90) := ⟨⟨by decide +kernel, by decide +kernel⟩, List.mem_of_getElem? (i := 1041) (by decide +kernel), List.mem_of_getElem? (i := 1667) (by decide +kernel), List.mem_of_getElem? (i := 1668) (by decide +kernel)⟩
theorem lw_p106 : lw_okq (⟨"DeedTongueModel", "laysOut", "(II)V"⟩, 90) := ⟨⟨by decide +kernel, by decide +kernel⟩, List.mem_of_getElem? (i := 1041) (by decide +kernel), List.mem_of_getElem? (i := 1671) (by decide +kernel), List.mem_of_getElem? (i := 1672) (by decide +kernel)⟩
theorem lw_p107 : lw_okq (⟨"DeedTongueModel", "lays", "(IIZ)V"⟩, 90) := ⟨⟨by decide +kernel, by decide +kernel⟩, List.mem_of_getElem? (i := 1041) (by decide +kernel), List.mem_of_getElem? (i := 1675) (by decide +kernel), List.mem_of_getElem? (i := 1676) (by decide +kernel)⟩
theorem lw_p108 : lw_okq (⟨"DeedTongueModel", "copies", "(IIII)I"⟩, 90) := ⟨⟨by decide +kernel, by decide +kernel⟩, List.mem_of_getElem? (i := 1041) (by decide +kernel), List.mem_of_getElem? (i := 1679) (by decide +kernel), List.mem_of_getElem? (i := 1680) (by decide +kernel)⟩
theorem lw_p109 : lw_okq (⟨"DeedTongueModel", "signs", "(I)V"⟩, 90) := ⟨⟨by decide +kernel, by decide +kernel⟩, List.mem_of_getElem? (i := 1041) (by decide +kernel), List.mem_of_getElem? (i := 1691) (by decide +kernel), List.mem_of_getElem? (i := 1692) (by decide +kernel)⟩
theorem lw_p110 : lw_okq (⟨"DeedTongueModel", "tells", "(I)V"⟩, 90) := ⟨⟨by decide +kernel, by decide +kernel⟩, List.mem_of_getElem? (i := 1041) (by decide +kernel), List.mem_of_getElem? (i := 1695) (by decide +kernel), List.mem_of_getElem? (i := 1696) (by decide +kernel)⟩
theorem lw_p111 : lw_okq (⟨"DeedTongueModel", "spells", "(J)V"⟩, 90) := ⟨⟨by decide +kernel, by decide +kernel⟩, List.mem_of_getElem? (i := 1041) (by decide +kernel), List.mem_of_getElem? (i := 1699) (by decide +kernel), List.mem_of_getElem? (i := 1700) (by decide +kernel)⟩
def lw_privs_7 : List (MethodName × Nat) := [(⟨"DeedTongueModel", "reaches", "(III)V"⟩, 90), (⟨"DeedTongueModel", "hasChoice", "(I)Z"⟩, 90), (⟨"DeedTongueModel", "runs", "(IIIJ)V"⟩, 90), (⟨"DeedTongueModel", "brings", "(IJ)J"⟩, 90), (⟨"DeedTongueModel", "shortens", "(II)V"⟩, 90), (⟨"DeedTongueModel", "lawOf", "(II)I"⟩, 90), (⟨"DeedTongueModel", "isAlone", "(II)Z"⟩, 90), (⟨"DeedTongueModel", "areLike", "(IIZ)Z"⟩, 90), (⟨"DeedTongueModel", "areTests", "(II)Z"⟩, 90), (⟨"DeedTongueModel", "areSums", "(IIIIII)Z"⟩, 90), (⟨"DeedTongueModel", "laysOut", "(II)V"⟩, 90), (⟨"DeedTongueModel", "lays", "(IIZ)V"⟩, 90), (⟨"DeedTongueModel", "copies", "(IIII)I"⟩, 90), (⟨"DeedTongueModel", "signs", "(I)V"⟩, 90), (⟨"DeedTongueModel", "tells", "(I)V"⟩, 90), (⟨"DeedTongueModel", "spells", "(J)V"⟩, 90)]
theorem lw_r7 : ∀ q ∈ lw_privs_7, lw_okq q := List.forall_mem_cons.mpr ⟨lw_p96, List.forall_mem_cons.mpr ⟨lw_p97, List.forall_mem_cons.mpr ⟨lw_p98, List.forall_mem_cons.mpr ⟨lw_p99, List.forall_mem_cons.mpr ⟨lw_p100, List.forall_mem_cons.mpr ⟨lw_p101, List.forall_mem_cons.mpr ⟨lw_p102, List.forall_mem_cons.mpr ⟨lw_p103, List.forall_mem_cons.mpr ⟨lw_p104, List.forall_mem_cons.mpr ⟨lw_p105, List.forall_mem_cons.mpr ⟨lw_p106, List.forall_mem_cons.mpr ⟨lw_p107, List.forall_mem_cons.mpr ⟨lw_p108, List.forall_mem_cons.mpr ⟨lw_p109, List.forall_mem_cons.mpr ⟨lw_p110, List.forall_mem_cons.mpr ⟨lw_p111, fun _ h => absurd h List.not_mem_nil⟩⟩⟩⟩⟩⟩⟩⟩⟩⟩⟩⟩⟩⟩⟩⟩
theorem lw_p112 : lw_okq (⟨"DeedTongueModel", "digits", "(I)V"⟩, 90) := ⟨⟨by decide +kernel, by decide +kernel⟩, List.mem_of_getElem? (i := 1041) (by decide +kernel), List.mem_of_getElem? (i := 1703) (by decide +kernel), List.mem_of_getElem? (i := 1704) (by decide +kernel)⟩
theorem lw_p113 : lw_okq (⟨"DeedTongueModel", "sums", "(III)V"⟩, 90) := ⟨⟨by decide +kernel, by decide +kernel⟩, List.mem_of_getElem? (i := 1041) (by decide +kernel), List.mem_of_getElem? (i := 1707) (by decide +kernel), List.mem_of_getElem? (i := 1708) (by decide +kernel)⟩
def lw_privs_8 : List (MethodName × Nat) := [(⟨"DeedTongueModel", "digits", "(I)V"⟩, 90), (⟨"DeedTongueModel", "sums", "(III)V"⟩, 90)]
theorem lw_r8 : ∀ q ∈ lw_privs_8, lw_okq q := List.forall_mem_cons.mpr ⟨lw_p112, List.forall_mem_cons.mpr ⟨lw_p113, fun _ h => absurd h List.not_mem_nil⟩⟩
def lw_privs : List (MethodName × Nat) := lw_privs_1 ++ (lw_privs_2 ++ (lw_privs_3 ++ (lw_privs_4 ++ (lw_privs_5 ++ (lw_privs_6 ++ (lw_privs_7 ++ (lw_privs_8)))))))
def lw_tbl : List Cond := k2_sels lw_privs ++ tables_1
theorem lw_privs_ok : ∀ q ∈ lw_privs, lw_okq q := by
  show ∀ q ∈ lw_privs_1 ++ (lw_privs_2 ++ (lw_privs_3 ++ (lw_privs_4 ++ (lw_privs_5 ++ (lw_privs_6 ++ (lw_privs_7 ++ (lw_privs_8))))))), lw_okq q
  exact List.forall_mem_append.mpr ⟨lw_r1, List.forall_mem_append.mpr ⟨lw_r2, List.forall_mem_append.mpr ⟨lw_r3, List.forall_mem_append.mpr ⟨lw_r4, List.forall_mem_append.mpr ⟨lw_r5, List.forall_mem_append.mpr ⟨lw_r6, List.forall_mem_append.mpr ⟨lw_r7, lw_r8⟩⟩⟩⟩⟩⟩⟩
-- ===== end of PART A; then your names; then what follows =====
end
section
/-! ===== BEGIN words of one list among another's, by their places ===== -/
theorem goodIn_r {big : List Cond} (ws : List Cond) (ps : List Nat) (hp : ws = ps.filterMap (fun i => big[i]?)) (h : ws.all goodWord = true) : GoodIn big ws := by
  intro w hw
  have h1 := List.all_eq_true.mp h w hw
  rw [hp] at hw
  obtain ⟨i, -, hi⟩ := List.mem_filterMap.mp hw
  have hm : w ∈ big := by first | exact List.mem_of_getElem? hi | exact List.getElem?_mem hi
  exact ⟨hm, good_of_word h1⟩
theorem goodIn_app {big a b : List Cond} (ha : GoodIn big a) (hb : GoodIn big b) : GoodIn big (a ++ b) := fun w h => (List.mem_append.mp h).elim (ha w) (hb w)
theorem goodIn_ca {big a b : List Cond} {c : Cond} (ha : GoodIn big (c :: a)) (hb : GoodIn big b) : GoodIn big (c :: (a ++ b)) := fun w h => (List.mem_cons.mp h).elim (fun e => ha w (List.mem_cons.mpr (Or.inl e))) (fun h => (List.mem_append.mp h).elim (fun h => ha w (List.mem_cons.mpr (Or.inr h))) (hb w))
theorem goodIn_sub {big ws : List Cond} (hm : ∀ w ∈ ws, w ∈ big) (h : ws.all goodWord = true) : GoodIn big ws := fun w hw => ⟨hm w hw, good_of_word (List.all_eq_true.mp h w hw)⟩
/-! ===== END ===== -/

/-! ===== BEGIN printed: names, fields, word lists, decode rows ===== -/
def RX0 : String := "DeedTongue$Chronicle"
def TX0 : u_T := fun k => match k with
  | 0 => ("DeedTongue$Chronicle", "told", "[I", true)
  | _ => ("DeedTongue$Chronicle", "today", "LDeedTongue$Scene;", true)
def tyX0 : Nat → FieldType := fun k => match k with
  | 0 => .array .int
  | _ => .object "DeedTongue$Scene"
abbrev wsX00 : List Cond := u_ws RX0 TX0 2
theorem nmX0 : ∀ a, a < 2 → ∀ b, b < 2 → a ≠ b → (TX0 a).2.1 ≠ (TX0 b).2.1 := by decide +kernel
theorem tyX0_ok : ∀ k, k < 2 → parseFieldDescriptor (TX0 k).2.2.1 = some (tyX0 k) := by decide +kernel
abbrev cX0_init : ByteArray := prog_2_method_1_code
def yX0_init : MethodName := ⟨RX0, "<init>", "()V"⟩
abbrev cX0_write : ByteArray := prog_2_method_2_code
def yX0_write : MethodName := ⟨RX0, "write", "(III)Z"⟩
abbrev cX0_read : ByteArray := prog_2_method_3_code
def yX0_read : MethodName := ⟨RX0, "read", "(II)I"⟩
abbrev cX0_turn : ByteArray := prog_2_method_4_code
def yX0_turn : MethodName := ⟨RX0, "turn", "()Z"⟩
def RX1 : String := "DeedTongue$Court"
def TX1 : u_T := fun k => match k with
  | 0 => ("DeedTongue$Court", "lives", "[LDeedTongue$Life;", true)
  | 1 => ("DeedTongue$Court", "today", "LDeedTongue$Scene;", true)
  | 2 => ("DeedTongue$Court", "ledger", "LDeedTongue$Ledger;", true)
  | _ => ("DeedTongue$Court", "size", "I", false)
def tyX1 : Nat → FieldType := fun k => match k with
  | 0 => .array (.object "DeedTongue$Life")
  | 1 => .object "DeedTongue$Scene"
  | 2 => .object "DeedTongue$Ledger"
  | _ => .int
abbrev wsX10 : List Cond := u_ws RX1 TX1 4
theorem nmX1 : ∀ a, a < 4 → ∀ b, b < 4 → a ≠ b → (TX1 a).2.1 ≠ (TX1 b).2.1 := by decide +kernel
theorem tyX1_ok : ∀ k, k < 4 → parseFieldDescriptor (TX1 k).2.2.1 = some (tyX1 k) := by decide +kernel
abbrev cX1_init : ByteArray := prog_3_method_1_code
def yX1_init : MethodName := ⟨RX1, "<init>", "(LDeedTongue$Scene;LDeedTongue$Ledger;)V"⟩
abbrev cX1_size : ByteArray := prog_3_method_2_code
def yX1_size : MethodName := ⟨RX1, "size", "()I"⟩
abbrev cX1_lifeAt : ByteArray := prog_3_method_3_code
def yX1_lifeAt : MethodName := ⟨RX1, "lifeAt", "(I)LDeedTongue$Life;"⟩
abbrev cX1_open : ByteArray := prog_3_method_4_code
def yX1_open : MethodName := ⟨RX1, "open", "(LDeedTongue$Form;II)I"⟩
abbrev cX1_acquire : ByteArray := prog_3_method_5_code
def yX1_acquire : MethodName := ⟨RX1, "acquire", "(LDeedTongue$Life;III)V"⟩
abbrev cX1_keep : ByteArray := prog_3_method_6_code
def yX1_keep : MethodName := ⟨RX1, "keep", "(LDeedTongue$Life;II)V"⟩
abbrev cX1_wake : ByteArray := prog_3_method_7_code
def yX1_wake : MethodName := ⟨RX1, "wake", "(LDeedTongue$Life;)V"⟩
abbrev cX1_rests : ByteArray := prog_3_method_8_code
def yX1_rests : MethodName := ⟨RX1, "rests", "(LDeedTongue$Life;I)Z"⟩
abbrev cX1_enter : ByteArray := prog_3_method_9_code
def yX1_enter : MethodName := ⟨RX1, "enter", "(LDeedTongue$Life;II)V"⟩
abbrev cX1_decide : ByteArray := prog_3_method_10_code
def yX1_decide : MethodName := ⟨RX1, "decide", "(IIIII)I"⟩
def RX2 : String := "DeedTongue$Form"
def TX2 : u_T := fun k => match k with
  | 0 => ("DeedTongue$Form", "cells", "[I", true)
  | 1 => ("DeedTongue$Form", "parts", "[I", true)
  | 2 => ("DeedTongue$Form", "size", "I", false)
  | _ => ("DeedTongue$Form", "values", "I", false)
def tyX2 : Nat → FieldType := fun k => match k with
  | 0 => .array .int
  | 1 => .array .int
  | 2 => .int
  | _ => .int
abbrev wsX20 : List Cond := u_ws RX2 TX2 4
theorem nmX2 : ∀ a, a < 4 → ∀ b, b < 4 → a ≠ b → (TX2 a).2.1 ≠ (TX2 b).2.1 := by decide +kernel
theorem tyX2_ok : ∀ k, k < 4 → parseFieldDescriptor (TX2 k).2.2.1 = some (tyX2 k) := by decide +kernel
abbrev cX2_init : ByteArray := prog_4_method_1_code
def yX2_init : MethodName := ⟨RX2, "<init>", "(II)V"⟩
abbrev cX2_size : ByteArray := prog_4_method_2_code
def yX2_size : MethodName := ⟨RX2, "size", "()I"⟩
abbrev cX2_valueCount : ByteArray := prog_4_method_3_code
def yX2_valueCount : MethodName := ⟨RX2, "valueCount", "()I"⟩
abbrev cX2_clear : ByteArray := prog_4_method_4_code
def yX2_clear : MethodName := ⟨RX2, "clear", "()V"⟩
abbrev cX2_field : ByteArray := prog_4_method_5_code
def yX2_field : MethodName := ⟨RX2, "field", "(II)I"⟩
abbrev cX2_setField : ByteArray := prog_4_method_6_code
def yX2_setField : MethodName := ⟨RX2, "setField", "(III)V"⟩
abbrev cX2_grow : ByteArray := prog_4_method_7_code
def yX2_grow : MethodName := ⟨RX2, "grow", "(II)I"⟩
abbrev cX2_inherit : ByteArray := prog_4_method_8_code
def yX2_inherit : MethodName := ⟨RX2, "inherit", "(II)V"⟩
abbrev cX2_addValue : ByteArray := prog_4_method_9_code
def yX2_addValue : MethodName := ⟨RX2, "addValue", "(II)Z"⟩
abbrev cX2_joint : ByteArray := prog_4_method_10_code
def yX2_joint : MethodName := ⟨RX2, "joint", "(I)I"⟩
abbrev cX2_value : ByteArray := prog_4_method_11_code
def yX2_value : MethodName := ⟨RX2, "value", "(I)I"⟩
abbrev cX2_sum : ByteArray := prog_4_method_12_code
def yX2_sum : MethodName := ⟨RX2, "sum", "(IILDeedTongue$Scene;)J"⟩
abbrev cX2_holds : ByteArray := prog_4_method_13_code
def yX2_holds : MethodName := ⟨RX2, "holds", "(ILDeedTongue$Scene;)Z"⟩
abbrev cX2_lapsed : ByteArray := prog_4_method_14_code
def yX2_lapsed : MethodName := ⟨RX2, "lapsed", "(ILDeedTongue$Scene;)Z"⟩
abbrev cX2_passed : ByteArray := prog_4_method_15_code
def yX2_passed : MethodName := ⟨RX2, "passed", "(IILDeedTongue$Scene;)I"⟩
abbrev cX2_held : ByteArray := prog_4_method_16_code
def yX2_held : MethodName := ⟨RX2, "held", "(II)I"⟩
abbrev cX2_nextDeed : ByteArray := prog_4_method_17_code
def yX2_nextDeed : MethodName := ⟨RX2, "nextDeed", "(ILDeedTongue$Scene;)I"⟩
abbrev cX2_hasChoices : ByteArray := prog_4_method_18_code
def yX2_hasChoices : MethodName := ⟨RX2, "hasChoices", "()Z"⟩
abbrev cX2_copyToSize : ByteArray := prog_4_method_19_code
def yX2_copyToSize : MethodName := ⟨RX2, "copyToSize", "()LDeedTongue$Form;"⟩
def RX3 : String := "DeedTongue$Laws"
def TX3 : u_T := fun k => match k with
  | 0 => ("DeedTongue$Laws", "work", "LDeedTongue$Form;", true)
  | _ => ("DeedTongue$Laws", "became", "[I", true)
def tyX3 : Nat → FieldType := fun k => match k with
  | 0 => .object "DeedTongue$Form"
  | _ => .array .int
abbrev wsX30 : List Cond := u_ws RX3 TX3 2
theorem nmX3 : ∀ a, a < 2 → ∀ b, b < 2 → a ≠ b → (TX3 a).2.1 ≠ (TX3 b).2.1 := by decide +kernel
theorem tyX3_ok : ∀ k, k < 2 → parseFieldDescriptor (TX3 k).2.2.1 = some (tyX3 k) := by decide +kernel
abbrev cX3_init : ByteArray := prog_5_method_1_code
def yX3_init : MethodName := ⟨RX3, "<init>", "()V"⟩
abbrev cX3_shorten : ByteArray := prog_5_method_2_code
def yX3_shorten : MethodName := ⟨RX3, "shorten", "(LDeedTongue$Form;LDeedTongue$Form;)V"⟩
abbrev cX3_sameEitherWay : ByteArray := prog_5_method_3_code
def yX3_sameEitherWay : MethodName := ⟨RX3, "sameEitherWay", "(LDeedTongue$Form;LDeedTongue$Form;)Z"⟩
abbrev cX3_follow : ByteArray := prog_5_method_4_code
def yX3_follow : MethodName := ⟨RX3, "follow", "(II)V"⟩
abbrev cX3_apply : ByteArray := prog_5_method_5_code
def yX3_apply : MethodName := ⟨RX3, "apply", "(I)I"⟩
abbrev cX3_scaleLaw : ByteArray := prog_5_method_6_code
def yX3_scaleLaw : MethodName := ⟨RX3, "scaleLaw", "(II)I"⟩
abbrev cX3_makeNothing : ByteArray := prog_5_method_7_code
def yX3_makeNothing : MethodName := ⟨RX3, "makeNothing", "(I)V"⟩
abbrev cX3_capLaw : ByteArray := prog_5_method_8_code
def yX3_capLaw : MethodName := ⟨RX3, "capLaw", "(II)I"⟩
abbrev cX3_copyDeed : ByteArray := prog_5_method_9_code
def yX3_copyDeed : MethodName := ⟨RX3, "copyDeed", "(LDeedTongue$Form;ILDeedTongue$Form;I)V"⟩
abbrev cX3_copySums : ByteArray := prog_5_method_10_code
def yX3_copySums : MethodName := ⟨RX3, "copySums", "(LDeedTongue$Form;ILDeedTongue$Form;I)V"⟩
abbrev cX3_alike : ByteArray := prog_5_method_11_code
def yX3_alike : MethodName := ⟨RX3, "alike", "(LDeedTongue$Form;ILDeedTongue$Form;IZ)Z"⟩
abbrev cX3_headsAlike : ByteArray := prog_5_method_12_code
def yX3_headsAlike : MethodName := ⟨RX3, "headsAlike", "(LDeedTongue$Form;ILDeedTongue$Form;I)Z"⟩
def RX4 : String := "DeedTongue$Ledger"
def TX4 : u_T := fun k => match k with
  | 0 => ("DeedTongue$Ledger", "entries", "[I", false)
  | 1 => ("DeedTongue$Ledger", "size", "I", false)
  | 2 => ("DeedTongue$Ledger", "lost", "I", false)
  | 3 => ("DeedTongue$Ledger", "gets", "[J", true)
  | 4 => ("DeedTongue$Ledger", "rest", "[J", true)
  | 5 => ("DeedTongue$Ledger", "givers", "[I", true)
  | 6 => ("DeedTongue$Ledger", "takers", "[I", true)
  | 7 => ("DeedTongue$Ledger", "amounts", "[J", true)
  | _ => ("DeedTongue$Ledger", "gifts", "I", false)
def tyX4 : Nat → FieldType := fun k => match k with
  | 0 => .array .int
  | 1 => .int
  | 2 => .int
  | 3 => .array .long
  | 4 => .array .long
  | 5 => .array .int
  | 6 => .array .int
  | 7 => .array .long
  | _ => .int
abbrev wsX40 : List Cond := u_ws RX4 TX4 9
theorem nmX4 : ∀ a, a < 9 → ∀ b, b < 9 → a ≠ b → (TX4 a).2.1 ≠ (TX4 b).2.1 := by decide +kernel
theorem tyX4_ok : ∀ k, k < 9 → parseFieldDescriptor (TX4 k).2.2.1 = some (tyX4 k) := by decide +kernel
abbrev cX4_init : ByteArray := prog_6_method_1_code
def yX4_init : MethodName := ⟨RX4, "<init>", "()V"⟩
abbrev cX4_size : ByteArray := prog_6_method_2_code
def yX4_size : MethodName := ⟨RX4, "size", "()I"⟩
abbrev cX4_pay : ByteArray := prog_6_method_3_code
def yX4_pay : MethodName := ⟨RX4, "pay", "(LDeedTongue$Life;III)V"⟩
abbrev cX4_makeRoom : ByteArray := prog_6_method_4_code
def yX4_makeRoom : MethodName := ⟨RX4, "makeRoom", "()V"⟩
abbrev cX4_set : ByteArray := prog_6_method_5_code
def yX4_set : MethodName := ⟨RX4, "set", "(III)V"⟩
abbrev cX4_entry : ByteArray := prog_6_method_6_code
def yX4_entry : MethodName := ⟨RX4, "entry", "(II)I"⟩
abbrev cX4_settle : ByteArray := prog_6_method_7_code
def yX4_settle : MethodName := ⟨RX4, "settle", "(I)I"⟩
abbrev cX4_book : ByteArray := prog_6_method_8_code
def yX4_book : MethodName := ⟨RX4, "book", "(II)V"⟩
abbrev cX4_addGift : ByteArray := prog_6_method_9_code
def yX4_addGift : MethodName := ⟨RX4, "addGift", "()Z"⟩
abbrev cX4_leastHouse : ByteArray := prog_6_method_10_code
def yX4_leastHouse : MethodName := ⟨RX4, "leastHouse", "(I)I"⟩
abbrev cX4_settled : ByteArray := prog_6_method_11_code
def yX4_settled : MethodName := ⟨RX4, "settled", "(II)J"⟩
def RX5 : String := "DeedTongue$Life"
def TX5 : u_T := fun k => match k with
  | 0 => ("DeedTongue$Life", "form", "LDeedTongue$Form;", true)
  | 1 => ("DeedTongue$Life", "number", "I", true)
  | 2 => ("DeedTongue$Life", "first", "I", true)
  | 3 => ("DeedTongue$Life", "second", "I", true)
  | 4 => ("DeedTongue$Life", "stood", "[I", true)
  | 5 => ("DeedTongue$Life", "factors", "[I", true)
  | 6 => ("DeedTongue$Life", "size", "I", false)
  | _ => ("DeedTongue$Life", "gained", "J", false)
def tyX5 : Nat → FieldType := fun k => match k with
  | 0 => .object "DeedTongue$Form"
  | 1 => .int
  | 2 => .int
  | 3 => .int
  | 4 => .array .int
  | 5 => .array .int
  | 6 => .int
  | _ => .long
abbrev wsX50 : List Cond := u_ws RX5 TX5 8
theorem nmX5 : ∀ a, a < 8 → ∀ b, b < 8 → a ≠ b → (TX5 a).2.1 ≠ (TX5 b).2.1 := by decide +kernel
theorem tyX5_ok : ∀ k, k < 8 → parseFieldDescriptor (TX5 k).2.2.1 = some (tyX5 k) := by decide +kernel
abbrev cX5_init : ByteArray := prog_7_method_1_code
def yX5_init : MethodName := ⟨RX5, "<init>", "(LDeedTongue$Form;III)V"⟩
abbrev cX5_size : ByteArray := prog_7_method_2_code
def yX5_size : MethodName := ⟨RX5, "size", "()I"⟩
abbrev cX5_stand : ByteArray := prog_7_method_3_code
def yX5_stand : MethodName := ⟨RX5, "stand", "(II)Z"⟩
abbrev cX5_wordAt : ByteArray := prog_7_method_4_code
def yX5_wordAt : MethodName := ⟨RX5, "wordAt", "(I)I"⟩
abbrev cX5_factorAt : ByteArray := prog_7_method_5_code
def yX5_factorAt : MethodName := ⟨RX5, "factorAt", "(I)I"⟩
abbrev cX5_drop : ByteArray := prog_7_method_6_code
def yX5_drop : MethodName := ⟨RX5, "drop", "(I)V"⟩
abbrev cX5_chooser : ByteArray := prog_7_method_7_code
def yX5_chooser : MethodName := ⟨RX5, "chooser", "(I)I"⟩
abbrev cX5_about : ByteArray := prog_7_method_8_code
def yX5_about : MethodName := ⟨RX5, "about", "(IILDeedTongue$Scene;)I"⟩
def RX6 : String := "DeedTongue$Reader"
def TX6 : u_T := fun k => match k with
  | 0 => ("DeedTongue$Reader", "text", "LDeedTongue$Text;", true)
  | 1 => ("DeedTongue$Reader", "draft", "LDeedTongue$Form;", true)
  | 2 => ("DeedTongue$Reader", "place", "I", false)
  | _ => ("DeedTongue$Reader", "fault", "I", false)
def tyX6 : Nat → FieldType := fun k => match k with
  | 0 => .object "DeedTongue$Text"
  | 1 => .object "DeedTongue$Form"
  | 2 => .int
  | _ => .int
abbrev wsX60 : List Cond := u_ws RX6 TX6 4
theorem nmX6 : ∀ a, a < 4 → ∀ b, b < 4 → a ≠ b → (TX6 a).2.1 ≠ (TX6 b).2.1 := by decide +kernel
theorem tyX6_ok : ∀ k, k < 4 → parseFieldDescriptor (TX6 k).2.2.1 = some (tyX6 k) := by decide +kernel
abbrev cX6_init : ByteArray := prog_8_method_1_code
def yX6_init : MethodName := ⟨RX6, "<init>", "(LDeedTongue$Text;LDeedTongue$Form;)V"⟩
abbrev cX6_readTape : ByteArray := prog_8_method_2_code
def yX6_readTape : MethodName := ⟨RX6, "readTape", "()I"⟩
abbrev cX6_fail : ByteArray := prog_8_method_3_code
def yX6_fail : MethodName := ⟨RX6, "fail", "(II)Z"⟩
abbrev cX6_upNext : ByteArray := prog_8_method_4_code
def yX6_upNext : MethodName := ⟨RX6, "upNext", "()I"⟩
abbrev cX6_readSign : ByteArray := prog_8_method_5_code
def yX6_readSign : MethodName := ⟨RX6, "readSign", "(I)Z"⟩
abbrev cX6_lettersFrom : ByteArray := prog_8_method_6_code
def yX6_lettersFrom : MethodName := ⟨RX6, "lettersFrom", "(I)I"⟩
abbrev cX6_isNamed : ByteArray := prog_8_method_7_code
def yX6_isNamed : MethodName := ⟨RX6, "isNamed", "(III)Z"⟩
abbrev cX6_kindFrom : ByteArray := prog_8_method_8_code
def yX6_kindFrom : MethodName := ⟨RX6, "kindFrom", "(II)I"⟩
abbrev cX6_readDeed : ByteArray := prog_8_method_9_code
def yX6_readDeed : MethodName := ⟨RX6, "readDeed", "(II)Z"⟩
abbrev cX6_readDeeds : ByteArray := prog_8_method_10_code
def yX6_readDeeds : MethodName := ⟨RX6, "readDeeds", "(III)Z"⟩
abbrev cX6_readN : ByteArray := prog_8_method_11_code
def yX6_readN : MethodName := ⟨RX6, "readN", "(I)Z"⟩
abbrev cX6_readNumber : ByteArray := prog_8_method_12_code
def yX6_readNumber : MethodName := ⟨RX6, "readNumber", "()I"⟩
abbrev cX6_readSums : ByteArray := prog_8_method_13_code
def yX6_readSums : MethodName := ⟨RX6, "readSums", "(II)Z"⟩
abbrev cX6_readRelation : ByteArray := prog_8_method_14_code
def yX6_readRelation : MethodName := ⟨RX6, "readRelation", "(I)Z"⟩
abbrev cX6_readSum : ByteArray := prog_8_method_15_code
def yX6_readSum : MethodName := ⟨RX6, "readSum", "()Z"⟩
abbrev cX6_readValue : ByteArray := prog_8_method_16_code
def yX6_readValue : MethodName := ⟨RX6, "readValue", "(I)Z"⟩
abbrev cX6_readNamedValue : ByteArray := prog_8_method_17_code
def yX6_readNamedValue : MethodName := ⟨RX6, "readNamedValue", "(I)I"⟩
def RX7 : String := "DeedTongue$Scene"
def TX7 : u_T := fun k => match k with
  | 0 => ("DeedTongue$Scene", "things", "[I", true)
  | _ => ("DeedTongue$Scene", "date", "I", false)
def tyX7 : Nat → FieldType := fun k => match k with
  | 0 => .array .int
  | _ => .int
abbrev wsX70 : List Cond := u_ws RX7 TX7 2
theorem nmX7 : ∀ a, a < 2 → ∀ b, b < 2 → a ≠ b → (TX7 a).2.1 ≠ (TX7 b).2.1 := by decide +kernel
theorem tyX7_ok : ∀ k, k < 2 → parseFieldDescriptor (TX7 k).2.2.1 = some (tyX7 k) := by decide +kernel
abbrev cX7_init : ByteArray := prog_9_method_1_code
def yX7_init : MethodName := ⟨RX7, "<init>", "()V"⟩
abbrev cX7_valueOf : ByteArray := prog_9_method_2_code
def yX7_valueOf : MethodName := ⟨RX7, "valueOf", "(I)I"⟩
abbrev cX7_setThing : ByteArray := prog_9_method_3_code
def yX7_setThing : MethodName := ⟨RX7, "setThing", "(II)V"⟩
abbrev cX7_addThing : ByteArray := prog_9_method_4_code
def yX7_addThing : MethodName := ⟨RX7, "addThing", "(II)V"⟩
abbrev cX7_copyFrom : ByteArray := prog_9_method_5_code
def yX7_copyFrom : MethodName := ⟨RX7, "copyFrom", "(LDeedTongue$Scene;)V"⟩
def RX8 : String := "DeedTongue$Teller"
def TX8 : u_T := fun k => match k with
  | _ => ("DeedTongue$Teller", "out", "LDeedTongue$Text;", true)
def tyX8 : Nat → FieldType := fun k => match k with
  | _ => .object "DeedTongue$Text"
abbrev wsX80 : List Cond := u_ws RX8 TX8 1
theorem nmX8 : ∀ a, a < 1 → ∀ b, b < 1 → a ≠ b → (TX8 a).2.1 ≠ (TX8 b).2.1 := by decide +kernel
theorem tyX8_ok : ∀ k, k < 1 → parseFieldDescriptor (TX8 k).2.2.1 = some (tyX8 k) := by decide +kernel
abbrev cX8_init : ByteArray := prog_10_method_1_code
def yX8_init : MethodName := ⟨RX8, "<init>", "(LDeedTongue$Text;)V"⟩
abbrev cX8_write : ByteArray := prog_10_method_2_code
def yX8_write : MethodName := ⟨RX8, "write", "(LDeedTongue$Form;)V"⟩
abbrev cX8_writeDeed : ByteArray := prog_10_method_3_code
def yX8_writeDeed : MethodName := ⟨RX8, "writeDeed", "(LDeedTongue$Form;II)V"⟩
abbrev cX8_writeHead : ByteArray := prog_10_method_4_code
def yX8_writeHead : MethodName := ⟨RX8, "writeHead", "(LDeedTongue$Form;II)V"⟩
abbrev cX8_gap : ByteArray := prog_10_method_5_code
def yX8_gap : MethodName := ⟨RX8, "gap", "()V"⟩
abbrev cX8_writeName : ByteArray := prog_10_method_6_code
def yX8_writeName : MethodName := ⟨RX8, "writeName", "(I)V"⟩
abbrev cX8_writeNumber : ByteArray := prog_10_method_7_code
def yX8_writeNumber : MethodName := ⟨RX8, "writeNumber", "(I)V"⟩
abbrev cX8_writeRelation : ByteArray := prog_10_method_8_code
def yX8_writeRelation : MethodName := ⟨RX8, "writeRelation", "(I)V"⟩
abbrev cX8_writeSum : ByteArray := prog_10_method_9_code
def yX8_writeSum : MethodName := ⟨RX8, "writeSum", "(LDeedTongue$Form;II)V"⟩
abbrev cX8_writeValue : ByteArray := prog_10_method_10_code
def yX8_writeValue : MethodName := ⟨RX8, "writeValue", "(I)V"⟩
def RX9 : String := "DeedTongue$Text"
def TX9 : u_T := fun k => match k with
  | 0 => ("DeedTongue$Text", "bytes", "[B", true)
  | _ => ("DeedTongue$Text", "length", "I", false)
def tyX9 : Nat → FieldType := fun k => match k with
  | 0 => .array .byte
  | _ => .int
abbrev wsX90 : List Cond := u_ws RX9 TX9 2
theorem nmX9 : ∀ a, a < 2 → ∀ b, b < 2 → a ≠ b → (TX9 a).2.1 ≠ (TX9 b).2.1 := by decide +kernel
theorem tyX9_ok : ∀ k, k < 2 → parseFieldDescriptor (TX9 k).2.2.1 = some (tyX9 k) := by decide +kernel
abbrev cX9_init : ByteArray := prog_11_method_1_code
def yX9_init : MethodName := ⟨RX9, "<init>", "(I)V"⟩
abbrev cX9_size : ByteArray := prog_11_method_2_code
def yX9_size : MethodName := ⟨RX9, "size", "()I"⟩
abbrev cX9_at : ByteArray := prog_11_method_3_code
def yX9_at : MethodName := ⟨RX9, "at", "(I)I"⟩
abbrev cX9_put : ByteArray := prog_11_method_4_code
def yX9_put : MethodName := ⟨RX9, "put", "(I)V"⟩
abbrev cX9_putNumber : ByteArray := prog_11_method_5_code
def yX9_putNumber : MethodName := ⟨RX9, "putNumber", "(I)V"⟩
abbrev cX9_cut : ByteArray := prog_11_method_6_code
def yX9_cut : MethodName := ⟨RX9, "cut", "(I)V"⟩
def RX10 : String := "DeedTongue$Worlds"
def TX10 : u_T := fun k => match k with
  | 0 => ("DeedTongue$Worlds", "size", "I", false)
  | 1 => ("DeedTongue$Worlds", "weights", "[I", true)
  | 2 => ("DeedTongue$Worlds", "steps", "[I", true)
  | 3 => ("DeedTongue$Worlds", "path", "[LDeedTongue$Scene;", true)
  | 4 => ("DeedTongue$Worlds", "balance", "[J", true)
  | 5 => ("DeedTongue$Worlds", "today", "LDeedTongue$Scene;", true)
  | 6 => ("DeedTongue$Worlds", "form", "LDeedTongue$Form;", false)
  | 7 => ("DeedTongue$Worlds", "ahead", "I", false)
  | _ => ("DeedTongue$Worlds", "goal", "I", false)
def tyX10 : Nat → FieldType := fun k => match k with
  | 0 => .int
  | 1 => .array .int
  | 2 => .array .int
  | 3 => .array (.object "DeedTongue$Scene")
  | 4 => .array .long
  | 5 => .object "DeedTongue$Scene"
  | 6 => .object "DeedTongue$Form"
  | 7 => .int
  | _ => .int
abbrev wsX100 : List Cond := u_ws RX10 TX10 9
theorem nmX10 : ∀ a, a < 9 → ∀ b, b < 9 → a ≠ b → (TX10 a).2.1 ≠ (TX10 b).2.1 := by decide +kernel
theorem tyX10_ok : ∀ k, k < 9 → parseFieldDescriptor (TX10 k).2.2.1 = some (tyX10 k) := by decide +kernel
abbrev cX10_init : ByteArray := prog_12_method_1_code
def yX10_init : MethodName := ⟨RX10, "<init>", "(LDeedTongue$Scene;)V"⟩
abbrev cX10_size : ByteArray := prog_12_method_2_code
def yX10_size : MethodName := ⟨RX10, "size", "()I"⟩
abbrev cX10_renew : ByteArray := prog_12_method_3_code
def yX10_renew : MethodName := ⟨RX10, "renew", "(I)V"⟩
abbrev cX10_weigh : ByteArray := prog_12_method_4_code
def yX10_weigh : MethodName := ⟨RX10, "weigh", "(II)Z"⟩
abbrev cX10_shift : ByteArray := prog_12_method_5_code
def yX10_shift : MethodName := ⟨RX10, "shift", "(III)Z"⟩
abbrev cX10_weightOf : ByteArray := prog_12_method_6_code
def yX10_weightOf : MethodName := ⟨RX10, "weightOf", "(I)J"⟩
abbrev cX10_power : ByteArray := prog_12_method_7_code
def yX10_power : MethodName := ⟨RX10, "power", "(I)J"⟩
abbrev cX10_start : ByteArray := prog_12_method_8_code
def yX10_start : MethodName := ⟨RX10, "start", "(LDeedTongue$Form;I)V"⟩
abbrev cX10_sceneAt : ByteArray := prog_12_method_9_code
def yX10_sceneAt : MethodName := ⟨RX10, "sceneAt", "(I)LDeedTongue$Scene;"⟩
abbrev cX10_go : ByteArray := prog_12_method_10_code
def yX10_go : MethodName := ⟨RX10, "go", "(II)V"⟩
abbrev cX10_judge : ByteArray := prog_12_method_11_code
def yX10_judge : MethodName := ⟨RX10, "judge", "(LDeedTongue$Form;II)J"⟩
abbrev cX10_value : ByteArray := prog_12_method_12_code
def yX10_value : MethodName := ⟨RX10, "value", "(III)J"⟩
abbrev cX10_deedValue : ByteArray := prog_12_method_13_code
def yX10_deedValue : MethodName := ⟨RX10, "deedValue", "(III)J"⟩
abbrev cX10_better : ByteArray := prog_12_method_14_code
def yX10_better : MethodName := ⟨RX10, "better", "(IJJ)J"⟩
abbrev cX10_waiting : ByteArray := prog_12_method_15_code
def yX10_waiting : MethodName := ⟨RX10, "waiting", "(III)J"⟩
abbrev cX10_finds : ByteArray := prog_12_method_16_code
def yX10_finds : MethodName := ⟨RX10, "finds", "(LDeedTongue$Form;II)Z"⟩
abbrev cX10_reaches : ByteArray := prog_12_method_17_code
def yX10_reaches : MethodName := ⟨RX10, "reaches", "(III)Z"⟩
abbrev cX10_reachesLater : ByteArray := prog_12_method_18_code
def yX10_reachesLater : MethodName := ⟨RX10, "reachesLater", "(III)Z"⟩
abbrev cX10_firstParting : ByteArray := prog_12_method_19_code
def yX10_firstParting : MethodName := ⟨RX10, "firstParting", "(LDeedTongue$Form;LDeedTongue$Form;II)I"⟩
abbrev cX10_isParting : ByteArray := prog_12_method_20_code
def yX10_isParting : MethodName := ⟨RX10, "isParting", "(LDeedTongue$Form;LDeedTongue$Form;)Z"⟩
abbrev cX10_run : ByteArray := prog_12_method_21_code
def yX10_run : MethodName := ⟨RX10, "run", "(IIII)V"⟩
def RX11 : String := "DeedTongue"
def TX11 : u_T := fun k => match k with
  | 0 => ("DeedTongue", "chronicle", "LDeedTongue$Chronicle;", true)
  | 1 => ("DeedTongue", "tape", "LDeedTongue$Text;", true)
  | 2 => ("DeedTongue", "out", "LDeedTongue$Text;", true)
  | 3 => ("DeedTongue", "forms", "[LDeedTongue$Form;", true)
  | 4 => ("DeedTongue", "draft", "LDeedTongue$Form;", true)
  | 5 => ("DeedTongue", "other", "LDeedTongue$Form;", true)
  | 6 => ("DeedTongue", "reader", "LDeedTongue$Reader;", true)
  | 7 => ("DeedTongue", "teller", "LDeedTongue$Teller;", true)
  | 8 => ("DeedTongue", "laws", "LDeedTongue$Laws;", true)
  | 9 => ("DeedTongue", "ledger", "LDeedTongue$Ledger;", true)
  | 10 => ("DeedTongue", "court", "LDeedTongue$Court;", true)
  | 11 => ("DeedTongue", "worlds", "LDeedTongue$Worlds;", true)
  | _ => ("DeedTongue", "formCount", "I", false)
def tyX11 : Nat → FieldType := fun k => match k with
  | 0 => .object "DeedTongue$Chronicle"
  | 1 => .object "DeedTongue$Text"
  | 2 => .object "DeedTongue$Text"
  | 3 => .array (.object "DeedTongue$Form")
  | 4 => .object "DeedTongue$Form"
  | 5 => .object "DeedTongue$Form"
  | 6 => .object "DeedTongue$Reader"
  | 7 => .object "DeedTongue$Teller"
  | 8 => .object "DeedTongue$Laws"
  | 9 => .object "DeedTongue$Ledger"
  | 10 => .object "DeedTongue$Court"
  | 11 => .object "DeedTongue$Worlds"
  | _ => .int
abbrev wsX110 : List Cond := u_ws RX11 TX11 13
theorem nmX11 : ∀ a, a < 13 → ∀ b, b < 13 → a ≠ b → (TX11 a).2.1 ≠ (TX11 b).2.1 := by decide +kernel
theorem tyX11_ok : ∀ k, k < 13 → parseFieldDescriptor (TX11 k).2.2.1 = some (tyX11 k) := by decide +kernel
abbrev cX11_init : ByteArray := prog_1_method_1_code
def yX11_init : MethodName := ⟨RX11, "<init>", "()V"⟩
abbrev cX11_see : ByteArray := prog_1_method_2_code
def yX11_see : MethodName := ⟨RX11, "see", "(III)Z"⟩
abbrev cX11_seen : ByteArray := prog_1_method_3_code
def yX11_seen : MethodName := ⟨RX11, "seen", "(II)I"⟩
abbrev cX11_feed : ByteArray := prog_1_method_4_code
def yX11_feed : MethodName := ⟨RX11, "feed", "(IIIII)I"⟩
abbrev cX11_end : ByteArray := prog_1_method_5_code
def yX11_end : MethodName := ⟨RX11, "end", "(I)I"⟩
abbrev cX11_form : ByteArray := prog_1_method_6_code
def yX11_form : MethodName := ⟨RX11, "form", "()I"⟩
abbrev cX11_word : ByteArray := prog_1_method_7_code
def yX11_word : MethodName := ⟨RX11, "word", "(III)I"⟩
abbrev cX11_words : ByteArray := prog_1_method_8_code
def yX11_words : MethodName := ⟨RX11, "words", "(I)I"⟩
abbrev cX11_shorter : ByteArray := prog_1_method_9_code
def yX11_shorter : MethodName := ⟨RX11, "shorter", "(I)I"⟩
abbrev cX11_same : ByteArray := prog_1_method_10_code
def yX11_same : MethodName := ⟨RX11, "same", "(II)I"⟩
abbrev cX11_tell : ByteArray := prog_1_method_11_code
def yX11_tell : MethodName := ⟨RX11, "tell", "(I)I"⟩
abbrev cX11_octet : ByteArray := prog_1_method_12_code
def yX11_octet : MethodName := ⟨RX11, "octet", "(I)I"⟩
abbrev cX11_begin : ByteArray := prog_1_method_13_code
def yX11_begin : MethodName := ⟨RX11, "begin", "(III)I"⟩
abbrev cX11_day : ByteArray := prog_1_method_14_code
def yX11_day : MethodName := ⟨RX11, "day", "()I"⟩
abbrev cX11_stands : ByteArray := prog_1_method_15_code
def yX11_stands : MethodName := ⟨RX11, "stands", "(I)I"⟩
abbrev cX11_standing : ByteArray := prog_1_method_16_code
def yX11_standing : MethodName := ⟨RX11, "standing", "(III)I"⟩
abbrev cX11_choose : ByteArray := prog_1_method_17_code
def yX11_choose : MethodName := ⟨RX11, "choose", "(IIII)I"⟩
abbrev cX11_take : ByteArray := prog_1_method_18_code
def yX11_take : MethodName := ⟨RX11, "take", "(III)I"⟩
abbrev cX11_payment : ByteArray := prog_1_method_19_code
def yX11_payment : MethodName := ⟨RX11, "payment", "(II)I"⟩
abbrev cX11_got : ByteArray := prog_1_method_20_code
def yX11_got : MethodName := ⟨RX11, "got", "(I)J"⟩
abbrev cX11_net : ByteArray := prog_1_method_21_code
def yX11_net : MethodName := ⟨RX11, "net", "(I)I"⟩
abbrev cX11_netted : ByteArray := prog_1_method_22_code
def yX11_netted : MethodName := ⟨RX11, "netted", "(II)J"⟩
abbrev cX11_ways : ByteArray := prog_1_method_23_code
def yX11_ways : MethodName := ⟨RX11, "ways", "(I)Z"⟩
abbrev cX11_weight : ByteArray := prog_1_method_24_code
def yX11_weight : MethodName := ⟨RX11, "weight", "(II)Z"⟩
abbrev cX11_adds : ByteArray := prog_1_method_25_code
def yX11_adds : MethodName := ⟨RX11, "adds", "(III)Z"⟩
abbrev cX11_worth : ByteArray := prog_1_method_26_code
def yX11_worth : MethodName := ⟨RX11, "worth", "(III)J"⟩
abbrev cX11_comeTo : ByteArray := prog_1_method_27_code
def yX11_comeTo : MethodName := ⟨RX11, "comeTo", "(III)I"⟩
abbrev cX11_parted : ByteArray := prog_1_method_28_code
def yX11_parted : MethodName := ⟨RX11, "parted", "(III)I"⟩
abbrev cX11_count : ByteArray := prog_1_method_29_code
def yX11_count : MethodName := ⟨RX11, "count", "(I)I"⟩
abbrev cX11_formAt : ByteArray := prog_1_method_30_code
def yX11_formAt : MethodName := ⟨RX11, "formAt", "(I)LDeedTongue$Form;"⟩
abbrev cX11_keepDraft : ByteArray := prog_1_method_31_code
def yX11_keepDraft : MethodName := ⟨RX11, "keepDraft", "()I"⟩
abbrev cX11_isHouse : ByteArray := prog_1_method_32_code
def yX11_isHouse : MethodName := ⟨RX11, "isHouse", "(I)Z"⟩
abbrev cX11_isAhead : ByteArray := prog_1_method_33_code
def yX11_isAhead : MethodName := ⟨RX11, "isAhead", "(I)Z"⟩
abbrev cX11_isDigit : ByteArray := prog_1_method_34_code
def yX11_isDigit : MethodName := ⟨RX11, "isDigit", "(I)Z"⟩
abbrev cX11_isLetter : ByteArray := prog_1_method_35_code
def yX11_isLetter : MethodName := ⟨RX11, "isLetter", "(I)Z"⟩
abbrev cX11_hasNumber : ByteArray := prog_1_method_36_code
def yX11_hasNumber : MethodName := ⟨RX11, "hasNumber", "(I)Z"⟩
abbrev cX11_hasTest : ByteArray := prog_1_method_37_code
def yX11_hasTest : MethodName := ⟨RX11, "hasTest", "(I)Z"⟩
abbrev cX11_hasSum : ByteArray := prog_1_method_38_code
def yX11_hasSum : MethodName := ⟨RX11, "hasSum", "(I)Z"⟩
abbrev cX11_hasPair : ByteArray := prog_1_method_39_code
def yX11_hasPair : MethodName := ⟨RX11, "hasPair", "(I)Z"⟩
abbrev cX11_hasDeed : ByteArray := prog_1_method_40_code
def yX11_hasDeed : MethodName := ⟨RX11, "hasDeed", "(I)Z"⟩
abbrev cX11_nameLetter : ByteArray := prog_1_method_41_code
def yX11_nameLetter : MethodName := ⟨RX11, "nameLetter", "(II)I"⟩
def RX12 : String := "DeedTongueModel"
def TX12 : u_T := fun k => match k with
  | 0 => ("DeedTongueModel", "now", "I", false)
  | 1 => ("DeedTongueModel", "lost", "I", false)
  | 2 => ("DeedTongueModel", "told", "[I", true)
  | 3 => ("DeedTongueModel", "tape", "[B", true)
  | 4 => ("DeedTongueModel", "taped", "I", false)
  | 5 => ("DeedTongueModel", "forms", "I", false)
  | 6 => ("DeedTongueModel", "words", "[I", true)
  | 7 => ("DeedTongueModel", "kind", "[I", true)
  | 8 => ("DeedTongueModel", "n", "[I", true)
  | 9 => ("DeedTongueModel", "around", "[I", true)
  | 10 => ("DeedTongueModel", "parent", "[I", true)
  | 11 => ("DeedTongueModel", "one", "[I", true)
  | 12 => ("DeedTongueModel", "two", "[I", true)
  | 13 => ("DeedTongueModel", "from", "[I", true)
  | 14 => ("DeedTongueModel", "mid", "[I", true)
  | 15 => ("DeedTongueModel", "to", "[I", true)
  | 16 => ("DeedTongueModel", "sign", "[I", true)
  | 17 => ("DeedTongueModel", "values", "[I", true)
  | 18 => ("DeedTongueModel", "ahead", "[I", true)
  | 19 => ("DeedTongueModel", "what", "[I", true)
  | 20 => ("DeedTongueModel", "number", "[I", true)
  | 21 => ("DeedTongueModel", "next", "I", false)
  | 22 => ("DeedTongueModel", "fault", "I", false)
  | 23 => ("DeedTongueModel", "said", "I", false)
  | 24 => ("DeedTongueModel", "open", "I", false)
  | 25 => ("DeedTongueModel", "openWord", "[I", true)
  | 26 => ("DeedTongueModel", "openAs", "[I", true)
  | 27 => ("DeedTongueModel", "names", "[J", true)
  | 28 => ("DeedTongueModel", "things", "[J", true)
  | 29 => ("DeedTongueModel", "today", "J", false)
  | 30 => ("DeedTongueModel", "lives", "I", false)
  | 31 => ("DeedTongueModel", "lifeForm", "[I", true)
  | 32 => ("DeedTongueModel", "lifeFirst", "[I", true)
  | 33 => ("DeedTongueModel", "lifeSecond", "[I", true)
  | 34 => ("DeedTongueModel", "lifeGot", "[J", true)
  | 35 => ("DeedTongueModel", "standMany", "[I", true)
  | 36 => ("DeedTongueModel", "standWord", "[I", true)
  | 37 => ("DeedTongueModel", "standFactor", "[J", true)
  | 38 => ("DeedTongueModel", "payments", "I", false)
  | 39 => ("DeedTongueModel", "payLife", "[I", true)
  | 40 => ("DeedTongueModel", "payDay", "[I", true)
  | 41 => ("DeedTongueModel", "payCoins", "[I", true)
  | 42 => ("DeedTongueModel", "payWord", "[I", true)
  | 43 => ("DeedTongueModel", "toCome", "I", false)
  | 44 => ("DeedTongueModel", "comeWord", "[I", true)
  | 45 => ("DeedTongueModel", "comeFactor", "[J", true)
  | 46 => ("DeedTongueModel", "hasNet", "Z", false)
  | 47 => ("DeedTongueModel", "gifts", "I", false)
  | 48 => ("DeedTongueModel", "giftFrom", "[I", true)
  | 49 => ("DeedTongueModel", "giftTo", "[I", true)
  | 50 => ("DeedTongueModel", "giftCoins", "[J", true)
  | 51 => ("DeedTongueModel", "gets", "[J", true)
  | 52 => ("DeedTongueModel", "left", "[J", true)
  | 53 => ("DeedTongueModel", "ways", "I", false)
  | 54 => ("DeedTongueModel", "weight", "[I", true)
  | 55 => ("DeedTongueModel", "more", "[I", true)
  | 56 => ("DeedTongueModel", "start", "[I", true)
  | 57 => ("DeedTongueModel", "frames", "I", false)
  | 58 => ("DeedTongueModel", "frameWord", "[I", true)
  | 59 => ("DeedTongueModel", "frameDays", "[I", true)
  | 60 => ("DeedTongueModel", "frameWorld", "[I", true)
  | 61 => ("DeedTongueModel", "frameFactor", "[J", true)
  | 62 => ("DeedTongueModel", "frameAt", "[I", true)
  | 63 => ("DeedTongueModel", "frameHas", "[J", true)
  | 64 => ("DeedTongueModel", "frameTakes", "[Z", true)
  | 65 => ("DeedTongueModel", "frameWaits", "[J", true)
  | 66 => ("DeedTongueModel", "frameWay", "[I", true)
  | 67 => ("DeedTongueModel", "answer", "J", false)
  | 68 => ("DeedTongueModel", "path", "[I", true)
  | 69 => ("DeedTongueModel", "was", "[Z", true)
  | 70 => ("DeedTongueModel", "states", "I", false)
  | 71 => ("DeedTongueModel", "state", "[I", true)
  | 72 => ("DeedTongueModel", "simMany", "I", false)
  | 73 => ("DeedTongueModel", "simWord", "[I", true)
  | 74 => ("DeedTongueModel", "simFactor", "[J", true)
  | 75 => ("DeedTongueModel", "simPays", "[J", true)
  | 76 => ("DeedTongueModel", "nodeKind", "[I", true)
  | 77 => ("DeedTongueModel", "nodeN", "[I", true)
  | 78 => ("DeedTongueModel", "nodeOne", "[I", true)
  | 79 => ("DeedTongueModel", "nodeTwo", "[I", true)
  | 80 => ("DeedTongueModel", "nodeWord", "[I", true)
  | 81 => ("DeedTongueModel", "nodeLike", "[I", true)
  | 82 => ("DeedTongueModel", "rep", "[I", true)
  | 83 => ("DeedTongueModel", "tasks", "I", false)
  | 84 => ("DeedTongueModel", "taskNode", "[I", true)
  | 85 => ("DeedTongueModel", "taskUp", "[I", true)
  | 86 => ("DeedTongueModel", "taskTwo", "[Z", true)
  | 87 => ("DeedTongueModel", "out", "[B", true)
  | 88 => ("DeedTongueModel", "outMany", "I", false)
  | _ => ("DeedTongueModel", "runsOn", "Z", false)
def tyX12 : Nat → FieldType := fun k => match k with
  | 0 => .int
  | 1 => .int
  | 2 => .array .int
  | 3 => .array .byte
  | 4 => .int
  | 5 => .int
  | 6 => .array .int
  | 7 => .array .int
  | 8 => .array .int
  | 9 => .array .int
  | 10 => .array .int
  | 11 => .array .int
  | 12 => .array .int
  | 13 => .array .int
  | 14 => .array .int
  | 15 => .array .int
  | 16 => .array .int
  | 17 => .array .int
  | 18 => .array .int
  | 19 => .array .int
  | 20 => .array .int
  | 21 => .int
  | 22 => .int
  | 23 => .int
  | 24 => .int
  | 25 => .array .int
  | 26 => .array .int
  | 27 => .array .long
  | 28 => .array .long
  | 29 => .long
  | 30 => .int
  | 31 => .array .int
  | 32 => .array .int
  | 33 => .array .int
  | 34 => .array .long
  | 35 => .array .int
  | 36 => .array .int
  | 37 => .array .long
  | 38 => .int
  | 39 => .array .int
  | 40 => .array .int
  | 41 => .array .int
  | 42 => .array .int
  | 43 => .int
  | 44 => .array .int
  | 45 => .array .long
  | 46 => .boolean
  | 47 => .int
  | 48 => .array .int
  | 49 => .array .int
  | 50 => .array .long
  | 51 => .array .long
  | 52 => .array .long
  | 53 => .int
  | 54 => .array .int
  | 55 => .array .int
  | 56 => .array .int
  | 57 => .int
  | 58 => .array .int
  | 59 => .array .int
  | 60 => .array .int
  | 61 => .array .long
  | 62 => .array .int
  | 63 => .array .long
  | 64 => .array .boolean
  | 65 => .array .long
  | 66 => .array .int
  | 67 => .long
  | 68 => .array .int
  | 69 => .array .boolean
  | 70 => .int
  | 71 => .array .int
  | 72 => .int
  | 73 => .array .int
  | 74 => .array .long
  | 75 => .array .long
  | 76 => .array .int
  | 77 => .array .int
  | 78 => .array .int
  | 79 => .array .int
  | 80 => .array .int
  | 81 => .array .int
  | 82 => .array .int
  | 83 => .int
  | 84 => .array .int
  | 85 => .array .int
  | 86 => .array .boolean
  | 87 => .array .byte
  | 88 => .int
  | _ => .boolean
abbrev wsX120 : List Cond := u_ws RX12 TX12 90
theorem nmX12 : ∀ a, a < 90 → ∀ b, b < 90 → a ≠ b → (TX12 a).2.1 ≠ (TX12 b).2.1 := by decide +kernel
theorem tyX12_ok : ∀ k, k < 90 → parseFieldDescriptor (TX12 k).2.2.1 = some (tyX12 k) := by decide +kernel
abbrev cX12_init : ByteArray := prog_14_method_1_code
def yX12_init : MethodName := ⟨RX12, "<init>", "()V"⟩
abbrev cX12_in : ByteArray := prog_14_method_2_code
def yX12_in : MethodName := ⟨RX12, "in", "(JJJ)Z"⟩
abbrev cX12_see : ByteArray := prog_14_method_3_code
def yX12_see : MethodName := ⟨RX12, "see", "(III)Z"⟩
abbrev cX12_thingOn : ByteArray := prog_14_method_4_code
def yX12_thingOn : MethodName := ⟨RX12, "thingOn", "(II)I"⟩
abbrev cX12_seen : ByteArray := prog_14_method_5_code
def yX12_seen : MethodName := ⟨RX12, "seen", "(II)I"⟩
abbrev cX12_four : ByteArray := prog_14_method_6_code
def yX12_four : MethodName := ⟨RX12, "four", "(I)V"⟩
abbrev cX12_feed : ByteArray := prog_14_method_7_code
def yX12_feed : MethodName := ⟨RX12, "feed", "(IIIII)I"⟩
abbrev cX12_end : ByteArray := prog_14_method_8_code
def yX12_end : MethodName := ⟨RX12, "end", "(I)I"⟩
abbrev cX12_fails : ByteArray := prog_14_method_9_code
def yX12_fails : MethodName := ⟨RX12, "fails", "(II)Z"⟩
abbrev cX12_see_ : ByteArray := prog_14_method_10_code
def yX12_see_ : MethodName := ⟨RX12, "see", "()I"⟩
abbrev cX12_isDigit : ByteArray := prog_14_method_11_code
def yX12_isDigit : MethodName := ⟨RX12, "isDigit", "(I)Z"⟩
abbrev cX12_isLetter : ByteArray := prog_14_method_12_code
def yX12_isLetter : MethodName := ⟨RX12, "isLetter", "(I)Z"⟩
abbrev cX12_takes : ByteArray := prog_14_method_13_code
def yX12_takes : MethodName := ⟨RX12, "takes", "(I)Z"⟩
abbrev cX12_reads : ByteArray := prog_14_method_14_code
def yX12_reads : MethodName := ⟨RX12, "reads", "()Z"⟩
abbrev cX12_letters : ByteArray := prog_14_method_15_code
def yX12_letters : MethodName := ⟨RX12, "letters", "()J"⟩
abbrev cX12_skips : ByteArray := prog_14_method_16_code
def yX12_skips : MethodName := ⟨RX12, "skips", "()V"⟩
abbrev cX12_value : ByteArray := prog_14_method_17_code
def yX12_value : MethodName := ⟨RX12, "value", "(I)Z"⟩
abbrev cX12_sum : ByteArray := prog_14_method_18_code
def yX12_sum : MethodName := ⟨RX12, "sum", "()Z"⟩
abbrev cX12_test : ByteArray := prog_14_method_19_code
def yX12_test : MethodName := ⟨RX12, "test", "(I)Z"⟩
abbrev cX12_begins : ByteArray := prog_14_method_20_code
def yX12_begins : MethodName := ⟨RX12, "begins", "()Z"⟩
abbrev cX12_ended : ByteArray := prog_14_method_21_code
def yX12_ended : MethodName := ⟨RX12, "ended", "()Z"⟩
abbrev cX12_text : ByteArray := prog_14_method_22_code
def yX12_text : MethodName := ⟨RX12, "text", "()Z"⟩
abbrev cX12_form : ByteArray := prog_14_method_23_code
def yX12_form : MethodName := ⟨RX12, "form", "()I"⟩
abbrev cX12_isForm : ByteArray := prog_14_method_24_code
def yX12_isForm : MethodName := ⟨RX12, "isForm", "(I)Z"⟩
abbrev cX12_word : ByteArray := prog_14_method_25_code
def yX12_word : MethodName := ⟨RX12, "word", "(III)I"⟩
abbrev cX12_words : ByteArray := prog_14_method_26_code
def yX12_words : MethodName := ⟨RX12, "words", "(I)I"⟩
abbrev cX12_asNow : ByteArray := prog_14_method_27_code
def yX12_asNow : MethodName := ⟨RX12, "asNow", "()V"⟩
abbrev cX12_sumOf : ByteArray := prog_14_method_28_code
def yX12_sumOf : MethodName := ⟨RX12, "sumOf", "(III)J"⟩
abbrev cX12_holds : ByteArray := prog_14_method_29_code
def yX12_holds : MethodName := ⟨RX12, "holds", "(I)Z"⟩
abbrev cX12_isLapsed : ByteArray := prog_14_method_30_code
def yX12_isLapsed : MethodName := ⟨RX12, "isLapsed", "(I)Z"⟩
abbrev cX12_untils : ByteArray := prog_14_method_31_code
def yX12_untils : MethodName := ⟨RX12, "untils", "(I)I"⟩
abbrev cX12_capOf : ByteArray := prog_14_method_32_code
def yX12_capOf : MethodName := ⟨RX12, "capOf", "(I)I"⟩
abbrev cX12_chooser : ByteArray := prog_14_method_33_code
def yX12_chooser : MethodName := ⟨RX12, "chooser", "(I)I"⟩
abbrev cX12_held : ByteArray := prog_14_method_34_code
def yX12_held : MethodName := ⟨RX12, "held", "(JJ)J"⟩
abbrev cX12_paysOf : ByteArray := prog_14_method_35_code
def yX12_paysOf : MethodName := ⟨RX12, "paysOf", "(IJ)J"⟩
abbrev cX12_factorBehind : ByteArray := prog_14_method_36_code
def yX12_factorBehind : MethodName := ⟨RX12, "factorBehind", "(IJ)J"⟩
abbrev cX12_leadsTo : ByteArray := prog_14_method_37_code
def yX12_leadsTo : MethodName := ⟨RX12, "leadsTo", "(I)I"⟩
abbrev cX12_comes : ByteArray := prog_14_method_38_code
def yX12_comes : MethodName := ⟨RX12, "comes", "(IJ)V"⟩
abbrev cX12_pays : ByteArray := prog_14_method_39_code
def yX12_pays : MethodName := ⟨RX12, "pays", "(IIJ)V"⟩
abbrev cX12_waits : ByteArray := prog_14_method_40_code
def yX12_waits : MethodName := ⟨RX12, "waits", "(IIJ)V"⟩
abbrev cX12_acquires : ByteArray := prog_14_method_41_code
def yX12_acquires : MethodName := ⟨RX12, "acquires", "(IIJ)V"⟩
abbrev cX12_isHouse : ByteArray := prog_14_method_42_code
def yX12_isHouse : MethodName := ⟨RX12, "isHouse", "(I)Z"⟩
abbrev cX12_begin : ByteArray := prog_14_method_43_code
def yX12_begin : MethodName := ⟨RX12, "begin", "(III)I"⟩
abbrev cX12_leaves : ByteArray := prog_14_method_44_code
def yX12_leaves : MethodName := ⟨RX12, "leaves", "(II)V"⟩
abbrev cX12_day : ByteArray := prog_14_method_45_code
def yX12_day : MethodName := ⟨RX12, "day", "()I"⟩
abbrev cX12_isLife : ByteArray := prog_14_method_46_code
def yX12_isLife : MethodName := ⟨RX12, "isLife", "(I)Z"⟩
abbrev cX12_isStanding : ByteArray := prog_14_method_47_code
def yX12_isStanding : MethodName := ⟨RX12, "isStanding", "(II)Z"⟩
abbrev cX12_stands : ByteArray := prog_14_method_48_code
def yX12_stands : MethodName := ⟨RX12, "stands", "(I)I"⟩
abbrev cX12_choosing : ByteArray := prog_14_method_49_code
def yX12_choosing : MethodName := ⟨RX12, "choosing", "(II)I"⟩
abbrev cX12_standing : ByteArray := prog_14_method_50_code
def yX12_standing : MethodName := ⟨RX12, "standing", "(III)I"⟩
abbrev cX12_choose : ByteArray := prog_14_method_51_code
def yX12_choose : MethodName := ⟨RX12, "choose", "(IIII)I"⟩
abbrev cX12_take : ByteArray := prog_14_method_52_code
def yX12_take : MethodName := ⟨RX12, "take", "(III)I"⟩
abbrev cX12_payment : ByteArray := prog_14_method_53_code
def yX12_payment : MethodName := ⟨RX12, "payment", "(II)I"⟩
abbrev cX12_got : ByteArray := prog_14_method_54_code
def yX12_got : MethodName := ⟨RX12, "got", "(I)J"⟩
abbrev cX12_net : ByteArray := prog_14_method_55_code
def yX12_net : MethodName := ⟨RX12, "net", "(I)I"⟩
abbrev cX12_netted : ByteArray := prog_14_method_56_code
def yX12_netted : MethodName := ⟨RX12, "netted", "(II)J"⟩
abbrev cX12_ways : ByteArray := prog_14_method_57_code
def yX12_ways : MethodName := ⟨RX12, "ways", "(I)Z"⟩
abbrev cX12_weight : ByteArray := prog_14_method_58_code
def yX12_weight : MethodName := ⟨RX12, "weight", "(II)Z"⟩
abbrev cX12_adds : ByteArray := prog_14_method_59_code
def yX12_adds : MethodName := ⟨RX12, "adds", "(III)Z"⟩
abbrev cX12_starts : ByteArray := prog_14_method_60_code
def yX12_starts : MethodName := ⟨RX12, "starts", "()V"⟩
abbrev cX12_asIn : ByteArray := prog_14_method_61_code
def yX12_asIn : MethodName := ⟨RX12, "asIn", "(II)V"⟩
abbrev cX12_power : ByteArray := prog_14_method_62_code
def yX12_power : MethodName := ⟨RX12, "power", "(II)I"⟩
abbrev cX12_allWeights : ByteArray := prog_14_method_63_code
def yX12_allWeights : MethodName := ⟨RX12, "allWeights", "()I"⟩
abbrev cX12_pushes : ByteArray := prog_14_method_64_code
def yX12_pushes : MethodName := ⟨RX12, "pushes", "(IIIJ)V"⟩
abbrev cX12_answers : ByteArray := prog_14_method_65_code
def yX12_answers : MethodName := ⟨RX12, "answers", "(J)V"⟩
abbrev cX12_better : ByteArray := prog_14_method_66_code
def yX12_better : MethodName := ⟨RX12, "better", "(IJJ)J"⟩
abbrev cX12_enters : ByteArray := prog_14_method_67_code
def yX12_enters : MethodName := ⟨RX12, "enters", "(III)V"⟩
abbrev cX12_waitsOn : ByteArray := prog_14_method_68_code
def yX12_waitsOn : MethodName := ⟨RX12, "waitsOn", "(II)V"⟩
abbrev cX12_goesOn : ByteArray := prog_14_method_69_code
def yX12_goesOn : MethodName := ⟨RX12, "goesOn", "(III)V"⟩
abbrev cX12_worth : ByteArray := prog_14_method_70_code
def yX12_worth : MethodName := ⟨RX12, "worth", "(III)J"⟩
abbrev cX12_reaches : ByteArray := prog_14_method_71_code
def yX12_reaches : MethodName := ⟨RX12, "reaches", "(III)V"⟩
abbrev cX12_comeTo : ByteArray := prog_14_method_72_code
def yX12_comeTo : MethodName := ⟨RX12, "comeTo", "(III)I"⟩
abbrev cX12_brings : ByteArray := prog_14_method_73_code
def yX12_brings : MethodName := ⟨RX12, "brings", "(IJ)J"⟩
abbrev cX12_runs : ByteArray := prog_14_method_74_code
def yX12_runs : MethodName := ⟨RX12, "runs", "(IIIJ)V"⟩
abbrev cX12_hasChoice : ByteArray := prog_14_method_75_code
def yX12_hasChoice : MethodName := ⟨RX12, "hasChoice", "(I)Z"⟩
abbrev cX12_parted : ByteArray := prog_14_method_76_code
def yX12_parted : MethodName := ⟨RX12, "parted", "(III)I"⟩
abbrev cX12_areSums : ByteArray := prog_14_method_77_code
def yX12_areSums : MethodName := ⟨RX12, "areSums", "(IIIIII)Z"⟩
abbrev cX12_areTests : ByteArray := prog_14_method_78_code
def yX12_areTests : MethodName := ⟨RX12, "areTests", "(II)Z"⟩
abbrev cX12_areLike : ByteArray := prog_14_method_79_code
def yX12_areLike : MethodName := ⟨RX12, "areLike", "(IIZ)Z"⟩
abbrev cX12_isAlone : ByteArray := prog_14_method_80_code
def yX12_isAlone : MethodName := ⟨RX12, "isAlone", "(II)Z"⟩
abbrev cX12_lawOf : ByteArray := prog_14_method_81_code
def yX12_lawOf : MethodName := ⟨RX12, "lawOf", "(II)I"⟩
abbrev cX12_shortens : ByteArray := prog_14_method_82_code
def yX12_shortens : MethodName := ⟨RX12, "shortens", "(II)V"⟩
abbrev cX12_lays : ByteArray := prog_14_method_83_code
def yX12_lays : MethodName := ⟨RX12, "lays", "(IIZ)V"⟩
abbrev cX12_copies : ByteArray := prog_14_method_84_code
def yX12_copies : MethodName := ⟨RX12, "copies", "(IIII)I"⟩
abbrev cX12_laysOut : ByteArray := prog_14_method_85_code
def yX12_laysOut : MethodName := ⟨RX12, "laysOut", "(II)V"⟩
abbrev cX12_shorter : ByteArray := prog_14_method_86_code
def yX12_shorter : MethodName := ⟨RX12, "shorter", "(I)I"⟩
abbrev cX12_same : ByteArray := prog_14_method_87_code
def yX12_same : MethodName := ⟨RX12, "same", "(II)I"⟩
abbrev cX12_signs : ByteArray := prog_14_method_88_code
def yX12_signs : MethodName := ⟨RX12, "signs", "(I)V"⟩
abbrev cX12_spells : ByteArray := prog_14_method_89_code
def yX12_spells : MethodName := ⟨RX12, "spells", "(J)V"⟩
abbrev cX12_digits : ByteArray := prog_14_method_90_code
def yX12_digits : MethodName := ⟨RX12, "digits", "(I)V"⟩
abbrev cX12_sums : ByteArray := prog_14_method_91_code
def yX12_sums : MethodName := ⟨RX12, "sums", "(III)V"⟩
abbrev cX12_tells : ByteArray := prog_14_method_92_code
def yX12_tells : MethodName := ⟨RX12, "tells", "(I)V"⟩
abbrev cX12_tell : ByteArray := prog_14_method_93_code
def yX12_tell : MethodName := ⟨RX12, "tell", "(I)I"⟩
abbrev cX12_octet : ByteArray := prog_14_method_94_code
def yX12_octet : MethodName := ⟨RX12, "octet", "(I)I"⟩
abbrev cX12_count : ByteArray := prog_14_method_95_code
def yX12_count : MethodName := ⟨RX12, "count", "(I)I"⟩
def RJ9 : String := "java/lang/Math"
def TJ9 : u_T := fun k => match k with
  | _ => ("", "", "", false)
def tyJ9 : Nat → FieldType := fun k => match k with
  | _ => .int
abbrev wsJ90 : List Cond := u_ws RJ9 TJ9 0
theorem nmJ9 : ∀ a, a < 0 → ∀ b, b < 0 → a ≠ b → (TJ9 a).2.1 ≠ (TJ9 b).2.1 := by decide +kernel
theorem tyJ9_ok : ∀ k, k < 0 → parseFieldDescriptor (TJ9 k).2.2.1 = some (tyJ9 k) := by decide +kernel
abbrev cJ9_max_7cf53 : ByteArray := prog_15_method_65_code
def yJ9_max_7cf53 : MethodName := ⟨RJ9, "max", "(II)I"⟩
abbrev cJ9_max_f86c9 : ByteArray := prog_15_method_66_code
def yJ9_max_f86c9 : MethodName := ⟨RJ9, "max", "(JJ)J"⟩
abbrev cJ9_min_7cf53 : ByteArray := prog_15_method_69_code
def yJ9_min_7cf53 : MethodName := ⟨RJ9, "min", "(II)I"⟩
abbrev cJ9_min_f86c9 : ByteArray := prog_15_method_70_code
def yJ9_min_f86c9 : MethodName := ⟨RJ9, "min", "(JJ)J"⟩
def RJ0 : String := "java/lang/String"
def TJ0 : u_T := fun k => match k with
  | _ => ("", "", "", false)
def tyJ0 : Nat → FieldType := fun k => match k with
  | _ => .int
abbrev wsJ00 : List Cond := u_ws RJ0 TJ0 0
theorem nmJ0 : ∀ a, a < 0 → ∀ b, b < 0 → a ≠ b → (TJ0 a).2.1 ≠ (TJ0 b).2.1 := by decide +kernel
theorem tyJ0_ok : ∀ k, k < 0 → parseFieldDescriptor (TJ0 k).2.2.1 = some (tyJ0 k) := by decide +kernel
abbrev cJ0_length_8abf5 : ByteArray := prog_16_method_54_code
def yJ0_length_8abf5 : MethodName := ⟨RJ0, "length", "()I"⟩
abbrev cJ0_charAt_5068e : ByteArray := prog_16_method_56_code
def yJ0_charAt_5068e : MethodName := ⟨RJ0, "charAt", "(I)C"⟩
abbrev cJ0_coder_7d493 : ByteArray := prog_16_method_152_code
def yJ0_coder_7d493 : MethodName := ⟨RJ0, "coder", "()B"⟩
abbrev cJ0_isLatin1_aae02 : ByteArray := prog_16_method_154_code
def yJ0_isLatin1_aae02 : MethodName := ⟨RJ0, "isLatin1", "()Z"⟩
abbrev cJ0_checkIndex_df160 : ByteArray := prog_16_method_155_code
def yJ0_checkIndex_df160 : MethodName := ⟨RJ0, "checkIndex", "(II)V"⟩
def RJ1 : String := "java/lang/StringLatin1"
def TJ1 : u_T := fun k => match k with
  | _ => ("", "", "", false)
def tyJ1 : Nat → FieldType := fun k => match k with
  | _ => .int
abbrev wsJ10 : List Cond := u_ws RJ1 TJ1 0
theorem nmJ1 : ∀ a, a < 0 → ∀ b, b < 0 → a ≠ b → (TJ1 a).2.1 ≠ (TJ1 b).2.1 := by decide +kernel
theorem tyJ1_ok : ∀ k, k < 0 → parseFieldDescriptor (TJ1 k).2.2.1 = some (tyJ1 k) := by decide +kernel
abbrev cJ1_charAt_3b067 : ByteArray := prog_17_method_2_code
def yJ1_charAt_3b067 : MethodName := ⟨RJ1, "charAt", "([BI)C"⟩
def RJ2 : String := "java/lang/StringUTF16"
def TJ2 : u_T := fun k => match k with
  | _ => ("", "", "", false)
def tyJ2 : Nat → FieldType := fun k => match k with
  | _ => .int
abbrev wsJ20 : List Cond := u_ws RJ2 TJ2 0
theorem nmJ2 : ∀ a, a < 0 → ∀ b, b < 0 → a ≠ b → (TJ2 a).2.1 ≠ (TJ2 b).2.1 := by decide +kernel
theorem tyJ2_ok : ∀ k, k < 0 → parseFieldDescriptor (TJ2 k).2.2.1 = some (tyJ2 k) := by decide +kernel
abbrev cJ2_getChar_3b067 : ByteArray := prog_18_method_5_code
def yJ2_getChar_3b067 : MethodName := ⟨RJ2, "getChar", "([BI)C"⟩
abbrev cJ2_length_9d52b : ByteArray := prog_18_method_6_code
def yJ2_length_9d52b : MethodName := ⟨RJ2, "length", "([B)I"⟩
abbrev cJ2_charAt_3b067 : ByteArray := prog_18_method_83_code
def yJ2_charAt_3b067 : MethodName := ⟨RJ2, "charAt", "([BI)C"⟩
abbrev cJ2_checkIndex_2214a : ByteArray := prog_18_method_91_code
def yJ2_checkIndex_2214a : MethodName := ⟨RJ2, "checkIndex", "(I[B)V"⟩
def RJ3 : String := "jdk/internal/util/Preconditions"
def TJ3 : u_T := fun k => match k with
  | _ => ("", "", "", false)
def tyJ3 : Nat → FieldType := fun k => match k with
  | _ => .int
abbrev wsJ30 : List Cond := u_ws RJ3 TJ3 0
theorem nmJ3 : ∀ a, a < 0 → ∀ b, b < 0 → a ≠ b → (TJ3 a).2.1 ≠ (TJ3 b).2.1 := by decide +kernel
theorem tyJ3_ok : ∀ k, k < 0 → parseFieldDescriptor (TJ3 k).2.2.1 = some (tyJ3 k) := by decide +kernel
abbrev cJ3_checkIndex_8e157 : ByteArray := prog_19_method_11_code
def yJ3_checkIndex_8e157 : MethodName := ⟨RJ3, "checkIndex", "(IILjava/util/function/BiFunction;)I"⟩
def RL : String := "DeedTongueLaw"
abbrev cL_law : ByteArray := code
def yL_law : MethodName := ⟨RL, "law", "([I)Z"⟩
abbrev vwCl : List vw_C := [(RX0, TX0, 2), (RX1, TX1, 4), (RX2, TX2, 4), (RX3, TX3, 2), (RX4, TX4, 9), (RX5, TX5, 8), (RX6, TX6, 4), (RX7, TX7, 2), (RX8, TX8, 1), (RX9, TX9, 2), (RX10, TX10, 9), (RX11, TX11, 13), (RX12, TX12, 90)]
end
section
/-! THE CLAIM OUT OF ONE WALK OF THE LAW'S BODY. Your part is whole_start (and what it stands on); all else here is the same for every law, but numbers. -/
def R_law : String := "DeedTongueLaw"
def lw_P (b : Addr) (xs : List Int32) (args : Array Value) (s : State) : Prop := args = #[.ref b] ∧ s.IntsAt b xs ∧ xs.length ≤ 6 ∧ (Jvm.Cond.and given_1 narrow_1).before args s = true
def lw_Q (_ : Array Value) (s : State) (o : Outcome) (t : State) : Prop := o = .returned (some (.int 1)) ∧ Framed s o t [] 600000 7302250
def lw_Z (below : List Frame) (a : Array Value) (s : State) : State → Prop := fun t => ∃ o, t.status = .running ∧ Ended t below o ∧ lw_Q a s o t
/-- the law's own end, with 1 on the stack, nothing written that was there before, its room as the claim has it -/
theorem lw_ret {p : Program} {l : Launch} {e : Env} {s : State} {m : MethodId} {below : List Frame} {meth : Method} {c : Code} {b : Nat} (hx : p.tables.exec = Jvm.exec) (hb : c.code = code) (hr : meth.sig.returnType = ret) (hlocks : meth.locks = false) {pc : Nat} {H : Heap} {ls : Array Slot} (hdg : decode code pc = .ok (.ireturn, 1)) : W p l e room_1 s m #[Value.ref b] below meth c H [] 600000 7302250 (lw_Z below #[Value.ref b] s) (F0 m pc ls [.int 1]) := by
  intro T hT X
  obtain ⟨fs, hret, hrun, hended, hW, hframe⟩ := X.leave (v := some (.int 1)) (hlocks := hlocks) (fun h => by rw [hr] at h; cases h)
  have hmeth' : T.vm.method? m = some meth := X.method'
  refine ⟨T.setFrames fs, ?_, .returned (some (.int 1)), hrun, hended, rfl, ⟨_, rfl⟩, hW, hframe⟩
  jvm_step X.here [X.here.top, hx, hb, hdg, hmeth', hr, ret, narrow_b1]
  (try refine ⟨rfl, ?_⟩); (try refine ⟨rfl, ?_⟩)
  first | (intro acts; rw [hret _ acts rfl rfl rfl]) | rw [hret _ _ rfl rfl rfl]
  exact Steps.refl _
/-- what holds at the law's entry: the machine, the code, the tables' words (any of lw_tbl by 'hts w (by decide +kernel)'), the script of L ints xs at the cell b, what the Statement gives of the start (any of its parts by flat_of_before) -/
def lw_At (p : Program) (s : State) (m : MethodId) (meth : Method) (c : Code) (b L : Nat) (xs : Nat → Int32) : Prop :=
  p.tables.exec = Jvm.exec ∧ c.code = code ∧ meth.sig.returnType = ret ∧ c.maxLocals = 4 ∧ s.vm.findClass R_law = some m.cls ∧ (∀ w ∈ lw_tbl, w.before #[Value.ref b] s = true) ∧ va_X b L xs s s.heap ∧ b < s.heap.size ∧ meth.locks = false ∧ (Jvm.Cond.and given_1 narrow_1).before #[Value.ref b] s = true
end
section
/-! the layer: a memory is a partial map from addresses to cells; gG: a frame comes to its end; gC: a method's contract -/
def gTy (cy : Nat → ClassId) : List (ClassId × FieldType) := [(cy 0, .int), (cy 1, .byte), (cy 2, .long), (cy 3, .boolean), (cy 4, .object "DeedTongue$Form"), (cy 5, .object "DeedTongue$Life"), (cy 6, .object "DeedTongue$Scene")]
def gNF : List (String × Nat × String × String × String × String) := [("DeedTongue", 185, "DeedTongue$Life", "gained", "J", "DeedTongue"), ("DeedTongue", 234, "DeedTongue$Scene", "date", "I", "DeedTongue"), ("DeedTongue", 241, "DeedTongue$Ledger", "lost", "I", "DeedTongue"), ("DeedTongue", 78, "DeedTongue$Chronicle", "today", "LDeedTongue$Scene;", "DeedTongue"), ("DeedTongue$Chronicle", 22, "DeedTongue$Scene", "date", "I", "DeedTongue"), ("DeedTongue$Court", 36, "DeedTongue$Life", "number", "I", "DeedTongue"), ("DeedTongue$Court", 39, "DeedTongue$Life", "form", "LDeedTongue$Form;", "DeedTongue"), ("DeedTongue$Court", 53, "DeedTongue$Scene", "date", "I", "DeedTongue"), ("DeedTongue$Court", 85, "DeedTongue$Ledger", "lost", "I", "DeedTongue"), ("DeedTongue$Form", 74, "DeedTongue$Scene", "date", "I", "DeedTongue"), ("DeedTongue$Ledger", 44, "DeedTongue$Life", "number", "I", "DeedTongue"), ("DeedTongue$Ledger", 53, "DeedTongue$Life", "first", "I", "DeedTongue"), ("DeedTongue$Ledger", 56, "DeedTongue$Life", "second", "I", "DeedTongue"), ("DeedTongue$Ledger", 59, "DeedTongue$Life", "gained", "J", "DeedTongue"), ("DeedTongue$Worlds", 70, "DeedTongue$Scene", "date", "I", "DeedTongue")]
def gNM : List (String × Nat × MethodName × String) := [("DeedTongue", 11, ⟨"DeedTongue$Chronicle", "<init>", "()V"⟩, "DeedTongue"), ("DeedTongue", 64, ⟨"DeedTongue$Laws", "<init>", "()V"⟩, "DeedTongue"), ("DeedTongue", 71, ⟨"DeedTongue$Ledger", "<init>", "()V"⟩, "DeedTongue"), ("DeedTongue$Chronicle", 17, ⟨"DeedTongue$Scene", "<init>", "()V"⟩, "DeedTongue"), ("DeedTongue$Laws", 75, ⟨"DeedTongue", "hasSum", "(I)Z"⟩, "DeedTongue"), ("DeedTongue$Laws", 82, ⟨"DeedTongue", "hasDeed", "(I)Z"⟩, "DeedTongue"), ("DeedTongue$Laws", 85, ⟨"DeedTongue", "hasPair", "(I)Z"⟩, "DeedTongue"), ("DeedTongue$Ledger", 81, ⟨"DeedTongue", "isHouse", "(I)Z"⟩, "DeedTongue"), ("DeedTongue$Reader", 105, ⟨"DeedTongue", "isDigit", "(I)Z"⟩, "DeedTongue"), ("DeedTongue$Reader", 115, ⟨"DeedTongue", "hasTest", "(I)Z"⟩, "DeedTongue"), ("DeedTongue$Reader", 54, ⟨"DeedTongue", "isLetter", "(I)Z"⟩, "DeedTongue"), ("DeedTongue$Reader", 58, ⟨"DeedTongue", "nameLetter", "(II)I"⟩, "DeedTongue"), ("DeedTongue$Reader", 74, ⟨"DeedTongue", "hasNumber", "(I)Z"⟩, "DeedTongue"), ("DeedTongue$Reader", 80, ⟨"DeedTongue", "hasSum", "(I)Z"⟩, "DeedTongue"), ("DeedTongue$Reader", 89, ⟨"DeedTongue", "hasDeed", "(I)Z"⟩, "DeedTongue"), ("DeedTongue$Reader", 92, ⟨"DeedTongue", "hasPair", "(I)Z"⟩, "DeedTongue"), ("DeedTongue$Teller", 37, ⟨"DeedTongue", "hasPair", "(I)Z"⟩, "DeedTongue"), ("DeedTongue$Teller", 44, ⟨"DeedTongue", "hasDeed", "(I)Z"⟩, "DeedTongue"), ("DeedTongue$Teller", 47, ⟨"DeedTongue", "hasNumber", "(I)Z"⟩, "DeedTongue"), ("DeedTongue$Teller", 56, ⟨"DeedTongue", "hasSum", "(I)Z"⟩, "DeedTongue"), ("DeedTongue$Teller", 62, ⟨"DeedTongue", "hasTest", "(I)Z"⟩, "DeedTongue"), ("DeedTongue$Teller", 76, ⟨"DeedTongue", "isLetter", "(I)Z"⟩, "DeedTongue"), ("DeedTongue$Teller", 79, ⟨"DeedTongue", "isDigit", "(I)Z"⟩, "DeedTongue"), ("DeedTongue$Teller", 82, ⟨"DeedTongue", "nameLetter", "(II)I"⟩, "DeedTongue"), ("DeedTongue$Worlds", 45, ⟨"DeedTongue$Scene", "<init>", "()V"⟩, "DeedTongue")]
def gNO : List String := ["DeedTongue$Form", "DeedTongue$Life", "DeedTongue$Scene"]
def gW : List Cond := lw_tbl.filter goodWord
theorem gWi {w : Cond} (h : w ∈ lw_tbl) (hg : goodWord w = true) : w ∈ gW := List.mem_filter.mpr ⟨h, hg⟩
theorem gWl {w : Cond} (h : w ∈ gW) : w ∈ lw_tbl := (List.mem_filter.mp h).1
def gN (U : State) : Prop := (∀ q ∈ gNF, va_Nw (.fieldLinkNest q.1 q.2.1 q.2.2.1 q.2.2.2.1 q.2.2.2.2.1 q.2.2.2.2.2) U) ∧ (∀ q ∈ gNM, va_Nw (.methodLinkNest q.1 q.2.1 q.2.2.1 q.2.2.2) U) ∧ ∀ C ∈ gNO, va_AO C U
theorem gN_warm {s U : State} (hW : s.WarmedH U.vm) (h : gN s) : gN U := ⟨fun q hq => va_Nw.warmF hW (h.1 q hq), fun q hq => va_Nw.warmM hW (h.2.1 q hq), fun C hC => va_AO.moved hW.alike (h.2.2 C hC)⟩
theorem gN_same {s U : State} (hvm : s.vm = U.vm) (h : gN s) : gN U := ⟨fun q hq => va_Nw.same rfl hvm (h.1 q hq), fun q hq => va_Nw.same rfl hvm (h.2.1 q hq), fun C hC => va_AO.moved (hvm ▸ Vm.Alike.refl s.vm) (h.2.2 C hC)⟩
def gK (D : va_G) (cy : Nat → ClassId) (U : State) : Prop := va_K D vwCl (gTy cy) U ∧ gN U
theorem gK_warm {D : va_G} {cy : Nat → ClassId} {s U : State} (hW : s.WarmedH U.vm) (h : gK D cy s) : gK D cy U := ⟨va_K.moved hW.alike h.1, gN_warm hW h.2⟩
theorem gK_same {D : va_G} {cy : Nat → ClassId} {s U : State} (hvm : s.vm = U.vm) (h : gK D cy s) : gK D cy U := ⟨va_K.moved (hvm ▸ Vm.Alike.refl s.vm) h.1, gN_same hvm h.2⟩
abbrev gMem : Type := Nat → Option va_E
/-- the heap holds the cells that f names, all from b on -/
def pw (D : va_G) (b : Nat) (f : gMem) (H : Heap) : Prop := ∃ (L : List Nat) (g : Nat → va_E), (∀ (a : Nat) (e : va_E), f a = some e → a ∈ L ∧ g a = e) ∧ va_P D vwCl (va_pl L g) H ∧ va_D (fun q : Nat => b ≤ q) (va_pl L g)
theorem pw_put {D : va_G} {b : Nat} {f : gMem} {L : List Nat} {g : Nat → va_E} {H1 : Heap} {a : Nat} {e : va_E} (hL : a ∈ L) (hf : ∀ (a : Nat) (e : va_E), f a = some e → a ∈ L ∧ g a = e) (hP : va_P D vwCl (va_pl L (va_up g a e)) H1) (hD : va_D (fun q : Nat => b ≤ q) (va_pl L (va_up g a e))) : pw D b (va_up f a (some e)) H1 := by
  refine ⟨L, va_up g a e, fun x ex hx => ?_, hP, hD⟩
  by_cases h : x = a
  · subst h
    rw [va_up_self] at hx ⊢
    exact ⟨hL, Option.some.inj hx⟩
  · rw [va_up_ne _ _ h] at hx ⊢
    exact hf x ex hx
theorem pw_new {D : va_G} {b : Nat} {f : gMem} {L : List Nat} {g : Nat → va_E} {H1 : Heap} {q : Nat} {e : va_E} (hf : ∀ (a : Nat) (e : va_E), f a = some e → a ∈ L ∧ g a = e) (hP : va_P D vwCl (va_pl L g ++ [(q, e)]) H1) (hD : va_D (fun q : Nat => b ≤ q) (va_pl L g ++ [(q, e)])) : f q = none ∧ pw D b (va_up f q (some e)) H1 := by
  have hq : q ∉ L := by
    intro h
    obtain ⟨i, hi⟩ := List.getElem?_of_mem (show (q, g q) ∈ va_pl L g from List.mem_map.mpr ⟨q, h, rfl⟩)
    have hl := (List.getElem?_eq_some_iff.mp hi).1
    have h1 : (va_pl L g ++ [(q, e)])[i]? = some (q, g q) := by rw [List.getElem?_append_left hl]; exact hi
    have h2 : (va_pl L g ++ [(q, e)])[(va_pl L g).length]? = some (q, e) := by rw [List.getElem?_append_right (Nat.le_refl _), Nat.sub_self]; rfl
    have := hD.1 i _ _ _ h1 h2 rfl
    omega
  have hn : f q = none := by
    cases h : f q with
    | none => rfl
    | some e' => exact absurd (hf q e' h).1 hq
  refine ⟨hn, L ++ [q], va_up g q e, fun x ex hx => ?_, ?_, ?_⟩
  · by_cases h : x = q
    · subst h
      rw [va_up_self] at hx ⊢
      exact ⟨List.mem_append_right _ List.mem_cons_self, Option.some.inj hx⟩
    · rw [va_up_ne _ _ h] at hx ⊢
      exact ⟨List.mem_append_left _ (hf x ex hx).1, (hf x ex hx).2⟩
  · rw [← va_pl_push hq]; exact hP
  · rw [← va_pl_push hq]; exact hD
theorem pw_at {D : va_G} {b : Nat} {f : gMem} {H : Heap} (h : pw D b f H) {a : Nat} {e : va_E} (hf : f a = some e) : ∃ (L : List Nat) (g : Nat → va_E) (k : Nat), (∀ (a : Nat) (e : va_E), f a = some e → a ∈ L ∧ g a = e) ∧ va_P D vwCl (va_pl L g) H ∧ va_D (fun q : Nat => b ≤ q) (va_pl L g) ∧ (va_pl L g)[k]? = some (a, e) ∧ a ∈ L ∧ ∀ e' : va_E, (va_pl L g).set k (a, e') = va_pl L (va_up g a e') := by
  obtain ⟨L, g, h1, h2, h3⟩ := h
  obtain ⟨k, hk⟩ := va_pl_get (X := []) (f := g) (h1 a e hf).1
  have hk' : (va_pl L g)[k]? = some (a, g a) := hk
  refine ⟨L, g, k, h1, h2, h3, ?_, (h1 a e hf).1, fun e' => ?_⟩
  · rw [hk', (h1 a e hf).2]
  · exact va_pl_set (X := []) h3 (h1 a e hf).1 hk
theorem pw_mono {D : va_G} {b : Nat} {f f' : gMem} {H : Heap} (h : pw D b f H) (hs : ∀ a e, f' a = some e → f a = some e) : pw D b f' H := by
  obtain ⟨L, g, h1, h2, h3⟩ := h
  exact ⟨L, g, fun a e ha => h1 a e (hs a e ha), h2, h3⟩
theorem lk_has {ls : Array Slot} {nL : Nat} {lv : List (Nat × Value)} (h : lv_has ls nL lv) {i : Nat} {v : Value} (hk : lv.lookup i = some v) : ls[i]? = some (.val v) := by
  have key : ∀ l : List (Nat × Value), l.lookup i = some v → (i, v) ∈ l := by
    intro l
    induction l with
    | nil => intro h; cases h
    | cons q l ih =>
      intro h
      obtain ⟨j, w⟩ := q
      by_cases hj : i = j
      · subst hj
        simp [List.lookup] at h
        subst h
        exact List.mem_cons_self
      · have : (i == j) = false := by simp [hj]
        simp only [List.lookup, this] at h
        exact List.mem_cons_of_mem _ (ih h)
  exact h.2.2 (i, v) (key lv hk)
def gRm (d mc ms : Nat) : Room := { frames := d, cells := mc, slots := ms, locals := 64 * d }
/-- what holds of a frame all along -/
def gFx (p : Program) (s : State) (m : MethodId) (args : Array Value) (meth : Method) (c : Code) (Ex : State → Prop) (D : va_G) (cy : Nat → ClassId) (b : Nat) (cc : ByteArray) (nL : Nat) (ret : Option FieldType) (own nm : String) : Prop :=
  p.tables.exec = Jvm.exec ∧ c.code = cc ∧ c.maxLocals = nL ∧ meth.sig.returnType = ret ∧ s.vm.findClass own = some m.cls ∧ (∀ w ∈ gW, w.before args s = true) ∧ meth.locks = false ∧ meth.name = nm ∧ gK D cy s ∧ b ≤ s.heap.size ∧ Ex s
def gG (l : Launch) (R : Room) (Qf : List Frame → Array Value → State → State → Prop) (Ex : State → Prop) (D : va_G) (cy : Nat → ClassId) (b : Nat) (cc : ByteArray) (nL : Nat) (ret : Option FieldType) (own nm : String) (cells slots : Nat) (f : gMem) (pc : Nat) (lv : List (Nat × Value)) (st : List Value) : Prop :=
  ∀ (p : Program) (e : Env) (s : State) (m : MethodId) (args : Array Value) (below : List Frame) (meth : Method) (c : Code) (H : Heap) (locs : List Loc) (ls : Array Slot), gFx p s m args meth c Ex D cy b cc nL ret own nm → pw D b f H → va_S (fun q : Nat => b ≤ q) s.heap H locs → lv_has ls nL lv → W p l e R s m args below meth c H locs cells slots (Qf below args s) (F0 m pc ls st)
def gQ (D : va_G) (b : Nat) (Po : Option Value → gMem → Prop) : Array Value → State → Outcome → State → Prop := fun _ st oc t => (∃ (r : Option Value) (f' : gMem), oc = .returned r ∧ Po r f' ∧ pw D b f' t.heap) ∧ va_F (fun q : Nat => b ≤ q) st t
abbrev gQf (D : va_G) (b : Nat) (Po : Option Value → gMem → Prop) (mc ms : Nat) : List Frame → Array Value → State → State → Prop := fun below args s => MQ below (gQ D b Po) args s mc ms (fun q : Nat => b ≤ q)
abbrev gTt : State → Prop := fun _ => True
/-- a method's contract at these arguments and this memory -/
def gC (l : Launch) (D : va_G) (cy : Nat → ClassId) (b : Nat) (y : MethodName) (cc : ByteArray) (nL : Nat) (ret : Option FieldType) (d mc ms : Nat) (av : List Value) (f : gMem) (Po : Option Value → gMem → Prop) : Prop :=
  Met l y (.code y cc nL ret :: gW) (gRm d mc ms) (va_Pc av (fun U => b ≤ U.heap.size ∧ pw D b f U.heap ∧ gK D cy U)) (gQ D b Po) mc ms (fun q : Nat => b ≤ q)
theorem gC_of {l : Launch} {D : va_G} {cy : Nat → ClassId} {b : Nat} {y : MethodName} {cc : ByteArray} {nL : Nat} {ret : Option FieldType} {d mc ms : Nat} {av : List Value} {f : gMem} {Po : Option Value → gMem → Prop} (hy : plainName y.cls = true) (hn : (lg_sl av).length ≤ nL)
    (h : gG l (gRm d mc ms) (gQf D b Po mc ms) gTt D cy b cc nL ret y.cls y.name 0 0 f 0 (lv_args 0 av) []) : gC l D cy b y cc nL ret d mc ms av f Po := by
  refine Met.ofW (cc := cc) (maxL := nL) (ret := ret) hy rfl ?_
  intro p e s m args below meth c s₁ B hml hv
  obtain ⟨rfl, hb, hP, hK⟩ := hv
  have hts := atoms_spec (ws := .code y cc nL ret :: gW) B.pre
  have hl := lv_entry av (n := nL) hn
  rw [lg_entry_eq]
  exact h p e s m _ below meth c s.heap [] _ ⟨B.exec, B.bytes, hml, B.returns, findClass_of_methodNamed B.named, fun w hw => hts w (List.mem_cons_of_mem _ hw), B.notSynchronized, (name_of_methodNamed B.named B.method).1, hK, hb, trivial⟩ hP va_S.rf hl
section GL
variable {l : Launch} {R : Room} {Qf : List Frame → Array Value → State → State → Prop} {Ex : State → Prop} {D : va_G} {cy : Nat → ClassId} {b : Nat} {cc : ByteArray} {nL : Nat} {ret : Option FieldType} {own nm : String} {cells slots : Nat} {f : gMem} {pc : Nat} {lv lv' : List (Nat × Value)} {st : List Value}
theorem gz_iconst {n : Int} {v : Int32} (hdg : decode cc pc = .ok (.iconst n, 1)) (hv : Int32.ofInt n = v) (k : gG l R Qf Ex D cy b cc nL ret own nm cells slots f (pc + 1) lv (.int v :: st)) : gG l R Qf Ex D cy b cc nL ret own nm cells slots f pc lv st := fun p e s m args below meth c H locs ls F hP hS hl => lv_iconst F.1 F.2.1 hdg hv (k p e s m args below meth c H locs ls F hP hS hl)
theorem gz_bipush {n : Int} {v : Int32} (hdg : decode cc pc = .ok (.bipush n, 2)) (hv : (Int8.ofInt n).toInt32 = v) (k : gG l R Qf Ex D cy b cc nL ret own nm cells slots f (pc + 2) lv (.int v :: st)) : gG l R Qf Ex D cy b cc nL ret own nm cells slots f pc lv st := fun p e s m args below meth c H locs ls F hP hS hl => lv_bipush F.1 F.2.1 hdg hv (k p e s m args below meth c H locs ls F hP hS hl)
theorem gz_sipush {n : Int} {v : Int32} (hdg : decode cc pc = .ok (.sipush n, 3)) (hv : (Int16.ofInt n).toInt32 = v) (k : gG l R Qf Ex D cy b cc nL ret own nm cells slots f (pc + 3) lv (.int v :: st)) : gG l R Qf Ex D cy b cc nL ret own nm cells slots f pc lv st := fun p e s m args below meth c H locs ls F hP hS hl => lv_sipush F.1 F.2.1 hdg hv (k p e s m args below meth c H locs ls F hP hS hl)
theorem gz_lconst {n : Fin 2} {v : Int64} (hdg : decode cc pc = .ok (.lconst n, 1)) (hv : Int64.ofNat (n : Nat) = v) (k : gG l R Qf Ex D cy b cc nL ret own nm cells slots f (pc + 1) lv (.long v :: st)) : gG l R Qf Ex D cy b cc nL ret own nm cells slots f pc lv st := fun p e s m args below meth c H locs ls F hP hS hl => lv_lconst F.1 F.2.1 hdg hv (k p e s m args below meth c H locs ls F hP hS hl)
theorem gz_ldc {i : Nat} {v : Int32} (hw : Cond.constant own i v ∈ gW) (hdg : decode cc pc = .ok (.ldc i, 2)) (k : gG l R Qf Ex D cy b cc nL ret own nm cells slots f (pc + 2) lv (.int v :: st)) : gG l R Qf Ex D cy b cc nL ret own nm cells slots f pc lv st := fun p e s m args below meth c H locs ls F hP hS hl => lv_ldc F.1 F.2.1 F.2.2.2.2.1 (F.2.2.2.2.2.1 _ hw) hdg (k p e s m args below meth c H locs ls F hP hS hl)
theorem gz_ldcw {i : Nat} {v : Int32} (hw : Cond.constant own i v ∈ gW) (hdg : decode cc pc = .ok (.ldc_w i, 3)) (k : gG l R Qf Ex D cy b cc nL ret own nm cells slots f (pc + 3) lv (.int v :: st)) : gG l R Qf Ex D cy b cc nL ret own nm cells slots f pc lv st := fun p e s m args below meth c H locs ls F hP hS hl => lv_ldcw F.1 F.2.1 F.2.2.2.2.1 (F.2.2.2.2.2.1 _ hw) hdg (k p e s m args below meth c H locs ls F hP hS hl)
theorem gz_ldc2 {i : Nat} {v : Int64} (hw : Cond.constantLong own i v ∈ gW) (hdg : decode cc pc = .ok (.ldc2_w i, 3)) (k : gG l R Qf Ex D cy b cc nL ret own nm cells slots f (pc + 3) lv (.long v :: st)) : gG l R Qf Ex D cy b cc nL ret own nm cells slots f pc lv st := fun p e s m args below meth c H locs ls F hP hS hl => lv_ldc2 F.1 F.2.1 F.2.2.2.2.1 (F.2.2.2.2.2.1 _ hw) hdg (k p e s m args below meth c H locs ls F hP hS hl)
theorem gz_null  (hdg : decode cc pc = .ok (.aconst_null, 1)) (k : gG l R Qf Ex D cy b cc nL ret own nm cells slots f (pc + 1) lv (.null :: st)) : gG l R Qf Ex D cy b cc nL ret own nm cells slots f pc lv st := fun p e s m args below meth c H locs ls F hP hS hl => lv_null F.1 F.2.1 hdg (k p e s m args below meth c H locs ls F hP hS hl)
theorem gz_iload_n {k0 : Fin 4} {i : Nat} {x : Int32} (hdg : decode cc pc = .ok (.iload_n k0, 1)) (hi : (k0 : Nat) = i) (hk : lv.lookup i = some (.int x)) (k : gG l R Qf Ex D cy b cc nL ret own nm cells slots f (pc + 1) lv (.int x :: st)) : gG l R Qf Ex D cy b cc nL ret own nm cells slots f pc lv st := fun p e s m args below meth c H locs ls F hP hS hl => lv_iload_n F.1 F.2.1 hdg hi (lk_has hl hk) (k p e s m args below meth c H locs ls F hP hS hl)
theorem gz_iload {i : Nat} {x : Int32} (hdg : decode cc pc = .ok (.iload i, 2)) (hk : lv.lookup i = some (.int x)) (k : gG l R Qf Ex D cy b cc nL ret own nm cells slots f (pc + 2) lv (.int x :: st)) : gG l R Qf Ex D cy b cc nL ret own nm cells slots f pc lv st := fun p e s m args below meth c H locs ls F hP hS hl => lv_iload F.1 F.2.1 hdg (lk_has hl hk) (k p e s m args below meth c H locs ls F hP hS hl)
theorem gz_lload_n {k0 : Fin 4} {i : Nat} {x : Int64} (hdg : decode cc pc = .ok (.lload_n k0, 1)) (hi : (k0 : Nat) = i) (hk : lv.lookup i = some (.long x)) (k : gG l R Qf Ex D cy b cc nL ret own nm cells slots f (pc + 1) lv (.long x :: st)) : gG l R Qf Ex D cy b cc nL ret own nm cells slots f pc lv st := fun p e s m args below meth c H locs ls F hP hS hl => lv_lload_n F.1 F.2.1 hdg hi (lk_has hl hk) (k p e s m args below meth c H locs ls F hP hS hl)
theorem gz_lload {i : Nat} {x : Int64} (hdg : decode cc pc = .ok (.lload i, 2)) (hk : lv.lookup i = some (.long x)) (k : gG l R Qf Ex D cy b cc nL ret own nm cells slots f (pc + 2) lv (.long x :: st)) : gG l R Qf Ex D cy b cc nL ret own nm cells slots f pc lv st := fun p e s m args below meth c H locs ls F hP hS hl => lv_lload F.1 F.2.1 hdg (lk_has hl hk) (k p e s m args below meth c H locs ls F hP hS hl)
theorem gz_aload_n {k0 : Fin 4} {i : Nat} {x : Nat} (hdg : decode cc pc = .ok (.aload_n k0, 1)) (hi : (k0 : Nat) = i) (hk : lv.lookup i = some (.ref x)) (k : gG l R Qf Ex D cy b cc nL ret own nm cells slots f (pc + 1) lv (.ref x :: st)) : gG l R Qf Ex D cy b cc nL ret own nm cells slots f pc lv st := fun p e s m args below meth c H locs ls F hP hS hl => lv_aload_n F.1 F.2.1 hdg hi (lk_has hl hk) (k p e s m args below meth c H locs ls F hP hS hl)
theorem gz_aload {i : Nat} {x : Nat} (hdg : decode cc pc = .ok (.aload i, 2)) (hk : lv.lookup i = some (.ref x)) (k : gG l R Qf Ex D cy b cc nL ret own nm cells slots f (pc + 2) lv (.ref x :: st)) : gG l R Qf Ex D cy b cc nL ret own nm cells slots f pc lv st := fun p e s m args below meth c H locs ls F hP hS hl => lv_aload F.1 F.2.1 hdg (lk_has hl hk) (k p e s m args below meth c H locs ls F hP hS hl)
theorem gz_aload_nN {k0 : Fin 4} {i : Nat} (hdg : decode cc pc = .ok (.aload_n k0, 1)) (hi : (k0 : Nat) = i) (hk : lv.lookup i = some .null) (k : gG l R Qf Ex D cy b cc nL ret own nm cells slots f (pc + 1) lv (.null :: st)) : gG l R Qf Ex D cy b cc nL ret own nm cells slots f pc lv st := fun p e s m args below meth c H locs ls F hP hS hl => lv_aload_nN F.1 F.2.1 hdg hi (lk_has hl hk) (k p e s m args below meth c H locs ls F hP hS hl)
theorem gz_aloadN {i : Nat} (hdg : decode cc pc = .ok (.aload i, 2)) (hk : lv.lookup i = some .null) (k : gG l R Qf Ex D cy b cc nL ret own nm cells slots f (pc + 2) lv (.null :: st)) : gG l R Qf Ex D cy b cc nL ret own nm cells slots f pc lv st := fun p e s m args below meth c H locs ls F hP hS hl => lv_aloadN F.1 F.2.1 hdg (lk_has hl hk) (k p e s m args below meth c H locs ls F hP hS hl)
theorem gz_istore_n {k0 : Fin 4} {i : Nat} {x : Int32} (hdg : decode cc pc = .ok (.istore_n k0, 1)) (hi : (k0 : Nat) = i) (hn : i < nL) (hq : (i, Value.int x) :: lv.filter (fun q => !(q.1 == i) && !(q.1 + 1 == i && q.2.category == 2)) = lv') (k : gG l R Qf Ex D cy b cc nL ret own nm cells slots f (pc + 1) lv' st) : gG l R Qf Ex D cy b cc nL ret own nm cells slots f pc lv (.int x :: st) := fun p e s m args below meth c H locs ls F hP hS hl => lv_istore_n F.1 F.2.1 hdg hi hl hn hq (fun ls2 hl2 => k p e s m args below meth c H locs ls2 F hP hS hl2)
theorem gz_istore {i : Nat} {x : Int32} (hdg : decode cc pc = .ok (.istore i, 2)) (hn : i < nL) (hq : (i, Value.int x) :: lv.filter (fun q => !(q.1 == i) && !(q.1 + 1 == i && q.2.category == 2)) = lv') (k : gG l R Qf Ex D cy b cc nL ret own nm cells slots f (pc + 2) lv' st) : gG l R Qf Ex D cy b cc nL ret own nm cells slots f pc lv (.int x :: st) := fun p e s m args below meth c H locs ls F hP hS hl => lv_istore F.1 F.2.1 hdg hl hn hq (fun ls2 hl2 => k p e s m args below meth c H locs ls2 F hP hS hl2)
theorem gz_lstore_n {k0 : Fin 4} {i : Nat} {x : Int64} (hdg : decode cc pc = .ok (.lstore_n k0, 1)) (hi : (k0 : Nat) = i) (hn : i + 1 < nL) (hq : (i, Value.long x) :: lv.filter (fun q => !(q.1 == i) && (!(q.1 == i + 1) && !(q.1 + 1 == i && q.2.category == 2))) = lv') (k : gG l R Qf Ex D cy b cc nL ret own nm cells slots f (pc + 1) lv' st) : gG l R Qf Ex D cy b cc nL ret own nm cells slots f pc lv (.long x :: st) := fun p e s m args below meth c H locs ls F hP hS hl => lv_lstore_n F.1 F.2.1 hdg hi hl hn hq (fun ls2 hl2 => k p e s m args below meth c H locs ls2 F hP hS hl2)
theorem gz_lstore {i : Nat} {x : Int64} (hdg : decode cc pc = .ok (.lstore i, 2)) (hn : i + 1 < nL) (hq : (i, Value.long x) :: lv.filter (fun q => !(q.1 == i) && (!(q.1 == i + 1) && !(q.1 + 1 == i && q.2.category == 2))) = lv') (k : gG l R Qf Ex D cy b cc nL ret own nm cells slots f (pc + 2) lv' st) : gG l R Qf Ex D cy b cc nL ret own nm cells slots f pc lv (.long x :: st) := fun p e s m args below meth c H locs ls F hP hS hl => lv_lstore F.1 F.2.1 hdg hl hn hq (fun ls2 hl2 => k p e s m args below meth c H locs ls2 F hP hS hl2)
theorem gz_astore_n {k0 : Fin 4} {i : Nat} {x : Nat} (hdg : decode cc pc = .ok (.astore_n k0, 1)) (hi : (k0 : Nat) = i) (hn : i < nL) (hq : (i, Value.ref x) :: lv.filter (fun q => !(q.1 == i) && !(q.1 + 1 == i && q.2.category == 2)) = lv') (k : gG l R Qf Ex D cy b cc nL ret own nm cells slots f (pc + 1) lv' st) : gG l R Qf Ex D cy b cc nL ret own nm cells slots f pc lv (.ref x :: st) := fun p e s m args below meth c H locs ls F hP hS hl => lv_astore_n F.1 F.2.1 hdg hi hl hn hq (fun ls2 hl2 => k p e s m args below meth c H locs ls2 F hP hS hl2)
theorem gz_astore {i : Nat} {x : Nat} (hdg : decode cc pc = .ok (.astore i, 2)) (hn : i < nL) (hq : (i, Value.ref x) :: lv.filter (fun q => !(q.1 == i) && !(q.1 + 1 == i && q.2.category == 2)) = lv') (k : gG l R Qf Ex D cy b cc nL ret own nm cells slots f (pc + 2) lv' st) : gG l R Qf Ex D cy b cc nL ret own nm cells slots f pc lv (.ref x :: st) := fun p e s m args below meth c H locs ls F hP hS hl => lv_astore F.1 F.2.1 hdg hl hn hq (fun ls2 hl2 => k p e s m args below meth c H locs ls2 F hP hS hl2)
theorem gz_astore_nN {k0 : Fin 4} {i : Nat} (hdg : decode cc pc = .ok (.astore_n k0, 1)) (hi : (k0 : Nat) = i) (hn : i < nL) (hq : (i, Value.null) :: lv.filter (fun q => !(q.1 == i) && !(q.1 + 1 == i && q.2.category == 2)) = lv') (k : gG l R Qf Ex D cy b cc nL ret own nm cells slots f (pc + 1) lv' st) : gG l R Qf Ex D cy b cc nL ret own nm cells slots f pc lv (.null :: st) := fun p e s m args below meth c H locs ls F hP hS hl => lv_astore_nN F.1 F.2.1 hdg hi hl hn hq (fun ls2 hl2 => k p e s m args below meth c H locs ls2 F hP hS hl2)
theorem gz_astoreN {i : Nat} (hdg : decode cc pc = .ok (.astore i, 2)) (hn : i < nL) (hq : (i, Value.null) :: lv.filter (fun q => !(q.1 == i) && !(q.1 + 1 == i && q.2.category == 2)) = lv') (k : gG l R Qf Ex D cy b cc nL ret own nm cells slots f (pc + 2) lv' st) : gG l R Qf Ex D cy b cc nL ret own nm cells slots f pc lv (.null :: st) := fun p e s m args below meth c H locs ls F hP hS hl => lv_astoreN F.1 F.2.1 hdg hl hn hq (fun ls2 hl2 => k p e s m args below meth c H locs ls2 F hP hS hl2)
theorem lk_pos {i : Nat} {v : Value} : ∀ {lv : List (Nat × Value)}, lv.lookup i = some v → ∃ k : Nat, lv[k]? = some (i, v)
  | [], h => by cases h
  | (j, w) :: lv, h => by
    by_cases hj : i = j
    · subst hj
      simp [List.lookup] at h
      subst h
      exact ⟨0, rfl⟩
    · have hb : (i == j) = false := by simp [hj]
      simp only [List.lookup, hb] at h
      obtain ⟨k, hk⟩ := lk_pos h
      exact ⟨k + 1, hk⟩
theorem gz_iinc {i : Nat} {n : Int} {x v : Int32} (hdg : decode cc pc = .ok (.iinc i n, 3)) (hk : lv.lookup i = some (.int x)) (hv : x + Int32.ofInt n = v) (hn : i < nL) (hq : (i, Value.int v) :: lv.filter (fun q => !(q.1 == i) && !(q.1 + 1 == i && q.2.category == 2)) = lv') (k : gG l R Qf Ex D cy b cc nL ret own nm cells slots f (pc + 3) lv' st) : gG l R Qf Ex D cy b cc nL ret own nm cells slots f pc lv st := fun p e s m args below meth c H locs ls F hP hS hl => by
  obtain ⟨j, hj⟩ := lk_pos hk
  exact lv_iinc F.1 F.2.1 hdg hl hj hv hn hq (fun ls2 hl2 => k p e s m args below meth c H locs ls2 F hP hS hl2)
theorem gz_iadd {x y : Int32} (hdg : decode cc pc = .ok (.iadd, 1)) (k : gG l R Qf Ex D cy b cc nL ret own nm cells slots f (pc + 1) lv (.int (x + y) :: st)) : gG l R Qf Ex D cy b cc nL ret own nm cells slots f pc lv (.int y :: .int x :: st) := fun p e s m args below meth c H locs ls F hP hS hl => lv_iadd F.1 F.2.1 hdg (k p e s m args below meth c H locs ls F hP hS hl)
theorem gz_isub {x y : Int32} (hdg : decode cc pc = .ok (.isub, 1)) (k : gG l R Qf Ex D cy b cc nL ret own nm cells slots f (pc + 1) lv (.int (x - y) :: st)) : gG l R Qf Ex D cy b cc nL ret own nm cells slots f pc lv (.int y :: .int x :: st) := fun p e s m args below meth c H locs ls F hP hS hl => lv_isub F.1 F.2.1 hdg (k p e s m args below meth c H locs ls F hP hS hl)
theorem gz_imul {x y : Int32} (hdg : decode cc pc = .ok (.imul, 1)) (k : gG l R Qf Ex D cy b cc nL ret own nm cells slots f (pc + 1) lv (.int (x * y) :: st)) : gG l R Qf Ex D cy b cc nL ret own nm cells slots f pc lv (.int y :: .int x :: st) := fun p e s m args below meth c H locs ls F hP hS hl => lv_imul F.1 F.2.1 hdg (k p e s m args below meth c H locs ls F hP hS hl)
theorem gz_iand {x y : Int32} (hdg : decode cc pc = .ok (.iand, 1)) (k : gG l R Qf Ex D cy b cc nL ret own nm cells slots f (pc + 1) lv (.int (x &&& y) :: st)) : gG l R Qf Ex D cy b cc nL ret own nm cells slots f pc lv (.int y :: .int x :: st) := fun p e s m args below meth c H locs ls F hP hS hl => lv_iand F.1 F.2.1 hdg (k p e s m args below meth c H locs ls F hP hS hl)
theorem gz_ior {x y : Int32} (hdg : decode cc pc = .ok (.ior, 1)) (k : gG l R Qf Ex D cy b cc nL ret own nm cells slots f (pc + 1) lv (.int (x ||| y) :: st)) : gG l R Qf Ex D cy b cc nL ret own nm cells slots f pc lv (.int y :: .int x :: st) := fun p e s m args below meth c H locs ls F hP hS hl => lv_ior F.1 F.2.1 hdg (k p e s m args below meth c H locs ls F hP hS hl)
theorem gz_ixor {x y : Int32} (hdg : decode cc pc = .ok (.ixor, 1)) (k : gG l R Qf Ex D cy b cc nL ret own nm cells slots f (pc + 1) lv (.int (x ^^^ y) :: st)) : gG l R Qf Ex D cy b cc nL ret own nm cells slots f pc lv (.int y :: .int x :: st) := fun p e s m args below meth c H locs ls F hP hS hl => lv_ixor F.1 F.2.1 hdg (k p e s m args below meth c H locs ls F hP hS hl)
theorem gz_ishl {x y : Int32} (hdg : decode cc pc = .ok (.ishl, 1)) (k : gG l R Qf Ex D cy b cc nL ret own nm cells slots f (pc + 1) lv (.int (x <<< (y &&& 31)) :: st)) : gG l R Qf Ex D cy b cc nL ret own nm cells slots f pc lv (.int y :: .int x :: st) := fun p e s m args below meth c H locs ls F hP hS hl => lv_ishl F.1 F.2.1 hdg (k p e s m args below meth c H locs ls F hP hS hl)
theorem gz_ishr {x y : Int32} (hdg : decode cc pc = .ok (.ishr, 1)) (k : gG l R Qf Ex D cy b cc nL ret own nm cells slots f (pc + 1) lv (.int (x >>> (y &&& 31)) :: st)) : gG l R Qf Ex D cy b cc nL ret own nm cells slots f pc lv (.int y :: .int x :: st) := fun p e s m args below meth c H locs ls F hP hS hl => lv_ishr F.1 F.2.1 hdg (k p e s m args below meth c H locs ls F hP hS hl)
theorem gz_idiv {x y : Int32} (hdg : decode cc pc = .ok (.idiv, 1)) (hne : ¬ y = 0) (k : gG l R Qf Ex D cy b cc nL ret own nm cells slots f (pc + 1) lv (.int (x / y) :: st)) : gG l R Qf Ex D cy b cc nL ret own nm cells slots f pc lv (.int y :: .int x :: st) := fun p e s m args below meth c H locs ls F hP hS hl => lv_idiv F.1 F.2.1 hdg hne (k p e s m args below meth c H locs ls F hP hS hl)
theorem gz_irem {x y : Int32} (hdg : decode cc pc = .ok (.irem, 1)) (hne : ¬ y = 0) (k : gG l R Qf Ex D cy b cc nL ret own nm cells slots f (pc + 1) lv (.int (x - x / y * y) :: st)) : gG l R Qf Ex D cy b cc nL ret own nm cells slots f pc lv (.int y :: .int x :: st) := fun p e s m args below meth c H locs ls F hP hS hl => lv_irem F.1 F.2.1 hdg hne (k p e s m args below meth c H locs ls F hP hS hl)
theorem gz_ladd {x y : Int64} (hdg : decode cc pc = .ok (.ladd, 1)) (k : gG l R Qf Ex D cy b cc nL ret own nm cells slots f (pc + 1) lv (.long (x + y) :: st)) : gG l R Qf Ex D cy b cc nL ret own nm cells slots f pc lv (.long y :: .long x :: st) := fun p e s m args below meth c H locs ls F hP hS hl => lv_ladd F.1 F.2.1 hdg (k p e s m args below meth c H locs ls F hP hS hl)
theorem gz_lsub {x y : Int64} (hdg : decode cc pc = .ok (.lsub, 1)) (k : gG l R Qf Ex D cy b cc nL ret own nm cells slots f (pc + 1) lv (.long (x - y) :: st)) : gG l R Qf Ex D cy b cc nL ret own nm cells slots f pc lv (.long y :: .long x :: st) := fun p e s m args below meth c H locs ls F hP hS hl => lv_lsub F.1 F.2.1 hdg (k p e s m args below meth c H locs ls F hP hS hl)
theorem gz_lmul {x y : Int64} (hdg : decode cc pc = .ok (.lmul, 1)) (k : gG l R Qf Ex D cy b cc nL ret own nm cells slots f (pc + 1) lv (.long (x * y) :: st)) : gG l R Qf Ex D cy b cc nL ret own nm cells slots f pc lv (.long y :: .long x :: st) := fun p e s m args below meth c H locs ls F hP hS hl => lv_lmul F.1 F.2.1 hdg (k p e s m args below meth c H locs ls F hP hS hl)
theorem gz_land {x y : Int64} (hdg : decode cc pc = .ok (.land, 1)) (k : gG l R Qf Ex D cy b cc nL ret own nm cells slots f (pc + 1) lv (.long (x &&& y) :: st)) : gG l R Qf Ex D cy b cc nL ret own nm cells slots f pc lv (.long y :: .long x :: st) := fun p e s m args below meth c H locs ls F hP hS hl => lv_land F.1 F.2.1 hdg (k p e s m args below meth c H locs ls F hP hS hl)
theorem gz_lor {x y : Int64} (hdg : decode cc pc = .ok (.lor, 1)) (k : gG l R Qf Ex D cy b cc nL ret own nm cells slots f (pc + 1) lv (.long (x ||| y) :: st)) : gG l R Qf Ex D cy b cc nL ret own nm cells slots f pc lv (.long y :: .long x :: st) := fun p e s m args below meth c H locs ls F hP hS hl => lv_lor F.1 F.2.1 hdg (k p e s m args below meth c H locs ls F hP hS hl)
theorem gz_lxor {x y : Int64} (hdg : decode cc pc = .ok (.lxor, 1)) (k : gG l R Qf Ex D cy b cc nL ret own nm cells slots f (pc + 1) lv (.long (x ^^^ y) :: st)) : gG l R Qf Ex D cy b cc nL ret own nm cells slots f pc lv (.long y :: .long x :: st) := fun p e s m args below meth c H locs ls F hP hS hl => lv_lxor F.1 F.2.1 hdg (k p e s m args below meth c H locs ls F hP hS hl)
theorem gz_ineg {x : Int32} (hdg : decode cc pc = .ok (.ineg, 1)) (k : gG l R Qf Ex D cy b cc nL ret own nm cells slots f (pc + 1) lv (.int (-x) :: st)) : gG l R Qf Ex D cy b cc nL ret own nm cells slots f pc lv (.int x :: st) := fun p e s m args below meth c H locs ls F hP hS hl => lv_ineg F.1 F.2.1 hdg (k p e s m args below meth c H locs ls F hP hS hl)
theorem gz_lneg {x : Int64} (hdg : decode cc pc = .ok (.lneg, 1)) (k : gG l R Qf Ex D cy b cc nL ret own nm cells slots f (pc + 1) lv (.long (-x) :: st)) : gG l R Qf Ex D cy b cc nL ret own nm cells slots f pc lv (.long x :: st) := fun p e s m args below meth c H locs ls F hP hS hl => lv_lneg F.1 F.2.1 hdg (k p e s m args below meth c H locs ls F hP hS hl)
theorem gz_i2l {x : Int32} (hdg : decode cc pc = .ok (.i2l, 1)) (k : gG l R Qf Ex D cy b cc nL ret own nm cells slots f (pc + 1) lv (.long x.toInt64 :: st)) : gG l R Qf Ex D cy b cc nL ret own nm cells slots f pc lv (.int x :: st) := fun p e s m args below meth c H locs ls F hP hS hl => lv_i2l F.1 F.2.1 hdg rfl (k p e s m args below meth c H locs ls F hP hS hl)
theorem gz_l2i {x : Int64} (hdg : decode cc pc = .ok (.l2i, 1)) (k : gG l R Qf Ex D cy b cc nL ret own nm cells slots f (pc + 1) lv (.int x.toInt32 :: st)) : gG l R Qf Ex D cy b cc nL ret own nm cells slots f pc lv (.long x :: st) := fun p e s m args below meth c H locs ls F hP hS hl => lv_l2i F.1 F.2.1 hdg rfl (k p e s m args below meth c H locs ls F hP hS hl)
theorem gz_i2b {x : Int32} (hdg : decode cc pc = .ok (.i2b, 1)) (k : gG l R Qf Ex D cy b cc nL ret own nm cells slots f (pc + 1) lv (.int x.toInt8.toInt32 :: st)) : gG l R Qf Ex D cy b cc nL ret own nm cells slots f pc lv (.int x :: st) := fun p e s m args below meth c H locs ls F hP hS hl => lv_i2b F.1 F.2.1 hdg rfl (k p e s m args below meth c H locs ls F hP hS hl)
theorem gz_lshl {x : Int64} {y : Int32} (hdg : decode cc pc = .ok (.lshl, 1)) (k : gG l R Qf Ex D cy b cc nL ret own nm cells slots f (pc + 1) lv (.long (x <<< (y.toInt64 &&& 63)) :: st)) : gG l R Qf Ex D cy b cc nL ret own nm cells slots f pc lv (.int y :: .long x :: st) := fun p e s m args below meth c H locs ls F hP hS hl => lv_lshl F.1 F.2.1 hdg rfl (k p e s m args below meth c H locs ls F hP hS hl)
theorem gz_lshr {x : Int64} {y : Int32} (hdg : decode cc pc = .ok (.lshr, 1)) (k : gG l R Qf Ex D cy b cc nL ret own nm cells slots f (pc + 1) lv (.long (x >>> (y.toInt64 &&& 63)) :: st)) : gG l R Qf Ex D cy b cc nL ret own nm cells slots f pc lv (.int y :: .long x :: st) := fun p e s m args below meth c H locs ls F hP hS hl => lv_lshr F.1 F.2.1 hdg rfl (k p e s m args below meth c H locs ls F hP hS hl)
theorem gz_lcmp {x y : Int64} (hdg : decode cc pc = .ok (.lcmp, 1)) (k : gG l R Qf Ex D cy b cc nL ret own nm cells slots f (pc + 1) lv (.int (lg_cmp x y) :: st)) : gG l R Qf Ex D cy b cc nL ret own nm cells slots f pc lv (.long y :: .long x :: st) := fun p e s m args below meth c H locs ls F hP hS hl => W.lcmp F.1 F.2.1 hdg (k p e s m args below meth c H locs ls F hP hS hl)
theorem gz_dup {va : Value} (hdg : decode cc pc = .ok (.dup, 1)) (hc : va.category = 1) (k : gG l R Qf Ex D cy b cc nL ret own nm cells slots f (pc + 1) lv (va :: va :: st)) : gG l R Qf Ex D cy b cc nL ret own nm cells slots f pc lv (va :: st) := fun p e s m args below meth c H locs ls F hP hS hl => lv_dup F.1 F.2.1 hdg hc (k p e s m args below meth c H locs ls F hP hS hl)
theorem gz_pop {va : Value} (hdg : decode cc pc = .ok (.pop, 1)) (hc : va.category = 1) (k : gG l R Qf Ex D cy b cc nL ret own nm cells slots f (pc + 1) lv st) : gG l R Qf Ex D cy b cc nL ret own nm cells slots f pc lv (va :: st) := fun p e s m args below meth c H locs ls F hP hS hl => lv_pop F.1 F.2.1 hdg hc (k p e s m args below meth c H locs ls F hP hS hl)
theorem gz_pop2 {va : Value} (hdg : decode cc pc = .ok (.pop2, 1)) (hc : va.category = 2) (k : gG l R Qf Ex D cy b cc nL ret own nm cells slots f (pc + 1) lv st) : gG l R Qf Ex D cy b cc nL ret own nm cells slots f pc lv (va :: st) := fun p e s m args below meth c H locs ls F hP hS hl => lv_pop2_2 F.1 F.2.1 hdg hc (k p e s m args below meth c H locs ls F hP hS hl)
theorem gz_dup_x1 {va vb : Value} (hdg : decode cc pc = .ok (.dup_x1, 1)) (hc : va.category = 1) (hd : vb.category = 1) (k : gG l R Qf Ex D cy b cc nL ret own nm cells slots f (pc + 1) lv (va :: vb :: va :: st)) : gG l R Qf Ex D cy b cc nL ret own nm cells slots f pc lv (va :: vb :: st) := fun p e s m args below meth c H locs ls F hP hS hl => lv_dup_x1 F.1 F.2.1 hdg hc hd (k p e s m args below meth c H locs ls F hP hS hl)
theorem gz_dup_x2 {va vb vd : Value} (hdg : decode cc pc = .ok (.dup_x2, 1)) (hc : va.category = 1) (hd : vb.category = 1) (hd2 : vd.category = 1) (k : gG l R Qf Ex D cy b cc nL ret own nm cells slots f (pc + 1) lv (va :: vb :: vd :: va :: st)) : gG l R Qf Ex D cy b cc nL ret own nm cells slots f pc lv (va :: vb :: vd :: st) := fun p e s m args below meth c H locs ls F hP hS hl => lv_dup_x2 F.1 F.2.1 hdg hc hd hd2 (k p e s m args below meth c H locs ls F hP hS hl)
theorem gz_dup2 {va vb : Value} (hdg : decode cc pc = .ok (.dup2, 1)) (hc : va.category = 1) (hd : vb.category = 1) (k : gG l R Qf Ex D cy b cc nL ret own nm cells slots f (pc + 1) lv (va :: vb :: va :: vb :: st)) : gG l R Qf Ex D cy b cc nL ret own nm cells slots f pc lv (va :: vb :: st) := fun p e s m args below meth c H locs ls F hP hS hl => lv_dup2_11 F.1 F.2.1 hdg hc hd (k p e s m args below meth c H locs ls F hP hS hl)
theorem gz_dup2_x1 {va vb : Value} (hdg : decode cc pc = .ok (.dup2_x1, 1)) (hc : va.category = 2) (hd : vb.category = 1) (k : gG l R Qf Ex D cy b cc nL ret own nm cells slots f (pc + 1) lv (va :: vb :: va :: st)) : gG l R Qf Ex D cy b cc nL ret own nm cells slots f pc lv (va :: vb :: st) := fun p e s m args below meth c H locs ls F hP hS hl => lv_dup2_x1_2 F.1 F.2.1 hdg hc hd (k p e s m args below meth c H locs ls F hP hS hl)
theorem gz_topi {x : Int32} (k : ∀ y : Int32, y = x → gG l R Qf Ex D cy b cc nL ret own nm cells slots f pc lv (.int y :: st)) : gG l R Qf Ex D cy b cc nL ret own nm cells slots f pc lv (.int x :: st) := k x rfl
theorem gz_topl {x : Int64} (k : ∀ y : Int64, y = x → gG l R Qf Ex D cy b cc nL ret own nm cells slots f pc lv (.long y :: st)) : gG l R Qf Ex D cy b cc nL ret own nm cells slots f pc lv (.long x :: st) := k x rfl
theorem gz_ev {v w : Value} (h : v = w) (k : gG l R Qf Ex D cy b cc nL ret own nm cells slots f pc lv (w :: st)) : gG l R Qf Ex D cy b cc nL ret own nm cells slots f pc lv (v :: st) := h ▸ k
theorem gz_eq {f2 : gMem} {pc2 : Nat} {lv2 : List (Nat × Value)} {st2 : List Value} (hf : f = f2) (hp : pc = pc2) (hv : lv = lv2) (hs : st = st2) (k : gG l R Qf Ex D cy b cc nL ret own nm cells slots f2 pc2 lv2 st2) : gG l R Qf Ex D cy b cc nL ret own nm cells slots f pc lv st := by subst hf; subst hp; subst hv; subst hs; exact k
theorem gz_widen {c2 s2 : Nat} (h1 : cells ≤ c2) (h2 : slots ≤ s2) (k : gG l R Qf Ex D cy b cc nL ret own nm c2 s2 f pc lv st) : gG l R Qf Ex D cy b cc nL ret own nm cells slots f pc lv st := fun p e s m args below meth c H locs ls F hP hS hl => W.widen h1 h2 (k p e s m args below meth c H locs ls F hP hS hl)
theorem gz_sub (h : ∀ q ∈ lv', lv.lookup q.1 = some q.2) (k : gG l R Qf Ex D cy b cc nL ret own nm cells slots f pc lv' st) : gG l R Qf Ex D cy b cc nL ret own nm cells slots f pc lv st := fun p e s m args below meth c H locs ls F hP hS hl => k p e s m args below meth c H locs ls F hP hS ⟨hl.1, hl.2.1, fun q hq => lk_has hl (h q hq)⟩
theorem gz_mono {f2 : gMem} (h : ∀ a e, f2 a = some e → f a = some e) (k : gG l R Qf Ex D cy b cc nL ret own nm cells slots f2 pc lv st) : gG l R Qf Ex D cy b cc nL ret own nm cells slots f pc lv st := fun p e s m args below meth c H locs ls F hP hS hl => k p e s m args below meth c H locs ls F (pw_mono hP h) hS hl
theorem gz_if_eq {x : Int32} {off : Int} {tgt : Nat} (hdg : decode cc pc = .ok (.ifCond .eq off, 3)) (ht : (pc : Int) + off = (tgt : Int)) (kt : x = 0 → gG l R Qf Ex D cy b cc nL ret own nm cells slots f tgt lv st) (kf : ¬ x = 0 → gG l R Qf Ex D cy b cc nL ret own nm cells slots f (pc + 3) lv st) : gG l R Qf Ex D cy b cc nL ret own nm cells slots f pc lv (.int x :: st) := fun p e s m args below meth c H locs ls F hP hS hl => lv_if_eq F.1 F.2.1 hdg ht (fun h => kt h p e s m args below meth c H locs ls F hP hS hl) (fun h => kf h p e s m args below meth c H locs ls F hP hS hl)
theorem gz_if_ne {x : Int32} {off : Int} {tgt : Nat} (hdg : decode cc pc = .ok (.ifCond .ne off, 3)) (ht : (pc : Int) + off = (tgt : Int)) (kt : ¬ x = 0 → gG l R Qf Ex D cy b cc nL ret own nm cells slots f tgt lv st) (kf : x = 0 → gG l R Qf Ex D cy b cc nL ret own nm cells slots f (pc + 3) lv st) : gG l R Qf Ex D cy b cc nL ret own nm cells slots f pc lv (.int x :: st) := fun p e s m args below meth c H locs ls F hP hS hl => lv_if_ne F.1 F.2.1 hdg ht (fun h => kt h p e s m args below meth c H locs ls F hP hS hl) (fun h => kf h p e s m args below meth c H locs ls F hP hS hl)
theorem gz_if_lt {x : Int32} {off : Int} {tgt : Nat} (hdg : decode cc pc = .ok (.ifCond .lt off, 3)) (ht : (pc : Int) + off = (tgt : Int)) (kt : x < 0 → gG l R Qf Ex D cy b cc nL ret own nm cells slots f tgt lv st) (kf : ¬ x < 0 → gG l R Qf Ex D cy b cc nL ret own nm cells slots f (pc + 3) lv st) : gG l R Qf Ex D cy b cc nL ret own nm cells slots f pc lv (.int x :: st) := fun p e s m args below meth c H locs ls F hP hS hl => lv_if_lt F.1 F.2.1 hdg ht (fun h => kt h p e s m args below meth c H locs ls F hP hS hl) (fun h => kf h p e s m args below meth c H locs ls F hP hS hl)
theorem gz_if_ge {x : Int32} {off : Int} {tgt : Nat} (hdg : decode cc pc = .ok (.ifCond .ge off, 3)) (ht : (pc : Int) + off = (tgt : Int)) (kt : 0 ≤ x → gG l R Qf Ex D cy b cc nL ret own nm cells slots f tgt lv st) (kf : ¬ 0 ≤ x → gG l R Qf Ex D cy b cc nL ret own nm cells slots f (pc + 3) lv st) : gG l R Qf Ex D cy b cc nL ret own nm cells slots f pc lv (.int x :: st) := fun p e s m args below meth c H locs ls F hP hS hl => lv_if_ge F.1 F.2.1 hdg ht (fun h => kt h p e s m args below meth c H locs ls F hP hS hl) (fun h => kf h p e s m args below meth c H locs ls F hP hS hl)
theorem gz_if_gt {x : Int32} {off : Int} {tgt : Nat} (hdg : decode cc pc = .ok (.ifCond .gt off, 3)) (ht : (pc : Int) + off = (tgt : Int)) (kt : 0 < x → gG l R Qf Ex D cy b cc nL ret own nm cells slots f tgt lv st) (kf : ¬ 0 < x → gG l R Qf Ex D cy b cc nL ret own nm cells slots f (pc + 3) lv st) : gG l R Qf Ex D cy b cc nL ret own nm cells slots f pc lv (.int x :: st) := fun p e s m args below meth c H locs ls F hP hS hl => lv_if_gt F.1 F.2.1 hdg ht (fun h => kt h p e s m args below meth c H locs ls F hP hS hl) (fun h => kf h p e s m args below meth c H locs ls F hP hS hl)
theorem gz_if_le {x : Int32} {off : Int} {tgt : Nat} (hdg : decode cc pc = .ok (.ifCond .le off, 3)) (ht : (pc : Int) + off = (tgt : Int)) (kt : x ≤ 0 → gG l R Qf Ex D cy b cc nL ret own nm cells slots f tgt lv st) (kf : ¬ x ≤ 0 → gG l R Qf Ex D cy b cc nL ret own nm cells slots f (pc + 3) lv st) : gG l R Qf Ex D cy b cc nL ret own nm cells slots f pc lv (.int x :: st) := fun p e s m args below meth c H locs ls F hP hS hl => lv_if_le F.1 F.2.1 hdg ht (fun h => kt h p e s m args below meth c H locs ls F hP hS hl) (fun h => kf h p e s m args below meth c H locs ls F hP hS hl)
theorem gz_icmp_eq {x y : Int32} {off : Int} {tgt : Nat} (hdg : decode cc pc = .ok (.if_icmp .eq off, 3)) (ht : (pc : Int) + off = (tgt : Int)) (kt : x = y → gG l R Qf Ex D cy b cc nL ret own nm cells slots f tgt lv st) (kf : ¬ x = y → gG l R Qf Ex D cy b cc nL ret own nm cells slots f (pc + 3) lv st) : gG l R Qf Ex D cy b cc nL ret own nm cells slots f pc lv (.int y :: .int x :: st) := fun p e s m args below meth c H locs ls F hP hS hl => lv_icmp_eq F.1 F.2.1 hdg ht (fun h => kt h p e s m args below meth c H locs ls F hP hS hl) (fun h => kf h p e s m args below meth c H locs ls F hP hS hl)
theorem gz_icmp_ne {x y : Int32} {off : Int} {tgt : Nat} (hdg : decode cc pc = .ok (.if_icmp .ne off, 3)) (ht : (pc : Int) + off = (tgt : Int)) (kt : ¬ x = y → gG l R Qf Ex D cy b cc nL ret own nm cells slots f tgt lv st) (kf : x = y → gG l R Qf Ex D cy b cc nL ret own nm cells slots f (pc + 3) lv st) : gG l R Qf Ex D cy b cc nL ret own nm cells slots f pc lv (.int y :: .int x :: st) := fun p e s m args below meth c H locs ls F hP hS hl => lv_icmp_ne F.1 F.2.1 hdg ht (fun h => kt h p e s m args below meth c H locs ls F hP hS hl) (fun h => kf h p e s m args below meth c H locs ls F hP hS hl)
theorem gz_icmp_lt {x y : Int32} {off : Int} {tgt : Nat} (hdg : decode cc pc = .ok (.if_icmp .lt off, 3)) (ht : (pc : Int) + off = (tgt : Int)) (kt : x < y → gG l R Qf Ex D cy b cc nL ret own nm cells slots f tgt lv st) (kf : ¬ x < y → gG l R Qf Ex D cy b cc nL ret own nm cells slots f (pc + 3) lv st) : gG l R Qf Ex D cy b cc nL ret own nm cells slots f pc lv (.int y :: .int x :: st) := fun p e s m args below meth c H locs ls F hP hS hl => lv_icmp_lt F.1 F.2.1 hdg ht (fun h => kt h p e s m args below meth c H locs ls F hP hS hl) (fun h => kf h p e s m args below meth c H locs ls F hP hS hl)
theorem gz_icmp_ge {x y : Int32} {off : Int} {tgt : Nat} (hdg : decode cc pc = .ok (.if_icmp .ge off, 3)) (ht : (pc : Int) + off = (tgt : Int)) (kt : y ≤ x → gG l R Qf Ex D cy b cc nL ret own nm cells slots f tgt lv st) (kf : ¬ y ≤ x → gG l R Qf Ex D cy b cc nL ret own nm cells slots f (pc + 3) lv st) : gG l R Qf Ex D cy b cc nL ret own nm cells slots f pc lv (.int y :: .int x :: st) := fun p e s m args below meth c H locs ls F hP hS hl => lv_icmp_ge F.1 F.2.1 hdg ht (fun h => kt h p e s m args below meth c H locs ls F hP hS hl) (fun h => kf h p e s m args below meth c H locs ls F hP hS hl)
theorem gz_icmp_gt {x y : Int32} {off : Int} {tgt : Nat} (hdg : decode cc pc = .ok (.if_icmp .gt off, 3)) (ht : (pc : Int) + off = (tgt : Int)) (kt : y < x → gG l R Qf Ex D cy b cc nL ret own nm cells slots f tgt lv st) (kf : ¬ y < x → gG l R Qf Ex D cy b cc nL ret own nm cells slots f (pc + 3) lv st) : gG l R Qf Ex D cy b cc nL ret own nm cells slots f pc lv (.int y :: .int x :: st) := fun p e s m args below meth c H locs ls F hP hS hl => lv_icmp_gt F.1 F.2.1 hdg ht (fun h => kt h p e s m args below meth c H locs ls F hP hS hl) (fun h => kf h p e s m args below meth c H locs ls F hP hS hl)
theorem gz_icmp_le {x y : Int32} {off : Int} {tgt : Nat} (hdg : decode cc pc = .ok (.if_icmp .le off, 3)) (ht : (pc : Int) + off = (tgt : Int)) (kt : x ≤ y → gG l R Qf Ex D cy b cc nL ret own nm cells slots f tgt lv st) (kf : ¬ x ≤ y → gG l R Qf Ex D cy b cc nL ret own nm cells slots f (pc + 3) lv st) : gG l R Qf Ex D cy b cc nL ret own nm cells slots f pc lv (.int y :: .int x :: st) := fun p e s m args below meth c H locs ls F hP hS hl => lv_icmp_le F.1 F.2.1 hdg ht (fun h => kt h p e s m args below meth c H locs ls F hP hS hl) (fun h => kf h p e s m args below meth c H locs ls F hP hS hl)
theorem gz_goto {off : Int} {tgt : Nat} (hdg : decode cc pc = .ok (.goto off, 3)) (ht : (pc : Int) + off = (tgt : Int)) (k : gG l R Qf Ex D cy b cc nL ret own nm cells slots f tgt lv st) : gG l R Qf Ex D cy b cc nL ret own nm cells slots f pc lv st := fun p e s m args below meth c H locs ls F hP hS hl => lv_goto F.1 F.2.1 hdg ht (k p e s m args below meth c H locs ls F hP hS hl)
theorem gz_ifnonnull {x : Nat} {off : Int} {tgt : Nat} (hdg : decode cc pc = .ok (.ifnonnull off, 3)) (ht : (pc : Int) + off = (tgt : Int)) (k : gG l R Qf Ex D cy b cc nL ret own nm cells slots f tgt lv st) : gG l R Qf Ex D cy b cc nL ret own nm cells slots f pc lv (.ref x :: st) := fun p e s m args below meth c H locs ls F hP hS hl => lv_ifnonnull F.1 F.2.1 hdg ht (k p e s m args below meth c H locs ls F hP hS hl)
theorem gz_ifnull {x : Nat} {off : Int} (hdg : decode cc pc = .ok (.ifnull off, 3)) (k : gG l R Qf Ex D cy b cc nL ret own nm cells slots f (pc + 3) lv st) : gG l R Qf Ex D cy b cc nL ret own nm cells slots f pc lv (.ref x :: st) := fun p e s m args below meth c H locs ls F hP hS hl => lv_ifnull F.1 F.2.1 hdg (k p e s m args below meth c H locs ls F hP hS hl)
theorem gz_ifnullN {off : Int} {tgt : Nat} (hdg : decode cc pc = .ok (.ifnull off, 3)) (ht : (pc : Int) + off = (tgt : Int)) (k : gG l R Qf Ex D cy b cc nL ret own nm cells slots f tgt lv st) : gG l R Qf Ex D cy b cc nL ret own nm cells slots f pc lv (.null :: st) := fun p e s m args below meth c H locs ls F hP hS hl => lv_ifnullN F.1 F.2.1 hdg ht (k p e s m args below meth c H locs ls F hP hS hl)
theorem gz_ifnonnullN {off : Int} (hdg : decode cc pc = .ok (.ifnonnull off, 3)) (k : gG l R Qf Ex D cy b cc nL ret own nm cells slots f (pc + 3) lv st) : gG l R Qf Ex D cy b cc nL ret own nm cells slots f pc lv (.null :: st) := fun p e s m args below meth c H locs ls F hP hS hl => lv_ifnonnullN F.1 F.2.1 hdg (k p e s m args below meth c H locs ls F hP hS hl)
theorem gz_tableOut {dflt lo hi : Int} {offs : Array Int} {len : Nat} {x : Int32} {tgt : Nat} (hdg : decode cc pc = .ok (.tableswitch dflt lo hi offs, len)) (h : x.toInt < lo ∨ hi < x.toInt) (ht : (pc : Int) + dflt = (tgt : Int)) (k : gG l R Qf Ex D cy b cc nL ret own nm cells slots f tgt lv st) : gG l R Qf Ex D cy b cc nL ret own nm cells slots f pc lv (.int x :: st) := fun p e s m args below meth c H locs ls F hP hS hl => lv_tableOut F.1 F.2.1 hdg h ht (k p e s m args below meth c H locs ls F hP hS hl)
theorem gz_tableIn {dflt lo hi : Int} {offs : Array Int} {len : Nat} {x : Int32} {off : Int} {tgt : Nat} (hdg : decode cc pc = .ok (.tableswitch dflt lo hi offs, len)) (h1 : ¬ x.toInt < lo) (h2 : ¬ hi < x.toInt) (ho : offs[(x.toInt - lo).toNat]? = some off) (ht : (pc : Int) + off = (tgt : Int)) (k : gG l R Qf Ex D cy b cc nL ret own nm cells slots f tgt lv st) : gG l R Qf Ex D cy b cc nL ret own nm cells slots f pc lv (.int x :: st) := fun p e s m args below meth c H locs ls F hP hS hl => lv_tableIn F.1 F.2.1 hdg h1 h2 ho ht (k p e s m args below meth c H locs ls F hP hS hl)
theorem gz_lookup {dflt : Int} {ps : Array (Int × Int)} {len : Nat} {x : Int32} {off : Int} {tgt : Nat} (hdg : decode cc pc = .ok (.lookupswitch dflt ps, len)) (hp : (ps.toList.zip (ps.toList.drop 1)).all (fun (a, next) => a.1 < next.1) = true) (ho : Op.lookupswitch.offset ps.toList dflt x.toInt = off) (ht : (pc : Int) + off = (tgt : Int)) (k : gG l R Qf Ex D cy b cc nL ret own nm cells slots f tgt lv st) : gG l R Qf Ex D cy b cc nL ret own nm cells slots f pc lv (.int x :: st) := fun p e s m args below meth c H locs ls F hP hS hl => lv_lookup F.1 F.2.1 hdg hp ho ht (k p e s m args below meth c H locs ls F hP hS hl)
theorem gz_get {a ci k0 idx N : Nat} {ref C : String} {T : u_T} {fs : List Value} {v : Value} (hf : f a = some (.inr (ci, fs))) (hc : vwCl[ci]? = some (C, T, N)) (hin : ∀ w ∈ u_ws C T N, w ∈ gW) (hk : k0 < N) (hlk : Cond.fieldLink own idx ref (T k0).2.1 (T k0).2.2.1 ∈ gW) (hrf : (T k0).1 = ref) (hv : fs[k0]? = some v) (hdg : decode cc pc = .ok (.getfield idx, 3)) (k : gG l R Qf Ex D cy b cc nL ret own nm cells slots f (pc + 3) lv (v :: st)) : gG l R Qf Ex D cy b cc nL ret own nm cells slots f pc lv (.ref a :: st) := fun p e s m args below meth c H locs ls F hP hS hl => by
  obtain ⟨L, g, q, h1, h2, h3, h4, h5, h6⟩ := pw_at hP hf
  exact va_get (D := D) F.1 F.2.1 F.2.2.2.2.2.1 hin F.2.2.2.2.1 F.2.2.2.2.2.2.2.2.1.1 h2 q h4 hc k0 hk (F.2.2.2.2.2.1 _ hlk) (fun x hx => hrf ▸ hx) hv hdg (k p e s m args below meth c H locs ls F hP hS hl)
theorem gz_getN {a ci k0 idx N : Nat} {ref C : String} {T : u_T} {fs : List Value} {v : Value} (hf : f a = some (.inr (ci, fs))) (hc : vwCl[ci]? = some (C, T, N)) (hin : ∀ w ∈ u_ws C T N, w ∈ gW) (hk : k0 < N) {host : String} (hlk : (own, idx, ref, (T k0).2.1, (T k0).2.2.1, host) ∈ gNF) (hrf : (T k0).1 = ref) (hv : fs[k0]? = some v) (hdg : decode cc pc = .ok (.getfield idx, 3)) (k : gG l R Qf Ex D cy b cc nL ret own nm cells slots f (pc + 3) lv (v :: st)) : gG l R Qf Ex D cy b cc nL ret own nm cells slots f pc lv (.ref a :: st) := fun p e s m args below meth c H locs ls F hP hS hl => by
  obtain ⟨L, g, q, h1, h2, h3, h4, h5, h6⟩ := pw_at hP hf
  exact va_getN (D := D) F.1 F.2.1 F.2.2.2.2.2.1 hin F.2.2.2.2.1 F.2.2.2.2.2.2.2.2.1.1 h2 q h4 hc k0 hk (va_Nw.use rfl (F.2.2.2.2.2.2.2.2.1.2.1 _ hlk)) (fun x hx => hrf ▸ hx) hv hdg (k p e s m args below meth c H locs ls F hP hS hl)
theorem gz_put {a ci k0 idx N : Nat} {ref C : String} {T : u_T} {fs : List Value} {v : Value} {ty : FieldType} (hf : f a = some (.inr (ci, fs))) (hc : vwCl[ci]? = some (C, T, N)) (hin : ∀ w ∈ u_ws C T N, w ∈ gW) (ty0 : Nat → FieldType) (hty : ∀ k, k < N → parseFieldDescriptor (T k).2.2.1 = some (ty0 k)) (hnn : ∀ a, a < N → ∀ b, b < N → a ≠ b → (T a).2.1 ≠ (T b).2.1) (hk : k0 < N) (hlk : Cond.fieldLink own idx ref (T k0).2.1 (T k0).2.2.1 ∈ gW) (hrf : (T k0).1 = ref) (hfin : (T k0).2.2.2 = false) (hd : parseFieldDescriptor (T k0).2.2.1 = some ty) (hn : narrow ty v = v) (hfit : fits ty v = true) (hlen : k0 < fs.length) (hdg : decode cc pc = .ok (.putfield idx, 3)) (k : gG l R Qf Ex D cy b cc nL ret own nm cells slots (va_up f a (some (.inr (ci, fs.set k0 v)))) (pc + 3) lv st) : gG l R Qf Ex D cy b cc nL ret own nm cells slots f pc lv (v :: .ref a :: st) := fun p e s m args below meth c H locs ls F hP hS hl => by
  obtain ⟨L, g, q, h1, h2, h3, h4, h5, h6⟩ := pw_at hP hf
  exact va_put (D := D) F.1 F.2.1 F.2.2.2.2.2.1 hin ty0 hty hnn F.2.2.2.2.1 F.2.2.2.2.2.2.2.2.1.1 h2 h3 hS q h4 hc k0 hk (F.2.2.2.2.2.1 _ hlk) (fun x hx => hrf ▸ hx) hfin hd hn hfit hlen hdg (fun H1 locs1 hP1 hD1 hS1 => k p e s m args below meth c H1 locs1 ls F (pw_put h5 h1 (h6 _ ▸ hP1) (h6 _ ▸ hD1)) hS1 hl)
theorem gz_putF {a ci k0 idx N : Nat} {ref C : String} {T : u_T} {fs : List Value} {v : Value} {ty : FieldType} (hf : f a = some (.inr (ci, fs))) (hc : vwCl[ci]? = some (C, T, N)) (hin : ∀ w ∈ u_ws C T N, w ∈ gW) (ty0 : Nat → FieldType) (hty : ∀ k, k < N → parseFieldDescriptor (T k).2.2.1 = some (ty0 k)) (hnn : ∀ a, a < N → ∀ b, b < N → a ≠ b → (T a).2.1 ≠ (T b).2.1) (hk : k0 < N) (hlk : Cond.fieldLink own idx ref (T k0).2.1 (T k0).2.2.1 ∈ gW) (hrf : (T k0).1 = ref) (hfin : (T k0).2.2.2 = true) (hnm : nm = "<init>") (hdecl : (T k0).1 = own) (hd : parseFieldDescriptor (T k0).2.2.1 = some ty) (hn : narrow ty v = v) (hfit : fits ty v = true) (hlen : k0 < fs.length) (hdg : decode cc pc = .ok (.putfield idx, 3)) (k : gG l R Qf Ex D cy b cc nL ret own nm cells slots (va_up f a (some (.inr (ci, fs.set k0 v)))) (pc + 3) lv st) : gG l R Qf Ex D cy b cc nL ret own nm cells slots f pc lv (v :: .ref a :: st) := fun p e s m args below meth c H locs ls F hP hS hl => by
  obtain ⟨L, g, q, h1, h2, h3, h4, h5, h6⟩ := pw_at hP hf
  exact va_putF (D := D) F.1 F.2.1 F.2.2.2.2.2.1 hin ty0 hty hnn F.2.2.2.2.1 F.2.2.2.2.2.2.2.2.1.1 h2 h3 hS q h4 hc k0 hk (F.2.2.2.2.2.1 _ hlk) (fun x hx => hrf ▸ hx) hfin (F.2.2.2.2.2.2.2.1.trans hnm) hdecl hd hn hfit hlen hdg (fun H1 locs1 hP1 hD1 hS1 => k p e s m args below meth c H1 locs1 ls F (pw_put h5 h1 (h6 _ ▸ hP1) (h6 _ ▸ hD1)) hS1 hl)
theorem gz_putN {a ci k0 idx N : Nat} {ref C : String} {T : u_T} {fs : List Value} {v : Value} {ty : FieldType} (hf : f a = some (.inr (ci, fs))) (hc : vwCl[ci]? = some (C, T, N)) (hin : ∀ w ∈ u_ws C T N, w ∈ gW) (ty0 : Nat → FieldType) (hty : ∀ k, k < N → parseFieldDescriptor (T k).2.2.1 = some (ty0 k)) (hnn : ∀ a, a < N → ∀ b, b < N → a ≠ b → (T a).2.1 ≠ (T b).2.1) (hk : k0 < N) {host : String} (hlk : (own, idx, ref, (T k0).2.1, (T k0).2.2.1, host) ∈ gNF) (hrf : (T k0).1 = ref) (hfin : (T k0).2.2.2 = false) (hd : parseFieldDescriptor (T k0).2.2.1 = some ty) (hn : narrow ty v = v) (hfit : fits ty v = true) (hlen : k0 < fs.length) (hdg : decode cc pc = .ok (.putfield idx, 3)) (k : gG l R Qf Ex D cy b cc nL ret own nm cells slots (va_up f a (some (.inr (ci, fs.set k0 v)))) (pc + 3) lv st) : gG l R Qf Ex D cy b cc nL ret own nm cells slots f pc lv (v :: .ref a :: st) := fun p e s m args below meth c H locs ls F hP hS hl => by
  obtain ⟨L, g, q, h1, h2, h3, h4, h5, h6⟩ := pw_at hP hf
  exact va_putN (D := D) F.1 F.2.1 F.2.2.2.2.2.1 hin ty0 hty hnn F.2.2.2.2.1 F.2.2.2.2.2.2.2.2.1.1 h2 h3 hS q h4 hc k0 hk (va_Nw.use rfl (F.2.2.2.2.2.2.2.2.1.2.1 _ hlk)) (fun x hx => hrf ▸ hx) hfin hd hn hfit hlen hdg (fun H1 locs1 hP1 hD1 hS1 => k p e s m args below meth c H1 locs1 ls F (pw_put h5 h1 (h6 _ ▸ hP1) (h6 _ ▸ hD1)) hS1 hl)
theorem gz_iald {a n : Nat} {g0 : Nat → Int32} {i : Int32} (hf : f a = some (.inl (cy 0, n, .inl g0))) (hin : vp_in i n) (hdg : decode cc pc = .ok (.iaload, 1)) (k : gG l R Qf Ex D cy b cc nL ret own nm cells slots f (pc + 1) lv (.int (g0 i.toNatClampNeg) :: st)) : gG l R Qf Ex D cy b cc nL ret own nm cells slots f pc lv (.int i :: .ref a :: st) := fun p e s m args below meth c H locs ls F hP hS hl => by
  obtain ⟨L, g, q, h1, h2, h3, h4, h5, h6⟩ := pw_at hP hf
  exact va_iald F.1 F.2.1 F.2.2.2.2.2.2.2.2.1.1 h2 q 0 h4 rfl hin hdg (k p e s m args below meth c H locs ls F hP hS hl)
theorem gz_bald {a n : Nat} {g0 : Nat → Int32} {i : Int32} (hf : f a = some (.inl (cy 1, n, .inl g0))) (hin : vp_in i n) (hdg : decode cc pc = .ok (.baload, 1)) (k : gG l R Qf Ex D cy b cc nL ret own nm cells slots f (pc + 1) lv (.int (g0 i.toNatClampNeg) :: st)) : gG l R Qf Ex D cy b cc nL ret own nm cells slots f pc lv (.int i :: .ref a :: st) := fun p e s m args below meth c H locs ls F hP hS hl => by
  obtain ⟨L, g, q, h1, h2, h3, h4, h5, h6⟩ := pw_at hP hf
  exact va_bald F.1 F.2.1 F.2.2.2.2.2.2.2.2.1.1 h2 q 1 h4 rfl hin hdg (k p e s m args below meth c H locs ls F hP hS hl)
theorem gz_zald {a n : Nat} {g0 : Nat → Int32} {i : Int32} (hf : f a = some (.inl (cy 3, n, .inl g0))) (hin : vp_in i n) (hdg : decode cc pc = .ok (.baload, 1)) (k : gG l R Qf Ex D cy b cc nL ret own nm cells slots f (pc + 1) lv (.int (g0 i.toNatClampNeg) :: st)) : gG l R Qf Ex D cy b cc nL ret own nm cells slots f pc lv (.int i :: .ref a :: st) := fun p e s m args below meth c H locs ls F hP hS hl => by
  obtain ⟨L, g, q, h1, h2, h3, h4, h5, h6⟩ := pw_at hP hf
  exact va_zald F.1 F.2.1 F.2.2.2.2.2.2.2.2.1.1 h2 q 3 h4 rfl hin hdg (k p e s m args below meth c H locs ls F hP hS hl)
theorem gz_lald {a n : Nat} {g0 : Nat → Int64} {i : Int32} (hf : f a = some (.inl (cy 2, n, .inr (.inl g0)))) (hin : vp_in i n) (hdg : decode cc pc = .ok (.laload, 1)) (k : gG l R Qf Ex D cy b cc nL ret own nm cells slots f (pc + 1) lv (.long (g0 i.toNatClampNeg) :: st)) : gG l R Qf Ex D cy b cc nL ret own nm cells slots f pc lv (.int i :: .ref a :: st) := fun p e s m args below meth c H locs ls F hP hS hl => by
  obtain ⟨L, g, q, h1, h2, h3, h4, h5, h6⟩ := pw_at hP hf
  exact va_lald F.1 F.2.1 F.2.2.2.2.2.2.2.2.1.1 h2 q 2 h4 rfl hin hdg (k p e s m args below meth c H locs ls F hP hS hl)
theorem gz_iast {a n : Nat} {g0 : Nat → Int32} {i : Int32} {x : Int32} (hf : f a = some (.inl (cy 0, n, .inl g0))) (hin : vp_in i n) (hdg : decode cc pc = .ok (.iastore, 1)) (k : gG l R Qf Ex D cy b cc nL ret own nm cells slots (va_up f a (some (.inl (cy 0, n, .inl (upd g0 i.toNatClampNeg x))))) (pc + 1) lv st) : gG l R Qf Ex D cy b cc nL ret own nm cells slots f pc lv (.int x :: .int i :: .ref a :: st) := fun p e s m args below meth c H locs ls F hP hS hl => by
  obtain ⟨L, g, q, h1, h2, h3, h4, h5, h6⟩ := pw_at hP hf
  exact va_iast F.1 F.2.1 F.2.2.2.2.2.2.2.2.1.1 h2 h3 hS q 0 h4 rfl hin hdg (fun H1 locs1 hP1 hD1 hS1 => k p e s m args below meth c H1 locs1 ls F (pw_put h5 h1 (h6 _ ▸ hP1) (h6 _ ▸ hD1)) hS1 hl)
theorem gz_bast {a n : Nat} {g0 : Nat → Int32} {i : Int32} {x : Int32} (hf : f a = some (.inl (cy 1, n, .inl g0))) (hin : vp_in i n) (hdg : decode cc pc = .ok (.bastore, 1)) (k : gG l R Qf Ex D cy b cc nL ret own nm cells slots (va_up f a (some (.inl (cy 1, n, .inl (upd g0 i.toNatClampNeg (vp_nar .byte x)))))) (pc + 1) lv st) : gG l R Qf Ex D cy b cc nL ret own nm cells slots f pc lv (.int x :: .int i :: .ref a :: st) := fun p e s m args below meth c H locs ls F hP hS hl => by
  obtain ⟨L, g, q, h1, h2, h3, h4, h5, h6⟩ := pw_at hP hf
  exact va_bast F.1 F.2.1 F.2.2.2.2.2.2.2.2.1.1 h2 h3 hS q 1 h4 rfl hin hdg (fun H1 locs1 hP1 hD1 hS1 => k p e s m args below meth c H1 locs1 ls F (pw_put h5 h1 (h6 _ ▸ hP1) (h6 _ ▸ hD1)) hS1 hl)
theorem gz_zast {a n : Nat} {g0 : Nat → Int32} {i : Int32} {x : Int32} (hf : f a = some (.inl (cy 3, n, .inl g0))) (hin : vp_in i n) (hdg : decode cc pc = .ok (.bastore, 1)) (k : gG l R Qf Ex D cy b cc nL ret own nm cells slots (va_up f a (some (.inl (cy 3, n, .inl (upd g0 i.toNatClampNeg (vp_nar .boolean x)))))) (pc + 1) lv st) : gG l R Qf Ex D cy b cc nL ret own nm cells slots f pc lv (.int x :: .int i :: .ref a :: st) := fun p e s m args below meth c H locs ls F hP hS hl => by
  obtain ⟨L, g, q, h1, h2, h3, h4, h5, h6⟩ := pw_at hP hf
  exact va_zast F.1 F.2.1 F.2.2.2.2.2.2.2.2.1.1 h2 h3 hS q 3 h4 rfl hin hdg (fun H1 locs1 hP1 hD1 hS1 => k p e s m args below meth c H1 locs1 ls F (pw_put h5 h1 (h6 _ ▸ hP1) (h6 _ ▸ hD1)) hS1 hl)
theorem gz_last {a n : Nat} {g0 : Nat → Int64} {i : Int32} {x : Int64} (hf : f a = some (.inl (cy 2, n, .inr (.inl g0)))) (hin : vp_in i n) (hdg : decode cc pc = .ok (.lastore, 1)) (k : gG l R Qf Ex D cy b cc nL ret own nm cells slots (va_up f a (some (.inl (cy 2, n, .inr (.inl (vp_updL g0 i.toNatClampNeg x)))))) (pc + 1) lv st) : gG l R Qf Ex D cy b cc nL ret own nm cells slots f pc lv (.long x :: .int i :: .ref a :: st) := fun p e s m args below meth c H locs ls F hP hS hl => by
  obtain ⟨L, g, q, h1, h2, h3, h4, h5, h6⟩ := pw_at hP hf
  exact va_last F.1 F.2.1 F.2.2.2.2.2.2.2.2.1.1 h2 h3 hS q 2 h4 rfl hin hdg (fun H1 locs1 hP1 hD1 hS1 => k p e s m args below meth c H1 locs1 ls F (pw_put h5 h1 (h6 _ ▸ hP1) (h6 _ ▸ hD1)) hS1 hl)
theorem gz_aald4 {a n : Nat} {g0 : Nat → Option Nat} {i : Int32} (hf : f a = some (.inl (cy 4, n, .inr (.inr (.inr (.inr g0)))))) (hin : vp_in i n) (hdg : decode cc pc = .ok (.aaload, 1)) (k : gG l R Qf Ex D cy b cc nL ret own nm cells slots f (pc + 1) lv (va_rf (g0 i.toNatClampNeg) :: st)) : gG l R Qf Ex D cy b cc nL ret own nm cells slots f pc lv (.int i :: .ref a :: st) := fun p e s m args below meth c H locs ls F hP hS hl => by
  obtain ⟨L, g, q, h1, h2, h3, h4, h5, h6⟩ := pw_at hP hf
  exact va_aldq (C := "DeedTongue$Form") F.1 F.2.1 F.2.2.2.2.2.2.2.2.1.1 h2 q 4 h4 rfl hin hdg (k p e s m args below meth c H locs ls F hP hS hl)
theorem gz_aast4 {a n v : Nat} {vs : List Value} {g0 : Nat → Option Nat} {i : Int32} (hf : f a = some (.inl (cy 4, n, .inr (.inr (.inr (.inr g0)))))) (hv : f v = some (.inr (2, vs))) (hin : vp_in i n) (hdg : decode cc pc = .ok (.aastore, 1)) (k : gG l R Qf Ex D cy b cc nL ret own nm cells slots (va_up f a (some (.inl (cy 4, n, .inr (.inr (.inr (.inr (va_up g0 i.toNatClampNeg (some v))))))))) (pc + 1) lv st) : gG l R Qf Ex D cy b cc nL ret own nm cells slots f pc lv (.ref v :: .int i :: .ref a :: st) := fun p e s m args below meth c H locs ls F hP hS hl => by
  obtain ⟨L, g, q, h1, h2, h3, h4, h5, h6⟩ := pw_at hP hf
  obtain ⟨j, hj⟩ := va_pl_get (X := []) (f := g) (h1 _ _ hv).1
  rw [(h1 _ _ hv).2] at hj
  exact va_astq (r := (RX2, TX2, 4)) F.1 F.2.1 F.2.2.2.2.2.2.2.2.1.1 h2 h3 hS q 4 j 2 h4 rfl hj rfl hin hdg (fun H1 locs1 hP1 hD1 hS1 => k p e s m args below meth c H1 locs1 ls F (pw_put h5 h1 (h6 _ ▸ hP1) (h6 _ ▸ hD1)) hS1 hl)
theorem gz_aald5 {a n : Nat} {g0 : Nat → Option Nat} {i : Int32} (hf : f a = some (.inl (cy 5, n, .inr (.inr (.inr (.inr g0)))))) (hin : vp_in i n) (hdg : decode cc pc = .ok (.aaload, 1)) (k : gG l R Qf Ex D cy b cc nL ret own nm cells slots f (pc + 1) lv (va_rf (g0 i.toNatClampNeg) :: st)) : gG l R Qf Ex D cy b cc nL ret own nm cells slots f pc lv (.int i :: .ref a :: st) := fun p e s m args below meth c H locs ls F hP hS hl => by
  obtain ⟨L, g, q, h1, h2, h3, h4, h5, h6⟩ := pw_at hP hf
  exact va_aldq (C := "DeedTongue$Life") F.1 F.2.1 F.2.2.2.2.2.2.2.2.1.1 h2 q 5 h4 rfl hin hdg (k p e s m args below meth c H locs ls F hP hS hl)
theorem gz_aast5 {a n v : Nat} {vs : List Value} {g0 : Nat → Option Nat} {i : Int32} (hf : f a = some (.inl (cy 5, n, .inr (.inr (.inr (.inr g0)))))) (hv : f v = some (.inr (5, vs))) (hin : vp_in i n) (hdg : decode cc pc = .ok (.aastore, 1)) (k : gG l R Qf Ex D cy b cc nL ret own nm cells slots (va_up f a (some (.inl (cy 5, n, .inr (.inr (.inr (.inr (va_up g0 i.toNatClampNeg (some v))))))))) (pc + 1) lv st) : gG l R Qf Ex D cy b cc nL ret own nm cells slots f pc lv (.ref v :: .int i :: .ref a :: st) := fun p e s m args below meth c H locs ls F hP hS hl => by
  obtain ⟨L, g, q, h1, h2, h3, h4, h5, h6⟩ := pw_at hP hf
  obtain ⟨j, hj⟩ := va_pl_get (X := []) (f := g) (h1 _ _ hv).1
  rw [(h1 _ _ hv).2] at hj
  exact va_astq (r := (RX5, TX5, 8)) F.1 F.2.1 F.2.2.2.2.2.2.2.2.1.1 h2 h3 hS q 5 j 5 h4 rfl hj rfl hin hdg (fun H1 locs1 hP1 hD1 hS1 => k p e s m args below meth c H1 locs1 ls F (pw_put h5 h1 (h6 _ ▸ hP1) (h6 _ ▸ hD1)) hS1 hl)
theorem gz_aald6 {a n : Nat} {g0 : Nat → Option Nat} {i : Int32} (hf : f a = some (.inl (cy 6, n, .inr (.inr (.inr (.inr g0)))))) (hin : vp_in i n) (hdg : decode cc pc = .ok (.aaload, 1)) (k : gG l R Qf Ex D cy b cc nL ret own nm cells slots f (pc + 1) lv (va_rf (g0 i.toNatClampNeg) :: st)) : gG l R Qf Ex D cy b cc nL ret own nm cells slots f pc lv (.int i :: .ref a :: st) := fun p e s m args below meth c H locs ls F hP hS hl => by
  obtain ⟨L, g, q, h1, h2, h3, h4, h5, h6⟩ := pw_at hP hf
  exact va_aldq (C := "DeedTongue$Scene") F.1 F.2.1 F.2.2.2.2.2.2.2.2.1.1 h2 q 6 h4 rfl hin hdg (k p e s m args below meth c H locs ls F hP hS hl)
theorem gz_aast6 {a n v : Nat} {vs : List Value} {g0 : Nat → Option Nat} {i : Int32} (hf : f a = some (.inl (cy 6, n, .inr (.inr (.inr (.inr g0)))))) (hv : f v = some (.inr (7, vs))) (hin : vp_in i n) (hdg : decode cc pc = .ok (.aastore, 1)) (k : gG l R Qf Ex D cy b cc nL ret own nm cells slots (va_up f a (some (.inl (cy 6, n, .inr (.inr (.inr (.inr (va_up g0 i.toNatClampNeg (some v))))))))) (pc + 1) lv st) : gG l R Qf Ex D cy b cc nL ret own nm cells slots f pc lv (.ref v :: .int i :: .ref a :: st) := fun p e s m args below meth c H locs ls F hP hS hl => by
  obtain ⟨L, g, q, h1, h2, h3, h4, h5, h6⟩ := pw_at hP hf
  obtain ⟨j, hj⟩ := va_pl_get (X := []) (f := g) (h1 _ _ hv).1
  rw [(h1 _ _ hv).2] at hj
  exact va_astq (r := (RX7, TX7, 2)) F.1 F.2.1 F.2.2.2.2.2.2.2.2.1.1 h2 h3 hS q 6 j 7 h4 rfl hj rfl hin hdg (fun H1 locs1 hP1 hD1 hS1 => k p e s m args below meth c H1 locs1 ls F (pw_put h5 h1 (h6 _ ▸ hP1) (h6 _ ▸ hD1)) hS1 hl)
theorem gz_alen0 {a n : Nat} {x : (Nat → Int32) ⊕ (Nat → Int64) ⊕ (Nat → UInt32) ⊕ (Nat → UInt64) ⊕ (Nat → Option Nat)} {v : Int32} (hf : f a = some (.inl (cy 0, n, x))) (hv : Int32.ofNat n = v) (hdg : decode cc pc = .ok (.arraylength, 1)) (k : gG l R Qf Ex D cy b cc nL ret own nm cells slots f (pc + 1) lv (.int v :: st)) : gG l R Qf Ex D cy b cc nL ret own nm cells slots f pc lv (.ref a :: st) := fun p e s m args below meth c H locs ls F hP hS hl => by
  obtain ⟨L, g, q, h1, h2, h3, h4, h5, h6⟩ := pw_at hP hf
  exact va_alen (ty := .int) F.1 F.2.1 F.2.2.2.2.2.2.2.2.1.1 h2 q 0 h4 rfl hv hdg (k p e s m args below meth c H locs ls F hP hS hl)
theorem gz_alen1 {a n : Nat} {x : (Nat → Int32) ⊕ (Nat → Int64) ⊕ (Nat → UInt32) ⊕ (Nat → UInt64) ⊕ (Nat → Option Nat)} {v : Int32} (hf : f a = some (.inl (cy 1, n, x))) (hv : Int32.ofNat n = v) (hdg : decode cc pc = .ok (.arraylength, 1)) (k : gG l R Qf Ex D cy b cc nL ret own nm cells slots f (pc + 1) lv (.int v :: st)) : gG l R Qf Ex D cy b cc nL ret own nm cells slots f pc lv (.ref a :: st) := fun p e s m args below meth c H locs ls F hP hS hl => by
  obtain ⟨L, g, q, h1, h2, h3, h4, h5, h6⟩ := pw_at hP hf
  exact va_alen (ty := .byte) F.1 F.2.1 F.2.2.2.2.2.2.2.2.1.1 h2 q 1 h4 rfl hv hdg (k p e s m args below meth c H locs ls F hP hS hl)
theorem gz_alen2 {a n : Nat} {x : (Nat → Int32) ⊕ (Nat → Int64) ⊕ (Nat → UInt32) ⊕ (Nat → UInt64) ⊕ (Nat → Option Nat)} {v : Int32} (hf : f a = some (.inl (cy 2, n, x))) (hv : Int32.ofNat n = v) (hdg : decode cc pc = .ok (.arraylength, 1)) (k : gG l R Qf Ex D cy b cc nL ret own nm cells slots f (pc + 1) lv (.int v :: st)) : gG l R Qf Ex D cy b cc nL ret own nm cells slots f pc lv (.ref a :: st) := fun p e s m args below meth c H locs ls F hP hS hl => by
  obtain ⟨L, g, q, h1, h2, h3, h4, h5, h6⟩ := pw_at hP hf
  exact va_alen (ty := .long) F.1 F.2.1 F.2.2.2.2.2.2.2.2.1.1 h2 q 2 h4 rfl hv hdg (k p e s m args below meth c H locs ls F hP hS hl)
theorem gz_alen3 {a n : Nat} {x : (Nat → Int32) ⊕ (Nat → Int64) ⊕ (Nat → UInt32) ⊕ (Nat → UInt64) ⊕ (Nat → Option Nat)} {v : Int32} (hf : f a = some (.inl (cy 3, n, x))) (hv : Int32.ofNat n = v) (hdg : decode cc pc = .ok (.arraylength, 1)) (k : gG l R Qf Ex D cy b cc nL ret own nm cells slots f (pc + 1) lv (.int v :: st)) : gG l R Qf Ex D cy b cc nL ret own nm cells slots f pc lv (.ref a :: st) := fun p e s m args below meth c H locs ls F hP hS hl => by
  obtain ⟨L, g, q, h1, h2, h3, h4, h5, h6⟩ := pw_at hP hf
  exact va_alen (ty := .boolean) F.1 F.2.1 F.2.2.2.2.2.2.2.2.1.1 h2 q 3 h4 rfl hv hdg (k p e s m args below meth c H locs ls F hP hS hl)
theorem gz_alen4 {a n : Nat} {x : (Nat → Int32) ⊕ (Nat → Int64) ⊕ (Nat → UInt32) ⊕ (Nat → UInt64) ⊕ (Nat → Option Nat)} {v : Int32} (hf : f a = some (.inl (cy 4, n, x))) (hv : Int32.ofNat n = v) (hdg : decode cc pc = .ok (.arraylength, 1)) (k : gG l R Qf Ex D cy b cc nL ret own nm cells slots f (pc + 1) lv (.int v :: st)) : gG l R Qf Ex D cy b cc nL ret own nm cells slots f pc lv (.ref a :: st) := fun p e s m args below meth c H locs ls F hP hS hl => by
  obtain ⟨L, g, q, h1, h2, h3, h4, h5, h6⟩ := pw_at hP hf
  exact va_alen (ty := .object "DeedTongue$Form") F.1 F.2.1 F.2.2.2.2.2.2.2.2.1.1 h2 q 4 h4 rfl hv hdg (k p e s m args below meth c H locs ls F hP hS hl)
theorem gz_alen5 {a n : Nat} {x : (Nat → Int32) ⊕ (Nat → Int64) ⊕ (Nat → UInt32) ⊕ (Nat → UInt64) ⊕ (Nat → Option Nat)} {v : Int32} (hf : f a = some (.inl (cy 5, n, x))) (hv : Int32.ofNat n = v) (hdg : decode cc pc = .ok (.arraylength, 1)) (k : gG l R Qf Ex D cy b cc nL ret own nm cells slots f (pc + 1) lv (.int v :: st)) : gG l R Qf Ex D cy b cc nL ret own nm cells slots f pc lv (.ref a :: st) := fun p e s m args below meth c H locs ls F hP hS hl => by
  obtain ⟨L, g, q, h1, h2, h3, h4, h5, h6⟩ := pw_at hP hf
  exact va_alen (ty := .object "DeedTongue$Life") F.1 F.2.1 F.2.2.2.2.2.2.2.2.1.1 h2 q 5 h4 rfl hv hdg (k p e s m args below meth c H locs ls F hP hS hl)
theorem gz_alen6 {a n : Nat} {x : (Nat → Int32) ⊕ (Nat → Int64) ⊕ (Nat → UInt32) ⊕ (Nat → UInt64) ⊕ (Nat → Option Nat)} {v : Int32} (hf : f a = some (.inl (cy 6, n, x))) (hv : Int32.ofNat n = v) (hdg : decode cc pc = .ok (.arraylength, 1)) (k : gG l R Qf Ex D cy b cc nL ret own nm cells slots f (pc + 1) lv (.int v :: st)) : gG l R Qf Ex D cy b cc nL ret own nm cells slots f pc lv (.ref a :: st) := fun p e s m args below meth c H locs ls F hP hS hl => by
  obtain ⟨L, g, q, h1, h2, h3, h4, h5, h6⟩ := pw_at hP hf
  exact va_alen (ty := .object "DeedTongue$Scene") F.1 F.2.1 F.2.2.2.2.2.2.2.2.1.1 h2 q 6 h4 rfl hv hdg (k p e s m args below meth c H locs ls F hP hS hl)
theorem gz_newa0 {n : Int32} {N' : Nat} (hn : ¬ n < 0) (hN : n.toNatClampNeg = N') (hbytes : N' * componentBytes .int ≤ 536870912) (hcells : cells + 1 ≤ R.cells) (hslots : slots + N' ≤ R.slots) (hw : Cond.arrayClass .int ∈ gW) (hdg : decode cc pc = .ok (.newarray .int, 2)) (k : ∀ q : Nat, f q = none → gG l R Qf Ex D cy b cc nL ret own nm (cells + 1) (slots + N') (va_up f q (some (.inl (cy 0, N', .inl (fun _ => 0))))) (pc + 2) lv (.ref q :: st)) : gG l R Qf Ex D cy b cc nL ret own nm cells slots f pc lv (.int n :: st) := fun p e s m args below meth c H locs ls F hP hS hl => by
  obtain ⟨L, g, h1, h2, h3⟩ := hP
  refine va_newa (atype := .int) (ty := .int) (a0 := (N', .inl (fun _ => 0))) F.1 F.2.1 (F.2.2.2.2.2.1 _ hw) rfl F.2.2.2.2.2.2.2.2.1.1 h2 h3 hS (fun q hq => Nat.le_trans F.2.2.2.2.2.2.2.2.2.1 hq) (fun cA => rfl) hn hN hbytes hcells hslots hdg (fun q cA H1 hK1 hP1 hD1 hS1 => ?_)
  have e1 : cA = cy 0 := Option.some.inj (((hK1.2 7 (cA, .int) rfl).2 : s.vm.findClass _ = some cA).symm.trans ((hK1.2 0 (cy 0, .int) rfl).2 : s.vm.findClass _ = some (cy 0)))
  subst e1
  obtain ⟨z1, z2⟩ := pw_new h1 hP1 hD1
  exact k q z1 p e s m args below meth c H1 locs ls F z2 hS1 hl
theorem gz_newa1 {n : Int32} {N' : Nat} (hn : ¬ n < 0) (hN : n.toNatClampNeg = N') (hbytes : N' * componentBytes .byte ≤ 536870912) (hcells : cells + 1 ≤ R.cells) (hslots : slots + N' ≤ R.slots) (hw : Cond.arrayClass .byte ∈ gW) (hdg : decode cc pc = .ok (.newarray .byte, 2)) (k : ∀ q : Nat, f q = none → gG l R Qf Ex D cy b cc nL ret own nm (cells + 1) (slots + N') (va_up f q (some (.inl (cy 1, N', .inl (fun _ => 0))))) (pc + 2) lv (.ref q :: st)) : gG l R Qf Ex D cy b cc nL ret own nm cells slots f pc lv (.int n :: st) := fun p e s m args below meth c H locs ls F hP hS hl => by
  obtain ⟨L, g, h1, h2, h3⟩ := hP
  refine va_newa (atype := .byte) (ty := .byte) (a0 := (N', .inl (fun _ => 0))) F.1 F.2.1 (F.2.2.2.2.2.1 _ hw) rfl F.2.2.2.2.2.2.2.2.1.1 h2 h3 hS (fun q hq => Nat.le_trans F.2.2.2.2.2.2.2.2.2.1 hq) (fun cA => rfl) hn hN hbytes hcells hslots hdg (fun q cA H1 hK1 hP1 hD1 hS1 => ?_)
  have e1 : cA = cy 1 := Option.some.inj (((hK1.2 7 (cA, .byte) rfl).2 : s.vm.findClass _ = some cA).symm.trans ((hK1.2 1 (cy 1, .byte) rfl).2 : s.vm.findClass _ = some (cy 1)))
  subst e1
  obtain ⟨z1, z2⟩ := pw_new h1 hP1 hD1
  exact k q z1 p e s m args below meth c H1 locs ls F z2 hS1 hl
theorem gz_newa2 {n : Int32} {N' : Nat} (hn : ¬ n < 0) (hN : n.toNatClampNeg = N') (hbytes : N' * componentBytes .long ≤ 536870912) (hcells : cells + 1 ≤ R.cells) (hslots : slots + N' ≤ R.slots) (hw : Cond.arrayClass .long ∈ gW) (hdg : decode cc pc = .ok (.newarray .long, 2)) (k : ∀ q : Nat, f q = none → gG l R Qf Ex D cy b cc nL ret own nm (cells + 1) (slots + N') (va_up f q (some (.inl (cy 2, N', .inr (.inl (fun _ => 0)))))) (pc + 2) lv (.ref q :: st)) : gG l R Qf Ex D cy b cc nL ret own nm cells slots f pc lv (.int n :: st) := fun p e s m args below meth c H locs ls F hP hS hl => by
  obtain ⟨L, g, h1, h2, h3⟩ := hP
  refine va_newa (atype := .long) (ty := .long) (a0 := (N', .inr (.inl (fun _ => 0)))) F.1 F.2.1 (F.2.2.2.2.2.1 _ hw) rfl F.2.2.2.2.2.2.2.2.1.1 h2 h3 hS (fun q hq => Nat.le_trans F.2.2.2.2.2.2.2.2.2.1 hq) (fun cA => rfl) hn hN hbytes hcells hslots hdg (fun q cA H1 hK1 hP1 hD1 hS1 => ?_)
  have e1 : cA = cy 2 := Option.some.inj (((hK1.2 7 (cA, .long) rfl).2 : s.vm.findClass _ = some cA).symm.trans ((hK1.2 2 (cy 2, .long) rfl).2 : s.vm.findClass _ = some (cy 2)))
  subst e1
  obtain ⟨z1, z2⟩ := pw_new h1 hP1 hD1
  exact k q z1 p e s m args below meth c H1 locs ls F z2 hS1 hl
theorem gz_newa3 {n : Int32} {N' : Nat} (hn : ¬ n < 0) (hN : n.toNatClampNeg = N') (hbytes : N' * componentBytes .boolean ≤ 536870912) (hcells : cells + 1 ≤ R.cells) (hslots : slots + N' ≤ R.slots) (hw : Cond.arrayClass .boolean ∈ gW) (hdg : decode cc pc = .ok (.newarray .boolean, 2)) (k : ∀ q : Nat, f q = none → gG l R Qf Ex D cy b cc nL ret own nm (cells + 1) (slots + N') (va_up f q (some (.inl (cy 3, N', .inl (fun _ => 0))))) (pc + 2) lv (.ref q :: st)) : gG l R Qf Ex D cy b cc nL ret own nm cells slots f pc lv (.int n :: st) := fun p e s m args below meth c H locs ls F hP hS hl => by
  obtain ⟨L, g, h1, h2, h3⟩ := hP
  refine va_newa (atype := .boolean) (ty := .boolean) (a0 := (N', .inl (fun _ => 0))) F.1 F.2.1 (F.2.2.2.2.2.1 _ hw) rfl F.2.2.2.2.2.2.2.2.1.1 h2 h3 hS (fun q hq => Nat.le_trans F.2.2.2.2.2.2.2.2.2.1 hq) (fun cA => rfl) hn hN hbytes hcells hslots hdg (fun q cA H1 hK1 hP1 hD1 hS1 => ?_)
  have e1 : cA = cy 3 := Option.some.inj (((hK1.2 7 (cA, .boolean) rfl).2 : s.vm.findClass _ = some cA).symm.trans ((hK1.2 3 (cy 3, .boolean) rfl).2 : s.vm.findClass _ = some (cy 3)))
  subst e1
  obtain ⟨z1, z2⟩ := pw_new h1 hP1 hD1
  exact k q z1 p e s m args below meth c H1 locs ls F z2 hS1 hl
theorem gz_newa4 {n : Int32} {N' idx : Nat} (hn : ¬ n < 0) (hN : n.toNatClampNeg = N') (hbytes : N' * 4 ≤ 536870912) (hcells : cells + 1 ≤ R.cells) (hslots : slots + N' ≤ R.slots) (hw : Cond.classLink own idx "DeedTongue$Form" ∈ gW) (hdg : decode cc pc = .ok (.anewarray idx, 3)) (k : ∀ q : Nat, f q = none → gG l R Qf Ex D cy b cc nL ret own nm (cells + 1) (slots + N') (va_up f q (some (.inl (cy 4, N', .inr (.inr (.inr (.inr (fun _ => none)))))))) (pc + 3) lv (.ref q :: st)) : gG l R Qf Ex D cy b cc nL ret own nm cells slots f pc lv (.int n :: st) := fun p e s m args below meth c H locs ls F hP hS hl => by
  obtain ⟨L, g, h1, h2, h3⟩ := hP
  refine va_newq (C := "DeedTongue$Form") F.1 F.2.1 F.2.2.2.2.1 (F.2.2.2.2.2.1 _ hw) (F.2.2.2.2.2.2.2.2.1.2.2.2 _ (by decide)) F.2.2.2.2.2.2.2.2.1.1 h2 h3 hS (fun q hq => Nat.le_trans F.2.2.2.2.2.2.2.2.2.1 hq) hn hN hbytes hcells hslots hdg (fun q cA H1 hK1 hP1 hD1 hS1 => ?_)
  obtain ⟨kA, comp, g1, g2, g3, g4⟩ := (hK1.2 7 (cA, .object "DeedTongue$Form") rfl).2
  obtain ⟨kB, comp2, g5, g6, g7, g8⟩ := (hK1.2 4 (cy 4, .object "DeedTongue$Form") rfl).2
  have e1 : cA = cy 4 := Option.some.inj (g4.symm.trans g8)
  subst e1
  obtain ⟨z1, z2⟩ := pw_new h1 hP1 hD1
  exact k q z1 p e s m args below meth c H1 locs ls F z2 hS1 hl
theorem gz_newa5 {n : Int32} {N' idx : Nat} (hn : ¬ n < 0) (hN : n.toNatClampNeg = N') (hbytes : N' * 4 ≤ 536870912) (hcells : cells + 1 ≤ R.cells) (hslots : slots + N' ≤ R.slots) (hw : Cond.classLink own idx "DeedTongue$Life" ∈ gW) (hdg : decode cc pc = .ok (.anewarray idx, 3)) (k : ∀ q : Nat, f q = none → gG l R Qf Ex D cy b cc nL ret own nm (cells + 1) (slots + N') (va_up f q (some (.inl (cy 5, N', .inr (.inr (.inr (.inr (fun _ => none)))))))) (pc + 3) lv (.ref q :: st)) : gG l R Qf Ex D cy b cc nL ret own nm cells slots f pc lv (.int n :: st) := fun p e s m args below meth c H locs ls F hP hS hl => by
  obtain ⟨L, g, h1, h2, h3⟩ := hP
  refine va_newq (C := "DeedTongue$Life") F.1 F.2.1 F.2.2.2.2.1 (F.2.2.2.2.2.1 _ hw) (F.2.2.2.2.2.2.2.2.1.2.2.2 _ (by decide)) F.2.2.2.2.2.2.2.2.1.1 h2 h3 hS (fun q hq => Nat.le_trans F.2.2.2.2.2.2.2.2.2.1 hq) hn hN hbytes hcells hslots hdg (fun q cA H1 hK1 hP1 hD1 hS1 => ?_)
  obtain ⟨kA, comp, g1, g2, g3, g4⟩ := (hK1.2 7 (cA, .object "DeedTongue$Life") rfl).2
  obtain ⟨kB, comp2, g5, g6, g7, g8⟩ := (hK1.2 5 (cy 5, .object "DeedTongue$Life") rfl).2
  have e1 : cA = cy 5 := Option.some.inj (g4.symm.trans g8)
  subst e1
  obtain ⟨z1, z2⟩ := pw_new h1 hP1 hD1
  exact k q z1 p e s m args below meth c H1 locs ls F z2 hS1 hl
theorem gz_newa6 {n : Int32} {N' idx : Nat} (hn : ¬ n < 0) (hN : n.toNatClampNeg = N') (hbytes : N' * 4 ≤ 536870912) (hcells : cells + 1 ≤ R.cells) (hslots : slots + N' ≤ R.slots) (hw : Cond.classLink own idx "DeedTongue$Scene" ∈ gW) (hdg : decode cc pc = .ok (.anewarray idx, 3)) (k : ∀ q : Nat, f q = none → gG l R Qf Ex D cy b cc nL ret own nm (cells + 1) (slots + N') (va_up f q (some (.inl (cy 6, N', .inr (.inr (.inr (.inr (fun _ => none)))))))) (pc + 3) lv (.ref q :: st)) : gG l R Qf Ex D cy b cc nL ret own nm cells slots f pc lv (.int n :: st) := fun p e s m args below meth c H locs ls F hP hS hl => by
  obtain ⟨L, g, h1, h2, h3⟩ := hP
  refine va_newq (C := "DeedTongue$Scene") F.1 F.2.1 F.2.2.2.2.1 (F.2.2.2.2.2.1 _ hw) (F.2.2.2.2.2.2.2.2.1.2.2.2 _ (by decide)) F.2.2.2.2.2.2.2.2.1.1 h2 h3 hS (fun q hq => Nat.le_trans F.2.2.2.2.2.2.2.2.2.1 hq) hn hN hbytes hcells hslots hdg (fun q cA H1 hK1 hP1 hD1 hS1 => ?_)
  obtain ⟨kA, comp, g1, g2, g3, g4⟩ := (hK1.2 7 (cA, .object "DeedTongue$Scene") rfl).2
  obtain ⟨kB, comp2, g5, g6, g7, g8⟩ := (hK1.2 6 (cy 6, .object "DeedTongue$Scene") rfl).2
  have e1 : cA = cy 6 := Option.some.inj (g4.symm.trans g8)
  subst e1
  obtain ⟨z1, z2⟩ := pw_new h1 hP1 hD1
  exact k q z1 p e s m args below meth c H1 locs ls F z2 hS1 hl
theorem gz_new {ci idx N : Nat} {C : String} {T : u_T} {fs : List Value} (hc : vwCl[ci]? = some (C, T, N)) (hin : ∀ w ∈ u_ws C T N, w ∈ gW) (ty : Nat → FieldType) (hty : ∀ k, k < N → parseFieldDescriptor (T k).2.2.1 = some (ty k)) (hw1 : Cond.classLink own idx C ∈ gW) (hw2 : Cond.instantiable C N ∈ gW) (hw3 : Cond.initialized C ∈ gW) (hfs : ∀ j, j < N → defaultValue (ty j) = vp_V fs j) (hcells : cells + 1 ≤ R.cells) (hslots : slots + N ≤ R.slots) (hdg : decode cc pc = .ok (.new idx, 3)) (k : ∀ q : Nat, f q = none → gG l R Qf Ex D cy b cc nL ret own nm (cells + 1) (slots + N) (va_up f q (some (.inr (ci, fs)))) (pc + 3) lv (.ref q :: st)) : gG l R Qf Ex D cy b cc nL ret own nm cells slots f pc lv st := fun p e s m args below meth c H locs ls F hP hS hl => by
  obtain ⟨L, g, h1, h2, h3⟩ := hP
  refine va_new (D := D) (ci := ci) (fs := fs) F.1 F.2.1 F.2.2.2.2.2.1 hin ty hty F.2.2.2.2.1 (F.2.2.2.2.2.1 _ hw1) (F.2.2.2.2.2.1 _ hw2) (F.2.2.2.2.2.1 _ hw3) F.2.2.2.2.2.2.2.2.1.1 h2 h3 hS (fun q hq => Nat.le_trans F.2.2.2.2.2.2.2.2.2.1 hq) hc hfs hcells hslots hdg (fun q H1 hP1 hD1 hS1 => ?_)
  obtain ⟨z1, z2⟩ := pw_new h1 hP1 hD1
  exact k q z1 p e s m args below meth c H1 locs ls F z2 hS1 hl
theorem gz_objInit {a idx : Nat} (hw1 : Cond.methodLink own idx objectInit ∈ gW) (hw2 : Cond.instanceMethod objectInit ∈ gW) (hw3 : Cond.code objectInit ⟨#[0xb1]⟩ 1 none ∈ gW) (hR1 : 1 ≤ R.frames) (hR2 : 64 ≤ R.locals) (hs : (st.map fun v => v.category).sum ≤ 8) (hdg : decode cc pc = .ok (.invokespecial idx, 3)) (k : gG l R Qf Ex D cy b cc nL ret own nm cells slots f (pc + 3) lv st) : gG l R Qf Ex D cy b cc nL ret own nm cells slots f pc lv (.ref a :: st) := fun p e s m args below meth c H locs ls F hP hS hl => by
  refine W.objInit F.1 F.2.1 F.2.2.2.2.1 (F.2.2.2.2.2.1 _ hw1) (F.2.2.2.2.2.1 _ hw2) (F.2.2.2.2.2.1 _ hw3) rfl (by rw [F.2.2.1]; exact hl.1) rfl hdg hR1 ?_ (k p e s m args below meth c H locs ls F hP hS hl)
  have := lv_room (m := m) (pc := pc) (ls := ls) (rest := .ref a :: st) hs
  omega
theorem gz_iret {Po : Option Value → gMem → Prop} {mc ms : Nat} {v : Int32} (hr : ret = some .int) (hdg : decode cc pc = .ok (.ireturn, 1)) (h1 : cells ≤ mc) (h2 : slots ≤ ms) (hp : Po (some (.int v)) f) : gG l R (gQf D b Po mc ms) Ex D cy b cc nL ret own nm cells slots f pc lv [.int v] := fun p e s m args below meth c H locs ls F hP hS hl => W.widen h1 h2 (W.iret F.1 F.2.1 (F.2.2.2.1.trans hr) (fun t ht hW => ⟨⟨_, f, rfl, hp, by rw [ht]; exact hP⟩, hS.F ht⟩) hS.2.2 hdg F.2.2.2.2.2.2.1)
theorem gz_zret {Po : Option Value → gMem → Prop} {mc ms : Nat} {v : Int32} (hr : ret = some .boolean) (hn : narrow .boolean (.int v) = .int v) (hdg : decode cc pc = .ok (.ireturn, 1)) (h1 : cells ≤ mc) (h2 : slots ≤ ms) (hp : Po (some (.int v)) f) : gG l R (gQf D b Po mc ms) Ex D cy b cc nL ret own nm cells slots f pc lv [.int v] := fun p e s m args below meth c H locs ls F hP hS hl => W.widen h1 h2 (W.zret F.1 F.2.1 (F.2.2.2.1.trans hr) hn (fun t ht hW => ⟨⟨_, f, rfl, hp, by rw [ht]; exact hP⟩, hS.F ht⟩) hS.2.2 hdg F.2.2.2.2.2.2.1)
theorem gz_lret {Po : Option Value → gMem → Prop} {mc ms : Nat} {v : Int64} (hr : ret = some .long) (hdg : decode cc pc = .ok (.lreturn, 1)) (h1 : cells ≤ mc) (h2 : slots ≤ ms) (hp : Po (some (.long v)) f) : gG l R (gQf D b Po mc ms) Ex D cy b cc nL ret own nm cells slots f pc lv [.long v] := fun p e s m args below meth c H locs ls F hP hS hl => W.widen h1 h2 (W.lret F.1 F.2.1 (F.2.2.2.1.trans hr) (fun t ht hW => ⟨⟨_, f, rfl, hp, by rw [ht]; exact hP⟩, hS.F ht⟩) hS.2.2 hdg F.2.2.2.2.2.2.1)
theorem gz_vret {Po : Option Value → gMem → Prop} {mc ms : Nat} (hr : ret = none) (hdg : decode cc pc = .ok (.return_, 1)) (h1 : cells ≤ mc) (h2 : slots ≤ ms) (hp : Po none f) : gG l R (gQf D b Po mc ms) Ex D cy b cc nL ret own nm cells slots f pc lv [] := fun p e s m args below meth c H locs ls F hP hS hl => W.widen h1 h2 (W.vret F.1 F.2.1 (F.2.2.2.1.trans hr) (fun t ht hW => ⟨⟨_, f, rfl, hp, by rw [ht]; exact hP⟩, hS.F ht⟩) hS.2.2 hdg F.2.2.2.2.2.2.1)
theorem gz_aret {Po : Option Value → gMem → Prop} {mc ms : Nat} {v : Value} {C : String} (hr : ret = some (.object C)) (hv : v = .null ∨ ∃ a, v = .ref a) (hdg : decode cc pc = .ok (.areturn, 1)) (h1 : cells ≤ mc) (h2 : slots ≤ ms) (hp : Po (some v) f) : gG l R (gQf D b Po mc ms) Ex D cy b cc nL ret own nm cells slots f pc lv [v] := fun p e s m args below meth c H locs ls F hP hS hl => W.widen h1 h2 (W.aret F.1 F.2.1 (F.2.2.2.1.trans hr) (Or.inl ⟨C, rfl⟩) hv (fun t ht hW => ⟨⟨_, f, rfl, hp, by rw [ht]; exact hP⟩, hS.F ht⟩) hS.2.2 hdg F.2.2.2.2.2.2.1)
theorem g_call {p : Program} {e : Env} {s : State} {m : MethodId} {args : Array Value} {below : List Frame} {meth : Method} {c : Code} {H : Heap} {locs : List Loc} {ls : Array Slot} {st0 : List Value} {mc' ms' : Nat} {av : Array Value} {Po' : Option Value → gMem → Prop} (F : gFx p s m args meth c Ex D cy b cc nL ret own nm) (hS : va_S (fun q : Nat => b ≤ q) s.heap H locs) (hl : lv_has ls nL lv)
    (hr : va_Run p l e R s m args below meth c H locs cells slots mc' ms' (F0 m pc ls st0) st (gQ D b Po' av) (fun q : Nat => b ≤ q))
    (k : ∀ r f', Po' r f' → gG l R Qf Ex D cy b cc nL ret own nm (cells + mc') (slots + ms') f' (pc + 3) lv (r.toList ++ st)) : W p l e R s m args below meth c H locs cells slots (Qf below args s) (F0 m pc ls st0) := by
  intro T hT X
  obtain ⟨v, st₀, t, T', L, h0, X', hL, e1, e2, ⟨⟨r, f', hv, hp, hw⟩, hz, hk⟩, stp⟩ := hr T hT X
  cases hv
  rw [h0] at hz hk
  obtain ⟨t2, a1, b1⟩ := k v f' hp p e s m args below meth c T'.heap (locs ++ L) ls F (by rw [e1]; exact hw)
    ⟨Nat.le_trans hS.1 (by rw [e1]; exact hz), fun q h1 h2 => by rw [e1, hk q (Nat.lt_of_lt_of_le h1 hS.1) h2]; exact hS.2.1 q h1 h2, fun q hq => by
      rcases List.mem_append.mp hq with h | h
      · exact hS.2.2 q h
      · exact hL q h⟩ hl T' rfl X'
  exact ⟨t2, stp t2 a1, b1⟩
theorem gBlind {av : List Value} : FrameBlind (va_Pc av (fun U => b ≤ U.heap.size ∧ pw D b f U.heap ∧ gK D cy U)) := fun a U g mk q => ⟨q.1, q.2.1, q.2.2.1, gK_same (s := U) (U := U.calling g mk a) rfl q.2.2.2⟩
theorem gGood : gW.all goodWord = true := List.all_eq_true.mpr (fun w h => (List.mem_filter.mp h).2)
theorem gIn {y : MethodName} {cc' : ByteArray} {nL' : Nat} {ret' : Option FieldType} (h : Cond.code y cc' nL' ret' ∈ gW) : GoodIn gW (.code y cc' nL' ret' :: gW) := fun w hw => by
  rcases List.mem_cons.mp hw with h1 | h1
  · subst h1; exact ⟨h, good_of_word (List.all_eq_true.mp gGood _ h)⟩
  · exact ⟨h1, good_of_word (List.all_eq_true.mp gGood w h1)⟩
theorem gz_callV {y : MethodName} {cc' : ByteArray} {nL' d' mc' ms' idx n : Nat} {ret' : Option FieldType} {As st0 : List Value} {Po' : Option Value → gMem → Prop} {a ci N : Nat} {C : String} {T : u_T} {fs : List Value} (hM : gC l D cy b y cc' nL' ret' d' mc' ms' (.ref a :: As) f Po') (hf : f a = some (.inr (ci, fs))) (hc : vwCl[ci]? = some (C, T, N)) (hw : Cond.code y cc' nL' ret' ∈ gW) (hw2 : Cond.methodLink own idx y ∈ gW ∧ Cond.instanceMethod y ∈ gW ∧ Cond.selects C y y ∈ gW ∧ Cond.initialized C ∈ gW) (hy : y.cls = C ∧ y.cls ≠ "java/lang/invoke/MethodHandle" ∧ y.cls ≠ "java/lang/invoke/VarHandle" ∧ (parseMethodDescriptor y.desc).map (fun d => d.parameters.length) = some n) (hR : d' + 1 ≤ R.frames ∧ 8 + (nL' + 11) + 64 * d' ≤ R.locals) (hcs : cells + mc' ≤ R.cells ∧ slots + ms' ≤ R.slots) (hn : As.length = n) (hst : st0 = As.reverse ++ .ref a :: st) (hsum : (st.map fun v => v.category).sum ≤ 8) (hdg : decode cc pc = .ok (.invokevirtual idx, 3)) (k : ∀ r f', Po' r f' → gG l R Qf Ex D cy b cc nL ret own nm (cells + mc') (slots + ms') f' (pc + 3) lv (r.toList ++ st)) : gG l R Qf Ex D cy b cc nL ret own nm cells slots f pc lv st0 := fun p e s m args below meth c H locs ls F hP hS hl => by
  obtain ⟨L, g, q, h1, h2, h3, h4, h5, h6⟩ := pw_at hP hf
  refine g_call F hS hl (va_runV (As := As) (rest := st) (nL := nL) (C := C) (n := n) (bytes := cc') (maxL := nL') (ret := ret') ⟨F.1, F.2.1, F.2.2.1, F.2.2.2.2.1, F.2.2.2.2.2.1⟩ hM ?_ ⟨gBlind, va_recv F.2.2.2.2.2.2.2.2.1.1 h2 (q := (C, T, N)) hc h4, fun U hU hW => ⟨rfl, Nat.le_trans F.2.2.2.2.2.2.2.2.2.1 (by rw [hU]; exact hS.1), by rw [hU]; exact hP, gK_warm hW F.2.2.2.2.2.2.2.2.1⟩⟩ rfl hn hl.1 hst (lv_room hsum) hdg hcs) k
  refine cwV (Ts := gW) n F.2.2.2.2.2.1 ?_ rfl rfl rfl hy hR
  intro w hw'
  rcases List.mem_append.mp hw' with h | h
  · have hm : w ∈ gW := by
      rcases List.mem_cons.mp h with h | h
      · subst h; exact hw2.1
      · rcases List.mem_cons.mp h with h | h
        · subst h; exact hw2.2.1
        · rcases List.mem_cons.mp h with h | h
          · subst h; exact hw2.2.2.1
          · rcases List.mem_cons.mp h with h | h
            · subst h; exact hw2.2.2.2
            · cases h
    exact ⟨hm, good_of_word (List.all_eq_true.mp gGood w hm)⟩
  · exact gIn hw w h
theorem gz_callI {y : MethodName} {cc' : ByteArray} {nL' d' mc' ms' idx n : Nat} {As st0 : List Value} {Po' : Option Value → gMem → Prop} {a : Nat} (hM : gC l D cy b y cc' nL' none d' mc' ms' (.ref a :: As) f Po') (hw : Cond.code y cc' nL' none ∈ gW) (hw2 : Cond.methodLink own idx y ∈ gW ∧ Cond.instanceMethod y ∈ gW ∧ Cond.initialized y.cls ∈ gW) (hy1 : y.name = "<init>") (hy : y.cls ≠ "java/lang/invoke/MethodHandle" ∧ y.cls ≠ "java/lang/invoke/VarHandle" ∧ (parseMethodDescriptor y.desc).map (fun d => d.parameters.length) = some n) (hR : d' + 1 ≤ R.frames ∧ 8 + (nL' + 11) + 64 * d' ≤ R.locals) (hcs : cells + mc' ≤ R.cells ∧ slots + ms' ≤ R.slots) (hn : As.length = n) (hst : st0 = As.reverse ++ .ref a :: st) (hsum : (st.map fun v => v.category).sum ≤ 8) (hdg : decode cc pc = .ok (.invokespecial idx, 3)) (k : ∀ r f', Po' r f' → gG l R Qf Ex D cy b cc nL ret own nm (cells + mc') (slots + ms') f' (pc + 3) lv (r.toList ++ st)) : gG l R Qf Ex D cy b cc nL ret own nm cells slots f pc lv st0 := fun p e s m args below meth c H locs ls F hP hS hl =>
  g_call F hS hl (va_runI (As := As) (rest := st) (nL := nL) (n := n) ⟨F.1, F.2.1, F.2.2.1, F.2.2.2.2.1, F.2.2.2.2.2.1⟩ hM (cwI (Ts := gW) n F.2.2.2.2.2.1 (gIn hw) rfl rfl rfl (F.2.2.2.2.2.1 _ hw2.2.2) (F.2.2.2.2.2.1 _ hw2.1) (F.2.2.2.2.2.1 _ hw2.2.1) hy1 hy hR) ⟨gBlind, fun U hU hW => ⟨rfl, Nat.le_trans F.2.2.2.2.2.2.2.2.2.1 (by rw [hU]; exact hS.1), by rw [hU]; exact hP, gK_warm hW F.2.2.2.2.2.2.2.2.1⟩⟩ rfl hn hl.1 hst (lv_room hsum) hdg hcs) k
theorem gz_callS {y : MethodName} {cc' : ByteArray} {nL' d' mc' ms' idx n : Nat} {ret' : Option FieldType} {As st0 : List Value} {Po' : Option Value → gMem → Prop} (hM : gC l D cy b y cc' nL' ret' d' mc' ms' As f Po') (hw : Cond.code y cc' nL' ret' ∈ gW) (hw2 : Cond.methodLink own idx y ∈ gW ∧ Cond.static y ∈ gW ∧ Cond.initialized own ∈ gW) (hy : y.cls = own ∧ y.cls ≠ "java/lang/invoke/MethodHandle" ∧ y.cls ≠ "java/lang/invoke/VarHandle" ∧ (parseMethodDescriptor y.desc).map (fun d => d.parameters.length) = some n) (hR : d' + 1 ≤ R.frames ∧ 8 + (nL' + 11) + 64 * d' ≤ R.locals) (hcs : cells + mc' ≤ R.cells ∧ slots + ms' ≤ R.slots) (hn : As.length = n) (hst : st0 = As.reverse ++ st) (hsum : (st.map fun v => v.category).sum ≤ 8) (hdg : decode cc pc = .ok (.invokestatic idx, 3)) (k : ∀ r f', Po' r f' → gG l R Qf Ex D cy b cc nL ret own nm (cells + mc') (slots + ms') f' (pc + 3) lv (r.toList ++ st)) : gG l R Qf Ex D cy b cc nL ret own nm cells slots f pc lv st0 := fun p e s m args below meth c H locs ls F hP hS hl => by
  refine g_call F hS hl (va_runS (As := As) (rest := st) (nL := nL) (n := n) (bytes := cc') (maxL := nL') (ret := ret') ⟨F.1, F.2.1, F.2.2.1, F.2.2.2.2.1, F.2.2.2.2.2.1⟩ hM ?_ ⟨gBlind, fun U hU hW => ⟨rfl, Nat.le_trans F.2.2.2.2.2.2.2.2.2.1 (by rw [hU]; exact hS.1), by rw [hU]; exact hP, gK_warm hW F.2.2.2.2.2.2.2.2.1⟩⟩ rfl hn hl.1 hst (lv_room hsum) hdg hcs) k
  refine cwS (Ts := gW) n F.2.2.2.2.2.1 ?_ rfl rfl rfl hy hR
  intro w hw'
  rcases List.mem_append.mp hw' with h | h
  · have hm : w ∈ gW := by
      rcases List.mem_cons.mp h with h | h
      · subst h; exact hw2.1
      · rcases List.mem_cons.mp h with h | h
        · subst h; exact hw2.2.1
        · rcases List.mem_cons.mp h with h | h
          · subst h; exact hw2.2.2
          · cases h
    exact ⟨hm, good_of_word (List.all_eq_true.mp gGood w hm)⟩
  · exact gIn hw w h
theorem gz_callSN {y : MethodName} {cc' : ByteArray} {nL' d' mc' ms' idx n : Nat} {ret' : Option FieldType} {As st0 : List Value} {Po' : Option Value → gMem → Prop} {host : String} (hM : gC l D cy b y cc' nL' ret' d' mc' ms' As f Po') (hw : Cond.code y cc' nL' ret' ∈ gW) (hlk : (own, idx, y, host) ∈ gNM) (hw2 : Cond.static y ∈ gW ∧ Cond.initialized y.cls ∈ gW) (hy : y.cls ≠ "java/lang/invoke/MethodHandle" ∧ y.cls ≠ "java/lang/invoke/VarHandle" ∧ (parseMethodDescriptor y.desc).map (fun d => d.parameters.length) = some n) (hR : d' + 1 ≤ R.frames ∧ 8 + (nL' + 11) + 64 * d' ≤ R.locals) (hcs : cells + mc' ≤ R.cells ∧ slots + ms' ≤ R.slots) (hn : As.length = n) (hst : st0 = As.reverse ++ st) (hsum : (st.map fun v => v.category).sum ≤ 8) (hdg : decode cc pc = .ok (.invokestatic idx, 3)) (k : ∀ r f', Po' r f' → gG l R Qf Ex D cy b cc nL ret own nm (cells + mc') (slots + ms') f' (pc + 3) lv (r.toList ++ st)) : gG l R Qf Ex D cy b cc nL ret own nm cells slots f pc lv st0 := fun p e s m args below meth c H locs ls F hP hS hl =>
  g_call F hS hl (va_runSN (As := As) (rest := st) (nL := nL) (n := n) ⟨F.1, F.2.1, F.2.2.1, F.2.2.2.2.1, F.2.2.2.2.2.1⟩ hM ⟨va_cnB (Ts := gW) n F.2.2.2.2.2.1 (gIn hw) rfl rfl rfl (F.2.2.2.2.2.2.2.2.1.2.2.1 _ hlk) (F.2.2.2.2.2.1 _ hw2.2) hy hR, F.2.2.2.2.2.1 _ hw2.1, trivial⟩ ⟨gBlind, fun U hU hW => ⟨rfl, Nat.le_trans F.2.2.2.2.2.2.2.2.2.1 (by rw [hU]; exact hS.1), by rw [hU]; exact hP, gK_warm hW F.2.2.2.2.2.2.2.2.1⟩⟩ rfl hn hl.1 hst (lv_room hsum) hdg hcs) k
theorem gz_callIN {y : MethodName} {cc' : ByteArray} {nL' d' mc' ms' idx n : Nat} {As st0 : List Value} {Po' : Option Value → gMem → Prop} {a : Nat} {host : String} (hM : gC l D cy b y cc' nL' none d' mc' ms' (.ref a :: As) f Po') (hw : Cond.code y cc' nL' none ∈ gW) (hlk : (own, idx, y, host) ∈ gNM) (hw2 : Cond.instanceMethod y ∈ gW ∧ Cond.initialized y.cls ∈ gW) (hy1 : y.name = "<init>") (hy : y.cls ≠ "java/lang/invoke/MethodHandle" ∧ y.cls ≠ "java/lang/invoke/VarHandle" ∧ (parseMethodDescriptor y.desc).map (fun d => d.parameters.length) = some n) (hR : d' + 1 ≤ R.frames ∧ 8 + (nL' + 11) + 64 * d' ≤ R.locals) (hcs : cells + mc' ≤ R.cells ∧ slots + ms' ≤ R.slots) (hn : As.length = n) (hst : st0 = As.reverse ++ .ref a :: st) (hsum : (st.map fun v => v.category).sum ≤ 8) (hdg : decode cc pc = .ok (.invokespecial idx, 3)) (k : ∀ r f', Po' r f' → gG l R Qf Ex D cy b cc nL ret own nm (cells + mc') (slots + ms') f' (pc + 3) lv (r.toList ++ st)) : gG l R Qf Ex D cy b cc nL ret own nm cells slots f pc lv st0 := fun p e s m args below meth c H locs ls F hP hS hl =>
  g_call F hS hl (va_runIN (As := As) (rest := st) (nL := nL) (n := n) ⟨F.1, F.2.1, F.2.2.1, F.2.2.2.2.1, F.2.2.2.2.2.1⟩ hM ⟨va_cnB (Ts := gW) n F.2.2.2.2.2.1 (gIn hw) rfl rfl rfl (F.2.2.2.2.2.2.2.2.1.2.2.1 _ hlk) (F.2.2.2.2.2.1 _ hw2.2) hy hR, hy1, F.2.2.2.2.2.1 _ hw2.1⟩ ⟨gBlind, fun U hU hW => ⟨rfl, Nat.le_trans F.2.2.2.2.2.2.2.2.2.1 (by rw [hU]; exact hS.1), by rw [hU]; exact hP, gK_warm hW F.2.2.2.2.2.2.2.2.1⟩⟩ rfl hn hl.1 hst (lv_room hsum) hdg hcs) k
theorem gz_mmax {idx : Nat} {x y : Int32} (hw : Cond.methodLink own idx Lib.Math.max.name ∈ gW) (hw2 : Cond.static Lib.Math.max.name ∈ gW ∧ Cond.initialized "java/lang/Math" ∈ gW ∧ Cond.code Lib.Math.max.name Lib.Math.max.code 2 (some .int) ∈ gW) (hR1 : 1 ≤ R.frames) (hR2 : 64 ≤ R.locals) (hc : cells ≤ R.cells) (hs : slots ≤ R.slots) (hsum : (st.map fun v => v.category).sum ≤ 8) (hdg : decode cc pc = .ok (.invokestatic idx, 3)) (k : gG l R Qf Ex D cy b cc nL ret own nm cells slots f (pc + 3) lv (.int (if x < y then y else x) :: st)) : gG l R Qf Ex D cy b cc nL ret own nm cells slots f pc lv (.int y :: .int x :: st) := fun p e s m args below meth c H locs ls F hP hS hl => va_mmax F.1 F.2.1 (by rw [F.2.2.1]; exact hl.1.symm) F.2.2.2.2.1 (F.2.2.2.2.2.1 _ hw) (F.2.2.2.2.2.1 _ hw2.1) (F.2.2.2.2.2.1 _ hw2.2.1) (F.2.2.2.2.2.1 _ hw2.2.2) hR1 (by omega) hc hs hdg (k p e s m args below meth c H locs ls F hP hS hl)
theorem gz_mmin {idx : Nat} {x y : Int32} (hw : Cond.methodLink own idx Lib.Math.min.name ∈ gW) (hw2 : Cond.static Lib.Math.min.name ∈ gW ∧ Cond.initialized "java/lang/Math" ∈ gW ∧ Cond.code Lib.Math.min.name Lib.Math.min.code 2 (some .int) ∈ gW) (hR1 : 1 ≤ R.frames) (hR2 : 64 ≤ R.locals) (hc : cells ≤ R.cells) (hs : slots ≤ R.slots) (hsum : (st.map fun v => v.category).sum ≤ 8) (hdg : decode cc pc = .ok (.invokestatic idx, 3)) (k : gG l R Qf Ex D cy b cc nL ret own nm cells slots f (pc + 3) lv (.int (if y < x then y else x) :: st)) : gG l R Qf Ex D cy b cc nL ret own nm cells slots f pc lv (.int y :: .int x :: st) := fun p e s m args below meth c H locs ls F hP hS hl => va_mmin F.1 F.2.1 (by rw [F.2.2.1]; exact hl.1.symm) F.2.2.2.2.1 (F.2.2.2.2.2.1 _ hw) (F.2.2.2.2.2.1 _ hw2.1) (F.2.2.2.2.2.1 _ hw2.2.1) (F.2.2.2.2.2.1 _ hw2.2.2) hR1 (by omega) hc hs hdg (k p e s m args below meth c H locs ls F hP hS hl)
theorem gz_mmax_long {idx : Nat} {x y : Int64} (hw : Cond.methodLink own idx Lib.MathLoose.max_long.x ∈ gW) (hw2 : Cond.static Lib.MathLoose.max_long.x ∈ gW ∧ Cond.initialized "java/lang/Math" ∈ gW ∧ Cond.code Lib.MathLoose.max_long.x Lib.MathLoose.max_long.code 4 (some .long) ∈ gW) (hR1 : 1 ≤ R.frames) (hR2 : 64 ≤ R.locals) (hc : cells ≤ R.cells) (hs : slots ≤ R.slots) (hsum : (st.map fun v => v.category).sum ≤ 8) (hdg : decode cc pc = .ok (.invokestatic idx, 3)) (k : gG l R Qf Ex D cy b cc nL ret own nm cells slots f (pc + 3) lv (.long (if y < x then x else y) :: st)) : gG l R Qf Ex D cy b cc nL ret own nm cells slots f pc lv (.long y :: .long x :: st) := fun p e s m args below meth c H locs ls F hP hS hl => va_mmax_long F.1 F.2.1 (by rw [F.2.2.1]; exact hl.1.symm) F.2.2.2.2.1 (F.2.2.2.2.2.1 _ hw) (F.2.2.2.2.2.1 _ hw2.1) (F.2.2.2.2.2.1 _ hw2.2.1) (F.2.2.2.2.2.1 _ hw2.2.2) hR1 (by omega) hc hs hdg (k p e s m args below meth c H locs ls F hP hS hl)
theorem gz_mmin_long {idx : Nat} {x y : Int64} (hw : Cond.methodLink own idx Lib.MathLoose.min_long.x ∈ gW) (hw2 : Cond.static Lib.MathLoose.min_long.x ∈ gW ∧ Cond.initialized "java/lang/Math" ∈ gW ∧ Cond.code Lib.MathLoose.min_long.x Lib.MathLoose.min_long.code 4 (some .long) ∈ gW) (hR1 : 1 ≤ R.frames) (hR2 : 64 ≤ R.locals) (hc : cells ≤ R.cells) (hs : slots ≤ R.slots) (hsum : (st.map fun v => v.category).sum ≤ 8) (hdg : decode cc pc = .ok (.invokestatic idx, 3)) (k : gG l R Qf Ex D cy b cc nL ret own nm cells slots f (pc + 3) lv (.long (if y < x then y else x) :: st)) : gG l R Qf Ex D cy b cc nL ret own nm cells slots f pc lv (.long y :: .long x :: st) := fun p e s m args below meth c H locs ls F hP hS hl => va_mmin_long F.1 F.2.1 (by rw [F.2.2.1]; exact hl.1.symm) F.2.2.2.2.1 (F.2.2.2.2.2.1 _ hw) (F.2.2.2.2.2.1 _ hw2.1) (F.2.2.2.2.2.1 _ hw2.2.1) (F.2.2.2.2.2.1 _ hw2.2.2) hR1 (by omega) hc hs hdg (k p e s m args below meth c H locs ls F hP hS hl)
theorem gz_slen {bs L : Nat} {xs : Nat → Int32} (hdg : decode cc pc = .ok (.arraylength, 1)) (k : gG l R Qf (fun s => va_X bs L xs s s.heap ∧ bs < b ∧ bs < s.heap.size) D cy b cc nL ret own nm cells slots f (pc + 1) lv (.int (Int32.ofNat L) :: st)) : gG l R Qf (fun s => va_X bs L xs s s.heap ∧ bs < b ∧ bs < s.heap.size) D cy b cc nL ret own nm cells slots f pc lv (.ref bs :: st) := fun p e s m args below meth c H locs ls F hP hS hl => va_slen F.1 F.2.1 F.2.2.2.2.2.2.2.2.2.2.1 F.2.2.2.2.2.2.2.2.2.2.2.2 (Nat.not_le.mpr F.2.2.2.2.2.2.2.2.2.2.2.1) hS hdg (k p e s m args below meth c H locs ls F hP hS hl)
theorem gz_sld {bs L : Nat} {xs : Nat → Int32} {i : Int32} (hin : vp_in i L) (hdg : decode cc pc = .ok (.iaload, 1)) (k : gG l R Qf (fun s => va_X bs L xs s s.heap ∧ bs < b ∧ bs < s.heap.size) D cy b cc nL ret own nm cells slots f (pc + 1) lv (.int (xs i.toNatClampNeg) :: st)) : gG l R Qf (fun s => va_X bs L xs s s.heap ∧ bs < b ∧ bs < s.heap.size) D cy b cc nL ret own nm cells slots f pc lv (.int i :: .ref bs :: st) := fun p e s m args below meth c H locs ls F hP hS hl => va_sld F.1 F.2.1 F.2.2.2.2.2.2.2.2.2.2.1 F.2.2.2.2.2.2.2.2.2.2.2.2 (Nat.not_le.mpr F.2.2.2.2.2.2.2.2.2.2.2.1) hS hin hdg (k p e s m args below meth c H locs ls F hP hS hl)
end GL
end
section
/-- what a method answers -/
abbrev pI (P : Int32 → gMem → Prop) : Option Value → gMem → Prop := fun r f' => ∃ v : Int32, r = some (.int v) ∧ P v f'
abbrev pL (P : Int64 → gMem → Prop) : Option Value → gMem → Prop := fun r f' => ∃ v : Int64, r = some (.long v) ∧ P v f'
abbrev pR (P : Option Nat → gMem → Prop) : Option Value → gMem → Prop := fun r f' => ∃ v : Option Nat, r = some (va_rf v) ∧ P v f'
abbrev pV (P : gMem → Prop) : Option Value → gMem → Prop := fun r f' => r = none ∧ P f'
theorem wd_0 : Cond.fieldLink RX9 21 "DeedTongue$Text" "length" "I" ∈ gW := gWi (by decide +kernel) rfl
set_option maxRecDepth 20000 in
theorem giX9 : ∀ w ∈ wsX90, w ∈ gW := by decide +kernel
theorem wd_1 : Cond.fieldLink RX9 15 "DeedTongue$Text" "bytes" "[B" ∈ gW := gWi (by decide +kernel) rfl
theorem wd_2 : Cond.code yX9_put cX9_put 2 none ∈ gW := gWi (by decide +kernel) rfl
theorem wd_3 : Cond.methodLink RX9 25 yX9_put ∈ gW := gWi (by decide +kernel) rfl
theorem wd_4 : Cond.instanceMethod yX9_put ∈ gW := gWi (by decide +kernel) rfl
theorem wd_5 : Cond.selects RX9 yX9_put yX9_put ∈ gW := gWi (by decide +kernel) rfl
theorem wd_6 : Cond.initialized RX9 ∈ gW := gWi (by decide +kernel) rfl
theorem sgX9_21 {l : Launch} {R : Room} {Qf : List Frame → Array Value → State → State → Prop} {Ex : State → Prop} {D : va_G} {cy : Nat → ClassId} {b : Nat} {cc : ByteArray} {nL : Nat} {ret : Option FieldType} {nm : String} {cells slots : Nat} {f : gMem} {pc : Nat} {lv : List (Nat × Value)} {st : List Value} {a : Nat} {fs : List Value} {v : Value} (hf : f a = some (.inr (9, fs))) (hv : fs[1]? = some v) (hdg : decode cc pc = .ok (.getfield 21, 3)) (k : gG l R Qf Ex D cy b cc nL ret RX9 nm cells slots f (pc + 3) lv (v :: st)) : gG l R Qf Ex D cy b cc nL ret RX9 nm cells slots f pc lv (.ref a :: st) := gz_get (T := TX9) (N := 2) (k0 := 1) hf rfl giX9 (by decide) wd_0 rfl hv hdg k
theorem sgX9_15 {l : Launch} {R : Room} {Qf : List Frame → Array Value → State → State → Prop} {Ex : State → Prop} {D : va_G} {cy : Nat → ClassId} {b : Nat} {cc : ByteArray} {nL : Nat} {ret : Option FieldType} {nm : String} {cells slots : Nat} {f : gMem} {pc : Nat} {lv : List (Nat × Value)} {st : List Value} {a : Nat} {fs : List Value} {v : Value} (hf : f a = some (.inr (9, fs))) (hv : fs[0]? = some v) (hdg : decode cc pc = .ok (.getfield 15, 3)) (k : gG l R Qf Ex D cy b cc nL ret RX9 nm cells slots f (pc + 3) lv (v :: st)) : gG l R Qf Ex D cy b cc nL ret RX9 nm cells slots f pc lv (.ref a :: st) := gz_get (T := TX9) (N := 2) (k0 := 0) hf rfl giX9 (by decide) wd_1 rfl hv hdg k
theorem spX9_21 {l : Launch} {R : Room} {Qf : List Frame → Array Value → State → State → Prop} {Ex : State → Prop} {D : va_G} {cy : Nat → ClassId} {b : Nat} {cc : ByteArray} {nL : Nat} {ret : Option FieldType} {nm : String} {cells slots : Nat} {f : gMem} {pc : Nat} {lv : List (Nat × Value)} {st : List Value} {a : Nat} {fs : List Value} {x : Int32} (hf : f a = some (.inr (9, fs)))   (hlen : 1 < fs.length) (hdg : decode cc pc = .ok (.putfield 21, 3)) (k : gG l R Qf Ex D cy b cc nL ret RX9 nm (cells) (slots) (va_up f a (some (.inr (9, fs.set 1 (.int x))))) (pc + 3) lv st) : gG l R Qf Ex D cy b cc nL ret RX9 nm cells slots f pc lv (.int x :: .ref a :: st) := gz_put (T := TX9) (N := 2) (k0 := 1) (ty := .int) hf rfl giX9 tyX9 tyX9_ok nmX9 (by decide) wd_0 rfl rfl (by decide +kernel) rfl rfl hlen hdg k
theorem scX9_25 {l : Launch} {R : Room} {Qf : List Frame → Array Value → State → State → Prop} {Ex : State → Prop} {D : va_G} {cy : Nat → ClassId} {b : Nat} {cc : ByteArray} {nL : Nat} {ret : Option FieldType} {nm : String} {cells slots : Nat} {f : gMem} {pc : Nat} {lv : List (Nat × Value)} {st : List Value} {d' mc' ms' : Nat} {As st0 : List Value} {P : gMem → Prop} {a : Nat} {fs : List Value} (hM : gC l D cy b yX9_put cX9_put 2 none d' mc' ms' (.ref a :: As) f (pV P)) (hf : f a = some (.inr (9, fs))) (hR : d' + 1 ≤ R.frames ∧ 64 * (d' + 1) ≤ R.locals) (hcs : cells + mc' ≤ R.cells ∧ slots + ms' ≤ R.slots) (hn : As.length = 1) (hst : st0 = As.reverse ++ .ref a :: st) (hsum : (st.map fun v => v.category).sum ≤ 8) (hdg : decode cc pc = .ok (.invokevirtual 25, 3)) (k : ∀ (f2 : gMem), P f2 → gG l R Qf Ex D cy b cc nL ret RX9 nm (cells + mc') (slots + ms') f2 (pc + 3) lv (st)) : gG l R Qf Ex D cy b cc nL ret RX9 nm cells slots f pc lv st0 := gz_callV (T := TX9) (N := 2) hM hf rfl wd_2 ⟨wd_3, wd_4, wd_5, wd_6⟩ ⟨rfl, by decide, by decide, by decide +kernel⟩ ⟨hR.1, by omega⟩ hcs hn hst hsum hdg (fun r f2 h => by obtain ⟨rfl, h⟩ := h; exact k f2 h)
end
section
theorem dX9_size_0 : decode cX9_size 0 = .ok (.aload_n 0, 1) := by decide +kernel
theorem dX9_size_1 : decode cX9_size 1 = .ok (.getfield 21, 3) := by decide +kernel
theorem dX9_size_4 : decode cX9_size 4 = .ok (.ireturn, 1) := by decide +kernel
theorem dX9_at_0 : decode cX9_at 0 = .ok (.iload_n 1, 1) := by decide +kernel
theorem dX9_at_1 : decode cX9_at 1 = .ok (.ifCond .lt 33, 3) := by decide +kernel
theorem dX9_at_4 : decode cX9_at 4 = .ok (.iload_n 1, 1) := by decide +kernel
theorem dX9_at_5 : decode cX9_at 5 = .ok (.aload_n 0, 1) := by decide +kernel
theorem dX9_at_6 : decode cX9_at 6 = .ok (.getfield 21, 3) := by decide +kernel
theorem dX9_at_9 : decode cX9_at 9 = .ok (.if_icmp .ge 25, 3) := by decide +kernel
theorem dX9_at_12 : decode cX9_at 12 = .ok (.iload_n 1, 1) := by decide +kernel
theorem dX9_at_13 : decode cX9_at 13 = .ok (.aload_n 0, 1) := by decide +kernel
theorem dX9_at_14 : decode cX9_at 14 = .ok (.getfield 15, 3) := by decide +kernel
theorem dX9_at_17 : decode cX9_at 17 = .ok (.arraylength, 1) := by decide +kernel
theorem dX9_at_18 : decode cX9_at 18 = .ok (.if_icmp .ge 16, 3) := by decide +kernel
theorem dX9_at_21 : decode cX9_at 21 = .ok (.aload_n 0, 1) := by decide +kernel
theorem dX9_at_22 : decode cX9_at 22 = .ok (.getfield 15, 3) := by decide +kernel
theorem dX9_at_25 : decode cX9_at 25 = .ok (.iload_n 1, 1) := by decide +kernel
theorem dX9_at_26 : decode cX9_at 26 = .ok (.baload, 1) := by decide +kernel
theorem dX9_at_27 : decode cX9_at 27 = .ok (.sipush 255, 3) := by decide +kernel
theorem dX9_at_30 : decode cX9_at 30 = .ok (.iand, 1) := by decide +kernel
theorem dX9_at_31 : decode cX9_at 31 = .ok (.goto 4, 3) := by decide +kernel
theorem dX9_at_34 : decode cX9_at 34 = .ok (.iconst (-1), 1) := by decide +kernel
theorem dX9_at_35 : decode cX9_at 35 = .ok (.ireturn, 1) := by decide +kernel
theorem dX9_put_0 : decode cX9_put 0 = .ok (.aload_n 0, 1) := by decide +kernel
theorem dX9_put_1 : decode cX9_put 1 = .ok (.getfield 21, 3) := by decide +kernel
theorem dX9_put_4 : decode cX9_put 4 = .ok (.ifCond .lt 36, 3) := by decide +kernel
theorem dX9_put_7 : decode cX9_put 7 = .ok (.aload_n 0, 1) := by decide +kernel
theorem dX9_put_8 : decode cX9_put 8 = .ok (.getfield 21, 3) := by decide +kernel
theorem dX9_put_11 : decode cX9_put 11 = .ok (.aload_n 0, 1) := by decide +kernel
theorem dX9_put_12 : decode cX9_put 12 = .ok (.getfield 15, 3) := by decide +kernel
theorem dX9_put_15 : decode cX9_put 15 = .ok (.arraylength, 1) := by decide +kernel
theorem dX9_put_16 : decode cX9_put 16 = .ok (.if_icmp .ge 24, 3) := by decide +kernel
theorem dX9_put_19 : decode cX9_put 19 = .ok (.aload_n 0, 1) := by decide +kernel
theorem dX9_put_20 : decode cX9_put 20 = .ok (.getfield 15, 3) := by decide +kernel
theorem dX9_put_23 : decode cX9_put 23 = .ok (.aload_n 0, 1) := by decide +kernel
theorem dX9_put_24 : decode cX9_put 24 = .ok (.getfield 21, 3) := by decide +kernel
theorem dX9_put_27 : decode cX9_put 27 = .ok (.iload_n 1, 1) := by decide +kernel
theorem dX9_put_28 : decode cX9_put 28 = .ok (.i2b, 1) := by decide +kernel
theorem dX9_put_29 : decode cX9_put 29 = .ok (.bastore, 1) := by decide +kernel
theorem dX9_put_30 : decode cX9_put 30 = .ok (.aload_n 0, 1) := by decide +kernel
theorem dX9_put_31 : decode cX9_put 31 = .ok (.dup, 1) := by decide +kernel
theorem dX9_put_32 : decode cX9_put 32 = .ok (.getfield 21, 3) := by decide +kernel
theorem dX9_put_35 : decode cX9_put 35 = .ok (.iconst 1, 1) := by decide +kernel
theorem dX9_put_36 : decode cX9_put 36 = .ok (.iadd, 1) := by decide +kernel
theorem dX9_put_37 : decode cX9_put 37 = .ok (.putfield 21, 3) := by decide +kernel
theorem dX9_put_40 : decode cX9_put 40 = .ok (.return_, 1) := by decide +kernel
theorem dX9_putNumber_0 : decode cX9_putNumber 0 = .ok (.bipush 24, 2) := by decide +kernel
theorem dX9_putNumber_2 : decode cX9_putNumber 2 = .ok (.istore_n 2, 1) := by decide +kernel
theorem dX9_putNumber_3 : decode cX9_putNumber 3 = .ok (.iload_n 2, 1) := by decide +kernel
theorem dX9_putNumber_4 : decode cX9_putNumber 4 = .ok (.ifCond .lt 16, 3) := by decide +kernel
theorem dX9_putNumber_7 : decode cX9_putNumber 7 = .ok (.aload_n 0, 1) := by decide +kernel
theorem dX9_putNumber_8 : decode cX9_putNumber 8 = .ok (.iload_n 1, 1) := by decide +kernel
theorem dX9_putNumber_9 : decode cX9_putNumber 9 = .ok (.iload_n 2, 1) := by decide +kernel
theorem dX9_putNumber_10 : decode cX9_putNumber 10 = .ok (.ishr, 1) := by decide +kernel
theorem dX9_putNumber_11 : decode cX9_putNumber 11 = .ok (.invokevirtual 25, 3) := by decide +kernel
theorem dX9_putNumber_14 : decode cX9_putNumber 14 = .ok (.iinc 2 (-8), 3) := by decide +kernel
theorem dX9_putNumber_17 : decode cX9_putNumber 17 = .ok (.goto (-14), 3) := by decide +kernel
theorem dX9_putNumber_20 : decode cX9_putNumber 20 = .ok (.return_, 1) := by decide +kernel
theorem dX9_cut_0 : decode cX9_cut 0 = .ok (.iload_n 1, 1) := by decide +kernel
theorem dX9_cut_1 : decode cX9_cut 1 = .ok (.ifCond .lt 16, 3) := by decide +kernel
theorem dX9_cut_4 : decode cX9_cut 4 = .ok (.iload_n 1, 1) := by decide +kernel
theorem dX9_cut_5 : decode cX9_cut 5 = .ok (.aload_n 0, 1) := by decide +kernel
theorem dX9_cut_6 : decode cX9_cut 6 = .ok (.getfield 21, 3) := by decide +kernel
theorem dX9_cut_9 : decode cX9_cut 9 = .ok (.if_icmp .gt 8, 3) := by decide +kernel
theorem dX9_cut_12 : decode cX9_cut 12 = .ok (.aload_n 0, 1) := by decide +kernel
theorem dX9_cut_13 : decode cX9_cut 13 = .ok (.iload_n 1, 1) := by decide +kernel
theorem dX9_cut_14 : decode cX9_cut 14 = .ok (.putfield 21, 3) := by decide +kernel
theorem dX9_cut_17 : decode cX9_cut 17 = .ok (.return_, 1) := by decide +kernel
end
section
/-! small facts: cells apart, what a method leaves alone, ints by their values -/
theorem cne {f : gMem} {a x : Nat} {e e' : va_E} (ha : f a = some e) (hx : f x = some e') (h : ¬ e = e') : a ≠ x := fun q => h (by subst q; exact Option.some.inj (ha.symm.trans hx))
theorem cnn {f : gMem} {a x : Nat} {e : va_E} (ha : f a = some e) (hx : f x = none) : a ≠ x := fun q => by subst q; rw [ha] at hx; cases hx
/-- every cell but those in S is as it was -/
def fr (S : List Nat) (f f' : gMem) : Prop := ∀ (x : Nat) (e : va_E), f x = some e → x ∉ S → f' x = some e
theorem fr_rf {S : List Nat} {f : gMem} : fr S f f := fun _ _ h _ => h
theorem fr_tr {S : List Nat} {f g h : gMem} (h1 : fr S f g) (h2 : fr S g h) : fr S f h := fun x e hx hn => h2 x e (h1 x e hx hn) hn
theorem fr_up {S : List Nat} {f g : gMem} {a : Nat} {e : Option va_E} (h : fr S f g) (ha : a ∈ S) : fr S f (va_up g a e) := fun x e' hx hn => by
  rw [va_up_ne _ _ (fun q => hn (by rw [q]; exact ha))]
  exact h x e' hx hn
theorem fr_new {S : List Nat} {f g : gMem} {a : Nat} {e : Option va_E} (h : fr S f g) (ha : g a = none) : fr S f (va_up g a e) := fun x e' hx hn => by
  have h1 := h x e' hx hn
  rw [va_up_ne _ _ (fun q => by subst q; rw [ha] at h1; cases h1)]
  exact h1
theorem fr_mo {S S' : List Nat} {f g : gMem} (h : fr S f g) (hs : ∀ x, x ∈ S → x ∈ S') : fr S' f g := fun x e hx hn => h x e hx (fun q => hn (hs x q))
/-- a smaller frame: what S names beyond S' was not there -/
theorem fr_le {S S' : List Nat} {f g : gMem} (h : fr S f g) (hs : ∀ x, x ∈ S → x ∈ S' ∨ f x = none) : fr S' f g := fun x e hx hn => h x e hx (fun q => by
  rcases hs x q with h1 | h1
  · exact hn h1
  · rw [h1] at hx; cases hx)
theorem fl_lt (a b : Int32) : a < b ↔ a.toInt < b.toInt := Int32.lt_iff_toInt_lt
theorem fl_le (a b : Int32) : a ≤ b ↔ a.toInt ≤ b.toInt := Int32.le_iff_toInt_le
theorem fl_eq (a b : Int32) : a = b ↔ a.toInt = b.toInt := Int32.toInt_inj.symm
theorem vin {i m : Int32} {n : Nat} (h0 : ¬ i < 0) (h1 : ¬ m ≤ i) (hm : m.toInt = n) : vp_in i n := by
  rw [vp_in_iff]
  rw [fl_lt] at h0
  rw [fl_le] at h1
  have e0 : (0 : Int32).toInt = 0 := rfl
  omega
theorem ofN_toInt {n : Nat} (h : n < 2 ^ 31) : (Int32.ofNat n).toInt = n := nI_toInt h
theorem clampI {i : Int32} (h : ¬ i < 0) : (i.toNatClampNeg : Int) = i.toInt := by
  rw [fl_lt] at h
  have e0 : (0 : Int32).toInt = 0 := rfl
  have : i.toNatClampNeg = i.toInt.toNat := rfl
  omega
theorem i32_lo (i : Int32) : -2147483648 ≤ i.toInt := Int32.le_toInt i
theorem i32_hi (i : Int32) : i.toInt < 2147483648 := Int32.toInt_lt i
theorem addT {x y : Int32} (h1 : -2147483648 ≤ x.toInt + y.toInt) (h2 : x.toInt + y.toInt < 2147483648) : (x + y).toInt = x.toInt + y.toInt := by
  rw [Int32.toInt_add]
  exact Int.bmod_eq_of_le (by omega) (by omega)
theorem subT {x y : Int32} (h1 : -2147483648 ≤ x.toInt - y.toInt) (h2 : x.toInt - y.toInt < 2147483648) : (x - y).toInt = x.toInt - y.toInt := by
  rw [Int32.toInt_sub]
  exact Int.bmod_eq_of_le (by omega) (by omega)
theorem mulT {x y : Int32} (h1 : -2147483648 ≤ x.toInt * y.toInt) (h2 : x.toInt * y.toInt < 2147483648) : (x * y).toInt = x.toInt * y.toInt := by
  rw [Int32.toInt_mul]
  exact Int.bmod_eq_of_le (by omega) (by omega)
end
section
def tAt (len : Int32) (n : Nat) (g : Nat → Int32) (i : Int32) : Int32 := if i < 0 then -1 else if len ≤ i then -1 else if Int32.ofNat n ≤ i then -1 else g i.toNatClampNeg &&& 255
def tpL (len : Int32) (n : Nat) : Int32 := if len < 0 then len else if Int32.ofNat n ≤ len then len else len + 1
def tpG (len : Int32) (n : Nat) (g : Nat → Int32) (x : Int32) : Nat → Int32 := if len < 0 then g else if Int32.ofNat n ≤ len then g else upd g len.toNatClampNeg (vp_nar .byte x.toInt8.toInt32)
def tCut (len n : Int32) : Int32 := if n < 0 then len else if len < n then len else n

set_option maxHeartbeats 4000000 in
set_option maxRecDepth 100000 in
theorem k_X9_size {l : Launch} {D : va_G} {cy : Nat → ClassId} {b : Nat} {f : gMem} {a c : Nat} {len : Int32} (ha : f a = some (.inr (9, [.ref c, .int len])))  : gC l D cy b yX9_size cX9_size 1 (some .int) 0 0 0 [.ref a] f (pI fun v f2 => v = len ∧ f2 = f) := by
  refine gC_of (by decide) (Nat.le_of_ble_eq_true rfl) ?_
  show gG l _ _ _ D cy b cX9_size 1 _ RX9 "size" 0 0 f 0 [(0, .ref a)] []
  refine gz_aload_n dX9_size_0 rfl rfl ?_
  refine sgX9_21 ha rfl dX9_size_1 ?_
  exact gz_iret rfl dX9_size_4 (Nat.le_of_ble_eq_true rfl) (Nat.le_of_ble_eq_true rfl) (⟨_, rfl, rfl, rfl⟩)

set_option maxHeartbeats 4000000 in
set_option maxRecDepth 100000 in
theorem k_X9_at {l : Launch} {D : va_G} {cy : Nat → ClassId} {b : Nat} {f : gMem} {a c n : Nat} {len : Int32} {g : Nat → Int32} {i : Int32} (ha : f a = some (.inr (9, [.ref c, .int len]))) (hc : f c = some (.inl (cy 1, n, .inl (g)))) (hn : n < 2 ^ 31) : gC l D cy b yX9_at cX9_at 2 (some .int) 0 0 0 [.ref a, .int i] f (pI fun v f2 => v = tAt len n g i ∧ f2 = f) := by
  refine gC_of (by decide) (Nat.le_of_ble_eq_true rfl) ?_
  show gG l _ _ _ D cy b cX9_at 2 _ RX9 "at" 0 0 f 0 [(0, .ref a), (1, .int i)] []
  refine gz_iload_n dX9_at_0 rfl rfl ?_
  refine gz_if_lt (tgt := 34) dX9_at_1 (by decide) (fun c_1 => ?_) (fun c_1 => ?_)
  ·
    refine gz_iconst (v := (-1)) dX9_at_34 (by decide) ?_
    exact gz_iret rfl dX9_at_35 (Nat.le_of_ble_eq_true rfl) (Nat.le_of_ble_eq_true rfl) (⟨_, rfl, by simp [tAt, c_1], rfl⟩)
  ·
    refine gz_iload_n dX9_at_4 rfl rfl ?_
    refine gz_aload_n dX9_at_5 rfl rfl ?_
    refine sgX9_21 ha rfl dX9_at_6 ?_
    refine gz_icmp_ge (tgt := 34) dX9_at_9 (by decide) (fun c_9 => ?_) (fun c_9 => ?_)
    ·
      refine gz_iconst (v := (-1)) dX9_at_34 (by decide) ?_
      exact gz_iret rfl dX9_at_35 (Nat.le_of_ble_eq_true rfl) (Nat.le_of_ble_eq_true rfl) (⟨_, rfl, by simp [tAt, c_1, c_9], rfl⟩)
    ·
      refine gz_iload_n dX9_at_12 rfl rfl ?_
      refine gz_aload_n dX9_at_13 rfl rfl ?_
      refine sgX9_15 ha rfl dX9_at_14 ?_
      refine gz_alen1 (v := Int32.ofNat n) hc rfl dX9_at_17 ?_
      refine gz_icmp_ge (tgt := 34) dX9_at_18 (by decide) (fun c_18 => ?_) (fun c_18 => ?_)
      ·
        refine gz_iconst (v := (-1)) dX9_at_34 (by decide) ?_
        exact gz_iret rfl dX9_at_35 (Nat.le_of_ble_eq_true rfl) (Nat.le_of_ble_eq_true rfl) (⟨_, rfl, by simp [tAt, c_1, c_9, c_18], rfl⟩)
      ·
        refine gz_aload_n dX9_at_21 rfl rfl ?_
        refine sgX9_15 ha rfl dX9_at_22 ?_
        refine gz_iload_n dX9_at_25 rfl rfl ?_
        refine gz_bald hc (vin c_1 c_18 (ofN_toInt hn)) dX9_at_26 ?_
        refine gz_sipush (v := 255) dX9_at_27 (by decide) ?_
        refine gz_iand dX9_at_30 ?_
        refine gz_goto (tgt := 35) dX9_at_31 (by decide) ?_
        exact gz_iret rfl dX9_at_35 (Nat.le_of_ble_eq_true rfl) (Nat.le_of_ble_eq_true rfl) (⟨_, rfl, by simp [tAt, c_1, c_9, c_18], rfl⟩)

set_option maxHeartbeats 4000000 in
set_option maxRecDepth 100000 in
theorem k_X9_put {l : Launch} {D : va_G} {cy : Nat → ClassId} {b : Nat} {f : gMem} {a c n : Nat} {len : Int32} {g : Nat → Int32} {x : Int32} (ha : f a = some (.inr (9, [.ref c, .int len]))) (hc : f c = some (.inl (cy 1, n, .inl (g)))) (hn : n < 2 ^ 31) : gC l D cy b yX9_put cX9_put 2 none 0 0 0 [.ref a, .int x] f (pV fun f2 => f2 a = some (.inr (9, [.ref c, .int (tpL len n)])) ∧ f2 c = some (.inl (cy 1, n, .inl (tpG len n g x))) ∧ fr [a, c] f f2) := by
  refine gC_of (by decide) (Nat.le_of_ble_eq_true rfl) ?_
  show gG l _ _ _ D cy b cX9_put 2 _ RX9 "put" 0 0 f 0 [(0, .ref a), (1, .int x)] []
  refine gz_aload_n dX9_put_0 rfl rfl ?_
  refine sgX9_21 ha rfl dX9_put_1 ?_
  refine gz_if_lt (tgt := 40) dX9_put_4 (by decide) (fun c_4 => ?_) (fun c_4 => ?_)
  ·
    exact gz_vret rfl dX9_put_40 (Nat.le_of_ble_eq_true rfl) (Nat.le_of_ble_eq_true rfl) (⟨rfl, by simp [tpL, c_4]; exact ha, by simp [tpG, c_4]; exact hc, fr_rf⟩)
  ·
    refine gz_aload_n dX9_put_7 rfl rfl ?_
    refine sgX9_21 ha rfl dX9_put_8 ?_
    refine gz_aload_n dX9_put_11 rfl rfl ?_
    refine sgX9_15 ha rfl dX9_put_12 ?_
    refine gz_alen1 (v := Int32.ofNat n) hc rfl dX9_put_15 ?_
    refine gz_icmp_ge (tgt := 40) dX9_put_16 (by decide) (fun c_16 => ?_) (fun c_16 => ?_)
    ·
      exact gz_vret rfl dX9_put_40 (Nat.le_of_ble_eq_true rfl) (Nat.le_of_ble_eq_true rfl) (⟨rfl, by simp [tpL, c_4, c_16]; exact ha, by simp [tpG, c_4, c_16]; exact hc, fr_rf⟩)
    ·
      refine gz_aload_n dX9_put_19 rfl rfl ?_
      refine sgX9_15 ha rfl dX9_put_20 ?_
      refine gz_aload_n dX9_put_23 rfl rfl ?_
      refine sgX9_21 ha rfl dX9_put_24 ?_
      refine gz_iload_n dX9_put_27 rfl rfl ?_
      refine gz_i2b dX9_put_28 ?_
      refine gz_bast hc (vin c_4 c_16 (ofN_toInt hn)) dX9_put_29 ?_
      obtain ⟨f1, hf1⟩ : ∃ gg : gMem, gg = va_up f c (some (.inl (cy 1, n, .inl (upd g len.toNatClampNeg (vp_nar .byte x.toInt8.toInt32))))) := ⟨_, rfl⟩
      refine gz_eq (f2 := f1) hf1.symm rfl rfl rfl ?_
      have ha_1 : f1 a = some (.inr (9, [.ref c, .int len])) := by rw [hf1, va_up_ne _ _ (cne ha hc (by simp))]; exact ha
      have hc_1 : f1 c = some (.inl (cy 1, n, .inl (upd g len.toNatClampNeg (vp_nar .byte x.toInt8.toInt32)))) := by rw [hf1]; exact va_up_self _ _ _
      refine gz_aload_n dX9_put_30 rfl rfl ?_
      refine gz_dup dX9_put_31 rfl ?_
      refine sgX9_21 ha_1 rfl dX9_put_32 ?_
      refine gz_iconst (v := 1) dX9_put_35 (by decide) ?_
      refine gz_iadd dX9_put_36 ?_
      refine spX9_21 ha_1  (Nat.le_of_ble_eq_true rfl) dX9_put_37 ?_
      obtain ⟨f2, hf2⟩ : ∃ gg : gMem, gg = va_up f1 a (some (.inr (9, [.ref c, .int (len + 1)]))) := ⟨_, rfl⟩
      refine gz_eq (f2 := f2) hf2.symm rfl rfl rfl ?_
      have hc_2 : f2 c = some (.inl (cy 1, n, .inl (upd g len.toNatClampNeg (vp_nar .byte x.toInt8.toInt32)))) := by rw [hf2, va_up_ne _ _ (cne hc_1 ha_1 (by simp))]; exact hc_1
      have ha_2 : f2 a = some (.inr (9, [.ref c, .int (len + 1)])) := by rw [hf2]; exact va_up_self _ _ _
      exact gz_vret rfl dX9_put_40 (Nat.le_of_ble_eq_true rfl) (Nat.le_of_ble_eq_true rfl) (⟨rfl, by simp [tpL, c_4, c_16]; exact ha_2, by simp [tpG, c_4, c_16]; exact hc_2, by rw [hf2, hf1]; exact fr_up (fr_up fr_rf (by simp)) (by simp)⟩)

set_option maxHeartbeats 4000000 in
set_option maxRecDepth 100000 in
theorem k_X9_putNumber {l : Launch} {D : va_G} {cy : Nat → ClassId} {b : Nat} {f : gMem} {a c n : Nat} {len : Int32} {g : Nat → Int32} {x : Int32} (ha : f a = some (.inr (9, [.ref c, .int len]))) (hc : f c = some (.inl (cy 1, n, .inl (g)))) (hn : n < 2 ^ 31) : gC l D cy b yX9_putNumber cX9_putNumber 3 none 1 0 0 [.ref a, .int x] f (pV fun f2 => (∃ g2, f2 a = some (.inr (9, [.ref c, .int (tpL (tpL (tpL (tpL len n) n) n) n)])) ∧ f2 c = some (.inl (cy 1, n, .inl g2))) ∧ fr [a, c] f f2) := by
  refine gC_of (by decide) (Nat.le_of_ble_eq_true rfl) ?_
  show gG l _ _ _ D cy b cX9_putNumber 3 _ RX9 "putNumber" 0 0 f 0 [(0, .ref a), (1, .int x)] []
  refine gz_bipush (v := 24) dX9_putNumber_0 (by decide) ?_
  refine gz_istore_n (lv' := [(2, .int 24), (0, .ref a), (1, .int x)]) dX9_putNumber_2 rfl (by decide) rfl ?_
  refine gz_iload_n dX9_putNumber_3 rfl rfl ?_
  refine gz_if_lt (tgt := 20) dX9_putNumber_4 (by decide) (fun c_4 => ?_) (fun c_4 => ?_)
  · exact absurd c_4 (by decide)
  ·
    refine gz_aload_n dX9_putNumber_7 rfl rfl ?_
    refine gz_iload_n dX9_putNumber_8 rfl rfl ?_
    refine gz_iload_n dX9_putNumber_9 rfl rfl ?_
    refine gz_ishr dX9_putNumber_10 ?_
    refine scX9_25 (k_X9_put ha hc hn) ha ⟨(Nat.le_of_ble_eq_true rfl), (Nat.le_of_ble_eq_true rfl)⟩ ⟨(Nat.le_of_ble_eq_true rfl), (Nat.le_of_ble_eq_true rfl)⟩ rfl rfl (Nat.le_of_ble_eq_true rfl) dX9_putNumber_11 ?_
    intro e1 z; obtain ⟨ha_e1, hc_e1, hr_e1⟩ := z
    refine gz_iinc (v := 16) (lv' := [(2, .int 16), (0, .ref a), (1, .int x)]) dX9_putNumber_14 rfl (by decide) (by decide) rfl ?_
    refine gz_goto (tgt := 3) dX9_putNumber_17 (by decide) ?_
    refine gz_iload_n dX9_putNumber_3 rfl rfl ?_
    refine gz_if_lt (tgt := 20) dX9_putNumber_4 (by decide) (fun c_4_1 => ?_) (fun c_4_1 => ?_)
    · exact absurd c_4_1 (by decide)
    ·
      refine gz_aload_n dX9_putNumber_7 rfl rfl ?_
      refine gz_iload_n dX9_putNumber_8 rfl rfl ?_
      refine gz_iload_n dX9_putNumber_9 rfl rfl ?_
      refine gz_ishr dX9_putNumber_10 ?_
      refine scX9_25 (k_X9_put ha_e1 hc_e1 hn) ha_e1 ⟨(Nat.le_of_ble_eq_true rfl), (Nat.le_of_ble_eq_true rfl)⟩ ⟨(Nat.le_of_ble_eq_true rfl), (Nat.le_of_ble_eq_true rfl)⟩ rfl rfl (Nat.le_of_ble_eq_true rfl) dX9_putNumber_11 ?_
      intro e2 z; obtain ⟨ha_e2, hc_e2, hr_e2⟩ := z
      refine gz_iinc (v := 8) (lv' := [(2, .int 8), (0, .ref a), (1, .int x)]) dX9_putNumber_14 rfl (by decide) (by decide) rfl ?_
      refine gz_goto (tgt := 3) dX9_putNumber_17 (by decide) ?_
      refine gz_iload_n dX9_putNumber_3 rfl rfl ?_
      refine gz_if_lt (tgt := 20) dX9_putNumber_4 (by decide) (fun c_4_2 => ?_) (fun c_4_2 => ?_)
      · exact absurd c_4_2 (by decide)
      ·
        refine gz_aload_n dX9_putNumber_7 rfl rfl ?_
        refine gz_iload_n dX9_putNumber_8 rfl rfl ?_
        refine gz_iload_n dX9_putNumber_9 rfl rfl ?_
        refine gz_ishr dX9_putNumber_10 ?_
        refine scX9_25 (k_X9_put ha_e2 hc_e2 hn) ha_e2 ⟨(Nat.le_of_ble_eq_true rfl), (Nat.le_of_ble_eq_true rfl)⟩ ⟨(Nat.le_of_ble_eq_true rfl), (Nat.le_of_ble_eq_true rfl)⟩ rfl rfl (Nat.le_of_ble_eq_true rfl) dX9_putNumber_11 ?_
        intro e3 z; obtain ⟨ha_e3, hc_e3, hr_e3⟩ := z
        refine gz_iinc (v := 0) (lv' := [(2, .int 0), (0, .ref a), (1, .int x)]) dX9_putNumber_14 rfl (by decide) (by decide) rfl ?_
        refine gz_goto (tgt := 3) dX9_putNumber_17 (by decide) ?_
        refine gz_iload_n dX9_putNumber_3 rfl rfl ?_
        refine gz_if_lt (tgt := 20) dX9_putNumber_4 (by decide) (fun c_4_3 => ?_) (fun c_4_3 => ?_)
        · exact absurd c_4_3 (by decide)
        ·
          refine gz_aload_n dX9_putNumber_7 rfl rfl ?_
          refine gz_iload_n dX9_putNumber_8 rfl rfl ?_
          refine gz_iload_n dX9_putNumber_9 rfl rfl ?_
          refine gz_ishr dX9_putNumber_10 ?_
          refine scX9_25 (k_X9_put ha_e3 hc_e3 hn) ha_e3 ⟨(Nat.le_of_ble_eq_true rfl), (Nat.le_of_ble_eq_true rfl)⟩ ⟨(Nat.le_of_ble_eq_true rfl), (Nat.le_of_ble_eq_true rfl)⟩ rfl rfl (Nat.le_of_ble_eq_true rfl) dX9_putNumber_11 ?_
          intro e4 z; obtain ⟨ha_e4, hc_e4, hr_e4⟩ := z
          refine gz_iinc (v := (-8)) (lv' := [(2, .int (-8)), (0, .ref a), (1, .int x)]) dX9_putNumber_14 rfl (by decide) (by decide) rfl ?_
          refine gz_goto (tgt := 3) dX9_putNumber_17 (by decide) ?_
          refine gz_iload_n dX9_putNumber_3 rfl rfl ?_
          refine gz_if_lt (tgt := 20) dX9_putNumber_4 (by decide) (fun c_4_4 => ?_) (fun c_4_4 => ?_)
          ·
            exact gz_vret rfl dX9_putNumber_20 (Nat.le_of_ble_eq_true rfl) (Nat.le_of_ble_eq_true rfl) (⟨rfl, ⟨_, ha_e4, hc_e4⟩, fr_tr (fr_tr (fr_tr hr_e1 hr_e2) hr_e3) hr_e4⟩)
          · exact absurd c_4_4 (by decide)

set_option maxHeartbeats 4000000 in
set_option maxRecDepth 100000 in
theorem k_X9_cut {l : Launch} {D : va_G} {cy : Nat → ClassId} {b : Nat} {f : gMem} {a c : Nat} {len x : Int32} (ha : f a = some (.inr (9, [.ref c, .int len])))  : gC l D cy b yX9_cut cX9_cut 2 none 0 0 0 [.ref a, .int x] f (pV fun f2 => f2 a = some (.inr (9, [.ref c, .int (tCut len x)])) ∧ fr [a] f f2) := by
  refine gC_of (by decide) (Nat.le_of_ble_eq_true rfl) ?_
  show gG l _ _ _ D cy b cX9_cut 2 _ RX9 "cut" 0 0 f 0 [(0, .ref a), (1, .int x)] []
  refine gz_iload_n dX9_cut_0 rfl rfl ?_
  refine gz_if_lt (tgt := 17) dX9_cut_1 (by decide) (fun c_1 => ?_) (fun c_1 => ?_)
  ·
    exact gz_vret rfl dX9_cut_17 (Nat.le_of_ble_eq_true rfl) (Nat.le_of_ble_eq_true rfl) (⟨rfl, by simp [tCut, c_1]; exact ha, fr_rf⟩)
  ·
    refine gz_iload_n dX9_cut_4 rfl rfl ?_
    refine gz_aload_n dX9_cut_5 rfl rfl ?_
    refine sgX9_21 ha rfl dX9_cut_6 ?_
    refine gz_icmp_gt (tgt := 17) dX9_cut_9 (by decide) (fun c_9 => ?_) (fun c_9 => ?_)
    ·
      exact gz_vret rfl dX9_cut_17 (Nat.le_of_ble_eq_true rfl) (Nat.le_of_ble_eq_true rfl) (⟨rfl, by simp [tCut, c_1, c_9]; exact ha, fr_rf⟩)
    ·
      refine gz_aload_n dX9_cut_12 rfl rfl ?_
      refine gz_iload_n dX9_cut_13 rfl rfl ?_
      refine spX9_21 ha  (Nat.le_of_ble_eq_true rfl) dX9_cut_14 ?_
      obtain ⟨f1, hf1⟩ : ∃ gg : gMem, gg = va_up f a (some (.inr (9, [.ref c, .int x]))) := ⟨_, rfl⟩
      refine gz_eq (f2 := f1) hf1.symm rfl rfl rfl ?_
      have ha_1 : f1 a = some (.inr (9, [.ref c, .int x])) := by rw [hf1]; exact va_up_self _ _ _
      exact gz_vret rfl dX9_cut_17 (Nat.le_of_ble_eq_true rfl) (Nat.le_of_ble_eq_true rfl) (⟨rfl, by simp [tCut, c_1, c_9]; exact ha_1, by rw [hf1]; exact fr_up fr_rf (by simp)⟩)
end
