section
-- ===== PART A: goes FIRST, ahead of the names: the tables' words, and 'selects' of the private methods out of them =====
/-- a private method of a class that the tables say can be made, by its rows of tables_1 -/
def lw_okq (q : MethodName × Nat) : Prop := (q.1.cls ≠ "java/lang/invoke/MethodHandle" ∧ q.1.cls ≠ "java/lang/invoke/VarHandle") ∧ Cond.instantiable q.1.cls q.2 ∈ tables_1 ∧ Cond.privateMethod q.1 ∈ tables_1 ∧ Cond.instanceMethod q.1 ∈ tables_1
theorem lw_p0 : lw_okq (⟨"PairPacker", "feedOne", "(I)V"⟩, 18) := ⟨⟨by decide +kernel, by decide +kernel⟩, List.mem_of_getElem? (i := 15) (by decide +kernel), List.mem_of_getElem? (i := 290) (by decide +kernel), List.mem_of_getElem? (i := 291) (by decide +kernel)⟩
theorem lw_p1 : lw_okq (⟨"PairPacker", "isOnTape", "(I)Z"⟩, 18) := ⟨⟨by decide +kernel, by decide +kernel⟩, List.mem_of_getElem? (i := 15) (by decide +kernel), List.mem_of_getElem? (i := 302) (by decide +kernel), List.mem_of_getElem? (i := 303) (by decide +kernel)⟩
theorem lw_p2 : lw_okq (⟨"PairPacker", "endTape", "(II)V"⟩, 18) := ⟨⟨by decide +kernel, by decide +kernel⟩, List.mem_of_getElem? (i := 15) (by decide +kernel), List.mem_of_getElem? (i := 306) (by decide +kernel), List.mem_of_getElem? (i := 307) (by decide +kernel)⟩
theorem lw_p3 : lw_okq (⟨"PairPacker", "firstNoLetter", "(I)I"⟩, 18) := ⟨⟨by decide +kernel, by decide +kernel⟩, List.mem_of_getElem? (i := 15) (by decide +kernel), List.mem_of_getElem? (i := 314) (by decide +kernel), List.mem_of_getElem? (i := 315) (by decide +kernel)⟩
theorem lw_p4 : lw_okq (⟨"PairPacker", "refuseTape", "(II)I"⟩, 18) := ⟨⟨by decide +kernel, by decide +kernel⟩, List.mem_of_getElem? (i := 15) (by decide +kernel), List.mem_of_getElem? (i := 325) (by decide +kernel), List.mem_of_getElem? (i := 326) (by decide +kernel)⟩
theorem lw_p5 : lw_okq (⟨"PairPacker", "takeLetters", "(ILPairPacker$Row;)V"⟩, 18) := ⟨⟨by decide +kernel, by decide +kernel⟩, List.mem_of_getElem? (i := 15) (by decide +kernel), List.mem_of_getElem? (i := 358) (by decide +kernel), List.mem_of_getElem? (i := 359) (by decide +kernel)⟩
theorem lw_p6 : lw_okq (⟨"PairPacker", "read", "()V"⟩, 18) := ⟨⟨by decide +kernel, by decide +kernel⟩, List.mem_of_getElem? (i := 15) (by decide +kernel), List.mem_of_getElem? (i := 366) (by decide +kernel), List.mem_of_getElem? (i := 367) (by decide +kernel)⟩
theorem lw_p7 : lw_okq (⟨"PairPacker$Words", "leastReady", "(LPairPacker$Packing;)I"⟩, 5) := ⟨⟨by decide +kernel, by decide +kernel⟩, List.mem_of_getElem? (i := 108) (by decide +kernel), List.mem_of_getElem? (i := 376) (by decide +kernel), List.mem_of_getElem? (i := 377) (by decide +kernel)⟩
theorem lw_p8 : lw_okq (⟨"PairPacker$Words", "isReady", "(LPairPacker$Row;)Z"⟩, 5) := ⟨⟨by decide +kernel, by decide +kernel⟩, List.mem_of_getElem? (i := 108) (by decide +kernel), List.mem_of_getElem? (i := 390) (by decide +kernel), List.mem_of_getElem? (i := 391) (by decide +kernel)⟩
theorem lw_p9 : lw_okq (⟨"PairPacker$Words", "tell", "(ILPairPacker$Row;)V"⟩, 5) := ⟨⟨by decide +kernel, by decide +kernel⟩, List.mem_of_getElem? (i := 108) (by decide +kernel), List.mem_of_getElem? (i := 400) (by decide +kernel), List.mem_of_getElem? (i := 401) (by decide +kernel)⟩
theorem lw_p10 : lw_okq (⟨"PairPacker$Reading", "isHit", "(LPairPacker$Row;I)Z"⟩, 7) := ⟨⟨by decide +kernel, by decide +kernel⟩, List.mem_of_getElem? (i := 132) (by decide +kernel), List.mem_of_getElem? (i := 437) (by decide +kernel), List.mem_of_getElem? (i := 438) (by decide +kernel)⟩
theorem lw_p11 : lw_okq (⟨"PairPacker$FormReader", "start", "(LPairPacker$Row;I)V"⟩, 7) := ⟨⟨by decide +kernel, by decide +kernel⟩, List.mem_of_getElem? (i := 75) (by decide +kernel), List.mem_of_getElem? (i := 449) (by decide +kernel), List.mem_of_getElem? (i := 450) (by decide +kernel)⟩
theorem lw_p12 : lw_okq (⟨"PairPacker$FormReader", "nextByte", "()I"⟩, 7) := ⟨⟨by decide +kernel, by decide +kernel⟩, List.mem_of_getElem? (i := 75) (by decide +kernel), List.mem_of_getElem? (i := 455) (by decide +kernel), List.mem_of_getElem? (i := 456) (by decide +kernel)⟩
theorem lw_p13 : lw_okq (⟨"PairPacker$FormReader", "blame", "(I)V"⟩, 7) := ⟨⟨by decide +kernel, by decide +kernel⟩, List.mem_of_getElem? (i := 75) (by decide +kernel), List.mem_of_getElem? (i := 459) (by decide +kernel), List.mem_of_getElem? (i := 460) (by decide +kernel)⟩
theorem lw_p14 : lw_okq (⟨"PairPacker$FormReader", "isWhole", "()Z"⟩, 7) := ⟨⟨by decide +kernel, by decide +kernel⟩, List.mem_of_getElem? (i := 75) (by decide +kernel), List.mem_of_getElem? (i := 464) (by decide +kernel), List.mem_of_getElem? (i := 465) (by decide +kernel)⟩
theorem lw_p15 : lw_okq (⟨"PairPacker$FormReader", "readRule", "()V"⟩, 7) := ⟨⟨by decide +kernel, by decide +kernel⟩, List.mem_of_getElem? (i := 75) (by decide +kernel), List.mem_of_getElem? (i := 468) (by decide +kernel), List.mem_of_getElem? (i := 469) (by decide +kernel)⟩
def lw_privs_1 : List (MethodName × Nat) := [(⟨"PairPacker", "feedOne", "(I)V"⟩, 18), (⟨"PairPacker", "isOnTape", "(I)Z"⟩, 18), (⟨"PairPacker", "endTape", "(II)V"⟩, 18), (⟨"PairPacker", "firstNoLetter", "(I)I"⟩, 18), (⟨"PairPacker", "refuseTape", "(II)I"⟩, 18), (⟨"PairPacker", "takeLetters", "(ILPairPacker$Row;)V"⟩, 18), (⟨"PairPacker", "read", "()V"⟩, 18), (⟨"PairPacker$Words", "leastReady", "(LPairPacker$Packing;)I"⟩, 5), (⟨"PairPacker$Words", "isReady", "(LPairPacker$Row;)Z"⟩, 5), (⟨"PairPacker$Words", "tell", "(ILPairPacker$Row;)V"⟩, 5), (⟨"PairPacker$Reading", "isHit", "(LPairPacker$Row;I)Z"⟩, 7), (⟨"PairPacker$FormReader", "start", "(LPairPacker$Row;I)V"⟩, 7), (⟨"PairPacker$FormReader", "nextByte", "()I"⟩, 7), (⟨"PairPacker$FormReader", "blame", "(I)V"⟩, 7), (⟨"PairPacker$FormReader", "isWhole", "()Z"⟩, 7), (⟨"PairPacker$FormReader", "readRule", "()V"⟩, 7)]
theorem lw_r1 : ∀ q ∈ lw_privs_1, lw_okq q := List.forall_mem_cons.mpr ⟨lw_p0, List.forall_mem_cons.mpr ⟨lw_p1, List.forall_mem_cons.mpr ⟨lw_p2, List.forall_mem_cons.mpr ⟨lw_p3, List.forall_mem_cons.mpr ⟨lw_p4, List.forall_mem_cons.mpr ⟨lw_p5, List.forall_mem_cons.mpr ⟨lw_p6, List.forall_mem_cons.mpr ⟨lw_p7, List.forall_mem_cons.mpr ⟨lw_p8, List.forall_mem_cons.mpr ⟨lw_p9, List.forall_mem_cons.mpr ⟨lw_p10, List.forall_mem_cons.mpr ⟨lw_p11, List.forall_mem_cons.mpr ⟨lw_p12, List.forall_mem_cons.mpr ⟨lw_p13, List.forall_mem_cons.mpr ⟨lw_p14, List.forall_mem_cons.mpr ⟨lw_p15, fun _ h => absurd h List.not_mem_nil⟩⟩⟩⟩⟩⟩⟩⟩⟩⟩⟩⟩⟩⟩⟩⟩
theorem lw_p16 : lw_okq (⟨"PairPacker$FormReader", "lettersOf", "(I)I"⟩, 7) := ⟨⟨by decide +kernel, by decide +kernel⟩, List.mem_of_getElem? (i := 75) (by decide +kernel), List.mem_of_getElem? (i := 472) (by decide +kernel), List.mem_of_getElem? (i := 473) (by decide +kernel)⟩
theorem lw_p17 : lw_okq (⟨"PairPacker$FormReader", "readRow", "(LPairPacker$Row;I)I"⟩, 7) := ⟨⟨by decide +kernel, by decide +kernel⟩, List.mem_of_getElem? (i := 75) (by decide +kernel), List.mem_of_getElem? (i := 477) (by decide +kernel), List.mem_of_getElem? (i := 478) (by decide +kernel)⟩
theorem lw_p18 : lw_okq (⟨"PairPacker$FormReader", "readSequence", "()V"⟩, 7) := ⟨⟨by decide +kernel, by decide +kernel⟩, List.mem_of_getElem? (i := 75) (by decide +kernel), List.mem_of_getElem? (i := 482) (by decide +kernel), List.mem_of_getElem? (i := 483) (by decide +kernel)⟩
theorem lw_p19 : lw_okq (⟨"PairPacker", "letterCount", "()I"⟩, 18) := ⟨⟨by decide +kernel, by decide +kernel⟩, List.mem_of_getElem? (i := 15) (by decide +kernel), List.mem_of_getElem? (i := 500) (by decide +kernel), List.mem_of_getElem? (i := 501) (by decide +kernel)⟩
theorem lw_p20 : lw_okq (⟨"PairPacker$PairTable", "forget", "()V"⟩, 2) := ⟨⟨by decide +kernel, by decide +kernel⟩, List.mem_of_getElem? (i := 162) (by decide +kernel), List.mem_of_getElem? (i := 520) (by decide +kernel), List.mem_of_getElem? (i := 521) (by decide +kernel)⟩
theorem lw_p21 : lw_okq (⟨"PairPacker$PairTable", "addOne", "(I)V"⟩, 2) := ⟨⟨by decide +kernel, by decide +kernel⟩, List.mem_of_getElem? (i := 162) (by decide +kernel), List.mem_of_getElem? (i := 530) (by decide +kernel), List.mem_of_getElem? (i := 531) (by decide +kernel)⟩
theorem lw_p22 : lw_okq (⟨"PairPacker$PairTable", "nextBehind", "(I)I"⟩, 2) := ⟨⟨by decide +kernel, by decide +kernel⟩, List.mem_of_getElem? (i := 162) (by decide +kernel), List.mem_of_getElem? (i := 539) (by decide +kernel), List.mem_of_getElem? (i := 540) (by decide +kernel)⟩
theorem lw_p23 : lw_okq (⟨"PairPacker$PairTable", "isAhead", "(II)Z"⟩, 2) := ⟨⟨by decide +kernel, by decide +kernel⟩, List.mem_of_getElem? (i := 162) (by decide +kernel), List.mem_of_getElem? (i := 547) (by decide +kernel), List.mem_of_getElem? (i := 548) (by decide +kernel)⟩
theorem lw_p24 : lw_okq (⟨"PairPacker", "join", "(II)I"⟩, 18) := ⟨⟨by decide +kernel, by decide +kernel⟩, List.mem_of_getElem? (i := 15) (by decide +kernel), List.mem_of_getElem? (i := 557) (by decide +kernel), List.mem_of_getElem? (i := 558) (by decide +kernel)⟩
theorem lw_p25 : lw_okq (⟨"PairPacker", "packBest", "()Z"⟩, 18) := ⟨⟨by decide +kernel, by decide +kernel⟩, List.mem_of_getElem? (i := 15) (by decide +kernel), List.mem_of_getElem? (i := 591) (by decide +kernel), List.mem_of_getElem? (i := 592) (by decide +kernel)⟩
theorem lw_p26 : lw_okq (⟨"PairPacker$Row", "moveTail", "(II)V"⟩, 2) := ⟨⟨by decide +kernel, by decide +kernel⟩, List.mem_of_getElem? (i := 29) (by decide +kernel), List.mem_of_getElem? (i := 634) (by decide +kernel), List.mem_of_getElem? (i := 635) (by decide +kernel)⟩
theorem lw_p27 : lw_okq (⟨"PairPacker", "isStretch", "(II)Z"⟩, 18) := ⟨⟨by decide +kernel, by decide +kernel⟩, List.mem_of_getElem? (i := 15) (by decide +kernel), List.mem_of_getElem? (i := 689) (by decide +kernel), List.mem_of_getElem? (i := 690) (by decide +kernel)⟩
theorem lw_p28 : lw_okq (⟨"PairPacker", "hitsWithin", "(I)I"⟩, 18) := ⟨⟨by decide +kernel, by decide +kernel⟩, List.mem_of_getElem? (i := 15) (by decide +kernel), List.mem_of_getElem? (i := 718) (by decide +kernel), List.mem_of_getElem? (i := 719) (by decide +kernel)⟩
theorem lw_p29 : lw_okq (⟨"PairPacker", "rowSign", "(II)I"⟩, 18) := ⟨⟨by decide +kernel, by decide +kernel⟩, List.mem_of_getElem? (i := 15) (by decide +kernel), List.mem_of_getElem? (i := 722) (by decide +kernel), List.mem_of_getElem? (i := 723) (by decide +kernel)⟩
theorem lw_p30 : lw_okq (⟨"PairPacker$Search", "markRules", "(LPairPacker$Packing;Z)V"⟩, 4) := ⟨⟨by decide +kernel, by decide +kernel⟩, List.mem_of_getElem? (i := 177) (by decide +kernel), List.mem_of_getElem? (i := 845) (by decide +kernel), List.mem_of_getElem? (i := 846) (by decide +kernel)⟩
theorem lw_p31 : lw_okq (⟨"PairPacker$Search", "greatestGain", "(LPairPacker$PairTable;I)I"⟩, 4) := ⟨⟨by decide +kernel, by decide +kernel⟩, List.mem_of_getElem? (i := 177) (by decide +kernel), List.mem_of_getElem? (i := 855) (by decide +kernel), List.mem_of_getElem? (i := 856) (by decide +kernel)⟩
def lw_privs_2 : List (MethodName × Nat) := [(⟨"PairPacker$FormReader", "lettersOf", "(I)I"⟩, 7), (⟨"PairPacker$FormReader", "readRow", "(LPairPacker$Row;I)I"⟩, 7), (⟨"PairPacker$FormReader", "readSequence", "()V"⟩, 7), (⟨"PairPacker", "letterCount", "()I"⟩, 18), (⟨"PairPacker$PairTable", "forget", "()V"⟩, 2), (⟨"PairPacker$PairTable", "addOne", "(I)V"⟩, 2), (⟨"PairPacker$PairTable", "nextBehind", "(I)I"⟩, 2), (⟨"PairPacker$PairTable", "isAhead", "(II)Z"⟩, 2), (⟨"PairPacker", "join", "(II)I"⟩, 18), (⟨"PairPacker", "packBest", "()Z"⟩, 18), (⟨"PairPacker$Row", "moveTail", "(II)V"⟩, 2), (⟨"PairPacker", "isStretch", "(II)Z"⟩, 18), (⟨"PairPacker", "hitsWithin", "(I)I"⟩, 18), (⟨"PairPacker", "rowSign", "(II)I"⟩, 18), (⟨"PairPacker$Search", "markRules", "(LPairPacker$Packing;Z)V"⟩, 4), (⟨"PairPacker$Search", "greatestGain", "(LPairPacker$PairTable;I)I"⟩, 4)]
theorem lw_r2 : ∀ q ∈ lw_privs_2, lw_okq q := List.forall_mem_cons.mpr ⟨lw_p16, List.forall_mem_cons.mpr ⟨lw_p17, List.forall_mem_cons.mpr ⟨lw_p18, List.forall_mem_cons.mpr ⟨lw_p19, List.forall_mem_cons.mpr ⟨lw_p20, List.forall_mem_cons.mpr ⟨lw_p21, List.forall_mem_cons.mpr ⟨lw_p22, List.forall_mem_cons.mpr ⟨lw_p23, List.forall_mem_cons.mpr ⟨lw_p24, List.forall_mem_cons.mpr ⟨lw_p25, List.forall_mem_cons.mpr ⟨lw_p26, List.forall_mem_cons.mpr ⟨lw_p27, List.forall_mem_cons.mpr ⟨lw_p28, List.forall_mem_cons.mpr ⟨lw_p29, List.forall_mem_cons.mpr ⟨lw_p30, List.forall_mem_cons.mpr ⟨lw_p31, fun _ h => absurd h List.not_mem_nil⟩⟩⟩⟩⟩⟩⟩⟩⟩⟩⟩⟩⟩⟩⟩⟩
theorem lw_p32 : lw_okq (⟨"PairPacker$Search", "isRuled", "(I)Z"⟩, 4) := ⟨⟨by decide +kernel, by decide +kernel⟩, List.mem_of_getElem? (i := 177) (by decide +kernel), List.mem_of_getElem? (i := 867) (by decide +kernel), List.mem_of_getElem? (i := 868) (by decide +kernel)⟩
theorem lw_p33 : lw_okq (⟨"PairPacker$Search", "gainOf", "(LPairPacker$PairTable;I)I"⟩, 4) := ⟨⟨by decide +kernel, by decide +kernel⟩, List.mem_of_getElem? (i := 177) (by decide +kernel), List.mem_of_getElem? (i := 871) (by decide +kernel), List.mem_of_getElem? (i := 872) (by decide +kernel)⟩
theorem lw_p34 : lw_okq (⟨"PairPacker$Search", "leastBehind", "(LPairPacker$Packing;III)I"⟩, 4) := ⟨⟨by decide +kernel, by decide +kernel⟩, List.mem_of_getElem? (i := 177) (by decide +kernel), List.mem_of_getElem? (i := 878) (by decide +kernel), List.mem_of_getElem? (i := 879) (by decide +kernel)⟩
theorem lw_p35 : lw_okq (⟨"PairPacker", "perLetter", "(I)F"⟩, 18) := ⟨⟨by decide +kernel, by decide +kernel⟩, List.mem_of_getElem? (i := 15) (by decide +kernel), List.mem_of_getElem? (i := 892) (by decide +kernel), List.mem_of_getElem? (i := 893) (by decide +kernel)⟩
theorem lw_p36 : lw_okq (⟨"PairPacker", "foldedLengths", "()F"⟩, 18) := ⟨⟨by decide +kernel, by decide +kernel⟩, List.mem_of_getElem? (i := 15) (by decide +kernel), List.mem_of_getElem? (i := 905) (by decide +kernel), List.mem_of_getElem? (i := 906) (by decide +kernel)⟩
theorem lw_p37 : lw_okq (⟨"PairPacker", "writeForm", "()V"⟩, 18) := ⟨⟨by decide +kernel, by decide +kernel⟩, List.mem_of_getElem? (i := 15) (by decide +kernel), List.mem_of_getElem? (i := 914) (by decide +kernel), List.mem_of_getElem? (i := 915) (by decide +kernel)⟩
theorem lw_p38 : lw_okq (⟨"PairPacker", "writeRow", "(LPairPacker$Row;)V"⟩, 18) := ⟨⟨by decide +kernel, by decide +kernel⟩, List.mem_of_getElem? (i := 15) (by decide +kernel), List.mem_of_getElem? (i := 926) (by decide +kernel), List.mem_of_getElem? (i := 927) (by decide +kernel)⟩
theorem lw_p39 : lw_okq (⟨"PairPacker$Codes", "weigh", "(LPairPacker$Row;)I"⟩, 6) := ⟨⟨by decide +kernel, by decide +kernel⟩, List.mem_of_getElem? (i := 200) (by decide +kernel), List.mem_of_getElem? (i := 938) (by decide +kernel), List.mem_of_getElem? (i := 939) (by decide +kernel)⟩
theorem lw_p40 : lw_okq (⟨"PairPacker$Codes", "putTwoTogether", "()V"⟩, 6) := ⟨⟨by decide +kernel, by decide +kernel⟩, List.mem_of_getElem? (i := 200) (by decide +kernel), List.mem_of_getElem? (i := 943) (by decide +kernel), List.mem_of_getElem? (i := 944) (by decide +kernel)⟩
theorem lw_p41 : lw_okq (⟨"PairPacker$Codes", "lightestBut", "(I)I"⟩, 6) := ⟨⟨by decide +kernel, by decide +kernel⟩, List.mem_of_getElem? (i := 200) (by decide +kernel), List.mem_of_getElem? (i := 947) (by decide +kernel), List.mem_of_getElem? (i := 948) (by decide +kernel)⟩
theorem lw_p42 : lw_okq (⟨"PairPacker$Codes", "lengthenGroup", "(I)V"⟩, 6) := ⟨⟨by decide +kernel, by decide +kernel⟩, List.mem_of_getElem? (i := 200) (by decide +kernel), List.mem_of_getElem? (i := 951) (by decide +kernel), List.mem_of_getElem? (i := 952) (by decide +kernel)⟩
theorem lw_p43 : lw_okq (⟨"PairPacker$Codes", "putInOrder", "()V"⟩, 6) := ⟨⟨by decide +kernel, by decide +kernel⟩, List.mem_of_getElem? (i := 200) (by decide +kernel), List.mem_of_getElem? (i := 957) (by decide +kernel), List.mem_of_getElem? (i := 958) (by decide +kernel)⟩
theorem lw_p44 : lw_okq (⟨"PairPacker$Codes", "number", "()V"⟩, 6) := ⟨⟨by decide +kernel, by decide +kernel⟩, List.mem_of_getElem? (i := 200) (by decide +kernel), List.mem_of_getElem? (i := 963) (by decide +kernel), List.mem_of_getElem? (i := 964) (by decide +kernel)⟩
theorem lw_p45 : lw_okq (⟨"PairPacker", "greatestDepth", "()I"⟩, 18) := ⟨⟨by decide +kernel, by decide +kernel⟩, List.mem_of_getElem? (i := 15) (by decide +kernel), List.mem_of_getElem? (i := 1016) (by decide +kernel), List.mem_of_getElem? (i := 1017) (by decide +kernel)⟩
theorem lw_p46 : lw_okq (⟨"PairPackerModel", "readsForm", "()I"⟩, 38) := ⟨⟨by decide +kernel, by decide +kernel⟩, List.mem_of_getElem? (i := 1027) (by decide +kernel), List.mem_of_getElem? (i := 1160) (by decide +kernel), List.mem_of_getElem? (i := 1161) (by decide +kernel)⟩
theorem lw_p47 : lw_okq (⟨"PairPackerModel", "nextByte", "(II)I"⟩, 38) := ⟨⟨by decide +kernel, by decide +kernel⟩, List.mem_of_getElem? (i := 1027) (by decide +kernel), List.mem_of_getElem? (i := 1164) (by decide +kernel), List.mem_of_getElem? (i := 1165) (by decide +kernel)⟩
def lw_privs_3 : List (MethodName × Nat) := [(⟨"PairPacker$Search", "isRuled", "(I)Z"⟩, 4), (⟨"PairPacker$Search", "gainOf", "(LPairPacker$PairTable;I)I"⟩, 4), (⟨"PairPacker$Search", "leastBehind", "(LPairPacker$Packing;III)I"⟩, 4), (⟨"PairPacker", "perLetter", "(I)F"⟩, 18), (⟨"PairPacker", "foldedLengths", "()F"⟩, 18), (⟨"PairPacker", "writeForm", "()V"⟩, 18), (⟨"PairPacker", "writeRow", "(LPairPacker$Row;)V"⟩, 18), (⟨"PairPacker$Codes", "weigh", "(LPairPacker$Row;)I"⟩, 6), (⟨"PairPacker$Codes", "putTwoTogether", "()V"⟩, 6), (⟨"PairPacker$Codes", "lightestBut", "(I)I"⟩, 6), (⟨"PairPacker$Codes", "lengthenGroup", "(I)V"⟩, 6), (⟨"PairPacker$Codes", "putInOrder", "()V"⟩, 6), (⟨"PairPacker$Codes", "number", "()V"⟩, 6), (⟨"PairPacker", "greatestDepth", "()I"⟩, 18), (⟨"PairPackerModel", "readsForm", "()I"⟩, 38), (⟨"PairPackerModel", "nextByte", "(II)I"⟩, 38)]
theorem lw_r3 : ∀ q ∈ lw_privs_3, lw_okq q := List.forall_mem_cons.mpr ⟨lw_p32, List.forall_mem_cons.mpr ⟨lw_p33, List.forall_mem_cons.mpr ⟨lw_p34, List.forall_mem_cons.mpr ⟨lw_p35, List.forall_mem_cons.mpr ⟨lw_p36, List.forall_mem_cons.mpr ⟨lw_p37, List.forall_mem_cons.mpr ⟨lw_p38, List.forall_mem_cons.mpr ⟨lw_p39, List.forall_mem_cons.mpr ⟨lw_p40, List.forall_mem_cons.mpr ⟨lw_p41, List.forall_mem_cons.mpr ⟨lw_p42, List.forall_mem_cons.mpr ⟨lw_p43, List.forall_mem_cons.mpr ⟨lw_p44, List.forall_mem_cons.mpr ⟨lw_p45, List.forall_mem_cons.mpr ⟨lw_p46, List.forall_mem_cons.mpr ⟨lw_p47, fun _ h => absurd h List.not_mem_nil⟩⟩⟩⟩⟩⟩⟩⟩⟩⟩⟩⟩⟩⟩⟩⟩
theorem lw_p48 : lw_okq (⟨"PairPackerModel", "fails", "(II)I"⟩, 38) := ⟨⟨by decide +kernel, by decide +kernel⟩, List.mem_of_getElem? (i := 1027) (by decide +kernel), List.mem_of_getElem? (i := 1168) (by decide +kernel), List.mem_of_getElem? (i := 1169) (by decide +kernel)⟩
theorem lw_p49 : lw_okq (⟨"PairPackerModel", "nextRule", "()I"⟩, 38) := ⟨⟨by decide +kernel, by decide +kernel⟩, List.mem_of_getElem? (i := 1027) (by decide +kernel), List.mem_of_getElem? (i := 1172) (by decide +kernel), List.mem_of_getElem? (i := 1173) (by decide +kernel)⟩
theorem lw_p50 : lw_okq (⟨"PairPackerModel", "nextSigns", "(II)I"⟩, 38) := ⟨⟨by decide +kernel, by decide +kernel⟩, List.mem_of_getElem? (i := 1027) (by decide +kernel), List.mem_of_getElem? (i := 1181) (by decide +kernel), List.mem_of_getElem? (i := 1182) (by decide +kernel)⟩
theorem lw_p51 : lw_okq (⟨"PairPackerModel", "notes", "()V"⟩, 38) := ⟨⟨by decide +kernel, by decide +kernel⟩, List.mem_of_getElem? (i := 1027) (by decide +kernel), List.mem_of_getElem? (i := 1185) (by decide +kernel), List.mem_of_getElem? (i := 1186) (by decide +kernel)⟩
theorem lw_p52 : lw_okq (⟨"PairPackerModel", "lettersMany", "()I"⟩, 38) := ⟨⟨by decide +kernel, by decide +kernel⟩, List.mem_of_getElem? (i := 1027) (by decide +kernel), List.mem_of_getElem? (i := 1192) (by decide +kernel), List.mem_of_getElem? (i := 1193) (by decide +kernel)⟩
theorem lw_p53 : lw_okq (⟨"PairPackerModel", "laysWords", "()V"⟩, 38) := ⟨⟨by decide +kernel, by decide +kernel⟩, List.mem_of_getElem? (i := 1027) (by decide +kernel), List.mem_of_getElem? (i := 1196) (by decide +kernel), List.mem_of_getElem? (i := 1197) (by decide +kernel)⟩
theorem lw_p54 : lw_okq (⟨"PairPackerModel", "rowLong", "(I)I"⟩, 38) := ⟨⟨by decide +kernel, by decide +kernel⟩, List.mem_of_getElem? (i := 1027) (by decide +kernel), List.mem_of_getElem? (i := 1200) (by decide +kernel), List.mem_of_getElem? (i := 1201) (by decide +kernel)⟩
theorem lw_p55 : lw_okq (⟨"PairPackerModel", "laysWord", "(I)V"⟩, 38) := ⟨⟨by decide +kernel, by decide +kernel⟩, List.mem_of_getElem? (i := 1027) (by decide +kernel), List.mem_of_getElem? (i := 1204) (by decide +kernel), List.mem_of_getElem? (i := 1205) (by decide +kernel)⟩
theorem lw_p56 : lw_okq (⟨"PairPackerModel", "inRow", "(II)I"⟩, 38) := ⟨⟨by decide +kernel, by decide +kernel⟩, List.mem_of_getElem? (i := 1027) (by decide +kernel), List.mem_of_getElem? (i := 1208) (by decide +kernel), List.mem_of_getElem? (i := 1209) (by decide +kernel)⟩
theorem lw_p57 : lw_okq (⟨"PairPackerModel", "many", "()I"⟩, 38) := ⟨⟨by decide +kernel, by decide +kernel⟩, List.mem_of_getElem? (i := 1027) (by decide +kernel), List.mem_of_getElem? (i := 1215) (by decide +kernel), List.mem_of_getElem? (i := 1216) (by decide +kernel)⟩
theorem lw_p58 : lw_okq (⟨"PairPackerModel", "signAt", "(I)I"⟩, 38) := ⟨⟨by decide +kernel, by decide +kernel⟩, List.mem_of_getElem? (i := 1027) (by decide +kernel), List.mem_of_getElem? (i := 1219) (by decide +kernel), List.mem_of_getElem? (i := 1220) (by decide +kernel)⟩
theorem lw_p59 : lw_okq (⟨"PairPackerModel", "laysForm", "()V"⟩, 38) := ⟨⟨by decide +kernel, by decide +kernel⟩, List.mem_of_getElem? (i := 1027) (by decide +kernel), List.mem_of_getElem? (i := 1227) (by decide +kernel), List.mem_of_getElem? (i := 1228) (by decide +kernel)⟩
theorem lw_p60 : lw_okq (⟨"PairPackerModel", "rulesMany", "()I"⟩, 38) := ⟨⟨by decide +kernel, by decide +kernel⟩, List.mem_of_getElem? (i := 1027) (by decide +kernel), List.mem_of_getElem? (i := 1231) (by decide +kernel), List.mem_of_getElem? (i := 1232) (by decide +kernel)⟩
theorem lw_p61 : lw_okq (⟨"PairPackerModel", "tells", "(I)V"⟩, 38) := ⟨⟨by decide +kernel, by decide +kernel⟩, List.mem_of_getElem? (i := 1027) (by decide +kernel), List.mem_of_getElem? (i := 1235) (by decide +kernel), List.mem_of_getElem? (i := 1236) (by decide +kernel)⟩
theorem lw_p62 : lw_okq (⟨"PairPackerModel", "nextTold", "()I"⟩, 38) := ⟨⟨by decide +kernel, by decide +kernel⟩, List.mem_of_getElem? (i := 1027) (by decide +kernel), List.mem_of_getElem? (i := 1239) (by decide +kernel), List.mem_of_getElem? (i := 1240) (by decide +kernel)⟩
theorem lw_p63 : lw_okq (⟨"PairPackerModel", "isSign", "(I)Z"⟩, 38) := ⟨⟨by decide +kernel, by decide +kernel⟩, List.mem_of_getElem? (i := 1027) (by decide +kernel), List.mem_of_getElem? (i := 1247) (by decide +kernel), List.mem_of_getElem? (i := 1248) (by decide +kernel)⟩
def lw_privs_4 : List (MethodName × Nat) := [(⟨"PairPackerModel", "fails", "(II)I"⟩, 38), (⟨"PairPackerModel", "nextRule", "()I"⟩, 38), (⟨"PairPackerModel", "nextSigns", "(II)I"⟩, 38), (⟨"PairPackerModel", "notes", "()V"⟩, 38), (⟨"PairPackerModel", "lettersMany", "()I"⟩, 38), (⟨"PairPackerModel", "laysWords", "()V"⟩, 38), (⟨"PairPackerModel", "rowLong", "(I)I"⟩, 38), (⟨"PairPackerModel", "laysWord", "(I)V"⟩, 38), (⟨"PairPackerModel", "inRow", "(II)I"⟩, 38), (⟨"PairPackerModel", "many", "()I"⟩, 38), (⟨"PairPackerModel", "signAt", "(I)I"⟩, 38), (⟨"PairPackerModel", "laysForm", "()V"⟩, 38), (⟨"PairPackerModel", "rulesMany", "()I"⟩, 38), (⟨"PairPackerModel", "tells", "(I)V"⟩, 38), (⟨"PairPackerModel", "nextTold", "()I"⟩, 38), (⟨"PairPackerModel", "isSign", "(I)Z"⟩, 38)]
theorem lw_r4 : ∀ q ∈ lw_privs_4, lw_okq q := List.forall_mem_cons.mpr ⟨lw_p48, List.forall_mem_cons.mpr ⟨lw_p49, List.forall_mem_cons.mpr ⟨lw_p50, List.forall_mem_cons.mpr ⟨lw_p51, List.forall_mem_cons.mpr ⟨lw_p52, List.forall_mem_cons.mpr ⟨lw_p53, List.forall_mem_cons.mpr ⟨lw_p54, List.forall_mem_cons.mpr ⟨lw_p55, List.forall_mem_cons.mpr ⟨lw_p56, List.forall_mem_cons.mpr ⟨lw_p57, List.forall_mem_cons.mpr ⟨lw_p58, List.forall_mem_cons.mpr ⟨lw_p59, List.forall_mem_cons.mpr ⟨lw_p60, List.forall_mem_cons.mpr ⟨lw_p61, List.forall_mem_cons.mpr ⟨lw_p62, List.forall_mem_cons.mpr ⟨lw_p63, fun _ h => absurd h List.not_mem_nil⟩⟩⟩⟩⟩⟩⟩⟩⟩⟩⟩⟩⟩⟩⟩⟩
theorem lw_p64 : lw_okq (⟨"PairPackerModel", "laysCodes", "()V"⟩, 38) := ⟨⟨by decide +kernel, by decide +kernel⟩, List.mem_of_getElem? (i := 1027) (by decide +kernel), List.mem_of_getElem? (i := 1252) (by decide +kernel), List.mem_of_getElem? (i := 1253) (by decide +kernel)⟩
theorem lw_p65 : lw_okq (⟨"PairPackerModel", "inSequence", "(I)I"⟩, 38) := ⟨⟨by decide +kernel, by decide +kernel⟩, List.mem_of_getElem? (i := 1027) (by decide +kernel), List.mem_of_getElem? (i := 1256) (by decide +kernel), List.mem_of_getElem? (i := 1257) (by decide +kernel)⟩
theorem lw_p66 : lw_okq (⟨"PairPackerModel", "lightest", "(I)I"⟩, 38) := ⟨⟨by decide +kernel, by decide +kernel⟩, List.mem_of_getElem? (i := 1027) (by decide +kernel), List.mem_of_getElem? (i := 1260) (by decide +kernel), List.mem_of_getElem? (i := 1261) (by decide +kernel)⟩
theorem lw_p67 : lw_okq (⟨"PairPackerModel", "joins", "(II)V"⟩, 38) := ⟨⟨by decide +kernel, by decide +kernel⟩, List.mem_of_getElem? (i := 1027) (by decide +kernel), List.mem_of_getElem? (i := 1264) (by decide +kernel), List.mem_of_getElem? (i := 1265) (by decide +kernel)⟩
theorem lw_p68 : lw_okq (⟨"PairPackerModel", "ranksCodes", "()V"⟩, 38) := ⟨⟨by decide +kernel, by decide +kernel⟩, List.mem_of_getElem? (i := 1027) (by decide +kernel), List.mem_of_getElem? (i := 1271) (by decide +kernel), List.mem_of_getElem? (i := 1272) (by decide +kernel)⟩
theorem lw_p69 : lw_okq (⟨"PairPackerModel", "takes", "(III)I"⟩, 38) := ⟨⟨by decide +kernel, by decide +kernel⟩, List.mem_of_getElem? (i := 1027) (by decide +kernel), List.mem_of_getElem? (i := 1283) (by decide +kernel), List.mem_of_getElem? (i := 1284) (by decide +kernel)⟩
theorem lw_p70 : lw_okq (⟨"PairPackerModel", "laysText", "()V"⟩, 38) := ⟨⟨by decide +kernel, by decide +kernel⟩, List.mem_of_getElem? (i := 1027) (by decide +kernel), List.mem_of_getElem? (i := 1293) (by decide +kernel), List.mem_of_getElem? (i := 1294) (by decide +kernel)⟩
theorem lw_p71 : lw_okq (⟨"PairPackerModel", "laysOut", "(II)V"⟩, 38) := ⟨⟨by decide +kernel, by decide +kernel⟩, List.mem_of_getElem? (i := 1027) (by decide +kernel), List.mem_of_getElem? (i := 1297) (by decide +kernel), List.mem_of_getElem? (i := 1298) (by decide +kernel)⟩
theorem lw_p72 : lw_okq (⟨"PairPackerModel", "hitsIn", "()I"⟩, 38) := ⟨⟨by decide +kernel, by decide +kernel⟩, List.mem_of_getElem? (i := 1027) (by decide +kernel), List.mem_of_getElem? (i := 1301) (by decide +kernel), List.mem_of_getElem? (i := 1302) (by decide +kernel)⟩
theorem lw_p73 : lw_okq (⟨"PairPackerModel", "isHit", "(I)Z"⟩, 38) := ⟨⟨by decide +kernel, by decide +kernel⟩, List.mem_of_getElem? (i := 1027) (by decide +kernel), List.mem_of_getElem? (i := 1305) (by decide +kernel), List.mem_of_getElem? (i := 1306) (by decide +kernel)⟩
theorem lw_p74 : lw_okq (⟨"PairPackerModel", "picked", "()I"⟩, 38) := ⟨⟨by decide +kernel, by decide +kernel⟩, List.mem_of_getElem? (i := 1027) (by decide +kernel), List.mem_of_getElem? (i := 1317) (by decide +kernel), List.mem_of_getElem? (i := 1318) (by decide +kernel)⟩
theorem lw_p75 : lw_okq (⟨"PairPackerModel", "laysCounts", "()I"⟩, 38) := ⟨⟨by decide +kernel, by decide +kernel⟩, List.mem_of_getElem? (i := 1027) (by decide +kernel), List.mem_of_getElem? (i := 1321) (by decide +kernel), List.mem_of_getElem? (i := 1322) (by decide +kernel)⟩
theorem lw_p76 : lw_okq (⟨"PairPackerModel", "canReplace", "(II)Z"⟩, 38) := ⟨⟨by decide +kernel, by decide +kernel⟩, List.mem_of_getElem? (i := 1027) (by decide +kernel), List.mem_of_getElem? (i := 1325) (by decide +kernel), List.mem_of_getElem? (i := 1326) (by decide +kernel)⟩
theorem lw_p77 : lw_okq (⟨"PairPackerModel", "ruleOf", "(II)I"⟩, 38) := ⟨⟨by decide +kernel, by decide +kernel⟩, List.mem_of_getElem? (i := 1027) (by decide +kernel), List.mem_of_getElem? (i := 1329) (by decide +kernel), List.mem_of_getElem? (i := 1330) (by decide +kernel)⟩
theorem lw_p78 : lw_okq (⟨"PairPackerModel", "freeSign", "()I"⟩, 38) := ⟨⟨by decide +kernel, by decide +kernel⟩, List.mem_of_getElem? (i := 1027) (by decide +kernel), List.mem_of_getElem? (i := 1333) (by decide +kernel), List.mem_of_getElem? (i := 1334) (by decide +kernel)⟩
theorem lw_p79 : lw_okq (⟨"PairPackerModel", "replaces", "(II)I"⟩, 38) := ⟨⟨by decide +kernel, by decide +kernel⟩, List.mem_of_getElem? (i := 1027) (by decide +kernel), List.mem_of_getElem? (i := 1337) (by decide +kernel), List.mem_of_getElem? (i := 1338) (by decide +kernel)⟩
def lw_privs_5 : List (MethodName × Nat) := [(⟨"PairPackerModel", "laysCodes", "()V"⟩, 38), (⟨"PairPackerModel", "inSequence", "(I)I"⟩, 38), (⟨"PairPackerModel", "lightest", "(I)I"⟩, 38), (⟨"PairPackerModel", "joins", "(II)V"⟩, 38), (⟨"PairPackerModel", "ranksCodes", "()V"⟩, 38), (⟨"PairPackerModel", "takes", "(III)I"⟩, 38), (⟨"PairPackerModel", "laysText", "()V"⟩, 38), (⟨"PairPackerModel", "laysOut", "(II)V"⟩, 38), (⟨"PairPackerModel", "hitsIn", "()I"⟩, 38), (⟨"PairPackerModel", "isHit", "(I)Z"⟩, 38), (⟨"PairPackerModel", "picked", "()I"⟩, 38), (⟨"PairPackerModel", "laysCounts", "()I"⟩, 38), (⟨"PairPackerModel", "canReplace", "(II)Z"⟩, 38), (⟨"PairPackerModel", "ruleOf", "(II)I"⟩, 38), (⟨"PairPackerModel", "freeSign", "()I"⟩, 38), (⟨"PairPackerModel", "replaces", "(II)I"⟩, 38)]
theorem lw_r5 : ∀ q ∈ lw_privs_5, lw_okq q := List.forall_mem_cons.mpr ⟨lw_p64, List.forall_mem_cons.mpr ⟨lw_p65, List.forall_mem_cons.mpr ⟨lw_p66, List.forall_mem_cons.mpr ⟨lw_p67, List.forall_mem_cons.mpr ⟨lw_p68, List.forall_mem_cons.mpr ⟨lw_p69, List.forall_mem_cons.mpr ⟨lw_p70, List.forall_mem_cons.mpr ⟨lw_p71, List.forall_mem_cons.mpr ⟨lw_p72, List.forall_mem_cons.mpr ⟨lw_p73, List.forall_mem_cons.mpr ⟨lw_p74, List.forall_mem_cons.mpr ⟨lw_p75, List.forall_mem_cons.mpr ⟨lw_p76, List.forall_mem_cons.mpr ⟨lw_p77, List.forall_mem_cons.mpr ⟨lw_p78, List.forall_mem_cons.mpr ⟨lw_p79, fun _ h => absurd h List.not_mem_nil⟩⟩⟩⟩⟩⟩⟩⟩⟩⟩⟩⟩⟩⟩⟩⟩
theorem lw_p80 : lw_okq (⟨"PairPackerModel", "countOf", "(II)I"⟩, 38) := ⟨⟨by decide +kernel, by decide +kernel⟩, List.mem_of_getElem? (i := 1027) (by decide +kernel), List.mem_of_getElem? (i := 1349) (by decide +kernel), List.mem_of_getElem? (i := 1350) (by decide +kernel)⟩
theorem lw_p81 : lw_okq (⟨"PairPackerModel", "canGo", "(I)Z"⟩, 38) := ⟨⟨by decide +kernel, by decide +kernel⟩, List.mem_of_getElem? (i := 1027) (by decide +kernel), List.mem_of_getElem? (i := 1357) (by decide +kernel), List.mem_of_getElem? (i := 1358) (by decide +kernel)⟩
theorem lw_p82 : lw_okq (⟨"PairPackerModel", "timesIn", "(II)I"⟩, 38) := ⟨⟨by decide +kernel, by decide +kernel⟩, List.mem_of_getElem? (i := 1027) (by decide +kernel), List.mem_of_getElem? (i := 1361) (by decide +kernel), List.mem_of_getElem? (i := 1362) (by decide +kernel)⟩
theorem lw_p83 : lw_okq (⟨"PairPackerModel", "drops", "(I)V"⟩, 38) := ⟨⟨by decide +kernel, by decide +kernel⟩, List.mem_of_getElem? (i := 1027) (by decide +kernel), List.mem_of_getElem? (i := 1365) (by decide +kernel), List.mem_of_getElem? (i := 1366) (by decide +kernel)⟩
theorem lw_p84 : lw_okq (⟨"PairPackerModel", "puts", "(III)I"⟩, 38) := ⟨⟨by decide +kernel, by decide +kernel⟩, List.mem_of_getElem? (i := 1027) (by decide +kernel), List.mem_of_getElem? (i := 1369) (by decide +kernel), List.mem_of_getElem? (i := 1370) (by decide +kernel)⟩
theorem lw_p85 : lw_okq (⟨"PairPackerModel", "sizeNow", "()I"⟩, 38) := ⟨⟨by decide +kernel, by decide +kernel⟩, List.mem_of_getElem? (i := 1027) (by decide +kernel), List.mem_of_getElem? (i := 1373) (by decide +kernel), List.mem_of_getElem? (i := 1374) (by decide +kernel)⟩
theorem lw_p86 : lw_okq (⟨"PairPackerModel", "idle", "()I"⟩, 38) := ⟨⟨by decide +kernel, by decide +kernel⟩, List.mem_of_getElem? (i := 1027) (by decide +kernel), List.mem_of_getElem? (i := 1381) (by decide +kernel), List.mem_of_getElem? (i := 1382) (by decide +kernel)⟩
theorem lw_p87 : lw_okq (⟨"PairPackerModel", "usesOf", "(I)I"⟩, 38) := ⟨⟨by decide +kernel, by decide +kernel⟩, List.mem_of_getElem? (i := 1027) (by decide +kernel), List.mem_of_getElem? (i := 1385) (by decide +kernel), List.mem_of_getElem? (i := 1386) (by decide +kernel)⟩
theorem lw_p88 : lw_okq (⟨"PairPackerModel", "opens", "(I)I"⟩, 38) := ⟨⟨by decide +kernel, by decide +kernel⟩, List.mem_of_getElem? (i := 1027) (by decide +kernel), List.mem_of_getElem? (i := 1397) (by decide +kernel), List.mem_of_getElem? (i := 1398) (by decide +kernel)⟩
theorem lw_p89 : lw_okq (⟨"PairPackerModel", "seeks", "(I)Z"⟩, 38) := ⟨⟨by decide +kernel, by decide +kernel⟩, List.mem_of_getElem? (i := 1027) (by decide +kernel), List.mem_of_getElem? (i := 1440) (by decide +kernel), List.mem_of_getElem? (i := 1441) (by decide +kernel)⟩
theorem lw_p90 : lw_okq (⟨"PairPackerModel", "arePlaces", "(II)Z"⟩, 38) := ⟨⟨by decide +kernel, by decide +kernel⟩, List.mem_of_getElem? (i := 1027) (by decide +kernel), List.mem_of_getElem? (i := 1460) (by decide +kernel), List.mem_of_getElem? (i := 1461) (by decide +kernel)⟩
theorem lw_p91 : lw_okq (⟨"PairPackerModel", "commonOf", "(II)I"⟩, 38) := ⟨⟨by decide +kernel, by decide +kernel⟩, List.mem_of_getElem? (i := 1027) (by decide +kernel), List.mem_of_getElem? (i := 1464) (by decide +kernel), List.mem_of_getElem? (i := 1465) (by decide +kernel)⟩
theorem lw_p92 : lw_okq (⟨"PairPackerModel", "laysTwice", "()V"⟩, 38) := ⟨⟨by decide +kernel, by decide +kernel⟩, List.mem_of_getElem? (i := 1027) (by decide +kernel), List.mem_of_getElem? (i := 1481) (by decide +kernel), List.mem_of_getElem? (i := 1482) (by decide +kernel)⟩
theorem lw_p93 : lw_okq (⟨"PairPackerModel", "crossing", "()I"⟩, 38) := ⟨⟨by decide +kernel, by decide +kernel⟩, List.mem_of_getElem? (i := 1027) (by decide +kernel), List.mem_of_getElem? (i := 1497) (by decide +kernel), List.mem_of_getElem? (i := 1498) (by decide +kernel)⟩
theorem lw_p94 : lw_okq (⟨"PairPackerModel", "gainOf", "(II)I"⟩, 38) := ⟨⟨by decide +kernel, by decide +kernel⟩, List.mem_of_getElem? (i := 1027) (by decide +kernel), List.mem_of_getElem? (i := 1505) (by decide +kernel), List.mem_of_getElem? (i := 1506) (by decide +kernel)⟩
theorem lw_p95 : lw_okq (⟨"PairPackerModel", "leastBehind", "(I)I"⟩, 38) := ⟨⟨by decide +kernel, by decide +kernel⟩, List.mem_of_getElem? (i := 1027) (by decide +kernel), List.mem_of_getElem? (i := 1513) (by decide +kernel), List.mem_of_getElem? (i := 1514) (by decide +kernel)⟩
def lw_privs_6 : List (MethodName × Nat) := [(⟨"PairPackerModel", "countOf", "(II)I"⟩, 38), (⟨"PairPackerModel", "canGo", "(I)Z"⟩, 38), (⟨"PairPackerModel", "timesIn", "(II)I"⟩, 38), (⟨"PairPackerModel", "drops", "(I)V"⟩, 38), (⟨"PairPackerModel", "puts", "(III)I"⟩, 38), (⟨"PairPackerModel", "sizeNow", "()I"⟩, 38), (⟨"PairPackerModel", "idle", "()I"⟩, 38), (⟨"PairPackerModel", "usesOf", "(I)I"⟩, 38), (⟨"PairPackerModel", "opens", "(I)I"⟩, 38), (⟨"PairPackerModel", "seeks", "(I)Z"⟩, 38), (⟨"PairPackerModel", "arePlaces", "(II)Z"⟩, 38), (⟨"PairPackerModel", "commonOf", "(II)I"⟩, 38), (⟨"PairPackerModel", "laysTwice", "()V"⟩, 38), (⟨"PairPackerModel", "crossing", "()I"⟩, 38), (⟨"PairPackerModel", "gainOf", "(II)I"⟩, 38), (⟨"PairPackerModel", "leastBehind", "(I)I"⟩, 38)]
theorem lw_r6 : ∀ q ∈ lw_privs_6, lw_okq q := List.forall_mem_cons.mpr ⟨lw_p80, List.forall_mem_cons.mpr ⟨lw_p81, List.forall_mem_cons.mpr ⟨lw_p82, List.forall_mem_cons.mpr ⟨lw_p83, List.forall_mem_cons.mpr ⟨lw_p84, List.forall_mem_cons.mpr ⟨lw_p85, List.forall_mem_cons.mpr ⟨lw_p86, List.forall_mem_cons.mpr ⟨lw_p87, List.forall_mem_cons.mpr ⟨lw_p88, List.forall_mem_cons.mpr ⟨lw_p89, List.forall_mem_cons.mpr ⟨lw_p90, List.forall_mem_cons.mpr ⟨lw_p91, List.forall_mem_cons.mpr ⟨lw_p92, List.forall_mem_cons.mpr ⟨lw_p93, List.forall_mem_cons.mpr ⟨lw_p94, List.forall_mem_cons.mpr ⟨lw_p95, fun _ h => absurd h List.not_mem_nil⟩⟩⟩⟩⟩⟩⟩⟩⟩⟩⟩⟩⟩⟩⟩⟩
theorem lw_p96 : lw_okq (⟨"PairPackerModel", "isFirst", "(I)Z"⟩, 38) := ⟨⟨by decide +kernel, by decide +kernel⟩, List.mem_of_getElem? (i := 1027) (by decide +kernel), List.mem_of_getElem? (i := 1517) (by decide +kernel), List.mem_of_getElem? (i := 1518) (by decide +kernel)⟩
theorem lw_p97 : lw_okq (⟨"PairPackerModel", "floatOf", "(I)F"⟩, 38) := ⟨⟨by decide +kernel, by decide +kernel⟩, List.mem_of_getElem? (i := 1027) (by decide +kernel), List.mem_of_getElem? (i := 1525) (by decide +kernel), List.mem_of_getElem? (i := 1526) (by decide +kernel)⟩
theorem lw_p98 : lw_okq (⟨"PairPackerModel", "deepest", "()I"⟩, 38) := ⟨⟨by decide +kernel, by decide +kernel⟩, List.mem_of_getElem? (i := 1027) (by decide +kernel), List.mem_of_getElem? (i := 1552) (by decide +kernel), List.mem_of_getElem? (i := 1553) (by decide +kernel)⟩
theorem lw_p99 : lw_okq (⟨"PairPackerModel", "bitsAll", "()I"⟩, 38) := ⟨⟨by decide +kernel, by decide +kernel⟩, List.mem_of_getElem? (i := 1027) (by decide +kernel), List.mem_of_getElem? (i := 1556) (by decide +kernel), List.mem_of_getElem? (i := 1557) (by decide +kernel)⟩
def lw_privs_7 : List (MethodName × Nat) := [(⟨"PairPackerModel", "isFirst", "(I)Z"⟩, 38), (⟨"PairPackerModel", "floatOf", "(I)F"⟩, 38), (⟨"PairPackerModel", "deepest", "()I"⟩, 38), (⟨"PairPackerModel", "bitsAll", "()I"⟩, 38)]
theorem lw_r7 : ∀ q ∈ lw_privs_7, lw_okq q := List.forall_mem_cons.mpr ⟨lw_p96, List.forall_mem_cons.mpr ⟨lw_p97, List.forall_mem_cons.mpr ⟨lw_p98, List.forall_mem_cons.mpr ⟨lw_p99, fun _ h => absurd h List.not_mem_nil⟩⟩⟩⟩
def lw_privs : List (MethodName × Nat) := lw_privs_1 ++ (lw_privs_2 ++ (lw_privs_3 ++ (lw_privs_4 ++ (lw_privs_5 ++ (lw_privs_6 ++ (lw_privs_7))))))
def lw_tbl : List Cond := k2_sels lw_privs ++ tables_1
theorem lw_privs_ok : ∀ q ∈ lw_privs, lw_okq q := by
  show ∀ q ∈ lw_privs_1 ++ (lw_privs_2 ++ (lw_privs_3 ++ (lw_privs_4 ++ (lw_privs_5 ++ (lw_privs_6 ++ (lw_privs_7)))))), lw_okq q
  exact List.forall_mem_append.mpr ⟨lw_r1, List.forall_mem_append.mpr ⟨lw_r2, List.forall_mem_append.mpr ⟨lw_r3, List.forall_mem_append.mpr ⟨lw_r4, List.forall_mem_append.mpr ⟨lw_r5, List.forall_mem_append.mpr ⟨lw_r6, lw_r7⟩⟩⟩⟩⟩⟩
/-- the streams that the claim lets the run draw from -/
abbrev lw_cs : List Choice := [Jvm.Choice.named "NaN.bits"]
theorem lw_bits : nanBits ∈ lw_cs := by first | decide | exact List.mem_cons_self | simp [lw_cs, nanBits]

/-- the words that stay as the tables are warmed -/
def gw : List Cond := lw_tbl.filter goodWord
theorem gw_in {w : Cond} (h : w ∈ tables_1) (hg : goodWord w = true) : w ∈ gw := List.mem_filter.mpr ⟨List.mem_append_right _ h, hg⟩
theorem gw_sel {w : Cond} (h : w ∈ k2_sels lw_privs) (hg : goodWord w = true) : w ∈ gw := List.mem_filter.mpr ⟨List.mem_append_left _ h, hg⟩
theorem gw_good {w : Cond} (h : w ∈ gw) : (w.onTables && w.keeps) = true ∨ ∃ ty, w = .arrayClass ty := good_of_word (List.mem_filter.mp h).2
theorem gw_tbl {w : Cond} (h : w ∈ gw) : w ∈ lw_tbl := (List.mem_filter.mp h).1
end
section
def RX0 : String := "PairPacker$Codes"
def TX0 : u_T := fun k => match k with
  | 0 => ("PairPacker$Codes", "weights", "[I", true)
  | 1 => ("PairPacker$Codes", "groups", "[I", true)
  | 2 => ("PairPacker$Codes", "groupWeights", "[I", true)
  | 3 => ("PairPacker$Codes", "lengths", "[I", true)
  | 4 => ("PairPacker$Codes", "codes", "[I", true)
  | _ => ("PairPacker$Codes", "order", "LPairPacker$Row;", true)
def tyX0 : Nat → FieldType := fun k => match k with
  | 0 => .array .int
  | 1 => .array .int
  | 2 => .array .int
  | 3 => .array .int
  | 4 => .array .int
  | _ => .object "PairPacker$Row"
abbrev wsX00 : List Cond := u_ws RX0 TX0 6
theorem nmX0 : ∀ a, a < 6 → ∀ b, b < 6 → a ≠ b → (TX0 a).2.1 ≠ (TX0 b).2.1 := by decide +kernel
theorem tyX0_ok : ∀ k, k < 6 → parseFieldDescriptor (TX0 k).2.2.1 = some (tyX0 k) := by decide +kernel
abbrev cX0_init : ByteArray := prog_2_method_1_code
def yX0_init : MethodName := ⟨RX0, "<init>", "()V"⟩
abbrev cX0_make : ByteArray := prog_2_method_2_code
def yX0_make : MethodName := ⟨RX0, "make", "(LPairPacker$Row;)V"⟩
abbrev cX0_lengthOf : ByteArray := prog_2_method_3_code
def yX0_lengthOf : MethodName := ⟨RX0, "lengthOf", "(I)I"⟩
abbrev cX0_codeOf : ByteArray := prog_2_method_4_code
def yX0_codeOf : MethodName := ⟨RX0, "codeOf", "(I)I"⟩
abbrev cX0_signAt : ByteArray := prog_2_method_5_code
def yX0_signAt : MethodName := ⟨RX0, "signAt", "(I)I"⟩
abbrev cX0_allBits : ByteArray := prog_2_method_6_code
def yX0_allBits : MethodName := ⟨RX0, "allBits", "()I"⟩
abbrev cX0_weigh : ByteArray := prog_2_method_7_code
def yX0_weigh : MethodName := ⟨RX0, "weigh", "(LPairPacker$Row;)I"⟩
abbrev cX0_lightestBut : ByteArray := prog_2_method_8_code
def yX0_lightestBut : MethodName := ⟨RX0, "lightestBut", "(I)I"⟩
abbrev cX0_putTwoTogether : ByteArray := prog_2_method_9_code
def yX0_putTwoTogether : MethodName := ⟨RX0, "putTwoTogether", "()V"⟩
abbrev cX0_lengthenGroup : ByteArray := prog_2_method_10_code
def yX0_lengthenGroup : MethodName := ⟨RX0, "lengthenGroup", "(I)V"⟩
abbrev cX0_putInOrder : ByteArray := prog_2_method_11_code
def yX0_putInOrder : MethodName := ⟨RX0, "putInOrder", "()V"⟩
abbrev cX0_number : ByteArray := prog_2_method_12_code
def yX0_number : MethodName := ⟨RX0, "number", "()V"⟩
def RX1 : String := "PairPacker$FormReader"
def TX1 : u_T := fun k => match k with
  | 0 => ("PairPacker$FormReader", "packing", "LPairPacker$Packing;", true)
  | 1 => ("PairPacker$FormReader", "letters", "[I", true)
  | 2 => ("PairPacker$FormReader", "bytes", "LPairPacker$Row;", false)
  | 3 => ("PairPacker$FormReader", "end", "I", false)
  | 4 => ("PairPacker$FormReader", "next", "I", false)
  | 5 => ("PairPacker$FormReader", "kind", "I", false)
  | _ => ("PairPacker$FormReader", "place", "I", false)
def tyX1 : Nat → FieldType := fun k => match k with
  | 0 => .object "PairPacker$Packing"
  | 1 => .array .int
  | 2 => .object "PairPacker$Row"
  | 3 => .int
  | 4 => .int
  | 5 => .int
  | _ => .int
abbrev wsX10 : List Cond := u_ws RX1 TX1 7
theorem nmX1 : ∀ a, a < 7 → ∀ b, b < 7 → a ≠ b → (TX1 a).2.1 ≠ (TX1 b).2.1 := by decide +kernel
theorem tyX1_ok : ∀ k, k < 7 → parseFieldDescriptor (TX1 k).2.2.1 = some (tyX1 k) := by decide +kernel
abbrev cX1_init : ByteArray := prog_3_method_1_code
def yX1_init : MethodName := ⟨RX1, "<init>", "()V"⟩
abbrev cX1_readFrom : ByteArray := prog_3_method_2_code
def yX1_readFrom : MethodName := ⟨RX1, "readFrom", "(LPairPacker$Row;I)V"⟩
abbrev cX1_faultKind : ByteArray := prog_3_method_3_code
def yX1_faultKind : MethodName := ⟨RX1, "faultKind", "()I"⟩
abbrev cX1_faultPlace : ByteArray := prog_3_method_4_code
def yX1_faultPlace : MethodName := ⟨RX1, "faultPlace", "()I"⟩
abbrev cX1_packing : ByteArray := prog_3_method_5_code
def yX1_packing : MethodName := ⟨RX1, "packing", "()LPairPacker$Packing;"⟩
abbrev cX1_start : ByteArray := prog_3_method_6_code
def yX1_start : MethodName := ⟨RX1, "start", "(LPairPacker$Row;I)V"⟩
abbrev cX1_isWhole : ByteArray := prog_3_method_7_code
def yX1_isWhole : MethodName := ⟨RX1, "isWhole", "()Z"⟩
abbrev cX1_nextByte : ByteArray := prog_3_method_8_code
def yX1_nextByte : MethodName := ⟨RX1, "nextByte", "()I"⟩
abbrev cX1_blame : ByteArray := prog_3_method_9_code
def yX1_blame : MethodName := ⟨RX1, "blame", "(I)V"⟩
abbrev cX1_lettersOf : ByteArray := prog_3_method_10_code
def yX1_lettersOf : MethodName := ⟨RX1, "lettersOf", "(I)I"⟩
abbrev cX1_readRule : ByteArray := prog_3_method_11_code
def yX1_readRule : MethodName := ⟨RX1, "readRule", "()V"⟩
abbrev cX1_readSequence : ByteArray := prog_3_method_12_code
def yX1_readSequence : MethodName := ⟨RX1, "readSequence", "()V"⟩
abbrev cX1_readRow : ByteArray := prog_3_method_13_code
def yX1_readRow : MethodName := ⟨RX1, "readRow", "(LPairPacker$Row;I)I"⟩
def RX2 : String := "PairPacker$Packing"
def TX2 : u_T := fun k => match k with
  | 0 => ("PairPacker$Packing", "sequence", "LPairPacker$Row;", true)
  | 1 => ("PairPacker$Packing", "rules", "[LPairPacker$Row;", true)
  | _ => ("PairPacker$Packing", "noRow", "LPairPacker$Row;", true)
def tyX2 : Nat → FieldType := fun k => match k with
  | 0 => .object "PairPacker$Row"
  | 1 => .array (.object "PairPacker$Row")
  | _ => .object "PairPacker$Row"
abbrev wsX20 : List Cond := u_ws RX2 TX2 3
theorem nmX2 : ∀ a, a < 3 → ∀ b, b < 3 → a ≠ b → (TX2 a).2.1 ≠ (TX2 b).2.1 := by decide +kernel
theorem tyX2_ok : ∀ k, k < 3 → parseFieldDescriptor (TX2 k).2.2.1 = some (tyX2 k) := by decide +kernel
abbrev cX2_init : ByteArray := prog_4_method_1_code
def yX2_init : MethodName := ⟨RX2, "<init>", "()V"⟩
abbrev cX2_sequence : ByteArray := prog_4_method_2_code
def yX2_sequence : MethodName := ⟨RX2, "sequence", "()LPairPacker$Row;"⟩
abbrev cX2_rowOf : ByteArray := prog_4_method_3_code
def yX2_rowOf : MethodName := ⟨RX2, "rowOf", "(I)LPairPacker$Row;"⟩
abbrev cX2_isRule : ByteArray := prog_4_method_4_code
def yX2_isRule : MethodName := ⟨RX2, "isRule", "(I)Z"⟩
abbrev cX2_has : ByteArray := prog_4_method_5_code
def yX2_has : MethodName := ⟨RX2, "has", "(I)Z"⟩
abbrev cX2_clear : ByteArray := prog_4_method_6_code
def yX2_clear : MethodName := ⟨RX2, "clear", "()V"⟩
abbrev cX2_take : ByteArray := prog_4_method_7_code
def yX2_take : MethodName := ⟨RX2, "take", "(LPairPacker$Packing;)V"⟩
abbrev cX2_ruleCount : ByteArray := prog_4_method_8_code
def yX2_ruleCount : MethodName := ⟨RX2, "ruleCount", "()I"⟩
abbrev cX2_size : ByteArray := prog_4_method_9_code
def yX2_size : MethodName := ⟨RX2, "size", "()I"⟩
abbrev cX2_usesOf : ByteArray := prog_4_method_10_code
def yX2_usesOf : MethodName := ⟨RX2, "usesOf", "(I)I"⟩
abbrev cX2_freeSign : ByteArray := prog_4_method_11_code
def yX2_freeSign : MethodName := ⟨RX2, "freeSign", "()I"⟩
abbrev cX2_ruleOf : ByteArray := prog_4_method_12_code
def yX2_ruleOf : MethodName := ⟨RX2, "ruleOf", "(II)I"⟩
abbrev cX2_signFor : ByteArray := prog_4_method_13_code
def yX2_signFor : MethodName := ⟨RX2, "signFor", "(II)I"⟩
abbrev cX2_joinPair : ByteArray := prog_4_method_14_code
def yX2_joinPair : MethodName := ⟨RX2, "joinPair", "(II)I"⟩
abbrev cX2_canGiveUp : ByteArray := prog_4_method_15_code
def yX2_canGiveUp : MethodName := ⟨RX2, "canGiveUp", "(I)Z"⟩
abbrev cX2_giveUp : ByteArray := prog_4_method_16_code
def yX2_giveUp : MethodName := ⟨RX2, "giveUp", "(I)V"⟩
abbrev cX2_leastIdle : ByteArray := prog_4_method_17_code
def yX2_leastIdle : MethodName := ⟨RX2, "leastIdle", "()I"⟩
abbrev cX2_open : ByteArray := prog_4_method_18_code
def yX2_open : MethodName := ⟨RX2, "open", "(ILPairPacker$Words;)I"⟩
def RX3 : String := "PairPacker$PairTable"
def TX3 : u_T := fun k => match k with
  | 0 => ("PairPacker$PairTable", "counts", "[I", true)
  | _ => ("PairPacker$PairTable", "standing", "LPairPacker$Row;", true)
def tyX3 : Nat → FieldType := fun k => match k with
  | 0 => .array .int
  | _ => .object "PairPacker$Row"
abbrev wsX30 : List Cond := u_ws RX3 TX3 2
theorem nmX3 : ∀ a, a < 2 → ∀ b, b < 2 → a ≠ b → (TX3 a).2.1 ≠ (TX3 b).2.1 := by decide +kernel
theorem tyX3_ok : ∀ k, k < 2 → parseFieldDescriptor (TX3 k).2.2.1 = some (tyX3 k) := by decide +kernel
abbrev cX3_init : ByteArray := prog_5_method_1_code
def yX3_init : MethodName := ⟨RX3, "<init>", "()V"⟩
abbrev cX3_pairOf : ByteArray := prog_5_method_2_code
def yX3_pairOf : MethodName := ⟨RX3, "pairOf", "(II)I"⟩
abbrev cX3_leftOf : ByteArray := prog_5_method_3_code
def yX3_leftOf : MethodName := ⟨RX3, "leftOf", "(I)I"⟩
abbrev cX3_rightOf : ByteArray := prog_5_method_4_code
def yX3_rightOf : MethodName := ⟨RX3, "rightOf", "(I)I"⟩
abbrev cX3_tally : ByteArray := prog_5_method_5_code
def yX3_tally : MethodName := ⟨RX3, "tally", "(LPairPacker$Row;)V"⟩
abbrev cX3_kinds : ByteArray := prog_5_method_6_code
def yX3_kinds : MethodName := ⟨RX3, "kinds", "()I"⟩
abbrev cX3_pairAt : ByteArray := prog_5_method_7_code
def yX3_pairAt : MethodName := ⟨RX3, "pairAt", "(I)I"⟩
abbrev cX3_countOf : ByteArray := prog_5_method_8_code
def yX3_countOf : MethodName := ⟨RX3, "countOf", "(II)I"⟩
abbrev cX3_countOfPair : ByteArray := prog_5_method_9_code
def yX3_countOfPair : MethodName := ⟨RX3, "countOfPair", "(I)I"⟩
abbrev cX3_ranked : ByteArray := prog_5_method_10_code
def yX3_ranked : MethodName := ⟨RX3, "ranked", "(I)I"⟩
abbrev cX3_nextBehind : ByteArray := prog_5_method_11_code
def yX3_nextBehind : MethodName := ⟨RX3, "nextBehind", "(I)I"⟩
abbrev cX3_isAhead : ByteArray := prog_5_method_12_code
def yX3_isAhead : MethodName := ⟨RX3, "isAhead", "(II)Z"⟩
abbrev cX3_addOne : ByteArray := prog_5_method_13_code
def yX3_addOne : MethodName := ⟨RX3, "addOne", "(I)V"⟩
abbrev cX3_forget : ByteArray := prog_5_method_14_code
def yX3_forget : MethodName := ⟨RX3, "forget", "()V"⟩
def RX4 : String := "PairPacker$Past"
def TX4 : u_T := fun k => match k with
  | 0 => ("PairPacker$Past", "kept", "[LPairPacker$Packing;", true)
  | 1 => ("PairPacker$Past", "next", "I", false)
  | _ => ("PairPacker$Past", "size", "I", false)
def tyX4 : Nat → FieldType := fun k => match k with
  | 0 => .array (.object "PairPacker$Packing")
  | 1 => .int
  | _ => .int
abbrev wsX40 : List Cond := u_ws RX4 TX4 3
theorem nmX4 : ∀ a, a < 3 → ∀ b, b < 3 → a ≠ b → (TX4 a).2.1 ≠ (TX4 b).2.1 := by decide +kernel
theorem tyX4_ok : ∀ k, k < 3 → parseFieldDescriptor (TX4 k).2.2.1 = some (tyX4 k) := by decide +kernel
abbrev cX4_init : ByteArray := prog_6_method_1_code
def yX4_init : MethodName := ⟨RX4, "<init>", "()V"⟩
abbrev cX4_size : ByteArray := prog_6_method_2_code
def yX4_size : MethodName := ⟨RX4, "size", "()I"⟩
abbrev cX4_forget : ByteArray := prog_6_method_3_code
def yX4_forget : MethodName := ⟨RX4, "forget", "()V"⟩
abbrev cX4_keep : ByteArray := prog_6_method_4_code
def yX4_keep : MethodName := ⟨RX4, "keep", "(LPairPacker$Packing;)V"⟩
abbrev cX4_goBack : ByteArray := prog_6_method_5_code
def yX4_goBack : MethodName := ⟨RX4, "goBack", "(ILPairPacker$Packing;)V"⟩
def RX5 : String := "PairPacker$Reading"
def TX5 : u_T := fun k => match k with
  | 0 => ("PairPacker$Reading", "letters", "LPairPacker$Row;", true)
  | 1 => ("PairPacker$Reading", "homes", "LPairPacker$Row;", true)
  | 2 => ("PairPacker$Reading", "begins", "LPairPacker$Row;", true)
  | 3 => ("PairPacker$Reading", "depths", "LPairPacker$Row;", true)
  | 4 => ("PairPacker$Reading", "alike", "[I", true)
  | 5 => ("PairPacker$Reading", "longest", "I", false)
  | _ => ("PairPacker$Reading", "longestAt", "I", false)
def tyX5 : Nat → FieldType := fun k => match k with
  | 0 => .object "PairPacker$Row"
  | 1 => .object "PairPacker$Row"
  | 2 => .object "PairPacker$Row"
  | 3 => .object "PairPacker$Row"
  | 4 => .array .int
  | 5 => .int
  | _ => .int
abbrev wsX50 : List Cond := u_ws RX5 TX5 7
theorem nmX5 : ∀ a, a < 7 → ∀ b, b < 7 → a ≠ b → (TX5 a).2.1 ≠ (TX5 b).2.1 := by decide +kernel
theorem tyX5_ok : ∀ k, k < 7 → parseFieldDescriptor (TX5 k).2.2.1 = some (tyX5 k) := by decide +kernel
abbrev cX5_init : ByteArray := prog_7_method_1_code
def yX5_init : MethodName := ⟨RX5, "<init>", "()V"⟩
abbrev cX5_readRow : ByteArray := prog_7_method_2_code
def yX5_readRow : MethodName := ⟨RX5, "readRow", "(LPairPacker$Row;LPairPacker$Packing;LPairPacker$Words;)V"⟩
abbrev cX5_size : ByteArray := prog_7_method_3_code
def yX5_size : MethodName := ⟨RX5, "size", "()I"⟩
abbrev cX5_hasPlace : ByteArray := prog_7_method_4_code
def yX5_hasPlace : MethodName := ⟨RX5, "hasPlace", "(I)Z"⟩
abbrev cX5_letterAt : ByteArray := prog_7_method_5_code
def yX5_letterAt : MethodName := ⟨RX5, "letterAt", "(I)I"⟩
abbrev cX5_homeAt : ByteArray := prog_7_method_6_code
def yX5_homeAt : MethodName := ⟨RX5, "homeAt", "(I)I"⟩
abbrev cX5_beginAt : ByteArray := prog_7_method_7_code
def yX5_beginAt : MethodName := ⟨RX5, "beginAt", "(I)I"⟩
abbrev cX5_depthAt : ByteArray := prog_7_method_8_code
def yX5_depthAt : MethodName := ⟨RX5, "depthAt", "(I)I"⟩
abbrev cX5_depthSum : ByteArray := prog_7_method_9_code
def yX5_depthSum : MethodName := ⟨RX5, "depthSum", "()I"⟩
abbrev cX5_alikeFrom : ByteArray := prog_7_method_10_code
def yX5_alikeFrom : MethodName := ⟨RX5, "alikeFrom", "(II)I"⟩
abbrev cX5_seekTwice : ByteArray := prog_7_method_11_code
def yX5_seekTwice : MethodName := ⟨RX5, "seekTwice", "()V"⟩
abbrev cX5_longestTwice : ByteArray := prog_7_method_12_code
def yX5_longestTwice : MethodName := ⟨RX5, "longestTwice", "()I"⟩
abbrev cX5_twiceAt : ByteArray := prog_7_method_13_code
def yX5_twiceAt : MethodName := ⟨RX5, "twiceAt", "()I"⟩
abbrev cX5_hitsOf : ByteArray := prog_7_method_14_code
def yX5_hitsOf : MethodName := ⟨RX5, "hitsOf", "(LPairPacker$Row;)I"⟩
abbrev cX5_crossingsOf : ByteArray := prog_7_method_15_code
def yX5_crossingsOf : MethodName := ⟨RX5, "crossingsOf", "(LPairPacker$Row;)I"⟩
abbrev cX5_hitAt : ByteArray := prog_7_method_16_code
def yX5_hitAt : MethodName := ⟨RX5, "hitAt", "(LPairPacker$Row;I)I"⟩
abbrev cX5_isHit : ByteArray := prog_7_method_17_code
def yX5_isHit : MethodName := ⟨RX5, "isHit", "(LPairPacker$Row;I)Z"⟩
def RX6 : String := "PairPacker$Row"
def TX6 : u_T := fun k => match k with
  | 0 => ("PairPacker$Row", "items", "[I", true)
  | _ => ("PairPacker$Row", "size", "I", false)
def tyX6 : Nat → FieldType := fun k => match k with
  | 0 => .array .int
  | _ => .int
abbrev wsX60 : List Cond := u_ws RX6 TX6 2
theorem nmX6 : ∀ a, a < 2 → ∀ b, b < 2 → a ≠ b → (TX6 a).2.1 ≠ (TX6 b).2.1 := by decide +kernel
theorem tyX6_ok : ∀ k, k < 2 → parseFieldDescriptor (TX6 k).2.2.1 = some (tyX6 k) := by decide +kernel
abbrev cX6_init : ByteArray := prog_8_method_1_code
def yX6_init : MethodName := ⟨RX6, "<init>", "(I)V"⟩
abbrev cX6_size : ByteArray := prog_8_method_2_code
def yX6_size : MethodName := ⟨RX6, "size", "()I"⟩
abbrev cX6_get : ByteArray := prog_8_method_3_code
def yX6_get : MethodName := ⟨RX6, "get", "(I)I"⟩
abbrev cX6_set : ByteArray := prog_8_method_4_code
def yX6_set : MethodName := ⟨RX6, "set", "(II)V"⟩
abbrev cX6_clear : ByteArray := prog_8_method_5_code
def yX6_clear : MethodName := ⟨RX6, "clear", "()V"⟩
abbrev cX6_add : ByteArray := prog_8_method_6_code
def yX6_add : MethodName := ⟨RX6, "add", "(I)V"⟩
abbrev cX6_addAt : ByteArray := prog_8_method_7_code
def yX6_addAt : MethodName := ⟨RX6, "addAt", "(II)V"⟩
abbrev cX6_removeFrom : ByteArray := prog_8_method_8_code
def yX6_removeFrom : MethodName := ⟨RX6, "removeFrom", "(II)V"⟩
abbrev cX6_take : ByteArray := prog_8_method_9_code
def yX6_take : MethodName := ⟨RX6, "take", "(LPairPacker$Row;)V"⟩
abbrev cX6_howMany : ByteArray := prog_8_method_10_code
def yX6_howMany : MethodName := ⟨RX6, "howMany", "(I)I"⟩
abbrev cX6_isPair : ByteArray := prog_8_method_11_code
def yX6_isPair : MethodName := ⟨RX6, "isPair", "(II)Z"⟩
abbrev cX6_joinPairs : ByteArray := prog_8_method_12_code
def yX6_joinPairs : MethodName := ⟨RX6, "joinPairs", "(III)V"⟩
abbrev cX6_spreadAll : ByteArray := prog_8_method_13_code
def yX6_spreadAll : MethodName := ⟨RX6, "spreadAll", "(ILPairPacker$Row;)V"⟩
abbrev cX6_spreadAt : ByteArray := prog_8_method_14_code
def yX6_spreadAt : MethodName := ⟨RX6, "spreadAt", "(ILPairPacker$Row;)V"⟩
abbrev cX6_moveTail : ByteArray := prog_8_method_15_code
def yX6_moveTail : MethodName := ⟨RX6, "moveTail", "(II)V"⟩
def RX7 : String := "PairPacker$Search"
def TX7 : u_T := fun k => match k with
  | 0 => ("PairPacker$Search", "first", "LPairPacker$PairTable;", true)
  | 1 => ("PairPacker$Search", "second", "LPairPacker$PairTable;", true)
  | 2 => ("PairPacker$Search", "hasRule", "[Z", true)
  | _ => ("PairPacker$Search", "trial", "LPairPacker$Row;", true)
def tyX7 : Nat → FieldType := fun k => match k with
  | 0 => .object "PairPacker$PairTable"
  | 1 => .object "PairPacker$PairTable"
  | 2 => .array .boolean
  | _ => .object "PairPacker$Row"
abbrev wsX70 : List Cond := u_ws RX7 TX7 4
theorem nmX7 : ∀ a, a < 4 → ∀ b, b < 4 → a ≠ b → (TX7 a).2.1 ≠ (TX7 b).2.1 := by decide +kernel
theorem tyX7_ok : ∀ k, k < 4 → parseFieldDescriptor (TX7 k).2.2.1 = some (tyX7 k) := by decide +kernel
abbrev cX7_init : ByteArray := prog_9_method_1_code
def yX7_init : MethodName := ⟨RX7, "<init>", "()V"⟩
abbrev cX7_leastSize : ByteArray := prog_9_method_2_code
def yX7_leastSize : MethodName := ⟨RX7, "leastSize", "(LPairPacker$Packing;I)I"⟩
abbrev cX7_markRules : ByteArray := prog_9_method_3_code
def yX7_markRules : MethodName := ⟨RX7, "markRules", "(LPairPacker$Packing;Z)V"⟩
abbrev cX7_isRuled : ByteArray := prog_9_method_4_code
def yX7_isRuled : MethodName := ⟨RX7, "isRuled", "(I)Z"⟩
abbrev cX7_gainOf : ByteArray := prog_9_method_5_code
def yX7_gainOf : MethodName := ⟨RX7, "gainOf", "(LPairPacker$PairTable;I)I"⟩
abbrev cX7_greatestGain : ByteArray := prog_9_method_6_code
def yX7_greatestGain : MethodName := ⟨RX7, "greatestGain", "(LPairPacker$PairTable;I)I"⟩
abbrev cX7_leastBehind : ByteArray := prog_9_method_7_code
def yX7_leastBehind : MethodName := ⟨RX7, "leastBehind", "(LPairPacker$Packing;III)I"⟩
def RX8 : String := "PairPacker$Words"
def TX8 : u_T := fun k => match k with
  | 0 => ("PairPacker$Words", "letters", "[I", true)
  | 1 => ("PairPacker$Words", "depths", "[I", true)
  | 2 => ("PairPacker$Words", "order", "LPairPacker$Row;", true)
  | 3 => ("PairPacker$Words", "reached", "I", false)
  | _ => ("PairPacker$Words", "levels", "I", false)
def tyX8 : Nat → FieldType := fun k => match k with
  | 0 => .array .int
  | 1 => .array .int
  | 2 => .object "PairPacker$Row"
  | 3 => .int
  | _ => .int
abbrev wsX80 : List Cond := u_ws RX8 TX8 5
theorem nmX8 : ∀ a, a < 5 → ∀ b, b < 5 → a ≠ b → (TX8 a).2.1 ≠ (TX8 b).2.1 := by decide +kernel
theorem tyX8_ok : ∀ k, k < 5 → parseFieldDescriptor (TX8 k).2.2.1 = some (tyX8 k) := by decide +kernel
abbrev cX8_init : ByteArray := prog_10_method_1_code
def yX8_init : MethodName := ⟨RX8, "<init>", "()V"⟩
abbrev cX8_learn : ByteArray := prog_10_method_2_code
def yX8_learn : MethodName := ⟨RX8, "learn", "(LPairPacker$Packing;)V"⟩
abbrev cX8_told : ByteArray := prog_10_method_3_code
def yX8_told : MethodName := ⟨RX8, "told", "()I"⟩
abbrev cX8_toldAt : ByteArray := prog_10_method_4_code
def yX8_toldAt : MethodName := ⟨RX8, "toldAt", "(I)I"⟩
abbrev cX8_lettersOf : ByteArray := prog_10_method_5_code
def yX8_lettersOf : MethodName := ⟨RX8, "lettersOf", "(I)I"⟩
abbrev cX8_depthOf : ByteArray := prog_10_method_6_code
def yX8_depthOf : MethodName := ⟨RX8, "depthOf", "(I)I"⟩
abbrev cX8_goDown : ByteArray := prog_10_method_7_code
def yX8_goDown : MethodName := ⟨RX8, "goDown", "(LPairPacker$Packing;III)V"⟩
abbrev cX8_reached : ByteArray := prog_10_method_8_code
def yX8_reached : MethodName := ⟨RX8, "reached", "()I"⟩
abbrev cX8_levelsGone : ByteArray := prog_10_method_9_code
def yX8_levelsGone : MethodName := ⟨RX8, "levelsGone", "()I"⟩
abbrev cX8_leastReady : ByteArray := prog_10_method_10_code
def yX8_leastReady : MethodName := ⟨RX8, "leastReady", "(LPairPacker$Packing;)I"⟩
abbrev cX8_isReady : ByteArray := prog_10_method_11_code
def yX8_isReady : MethodName := ⟨RX8, "isReady", "(LPairPacker$Row;)Z"⟩
abbrev cX8_tell : ByteArray := prog_10_method_12_code
def yX8_tell : MethodName := ⟨RX8, "tell", "(ILPairPacker$Row;)V"⟩
def RX9 : String := "PairPacker"
def TX9 : u_T := fun k => match k with
  | 0 => ("PairPacker", "packing", "LPairPacker$Packing;", true)
  | 1 => ("PairPacker", "past", "LPairPacker$Past;", true)
  | 2 => ("PairPacker", "images", "[LPairPacker$Packing;", true)
  | 3 => ("PairPacker", "imageMade", "[Z", true)
  | 4 => ("PairPacker", "tape", "LPairPacker$Row;", true)
  | 5 => ("PairPacker", "sought", "LPairPacker$Row;", true)
  | 6 => ("PairPacker", "formReader", "LPairPacker$FormReader;", true)
  | 7 => ("PairPacker", "faultKind", "I", false)
  | 8 => ("PairPacker", "faultPlace", "I", false)
  | 9 => ("PairPacker", "words", "LPairPacker$Words;", true)
  | 10 => ("PairPacker", "reading", "LPairPacker$Reading;", true)
  | 11 => ("PairPacker", "isRead", "Z", false)
  | 12 => ("PairPacker", "oneSign", "LPairPacker$Row;", true)
  | 13 => ("PairPacker", "wordReading", "LPairPacker$Reading;", true)
  | 14 => ("PairPacker", "pairTable", "LPairPacker$PairTable;", true)
  | 15 => ("PairPacker", "search", "LPairPacker$Search;", true)
  | 16 => ("PairPacker", "codes", "LPairPacker$Codes;", true)
  | _ => ("PairPacker", "formBytes", "LPairPacker$Row;", true)
def tyX9 : Nat → FieldType := fun k => match k with
  | 0 => .object "PairPacker$Packing"
  | 1 => .object "PairPacker$Past"
  | 2 => .array (.object "PairPacker$Packing")
  | 3 => .array .boolean
  | 4 => .object "PairPacker$Row"
  | 5 => .object "PairPacker$Row"
  | 6 => .object "PairPacker$FormReader"
  | 7 => .int
  | 8 => .int
  | 9 => .object "PairPacker$Words"
  | 10 => .object "PairPacker$Reading"
  | 11 => .boolean
  | 12 => .object "PairPacker$Row"
  | 13 => .object "PairPacker$Reading"
  | 14 => .object "PairPacker$PairTable"
  | 15 => .object "PairPacker$Search"
  | 16 => .object "PairPacker$Codes"
  | _ => .object "PairPacker$Row"
abbrev wsX90 : List Cond := u_ws RX9 TX9 18
theorem nmX9 : ∀ a, a < 18 → ∀ b, b < 18 → a ≠ b → (TX9 a).2.1 ≠ (TX9 b).2.1 := by decide +kernel
theorem tyX9_ok : ∀ k, k < 18 → parseFieldDescriptor (TX9 k).2.2.1 = some (tyX9 k) := by decide +kernel
abbrev cX9_init : ByteArray := prog_1_method_1_code
def yX9_init : MethodName := ⟨RX9, "<init>", "()V"⟩
abbrev cX9_feed : ByteArray := prog_1_method_2_code
def yX9_feed : MethodName := ⟨RX9, "feed", "(IIIII)I"⟩
abbrev cX9_text : ByteArray := prog_1_method_3_code
def yX9_text : MethodName := ⟨RX9, "text", "(I)I"⟩
abbrev cX9_phrase : ByteArray := prog_1_method_4_code
def yX9_phrase : MethodName := ⟨RX9, "phrase", "(I)I"⟩
abbrev cX9_load : ByteArray := prog_1_method_5_code
def yX9_load : MethodName := ⟨RX9, "load", "(I)I"⟩
abbrev cX9_fault : ByteArray := prog_1_method_6_code
def yX9_fault : MethodName := ⟨RX9, "fault", "(I)I"⟩
abbrev cX9_step : ByteArray := prog_1_method_7_code
def yX9_step : MethodName := ⟨RX9, "step", "()I"⟩
abbrev cX9_pack : ByteArray := prog_1_method_8_code
def yX9_pack : MethodName := ⟨RX9, "pack", "()I"⟩
abbrev cX9_replace : ByteArray := prog_1_method_9_code
def yX9_replace : MethodName := ⟨RX9, "replace", "(II)I"⟩
abbrev cX9_drop : ByteArray := prog_1_method_10_code
def yX9_drop : MethodName := ⟨RX9, "drop", "(I)I"⟩
abbrev cX9_trim : ByteArray := prog_1_method_11_code
def yX9_trim : MethodName := ⟨RX9, "trim", "()I"⟩
abbrev cX9_unpack : ByteArray := prog_1_method_12_code
def yX9_unpack : MethodName := ⟨RX9, "unpack", "()I"⟩
abbrev cX9_put : ByteArray := prog_1_method_13_code
def yX9_put : MethodName := ⟨RX9, "put", "(II)I"⟩
abbrev cX9_cut : ByteArray := prog_1_method_14_code
def yX9_cut : MethodName := ⟨RX9, "cut", "(II)I"⟩
abbrev cX9_insert : ByteArray := prog_1_method_15_code
def yX9_insert : MethodName := ⟨RX9, "insert", "(II)I"⟩
abbrev cX9_sign : ByteArray := prog_1_method_16_code
def yX9_sign : MethodName := ⟨RX9, "sign", "(I)I"⟩
abbrev cX9_rule : ByteArray := prog_1_method_17_code
def yX9_rule : MethodName := ⟨RX9, "rule", "(II)I"⟩
abbrev cX9_word : ByteArray := prog_1_method_18_code
def yX9_word : MethodName := ⟨RX9, "word", "(II)I"⟩
abbrev cX9_pairs : ByteArray := prog_1_method_19_code
def yX9_pairs : MethodName := ⟨RX9, "pairs", "(II)I"⟩
abbrev cX9_pick : ByteArray := prog_1_method_20_code
def yX9_pick : MethodName := ⟨RX9, "pick", "(I)I"⟩
abbrev cX9_at : ByteArray := prog_1_method_21_code
def yX9_at : MethodName := ⟨RX9, "at", "(I)I"⟩
abbrev cX9_within : ByteArray := prog_1_method_22_code
def yX9_within : MethodName := ⟨RX9, "within", "(II)I"⟩
abbrev cX9_way : ByteArray := prog_1_method_23_code
def yX9_way : MethodName := ⟨RX9, "way", "(II)I"⟩
abbrev cX9_ahead : ByteArray := prog_1_method_24_code
def yX9_ahead : MethodName := ⟨RX9, "ahead", "(II)I"⟩
abbrev cX9_where : ByteArray := prog_1_method_25_code
def yX9_where : MethodName := ⟨RX9, "where", "(II)I"⟩
abbrev cX9_common : ByteArray := prog_1_method_26_code
def yX9_common : MethodName := ⟨RX9, "common", "(II)I"⟩
abbrev cX9_compare : ByteArray := prog_1_method_27_code
def yX9_compare : MethodName := ⟨RX9, "compare", "(II)I"⟩
abbrev cX9_print : ByteArray := prog_1_method_28_code
def yX9_print : MethodName := ⟨RX9, "print", "(II)I"⟩
abbrev cX9_repeat : ByteArray := prog_1_method_29_code
def yX9_repeat : MethodName := ⟨RX9, "repeat", "()I"⟩
abbrev cX9_repeatAt : ByteArray := prog_1_method_30_code
def yX9_repeatAt : MethodName := ⟨RX9, "repeatAt", "()I"⟩
abbrev cX9_hit : ByteArray := prog_1_method_31_code
def yX9_hit : MethodName := ⟨RX9, "hit", "(I)I"⟩
abbrev cX9_hits : ByteArray := prog_1_method_32_code
def yX9_hits : MethodName := ⟨RX9, "hits", "(I)I"⟩
abbrev cX9_gain : ByteArray := prog_1_method_33_code
def yX9_gain : MethodName := ⟨RX9, "gain", "(II)I"⟩
abbrev cX9_best : ByteArray := prog_1_method_34_code
def yX9_best : MethodName := ⟨RX9, "best", "(I)I"⟩
abbrev cX9_bits : ByteArray := prog_1_method_35_code
def yX9_bits : MethodName := ⟨RX9, "bits", "(I)I"⟩
abbrev cX9_form : ByteArray := prog_1_method_36_code
def yX9_form : MethodName := ⟨RX9, "form", "(I)I"⟩
abbrev cX9_code : ByteArray := prog_1_method_37_code
def yX9_code : MethodName := ⟨RX9, "code", "(II)I"⟩
abbrev cX9_coded : ByteArray := prog_1_method_38_code
def yX9_coded : MethodName := ⟨RX9, "coded", "(I)I"⟩
abbrev cX9_undo : ByteArray := prog_1_method_39_code
def yX9_undo : MethodName := ⟨RX9, "undo", "(I)I"⟩
abbrev cX9_image : ByteArray := prog_1_method_40_code
def yX9_image : MethodName := ⟨RX9, "image", "(I)I"⟩
abbrev cX9_restore : ByteArray := prog_1_method_41_code
def yX9_restore : MethodName := ⟨RX9, "restore", "(I)I"⟩
abbrev cX9_count : ByteArray := prog_1_method_42_code
def yX9_count : MethodName := ⟨RX9, "count", "(I)I"⟩
abbrev cX9_isLetter : ByteArray := prog_1_method_43_code
def yX9_isLetter : MethodName := ⟨RX9, "isLetter", "(I)Z"⟩
abbrev cX9_read : ByteArray := prog_1_method_44_code
def yX9_read : MethodName := ⟨RX9, "read", "()V"⟩
abbrev cX9_letterCount : ByteArray := prog_1_method_45_code
def yX9_letterCount : MethodName := ⟨RX9, "letterCount", "()I"⟩
abbrev cX9_isStretch : ByteArray := prog_1_method_46_code
def yX9_isStretch : MethodName := ⟨RX9, "isStretch", "(II)Z"⟩
abbrev cX9_feedOne : ByteArray := prog_1_method_47_code
def yX9_feedOne : MethodName := ⟨RX9, "feedOne", "(I)V"⟩
abbrev cX9_isOnTape : ByteArray := prog_1_method_48_code
def yX9_isOnTape : MethodName := ⟨RX9, "isOnTape", "(I)Z"⟩
abbrev cX9_firstNoLetter : ByteArray := prog_1_method_49_code
def yX9_firstNoLetter : MethodName := ⟨RX9, "firstNoLetter", "(I)I"⟩
abbrev cX9_takeLetters : ByteArray := prog_1_method_50_code
def yX9_takeLetters : MethodName := ⟨RX9, "takeLetters", "(ILPairPacker$Row;)V"⟩
abbrev cX9_endTape : ByteArray := prog_1_method_51_code
def yX9_endTape : MethodName := ⟨RX9, "endTape", "(II)V"⟩
abbrev cX9_refuseTape : ByteArray := prog_1_method_52_code
def yX9_refuseTape : MethodName := ⟨RX9, "refuseTape", "(II)I"⟩
abbrev cX9_join : ByteArray := prog_1_method_53_code
def yX9_join : MethodName := ⟨RX9, "join", "(II)I"⟩
abbrev cX9_packBest : ByteArray := prog_1_method_54_code
def yX9_packBest : MethodName := ⟨RX9, "packBest", "()Z"⟩
abbrev cX9_rowSign : ByteArray := prog_1_method_55_code
def yX9_rowSign : MethodName := ⟨RX9, "rowSign", "(II)I"⟩
abbrev cX9_hitsWithin : ByteArray := prog_1_method_56_code
def yX9_hitsWithin : MethodName := ⟨RX9, "hitsWithin", "(I)I"⟩
abbrev cX9_greatestDepth : ByteArray := prog_1_method_57_code
def yX9_greatestDepth : MethodName := ⟨RX9, "greatestDepth", "()I"⟩
abbrev cX9_perLetter : ByteArray := prog_1_method_58_code
def yX9_perLetter : MethodName := ⟨RX9, "perLetter", "(I)F"⟩
abbrev cX9_foldedLengths : ByteArray := prog_1_method_59_code
def yX9_foldedLengths : MethodName := ⟨RX9, "foldedLengths", "()F"⟩
abbrev cX9_bitsOf : ByteArray := prog_1_method_60_code
def yX9_bitsOf : MethodName := ⟨RX9, "bitsOf", "(F)I"⟩
abbrev cX9_writeForm : ByteArray := prog_1_method_61_code
def yX9_writeForm : MethodName := ⟨RX9, "writeForm", "()V"⟩
abbrev cX9_writeRow : ByteArray := prog_1_method_62_code
def yX9_writeRow : MethodName := ⟨RX9, "writeRow", "(LPairPacker$Row;)V"⟩
def RX10 : String := "PairPackerModel"
def TX10 : u_T := fun k => match k with
  | 0 => ("PairPackerModel", "thrown", "I", false)
  | 1 => ("PairPackerModel", "all", "[I", true)
  | 2 => ("PairPackerModel", "deeds", "[I", true)
  | 3 => ("PairPackerModel", "aside", "[I", true)
  | 4 => ("PairPackerModel", "steps", "[I", true)
  | 5 => ("PairPackerModel", "deedMany", "I", false)
  | 6 => ("PairPackerModel", "hasImage", "[Z", true)
  | 7 => ("PairPackerModel", "wordLong", "[I", true)
  | 8 => ("PairPackerModel", "depth", "[I", true)
  | 9 => ("PairPackerModel", "letters", "[I", true)
  | 10 => ("PairPackerModel", "depths", "[I", true)
  | 11 => ("PairPackerModel", "length", "I", false)
  | 12 => ("PairPackerModel", "tape", "[B", true)
  | 13 => ("PairPackerModel", "taped", "I", false)
  | 14 => ("PairPackerModel", "wrong", "I", false)
  | 15 => ("PairPackerModel", "wrongAt", "I", false)
  | 16 => ("PairPackerModel", "phraseLong", "I", false)
  | 17 => ("PairPackerModel", "phrase", "[I", true)
  | 18 => ("PairPackerModel", "read", "[I", true)
  | 19 => ("PairPackerModel", "spot", "I", false)
  | 20 => ("PairPackerModel", "size", "I", false)
  | 21 => ("PairPackerModel", "nextLong", "I", false)
  | 22 => ("PairPackerModel", "formed", "[I", true)
  | 23 => ("PairPackerModel", "isTold", "[Z", true)
  | 24 => ("PairPackerModel", "formLong", "I", false)
  | 25 => ("PairPackerModel", "weight", "[I", true)
  | 26 => ("PairPackerModel", "groupOf", "[I", true)
  | 27 => ("PairPackerModel", "codeLong", "[I", true)
  | 28 => ("PairPackerModel", "ranked", "[I", true)
  | 29 => ("PairPackerModel", "codes", "[I", true)
  | 30 => ("PairPackerModel", "rankedMany", "I", false)
  | 31 => ("PairPackerModel", "counts", "[I", true)
  | 32 => ("PairPackerModel", "latest", "[I", true)
  | 33 => ("PairPackerModel", "made", "[I", true)
  | 34 => ("PairPackerModel", "signOf", "I", false)
  | 35 => ("PairPackerModel", "signFrom", "I", false)
  | 36 => ("PairPackerModel", "twice", "I", false)
  | _ => ("PairPackerModel", "twiceAt", "I", false)
def tyX10 : Nat → FieldType := fun k => match k with
  | 0 => .int
  | 1 => .array .int
  | 2 => .array .int
  | 3 => .array .int
  | 4 => .array .int
  | 5 => .int
  | 6 => .array .boolean
  | 7 => .array .int
  | 8 => .array .int
  | 9 => .array .int
  | 10 => .array .int
  | 11 => .int
  | 12 => .array .byte
  | 13 => .int
  | 14 => .int
  | 15 => .int
  | 16 => .int
  | 17 => .array .int
  | 18 => .array .int
  | 19 => .int
  | 20 => .int
  | 21 => .int
  | 22 => .array .int
  | 23 => .array .boolean
  | 24 => .int
  | 25 => .array .int
  | 26 => .array .int
  | 27 => .array .int
  | 28 => .array .int
  | 29 => .array .int
  | 30 => .int
  | 31 => .array .int
  | 32 => .array .int
  | 33 => .array .int
  | 34 => .int
  | 35 => .int
  | 36 => .int
  | _ => .int
abbrev wsX100 : List Cond := u_ws RX10 TX10 38
theorem nmX10 : ∀ a, a < 38 → ∀ b, b < 38 → a ≠ b → (TX10 a).2.1 ≠ (TX10 b).2.1 := by decide +kernel
theorem tyX10_ok : ∀ k, k < 38 → parseFieldDescriptor (TX10 k).2.2.1 = some (tyX10 k) := by decide +kernel
abbrev cX10_isIn : ByteArray := prog_12_method_2_code
def yX10_isIn : MethodName := ⟨RX10, "isIn", "(JJJ)Z"⟩
abbrev cX10_greater : ByteArray := prog_12_method_3_code
def yX10_greater : MethodName := ⟨RX10, "greater", "(II)I"⟩
abbrev cX10_lesser : ByteArray := prog_12_method_4_code
def yX10_lesser : MethodName := ⟨RX10, "lesser", "(II)I"⟩
abbrev cX10_init : ByteArray := prog_12_method_5_code
def yX10_init : MethodName := ⟨RX10, "<init>", "()V"⟩
abbrev cX10_copies : ByteArray := prog_12_method_6_code
def yX10_copies : MethodName := ⟨RX10, "copies", "([II[III)V"⟩
abbrev cX10_notes : ByteArray := prog_12_method_7_code
def yX10_notes : MethodName := ⟨RX10, "notes", "()V"⟩
abbrev cX10_rowAt : ByteArray := prog_12_method_8_code
def yX10_rowAt : MethodName := ⟨RX10, "rowAt", "(I)I"⟩
abbrev cX10_rowLong : ByteArray := prog_12_method_9_code
def yX10_rowLong : MethodName := ⟨RX10, "rowLong", "(I)I"⟩
abbrev cX10_inRow : ByteArray := prog_12_method_10_code
def yX10_inRow : MethodName := ⟨RX10, "inRow", "(II)I"⟩
abbrev cX10_isSign : ByteArray := prog_12_method_11_code
def yX10_isSign : MethodName := ⟨RX10, "isSign", "(I)Z"⟩
abbrev cX10_many : ByteArray := prog_12_method_12_code
def yX10_many : MethodName := ⟨RX10, "many", "()I"⟩
abbrev cX10_signAt : ByteArray := prog_12_method_13_code
def yX10_signAt : MethodName := ⟨RX10, "signAt", "(I)I"⟩
abbrev cX10_laysWords : ByteArray := prog_12_method_14_code
def yX10_laysWords : MethodName := ⟨RX10, "laysWords", "()V"⟩
abbrev cX10_laysWord : ByteArray := prog_12_method_15_code
def yX10_laysWord : MethodName := ⟨RX10, "laysWord", "(I)V"⟩
abbrev cX10_laysText : ByteArray := prog_12_method_16_code
def yX10_laysText : MethodName := ⟨RX10, "laysText", "()V"⟩
abbrev cX10_laysOut : ByteArray := prog_12_method_17_code
def yX10_laysOut : MethodName := ⟨RX10, "laysOut", "(II)V"⟩
abbrev cX10_lettersMany : ByteArray := prog_12_method_18_code
def yX10_lettersMany : MethodName := ⟨RX10, "lettersMany", "()I"⟩
abbrev cX10_feed : ByteArray := prog_12_method_19_code
def yX10_feed : MethodName := ⟨RX10, "feed", "(IIIII)I"⟩
abbrev cX10_takes : ByteArray := prog_12_method_20_code
def yX10_takes : MethodName := ⟨RX10, "takes", "(III)I"⟩
abbrev cX10_fails : ByteArray := prog_12_method_21_code
def yX10_fails : MethodName := ⟨RX10, "fails", "(II)I"⟩
abbrev cX10_nextByte : ByteArray := prog_12_method_22_code
def yX10_nextByte : MethodName := ⟨RX10, "nextByte", "(II)I"⟩
abbrev cX10_nextSigns : ByteArray := prog_12_method_23_code
def yX10_nextSigns : MethodName := ⟨RX10, "nextSigns", "(II)I"⟩
abbrev cX10_nextRule : ByteArray := prog_12_method_24_code
def yX10_nextRule : MethodName := ⟨RX10, "nextRule", "()I"⟩
abbrev cX10_readsForm : ByteArray := prog_12_method_25_code
def yX10_readsForm : MethodName := ⟨RX10, "readsForm", "()I"⟩
abbrev cX10_load : ByteArray := prog_12_method_26_code
def yX10_load : MethodName := ⟨RX10, "load", "(I)I"⟩
abbrev cX10_tells : ByteArray := prog_12_method_27_code
def yX10_tells : MethodName := ⟨RX10, "tells", "(I)V"⟩
abbrev cX10_nextTold : ByteArray := prog_12_method_28_code
def yX10_nextTold : MethodName := ⟨RX10, "nextTold", "()I"⟩
abbrev cX10_laysForm : ByteArray := prog_12_method_29_code
def yX10_laysForm : MethodName := ⟨RX10, "laysForm", "()V"⟩
abbrev cX10_form : ByteArray := prog_12_method_30_code
def yX10_form : MethodName := ⟨RX10, "form", "(I)I"⟩
abbrev cX10_lightest : ByteArray := prog_12_method_31_code
def yX10_lightest : MethodName := ⟨RX10, "lightest", "(I)I"⟩
abbrev cX10_laysCodes : ByteArray := prog_12_method_32_code
def yX10_laysCodes : MethodName := ⟨RX10, "laysCodes", "()V"⟩
abbrev cX10_joins : ByteArray := prog_12_method_33_code
def yX10_joins : MethodName := ⟨RX10, "joins", "(II)V"⟩
abbrev cX10_ranksCodes : ByteArray := prog_12_method_34_code
def yX10_ranksCodes : MethodName := ⟨RX10, "ranksCodes", "()V"⟩
abbrev cX10_code : ByteArray := prog_12_method_35_code
def yX10_code : MethodName := ⟨RX10, "code", "(II)I"⟩
abbrev cX10_coded : ByteArray := prog_12_method_36_code
def yX10_coded : MethodName := ⟨RX10, "coded", "(I)I"⟩
abbrev cX10_bitsAll : ByteArray := prog_12_method_37_code
def yX10_bitsAll : MethodName := ⟨RX10, "bitsAll", "()I"⟩
abbrev cX10_text : ByteArray := prog_12_method_38_code
def yX10_text : MethodName := ⟨RX10, "text", "(I)I"⟩
abbrev cX10_phrase : ByteArray := prog_12_method_39_code
def yX10_phrase : MethodName := ⟨RX10, "phrase", "(I)I"⟩
abbrev cX10_fault : ByteArray := prog_12_method_40_code
def yX10_fault : MethodName := ⟨RX10, "fault", "(I)I"⟩
abbrev cX10_countOf : ByteArray := prog_12_method_41_code
def yX10_countOf : MethodName := ⟨RX10, "countOf", "(II)I"⟩
abbrev cX10_ruleOf : ByteArray := prog_12_method_42_code
def yX10_ruleOf : MethodName := ⟨RX10, "ruleOf", "(II)I"⟩
abbrev cX10_freeSign : ByteArray := prog_12_method_43_code
def yX10_freeSign : MethodName := ⟨RX10, "freeSign", "()I"⟩
abbrev cX10_canReplace : ByteArray := prog_12_method_44_code
def yX10_canReplace : MethodName := ⟨RX10, "canReplace", "(II)Z"⟩
abbrev cX10_replaces : ByteArray := prog_12_method_45_code
def yX10_replaces : MethodName := ⟨RX10, "replaces", "(II)I"⟩
abbrev cX10_laysCounts : ByteArray := prog_12_method_46_code
def yX10_laysCounts : MethodName := ⟨RX10, "laysCounts", "()I"⟩
abbrev cX10_picked : ByteArray := prog_12_method_47_code
def yX10_picked : MethodName := ⟨RX10, "picked", "()I"⟩
abbrev cX10_step : ByteArray := prog_12_method_48_code
def yX10_step : MethodName := ⟨RX10, "step", "()I"⟩
abbrev cX10_pack : ByteArray := prog_12_method_49_code
def yX10_pack : MethodName := ⟨RX10, "pack", "()I"⟩
abbrev cX10_replace : ByteArray := prog_12_method_50_code
def yX10_replace : MethodName := ⟨RX10, "replace", "(II)I"⟩
abbrev cX10_inSequence : ByteArray := prog_12_method_51_code
def yX10_inSequence : MethodName := ⟨RX10, "inSequence", "(I)I"⟩
abbrev cX10_timesIn : ByteArray := prog_12_method_52_code
def yX10_timesIn : MethodName := ⟨RX10, "timesIn", "(II)I"⟩
abbrev cX10_usesOf : ByteArray := prog_12_method_53_code
def yX10_usesOf : MethodName := ⟨RX10, "usesOf", "(I)I"⟩
abbrev cX10_canGo : ByteArray := prog_12_method_54_code
def yX10_canGo : MethodName := ⟨RX10, "canGo", "(I)Z"⟩
abbrev cX10_puts : ByteArray := prog_12_method_55_code
def yX10_puts : MethodName := ⟨RX10, "puts", "(III)I"⟩
abbrev cX10_drops : ByteArray := prog_12_method_56_code
def yX10_drops : MethodName := ⟨RX10, "drops", "(I)V"⟩
abbrev cX10_sizeNow : ByteArray := prog_12_method_57_code
def yX10_sizeNow : MethodName := ⟨RX10, "sizeNow", "()I"⟩
abbrev cX10_drop : ByteArray := prog_12_method_58_code
def yX10_drop : MethodName := ⟨RX10, "drop", "(I)I"⟩
abbrev cX10_idle : ByteArray := prog_12_method_59_code
def yX10_idle : MethodName := ⟨RX10, "idle", "()I"⟩
abbrev cX10_trim : ByteArray := prog_12_method_60_code
def yX10_trim : MethodName := ⟨RX10, "trim", "()I"⟩
abbrev cX10_unpack : ByteArray := prog_12_method_61_code
def yX10_unpack : MethodName := ⟨RX10, "unpack", "()I"⟩
abbrev cX10_opens : ByteArray := prog_12_method_62_code
def yX10_opens : MethodName := ⟨RX10, "opens", "(I)I"⟩
abbrev cX10_put : ByteArray := prog_12_method_63_code
def yX10_put : MethodName := ⟨RX10, "put", "(II)I"⟩
abbrev cX10_cut : ByteArray := prog_12_method_64_code
def yX10_cut : MethodName := ⟨RX10, "cut", "(II)I"⟩
abbrev cX10_insert : ByteArray := prog_12_method_65_code
def yX10_insert : MethodName := ⟨RX10, "insert", "(II)I"⟩
abbrev cX10_sign : ByteArray := prog_12_method_66_code
def yX10_sign : MethodName := ⟨RX10, "sign", "(I)I"⟩
abbrev cX10_rule : ByteArray := prog_12_method_67_code
def yX10_rule : MethodName := ⟨RX10, "rule", "(II)I"⟩
abbrev cX10_word : ByteArray := prog_12_method_68_code
def yX10_word : MethodName := ⟨RX10, "word", "(II)I"⟩
abbrev cX10_pairs : ByteArray := prog_12_method_69_code
def yX10_pairs : MethodName := ⟨RX10, "pairs", "(II)I"⟩
abbrev cX10_pick : ByteArray := prog_12_method_70_code
def yX10_pick : MethodName := ⟨RX10, "pick", "(I)I"⟩
abbrev cX10_at : ByteArray := prog_12_method_71_code
def yX10_at : MethodName := ⟨RX10, "at", "(I)I"⟩
abbrev cX10_seeks : ByteArray := prog_12_method_72_code
def yX10_seeks : MethodName := ⟨RX10, "seeks", "(I)Z"⟩
abbrev cX10_within : ByteArray := prog_12_method_73_code
def yX10_within : MethodName := ⟨RX10, "within", "(II)I"⟩
abbrev cX10_way : ByteArray := prog_12_method_74_code
def yX10_way : MethodName := ⟨RX10, "way", "(II)I"⟩
abbrev cX10_ahead : ByteArray := prog_12_method_75_code
def yX10_ahead : MethodName := ⟨RX10, "ahead", "(II)I"⟩
abbrev cX10_where : ByteArray := prog_12_method_76_code
def yX10_where : MethodName := ⟨RX10, "where", "(II)I"⟩
abbrev cX10_commonOf : ByteArray := prog_12_method_77_code
def yX10_commonOf : MethodName := ⟨RX10, "commonOf", "(II)I"⟩
abbrev cX10_arePlaces : ByteArray := prog_12_method_78_code
def yX10_arePlaces : MethodName := ⟨RX10, "arePlaces", "(II)Z"⟩
abbrev cX10_common : ByteArray := prog_12_method_79_code
def yX10_common : MethodName := ⟨RX10, "common", "(II)I"⟩
abbrev cX10_compare : ByteArray := prog_12_method_80_code
def yX10_compare : MethodName := ⟨RX10, "compare", "(II)I"⟩
abbrev cX10_print : ByteArray := prog_12_method_81_code
def yX10_print : MethodName := ⟨RX10, "print", "(II)I"⟩
abbrev cX10_laysTwice : ByteArray := prog_12_method_82_code
def yX10_laysTwice : MethodName := ⟨RX10, "laysTwice", "()V"⟩
abbrev cX10_repeat : ByteArray := prog_12_method_83_code
def yX10_repeat : MethodName := ⟨RX10, "repeat", "()I"⟩
abbrev cX10_repeatAt : ByteArray := prog_12_method_84_code
def yX10_repeatAt : MethodName := ⟨RX10, "repeatAt", "()I"⟩
abbrev cX10_isHit : ByteArray := prog_12_method_85_code
def yX10_isHit : MethodName := ⟨RX10, "isHit", "(I)Z"⟩
abbrev cX10_hitsIn : ByteArray := prog_12_method_86_code
def yX10_hitsIn : MethodName := ⟨RX10, "hitsIn", "()I"⟩
abbrev cX10_hit : ByteArray := prog_12_method_87_code
def yX10_hit : MethodName := ⟨RX10, "hit", "(I)I"⟩
abbrev cX10_crossing : ByteArray := prog_12_method_88_code
def yX10_crossing : MethodName := ⟨RX10, "crossing", "()I"⟩
abbrev cX10_hits : ByteArray := prog_12_method_89_code
def yX10_hits : MethodName := ⟨RX10, "hits", "(I)I"⟩
abbrev cX10_gainOf : ByteArray := prog_12_method_90_code
def yX10_gainOf : MethodName := ⟨RX10, "gainOf", "(II)I"⟩
abbrev cX10_gain : ByteArray := prog_12_method_91_code
def yX10_gain : MethodName := ⟨RX10, "gain", "(II)I"⟩
abbrev cX10_leastBehind : ByteArray := prog_12_method_92_code
def yX10_leastBehind : MethodName := ⟨RX10, "leastBehind", "(I)I"⟩
abbrev cX10_isFirst : ByteArray := prog_12_method_93_code
def yX10_isFirst : MethodName := ⟨RX10, "isFirst", "(I)Z"⟩
abbrev cX10_best : ByteArray := prog_12_method_94_code
def yX10_best : MethodName := ⟨RX10, "best", "(I)I"⟩
abbrev cX10_bitsOf : ByteArray := prog_12_method_95_code
def yX10_bitsOf : MethodName := ⟨RX10, "bitsOf", "(F)I"⟩
abbrev cX10_floatOf : ByteArray := prog_12_method_96_code
def yX10_floatOf : MethodName := ⟨RX10, "floatOf", "(I)F"⟩
abbrev cX10_bits : ByteArray := prog_12_method_97_code
def yX10_bits : MethodName := ⟨RX10, "bits", "(I)I"⟩
abbrev cX10_undo : ByteArray := prog_12_method_98_code
def yX10_undo : MethodName := ⟨RX10, "undo", "(I)I"⟩
abbrev cX10_image : ByteArray := prog_12_method_99_code
def yX10_image : MethodName := ⟨RX10, "image", "(I)I"⟩
abbrev cX10_restore : ByteArray := prog_12_method_100_code
def yX10_restore : MethodName := ⟨RX10, "restore", "(I)I"⟩
abbrev cX10_rulesMany : ByteArray := prog_12_method_101_code
def yX10_rulesMany : MethodName := ⟨RX10, "rulesMany", "()I"⟩
abbrev cX10_deepest : ByteArray := prog_12_method_102_code
def yX10_deepest : MethodName := ⟨RX10, "deepest", "()I"⟩
abbrev cX10_count : ByteArray := prog_12_method_103_code
def yX10_count : MethodName := ⟨RX10, "count", "(I)I"⟩
def RJ9 : String := "java/lang/Math"
def TJ9 : u_T := fun k => match k with
  | _ => ("", "", "", false)
def tyJ9 : Nat → FieldType := fun k => match k with
  | _ => .int
theorem nmJ9 : ∀ a, a < 0 → ∀ b, b < 0 → a ≠ b → (TJ9 a).2.1 ≠ (TJ9 b).2.1 := by decide +kernel
theorem tyJ9_ok : ∀ k, k < 0 → parseFieldDescriptor (TJ9 k).2.2.1 = some (tyJ9 k) := by decide +kernel
abbrev cJ9_floorMod_7cf53 : ByteArray := prog_13_method_50_code
def yJ9_floorMod_7cf53 : MethodName := ⟨RJ9, "floorMod", "(II)I"⟩
abbrev cJ9_max_7cf53 : ByteArray := prog_13_method_65_code
def yJ9_max_7cf53 : MethodName := ⟨RJ9, "max", "(II)I"⟩
abbrev cJ9_min_7cf53 : ByteArray := prog_13_method_69_code
def yJ9_min_7cf53 : MethodName := ⟨RJ9, "min", "(II)I"⟩
def RJ10 : String := "java/lang/System"
def TJ10 : u_T := fun k => match k with
  | _ => ("", "", "", false)
def tyJ10 : Nat → FieldType := fun k => match k with
  | _ => .int
theorem nmJ10 : ∀ a, a < 0 → ∀ b, b < 0 → a ≠ b → (TJ10 a).2.1 ≠ (TJ10 b).2.1 := by decide +kernel
theorem tyJ10_ok : ∀ k, k < 0 → parseFieldDescriptor (TJ10 k).2.2.1 = some (tyJ10 k) := by decide +kernel
def RL : String := "PairPackerLaw"
abbrev cL_law : ByteArray := code
def yL_law : MethodName := ⟨RL, "law", "([I)Z"⟩
abbrev vwCl : List vw_C := [(RX0, TX0, 6), (RX1, TX1, 7), (RX2, TX2, 3), (RX3, TX3, 2), (RX4, TX4, 3), (RX5, TX5, 7), (RX6, TX6, 2), (RX7, TX7, 4), (RX8, TX8, 5), (RX9, TX9, 18), (RX10, TX10, 38)]
end
section
theorem dX0_init_0 : decode cX0_init 0 = .ok (.aload_n 0, 1) := by decide +kernel
theorem dX0_init_1 : decode cX0_init 1 = .ok (.invokespecial 3, 3) := by decide +kernel
theorem dX0_init_4 : decode cX0_init 4 = .ok (.aload_n 0, 1) := by decide +kernel
theorem dX0_init_5 : decode cX0_init 5 = .ok (.bipush 86, 2) := by decide +kernel
theorem dX0_init_7 : decode cX0_init 7 = .ok (.newarray .int, 2) := by decide +kernel
theorem dX0_init_9 : decode cX0_init 9 = .ok (.putfield 9, 3) := by decide +kernel
theorem dX0_init_12 : decode cX0_init 12 = .ok (.aload_n 0, 1) := by decide +kernel
theorem dX0_init_13 : decode cX0_init 13 = .ok (.bipush 86, 2) := by decide +kernel
theorem dX0_init_15 : decode cX0_init 15 = .ok (.newarray .int, 2) := by decide +kernel
theorem dX0_init_17 : decode cX0_init 17 = .ok (.putfield 15, 3) := by decide +kernel
theorem dX0_init_20 : decode cX0_init 20 = .ok (.aload_n 0, 1) := by decide +kernel
theorem dX0_init_21 : decode cX0_init 21 = .ok (.bipush 86, 2) := by decide +kernel
theorem dX0_init_23 : decode cX0_init 23 = .ok (.newarray .int, 2) := by decide +kernel
theorem dX0_init_25 : decode cX0_init 25 = .ok (.putfield 18, 3) := by decide +kernel
theorem dX0_init_28 : decode cX0_init 28 = .ok (.aload_n 0, 1) := by decide +kernel
theorem dX0_init_29 : decode cX0_init 29 = .ok (.bipush 86, 2) := by decide +kernel
theorem dX0_init_31 : decode cX0_init 31 = .ok (.newarray .int, 2) := by decide +kernel
theorem dX0_init_33 : decode cX0_init 33 = .ok (.putfield 21, 3) := by decide +kernel
theorem dX0_init_36 : decode cX0_init 36 = .ok (.aload_n 0, 1) := by decide +kernel
theorem dX0_init_37 : decode cX0_init 37 = .ok (.bipush 86, 2) := by decide +kernel
theorem dX0_init_39 : decode cX0_init 39 = .ok (.newarray .int, 2) := by decide +kernel
theorem dX0_init_41 : decode cX0_init 41 = .ok (.putfield 24, 3) := by decide +kernel
theorem dX0_init_44 : decode cX0_init 44 = .ok (.aload_n 0, 1) := by decide +kernel
theorem dX0_init_45 : decode cX0_init 45 = .ok (.new 27, 3) := by decide +kernel
theorem dX0_init_48 : decode cX0_init 48 = .ok (.dup, 1) := by decide +kernel
theorem dX0_init_49 : decode cX0_init 49 = .ok (.bipush 86, 2) := by decide +kernel
theorem dX0_init_51 : decode cX0_init 51 = .ok (.invokespecial 29, 3) := by decide +kernel
theorem dX0_init_54 : decode cX0_init 54 = .ok (.putfield 32, 3) := by decide +kernel
theorem dX0_init_57 : decode cX0_init 57 = .ok (.return_, 1) := by decide +kernel
theorem dX0_make_0 : decode cX0_make 0 = .ok (.aload_n 0, 1) := by decide +kernel
theorem dX0_make_1 : decode cX0_make 1 = .ok (.aload_n 1, 1) := by decide +kernel
theorem dX0_make_2 : decode cX0_make 2 = .ok (.invokevirtual 36, 3) := by decide +kernel
theorem dX0_make_5 : decode cX0_make 5 = .ok (.istore_n 2, 1) := by decide +kernel
theorem dX0_make_6 : decode cX0_make 6 = .ok (.iconst 1, 1) := by decide +kernel
theorem dX0_make_7 : decode cX0_make 7 = .ok (.istore_n 3, 1) := by decide +kernel
theorem dX0_make_8 : decode cX0_make 8 = .ok (.iload_n 3, 1) := by decide +kernel
theorem dX0_make_9 : decode cX0_make 9 = .ok (.iload_n 2, 1) := by decide +kernel
theorem dX0_make_10 : decode cX0_make 10 = .ok (.if_icmp .ge 13, 3) := by decide +kernel
theorem dX0_make_13 : decode cX0_make 13 = .ok (.aload_n 0, 1) := by decide +kernel
theorem dX0_make_14 : decode cX0_make 14 = .ok (.invokevirtual 40, 3) := by decide +kernel
theorem dX0_make_17 : decode cX0_make 17 = .ok (.iinc 3 1, 3) := by decide +kernel
theorem dX0_make_20 : decode cX0_make 20 = .ok (.goto (-12), 3) := by decide +kernel
theorem dX0_make_23 : decode cX0_make 23 = .ok (.iload_n 2, 1) := by decide +kernel
theorem dX0_make_24 : decode cX0_make 24 = .ok (.iconst 1, 1) := by decide +kernel
theorem dX0_make_25 : decode cX0_make 25 = .ok (.if_icmp .ne 12, 3) := by decide +kernel
theorem dX0_make_28 : decode cX0_make 28 = .ok (.aload_n 0, 1) := by decide +kernel
theorem dX0_make_29 : decode cX0_make 29 = .ok (.aload_n 0, 1) := by decide +kernel
theorem dX0_make_30 : decode cX0_make 30 = .ok (.iconst (-1), 1) := by decide +kernel
theorem dX0_make_31 : decode cX0_make 31 = .ok (.invokevirtual 43, 3) := by decide +kernel
theorem dX0_make_34 : decode cX0_make 34 = .ok (.invokevirtual 47, 3) := by decide +kernel
theorem dX0_make_37 : decode cX0_make 37 = .ok (.aload_n 0, 1) := by decide +kernel
theorem dX0_make_38 : decode cX0_make 38 = .ok (.invokevirtual 50, 3) := by decide +kernel
theorem dX0_make_41 : decode cX0_make 41 = .ok (.aload_n 0, 1) := by decide +kernel
theorem dX0_make_42 : decode cX0_make 42 = .ok (.invokevirtual 53, 3) := by decide +kernel
theorem dX0_make_45 : decode cX0_make 45 = .ok (.return_, 1) := by decide +kernel
theorem dX0_lengthOf_0 : decode cX0_lengthOf 0 = .ok (.iload_n 1, 1) := by decide +kernel
theorem dX0_lengthOf_1 : decode cX0_lengthOf 1 = .ok (.ifCond .lt 18, 3) := by decide +kernel
theorem dX0_lengthOf_4 : decode cX0_lengthOf 4 = .ok (.iload_n 1, 1) := by decide +kernel
theorem dX0_lengthOf_5 : decode cX0_lengthOf 5 = .ok (.bipush 86, 2) := by decide +kernel
theorem dX0_lengthOf_7 : decode cX0_lengthOf 7 = .ok (.if_icmp .ge 12, 3) := by decide +kernel
theorem dX0_lengthOf_10 : decode cX0_lengthOf 10 = .ok (.aload_n 0, 1) := by decide +kernel
theorem dX0_lengthOf_11 : decode cX0_lengthOf 11 = .ok (.getfield 21, 3) := by decide +kernel
theorem dX0_lengthOf_14 : decode cX0_lengthOf 14 = .ok (.iload_n 1, 1) := by decide +kernel
theorem dX0_lengthOf_15 : decode cX0_lengthOf 15 = .ok (.iaload, 1) := by decide +kernel
theorem dX0_lengthOf_16 : decode cX0_lengthOf 16 = .ok (.goto 4, 3) := by decide +kernel
theorem dX0_lengthOf_19 : decode cX0_lengthOf 19 = .ok (.iconst 0, 1) := by decide +kernel
theorem dX0_lengthOf_20 : decode cX0_lengthOf 20 = .ok (.ireturn, 1) := by decide +kernel
theorem dX0_codeOf_0 : decode cX0_codeOf 0 = .ok (.aload_n 0, 1) := by decide +kernel
theorem dX0_codeOf_1 : decode cX0_codeOf 1 = .ok (.iload_n 1, 1) := by decide +kernel
theorem dX0_codeOf_2 : decode cX0_codeOf 2 = .ok (.invokevirtual 56, 3) := by decide +kernel
theorem dX0_codeOf_5 : decode cX0_codeOf 5 = .ok (.ifCond .le 12, 3) := by decide +kernel
theorem dX0_codeOf_8 : decode cX0_codeOf 8 = .ok (.aload_n 0, 1) := by decide +kernel
theorem dX0_codeOf_9 : decode cX0_codeOf 9 = .ok (.getfield 24, 3) := by decide +kernel
theorem dX0_codeOf_12 : decode cX0_codeOf 12 = .ok (.iload_n 1, 1) := by decide +kernel
theorem dX0_codeOf_13 : decode cX0_codeOf 13 = .ok (.iaload, 1) := by decide +kernel
theorem dX0_codeOf_14 : decode cX0_codeOf 14 = .ok (.goto 4, 3) := by decide +kernel
theorem dX0_codeOf_17 : decode cX0_codeOf 17 = .ok (.iconst (-1), 1) := by decide +kernel
theorem dX0_codeOf_18 : decode cX0_codeOf 18 = .ok (.ireturn, 1) := by decide +kernel
theorem dX0_signAt_0 : decode cX0_signAt 0 = .ok (.aload_n 0, 1) := by decide +kernel
theorem dX0_signAt_1 : decode cX0_signAt 1 = .ok (.getfield 32, 3) := by decide +kernel
theorem dX0_signAt_4 : decode cX0_signAt 4 = .ok (.iload_n 1, 1) := by decide +kernel
theorem dX0_signAt_5 : decode cX0_signAt 5 = .ok (.invokevirtual 59, 3) := by decide +kernel
theorem dX0_signAt_8 : decode cX0_signAt 8 = .ok (.ireturn, 1) := by decide +kernel
theorem dX0_allBits_0 : decode cX0_allBits 0 = .ok (.iconst 0, 1) := by decide +kernel
theorem dX0_allBits_1 : decode cX0_allBits 1 = .ok (.istore_n 1, 1) := by decide +kernel
theorem dX0_allBits_2 : decode cX0_allBits 2 = .ok (.iconst 0, 1) := by decide +kernel
theorem dX0_allBits_3 : decode cX0_allBits 3 = .ok (.istore_n 2, 1) := by decide +kernel
theorem dX0_allBits_4 : decode cX0_allBits 4 = .ok (.iload_n 2, 1) := by decide +kernel
theorem dX0_allBits_5 : decode cX0_allBits 5 = .ok (.bipush 86, 2) := by decide +kernel
theorem dX0_allBits_7 : decode cX0_allBits 7 = .ok (.if_icmp .ge 25, 3) := by decide +kernel
theorem dX0_allBits_10 : decode cX0_allBits 10 = .ok (.iload_n 1, 1) := by decide +kernel
theorem dX0_allBits_11 : decode cX0_allBits 11 = .ok (.aload_n 0, 1) := by decide +kernel
theorem dX0_allBits_12 : decode cX0_allBits 12 = .ok (.getfield 9, 3) := by decide +kernel
theorem dX0_allBits_15 : decode cX0_allBits 15 = .ok (.iload_n 2, 1) := by decide +kernel
theorem dX0_allBits_16 : decode cX0_allBits 16 = .ok (.iaload, 1) := by decide +kernel
theorem dX0_allBits_17 : decode cX0_allBits 17 = .ok (.aload_n 0, 1) := by decide +kernel
theorem dX0_allBits_18 : decode cX0_allBits 18 = .ok (.getfield 21, 3) := by decide +kernel
theorem dX0_allBits_21 : decode cX0_allBits 21 = .ok (.iload_n 2, 1) := by decide +kernel
theorem dX0_allBits_22 : decode cX0_allBits 22 = .ok (.iaload, 1) := by decide +kernel
theorem dX0_allBits_23 : decode cX0_allBits 23 = .ok (.imul, 1) := by decide +kernel
theorem dX0_allBits_24 : decode cX0_allBits 24 = .ok (.iadd, 1) := by decide +kernel
theorem dX0_allBits_25 : decode cX0_allBits 25 = .ok (.istore_n 1, 1) := by decide +kernel
theorem dX0_allBits_26 : decode cX0_allBits 26 = .ok (.iinc 2 1, 3) := by decide +kernel
theorem dX0_allBits_29 : decode cX0_allBits 29 = .ok (.goto (-25), 3) := by decide +kernel
theorem dX0_allBits_32 : decode cX0_allBits 32 = .ok (.iload_n 1, 1) := by decide +kernel
theorem dX0_allBits_33 : decode cX0_allBits 33 = .ok (.ireturn, 1) := by decide +kernel
theorem dX0_weigh_0 : decode cX0_weigh 0 = .ok (.iconst 0, 1) := by decide +kernel
theorem dX0_weigh_1 : decode cX0_weigh 1 = .ok (.istore_n 2, 1) := by decide +kernel
theorem dX0_weigh_2 : decode cX0_weigh 2 = .ok (.iconst 0, 1) := by decide +kernel
theorem dX0_weigh_3 : decode cX0_weigh 3 = .ok (.istore_n 3, 1) := by decide +kernel
theorem dX0_weigh_4 : decode cX0_weigh 4 = .ok (.iload_n 3, 1) := by decide +kernel
theorem dX0_weigh_5 : decode cX0_weigh 5 = .ok (.bipush 86, 2) := by decide +kernel
theorem dX0_weigh_7 : decode cX0_weigh 7 = .ok (.if_icmp .ge 65, 3) := by decide +kernel
theorem dX0_weigh_10 : decode cX0_weigh 10 = .ok (.aload_n 0, 1) := by decide +kernel
theorem dX0_weigh_11 : decode cX0_weigh 11 = .ok (.getfield 9, 3) := by decide +kernel
theorem dX0_weigh_14 : decode cX0_weigh 14 = .ok (.iload_n 3, 1) := by decide +kernel
theorem dX0_weigh_15 : decode cX0_weigh 15 = .ok (.aload_n 1, 1) := by decide +kernel
theorem dX0_weigh_16 : decode cX0_weigh 16 = .ok (.iload_n 3, 1) := by decide +kernel
theorem dX0_weigh_17 : decode cX0_weigh 17 = .ok (.invokevirtual 62, 3) := by decide +kernel
theorem dX0_weigh_20 : decode cX0_weigh 20 = .ok (.iastore, 1) := by decide +kernel
theorem dX0_weigh_21 : decode cX0_weigh 21 = .ok (.aload_n 0, 1) := by decide +kernel
theorem dX0_weigh_22 : decode cX0_weigh 22 = .ok (.getfield 15, 3) := by decide +kernel
theorem dX0_weigh_25 : decode cX0_weigh 25 = .ok (.iload_n 3, 1) := by decide +kernel
theorem dX0_weigh_26 : decode cX0_weigh 26 = .ok (.iload_n 3, 1) := by decide +kernel
theorem dX0_weigh_27 : decode cX0_weigh 27 = .ok (.iastore, 1) := by decide +kernel
theorem dX0_weigh_28 : decode cX0_weigh 28 = .ok (.aload_n 0, 1) := by decide +kernel
theorem dX0_weigh_29 : decode cX0_weigh 29 = .ok (.getfield 18, 3) := by decide +kernel
theorem dX0_weigh_32 : decode cX0_weigh 32 = .ok (.iload_n 3, 1) := by decide +kernel
theorem dX0_weigh_33 : decode cX0_weigh 33 = .ok (.aload_n 0, 1) := by decide +kernel
theorem dX0_weigh_34 : decode cX0_weigh 34 = .ok (.getfield 9, 3) := by decide +kernel
theorem dX0_weigh_37 : decode cX0_weigh 37 = .ok (.iload_n 3, 1) := by decide +kernel
theorem dX0_weigh_38 : decode cX0_weigh 38 = .ok (.iaload, 1) := by decide +kernel
theorem dX0_weigh_39 : decode cX0_weigh 39 = .ok (.iastore, 1) := by decide +kernel
theorem dX0_weigh_40 : decode cX0_weigh 40 = .ok (.aload_n 0, 1) := by decide +kernel
theorem dX0_weigh_41 : decode cX0_weigh 41 = .ok (.getfield 21, 3) := by decide +kernel
theorem dX0_weigh_44 : decode cX0_weigh 44 = .ok (.iload_n 3, 1) := by decide +kernel
theorem dX0_weigh_45 : decode cX0_weigh 45 = .ok (.iconst 0, 1) := by decide +kernel
theorem dX0_weigh_46 : decode cX0_weigh 46 = .ok (.iastore, 1) := by decide +kernel
theorem dX0_weigh_47 : decode cX0_weigh 47 = .ok (.aload_n 0, 1) := by decide +kernel
theorem dX0_weigh_48 : decode cX0_weigh 48 = .ok (.getfield 24, 3) := by decide +kernel
theorem dX0_weigh_51 : decode cX0_weigh 51 = .ok (.iload_n 3, 1) := by decide +kernel
theorem dX0_weigh_52 : decode cX0_weigh 52 = .ok (.iconst 0, 1) := by decide +kernel
theorem dX0_weigh_53 : decode cX0_weigh 53 = .ok (.iastore, 1) := by decide +kernel
theorem dX0_weigh_54 : decode cX0_weigh 54 = .ok (.aload_n 0, 1) := by decide +kernel
theorem dX0_weigh_55 : decode cX0_weigh 55 = .ok (.getfield 9, 3) := by decide +kernel
theorem dX0_weigh_58 : decode cX0_weigh 58 = .ok (.iload_n 3, 1) := by decide +kernel
theorem dX0_weigh_59 : decode cX0_weigh 59 = .ok (.iaload, 1) := by decide +kernel
theorem dX0_weigh_60 : decode cX0_weigh 60 = .ok (.ifCond .le 6, 3) := by decide +kernel
theorem dX0_weigh_63 : decode cX0_weigh 63 = .ok (.iinc 2 1, 3) := by decide +kernel
theorem dX0_weigh_66 : decode cX0_weigh 66 = .ok (.iinc 3 1, 3) := by decide +kernel
theorem dX0_weigh_69 : decode cX0_weigh 69 = .ok (.goto (-65), 3) := by decide +kernel
theorem dX0_weigh_72 : decode cX0_weigh 72 = .ok (.iload_n 2, 1) := by decide +kernel
theorem dX0_weigh_73 : decode cX0_weigh 73 = .ok (.ireturn, 1) := by decide +kernel
theorem dX0_lightestBut_0 : decode cX0_lightestBut 0 = .ok (.iconst (-1), 1) := by decide +kernel
theorem dX0_lightestBut_1 : decode cX0_lightestBut 1 = .ok (.istore_n 2, 1) := by decide +kernel
theorem dX0_lightestBut_2 : decode cX0_lightestBut 2 = .ok (.iconst 0, 1) := by decide +kernel
theorem dX0_lightestBut_3 : decode cX0_lightestBut 3 = .ok (.istore_n 3, 1) := by decide +kernel
theorem dX0_lightestBut_4 : decode cX0_lightestBut 4 = .ok (.iload_n 3, 1) := by decide +kernel
theorem dX0_lightestBut_5 : decode cX0_lightestBut 5 = .ok (.bipush 86, 2) := by decide +kernel
theorem dX0_lightestBut_7 : decode cX0_lightestBut 7 = .ok (.if_icmp .ge 45, 3) := by decide +kernel
theorem dX0_lightestBut_10 : decode cX0_lightestBut 10 = .ok (.iload_n 3, 1) := by decide +kernel
theorem dX0_lightestBut_11 : decode cX0_lightestBut 11 = .ok (.iload_n 1, 1) := by decide +kernel
theorem dX0_lightestBut_12 : decode cX0_lightestBut 12 = .ok (.if_icmp .eq 34, 3) := by decide +kernel
theorem dX0_lightestBut_15 : decode cX0_lightestBut 15 = .ok (.aload_n 0, 1) := by decide +kernel
theorem dX0_lightestBut_16 : decode cX0_lightestBut 16 = .ok (.getfield 18, 3) := by decide +kernel
theorem dX0_lightestBut_19 : decode cX0_lightestBut 19 = .ok (.iload_n 3, 1) := by decide +kernel
theorem dX0_lightestBut_20 : decode cX0_lightestBut 20 = .ok (.iaload, 1) := by decide +kernel
theorem dX0_lightestBut_21 : decode cX0_lightestBut 21 = .ok (.ifCond .le 25, 3) := by decide +kernel
theorem dX0_lightestBut_24 : decode cX0_lightestBut 24 = .ok (.iload_n 2, 1) := by decide +kernel
theorem dX0_lightestBut_25 : decode cX0_lightestBut 25 = .ok (.iconst (-1), 1) := by decide +kernel
theorem dX0_lightestBut_26 : decode cX0_lightestBut 26 = .ok (.if_icmp .eq 18, 3) := by decide +kernel
theorem dX0_lightestBut_29 : decode cX0_lightestBut 29 = .ok (.aload_n 0, 1) := by decide +kernel
theorem dX0_lightestBut_30 : decode cX0_lightestBut 30 = .ok (.getfield 18, 3) := by decide +kernel
theorem dX0_lightestBut_33 : decode cX0_lightestBut 33 = .ok (.iload_n 3, 1) := by decide +kernel
theorem dX0_lightestBut_34 : decode cX0_lightestBut 34 = .ok (.iaload, 1) := by decide +kernel
theorem dX0_lightestBut_35 : decode cX0_lightestBut 35 = .ok (.aload_n 0, 1) := by decide +kernel
theorem dX0_lightestBut_36 : decode cX0_lightestBut 36 = .ok (.getfield 18, 3) := by decide +kernel
theorem dX0_lightestBut_39 : decode cX0_lightestBut 39 = .ok (.iload_n 2, 1) := by decide +kernel
theorem dX0_lightestBut_40 : decode cX0_lightestBut 40 = .ok (.iaload, 1) := by decide +kernel
theorem dX0_lightestBut_41 : decode cX0_lightestBut 41 = .ok (.if_icmp .ge 5, 3) := by decide +kernel
theorem dX0_lightestBut_44 : decode cX0_lightestBut 44 = .ok (.iload_n 3, 1) := by decide +kernel
theorem dX0_lightestBut_45 : decode cX0_lightestBut 45 = .ok (.istore_n 2, 1) := by decide +kernel
theorem dX0_lightestBut_46 : decode cX0_lightestBut 46 = .ok (.iinc 3 1, 3) := by decide +kernel
theorem dX0_lightestBut_49 : decode cX0_lightestBut 49 = .ok (.goto (-45), 3) := by decide +kernel
theorem dX0_lightestBut_52 : decode cX0_lightestBut 52 = .ok (.iload_n 2, 1) := by decide +kernel
theorem dX0_lightestBut_53 : decode cX0_lightestBut 53 = .ok (.ireturn, 1) := by decide +kernel
theorem dX0_putTwoTogether_0 : decode cX0_putTwoTogether 0 = .ok (.aload_n 0, 1) := by decide +kernel
theorem dX0_putTwoTogether_1 : decode cX0_putTwoTogether 1 = .ok (.iconst (-1), 1) := by decide +kernel
theorem dX0_putTwoTogether_2 : decode cX0_putTwoTogether 2 = .ok (.invokevirtual 43, 3) := by decide +kernel
theorem dX0_putTwoTogether_5 : decode cX0_putTwoTogether 5 = .ok (.istore_n 1, 1) := by decide +kernel
theorem dX0_putTwoTogether_6 : decode cX0_putTwoTogether 6 = .ok (.aload_n 0, 1) := by decide +kernel
theorem dX0_putTwoTogether_7 : decode cX0_putTwoTogether 7 = .ok (.iload_n 1, 1) := by decide +kernel
theorem dX0_putTwoTogether_8 : decode cX0_putTwoTogether 8 = .ok (.invokevirtual 43, 3) := by decide +kernel
theorem dX0_putTwoTogether_11 : decode cX0_putTwoTogether 11 = .ok (.istore_n 2, 1) := by decide +kernel
theorem dX0_putTwoTogether_12 : decode cX0_putTwoTogether 12 = .ok (.iload_n 1, 1) := by decide +kernel
theorem dX0_putTwoTogether_13 : decode cX0_putTwoTogether 13 = .ok (.iconst (-1), 1) := by decide +kernel
theorem dX0_putTwoTogether_14 : decode cX0_putTwoTogether 14 = .ok (.if_icmp .eq 8, 3) := by decide +kernel
theorem dX0_putTwoTogether_17 : decode cX0_putTwoTogether 17 = .ok (.iload_n 2, 1) := by decide +kernel
theorem dX0_putTwoTogether_18 : decode cX0_putTwoTogether 18 = .ok (.iconst (-1), 1) := by decide +kernel
theorem dX0_putTwoTogether_19 : decode cX0_putTwoTogether 19 = .ok (.if_icmp .ne 4, 3) := by decide +kernel
theorem dX0_putTwoTogether_22 : decode cX0_putTwoTogether 22 = .ok (.return_, 1) := by decide +kernel
theorem dX0_putTwoTogether_23 : decode cX0_putTwoTogether 23 = .ok (.aload_n 0, 1) := by decide +kernel
theorem dX0_putTwoTogether_24 : decode cX0_putTwoTogether 24 = .ok (.iload_n 1, 1) := by decide +kernel
theorem dX0_putTwoTogether_25 : decode cX0_putTwoTogether 25 = .ok (.invokevirtual 47, 3) := by decide +kernel
theorem dX0_putTwoTogether_28 : decode cX0_putTwoTogether 28 = .ok (.aload_n 0, 1) := by decide +kernel
theorem dX0_putTwoTogether_29 : decode cX0_putTwoTogether 29 = .ok (.iload_n 2, 1) := by decide +kernel
theorem dX0_putTwoTogether_30 : decode cX0_putTwoTogether 30 = .ok (.invokevirtual 47, 3) := by decide +kernel
theorem dX0_putTwoTogether_33 : decode cX0_putTwoTogether 33 = .ok (.iload_n 1, 1) := by decide +kernel
theorem dX0_putTwoTogether_34 : decode cX0_putTwoTogether 34 = .ok (.iload_n 2, 1) := by decide +kernel
theorem dX0_putTwoTogether_35 : decode cX0_putTwoTogether 35 = .ok (.invokestatic 65, 3) := by decide +kernel
theorem dX0_putTwoTogether_38 : decode cX0_putTwoTogether 38 = .ok (.istore_n 3, 1) := by decide +kernel
theorem dX0_putTwoTogether_39 : decode cX0_putTwoTogether 39 = .ok (.iload_n 1, 1) := by decide +kernel
theorem dX0_putTwoTogether_40 : decode cX0_putTwoTogether 40 = .ok (.iload_n 2, 1) := by decide +kernel
theorem dX0_putTwoTogether_41 : decode cX0_putTwoTogether 41 = .ok (.invokestatic 71, 3) := by decide +kernel
theorem dX0_putTwoTogether_44 : decode cX0_putTwoTogether 44 = .ok (.istore 4, 2) := by decide +kernel
theorem dX0_putTwoTogether_46 : decode cX0_putTwoTogether 46 = .ok (.aload_n 0, 1) := by decide +kernel
theorem dX0_putTwoTogether_47 : decode cX0_putTwoTogether 47 = .ok (.getfield 18, 3) := by decide +kernel
theorem dX0_putTwoTogether_50 : decode cX0_putTwoTogether 50 = .ok (.iload_n 3, 1) := by decide +kernel
theorem dX0_putTwoTogether_51 : decode cX0_putTwoTogether 51 = .ok (.dup2, 1) := by decide +kernel
theorem dX0_putTwoTogether_52 : decode cX0_putTwoTogether 52 = .ok (.iaload, 1) := by decide +kernel
theorem dX0_putTwoTogether_53 : decode cX0_putTwoTogether 53 = .ok (.aload_n 0, 1) := by decide +kernel
theorem dX0_putTwoTogether_54 : decode cX0_putTwoTogether 54 = .ok (.getfield 18, 3) := by decide +kernel
theorem dX0_putTwoTogether_57 : decode cX0_putTwoTogether 57 = .ok (.iload 4, 2) := by decide +kernel
theorem dX0_putTwoTogether_59 : decode cX0_putTwoTogether 59 = .ok (.iaload, 1) := by decide +kernel
theorem dX0_putTwoTogether_60 : decode cX0_putTwoTogether 60 = .ok (.iadd, 1) := by decide +kernel
theorem dX0_putTwoTogether_61 : decode cX0_putTwoTogether 61 = .ok (.iastore, 1) := by decide +kernel
theorem dX0_putTwoTogether_62 : decode cX0_putTwoTogether 62 = .ok (.aload_n 0, 1) := by decide +kernel
theorem dX0_putTwoTogether_63 : decode cX0_putTwoTogether 63 = .ok (.getfield 18, 3) := by decide +kernel
theorem dX0_putTwoTogether_66 : decode cX0_putTwoTogether 66 = .ok (.iload 4, 2) := by decide +kernel
theorem dX0_putTwoTogether_68 : decode cX0_putTwoTogether 68 = .ok (.iconst 0, 1) := by decide +kernel
theorem dX0_putTwoTogether_69 : decode cX0_putTwoTogether 69 = .ok (.iastore, 1) := by decide +kernel
theorem dX0_putTwoTogether_70 : decode cX0_putTwoTogether 70 = .ok (.iconst 0, 1) := by decide +kernel
theorem dX0_putTwoTogether_71 : decode cX0_putTwoTogether 71 = .ok (.istore 5, 2) := by decide +kernel
theorem dX0_putTwoTogether_73 : decode cX0_putTwoTogether 73 = .ok (.iload 5, 2) := by decide +kernel
theorem dX0_putTwoTogether_75 : decode cX0_putTwoTogether 75 = .ok (.bipush 86, 2) := by decide +kernel
theorem dX0_putTwoTogether_77 : decode cX0_putTwoTogether 77 = .ok (.if_icmp .ge 29, 3) := by decide +kernel
theorem dX0_putTwoTogether_80 : decode cX0_putTwoTogether 80 = .ok (.aload_n 0, 1) := by decide +kernel
theorem dX0_putTwoTogether_81 : decode cX0_putTwoTogether 81 = .ok (.getfield 15, 3) := by decide +kernel
theorem dX0_putTwoTogether_84 : decode cX0_putTwoTogether 84 = .ok (.iload 5, 2) := by decide +kernel
theorem dX0_putTwoTogether_86 : decode cX0_putTwoTogether 86 = .ok (.iaload, 1) := by decide +kernel
theorem dX0_putTwoTogether_87 : decode cX0_putTwoTogether 87 = .ok (.iload 4, 2) := by decide +kernel
theorem dX0_putTwoTogether_89 : decode cX0_putTwoTogether 89 = .ok (.if_icmp .ne 11, 3) := by decide +kernel
theorem dX0_putTwoTogether_92 : decode cX0_putTwoTogether 92 = .ok (.aload_n 0, 1) := by decide +kernel
theorem dX0_putTwoTogether_93 : decode cX0_putTwoTogether 93 = .ok (.getfield 15, 3) := by decide +kernel
theorem dX0_putTwoTogether_96 : decode cX0_putTwoTogether 96 = .ok (.iload 5, 2) := by decide +kernel
theorem dX0_putTwoTogether_98 : decode cX0_putTwoTogether 98 = .ok (.iload_n 3, 1) := by decide +kernel
theorem dX0_putTwoTogether_99 : decode cX0_putTwoTogether 99 = .ok (.iastore, 1) := by decide +kernel
theorem dX0_putTwoTogether_100 : decode cX0_putTwoTogether 100 = .ok (.iinc 5 1, 3) := by decide +kernel
theorem dX0_putTwoTogether_103 : decode cX0_putTwoTogether 103 = .ok (.goto (-30), 3) := by decide +kernel
theorem dX0_putTwoTogether_106 : decode cX0_putTwoTogether 106 = .ok (.return_, 1) := by decide +kernel
theorem dX0_lengthenGroup_0 : decode cX0_lengthenGroup 0 = .ok (.iconst 0, 1) := by decide +kernel
theorem dX0_lengthenGroup_1 : decode cX0_lengthenGroup 1 = .ok (.istore_n 2, 1) := by decide +kernel
theorem dX0_lengthenGroup_2 : decode cX0_lengthenGroup 2 = .ok (.iload_n 2, 1) := by decide +kernel
theorem dX0_lengthenGroup_3 : decode cX0_lengthenGroup 3 = .ok (.bipush 86, 2) := by decide +kernel
theorem dX0_lengthenGroup_5 : decode cX0_lengthenGroup 5 = .ok (.if_icmp .ge 29, 3) := by decide +kernel
theorem dX0_lengthenGroup_8 : decode cX0_lengthenGroup 8 = .ok (.aload_n 0, 1) := by decide +kernel
theorem dX0_lengthenGroup_9 : decode cX0_lengthenGroup 9 = .ok (.getfield 15, 3) := by decide +kernel
theorem dX0_lengthenGroup_12 : decode cX0_lengthenGroup 12 = .ok (.iload_n 2, 1) := by decide +kernel
theorem dX0_lengthenGroup_13 : decode cX0_lengthenGroup 13 = .ok (.iaload, 1) := by decide +kernel
theorem dX0_lengthenGroup_14 : decode cX0_lengthenGroup 14 = .ok (.iload_n 1, 1) := by decide +kernel
theorem dX0_lengthenGroup_15 : decode cX0_lengthenGroup 15 = .ok (.if_icmp .ne 13, 3) := by decide +kernel
theorem dX0_lengthenGroup_18 : decode cX0_lengthenGroup 18 = .ok (.aload_n 0, 1) := by decide +kernel
theorem dX0_lengthenGroup_19 : decode cX0_lengthenGroup 19 = .ok (.getfield 21, 3) := by decide +kernel
theorem dX0_lengthenGroup_22 : decode cX0_lengthenGroup 22 = .ok (.iload_n 2, 1) := by decide +kernel
theorem dX0_lengthenGroup_23 : decode cX0_lengthenGroup 23 = .ok (.dup2, 1) := by decide +kernel
theorem dX0_lengthenGroup_24 : decode cX0_lengthenGroup 24 = .ok (.iaload, 1) := by decide +kernel
theorem dX0_lengthenGroup_25 : decode cX0_lengthenGroup 25 = .ok (.iconst 1, 1) := by decide +kernel
theorem dX0_lengthenGroup_26 : decode cX0_lengthenGroup 26 = .ok (.iadd, 1) := by decide +kernel
theorem dX0_lengthenGroup_27 : decode cX0_lengthenGroup 27 = .ok (.iastore, 1) := by decide +kernel
theorem dX0_lengthenGroup_28 : decode cX0_lengthenGroup 28 = .ok (.iinc 2 1, 3) := by decide +kernel
theorem dX0_lengthenGroup_31 : decode cX0_lengthenGroup 31 = .ok (.goto (-29), 3) := by decide +kernel
theorem dX0_lengthenGroup_34 : decode cX0_lengthenGroup 34 = .ok (.return_, 1) := by decide +kernel
theorem dX0_putInOrder_0 : decode cX0_putInOrder 0 = .ok (.aload_n 0, 1) := by decide +kernel
theorem dX0_putInOrder_1 : decode cX0_putInOrder 1 = .ok (.getfield 32, 3) := by decide +kernel
theorem dX0_putInOrder_4 : decode cX0_putInOrder 4 = .ok (.invokevirtual 74, 3) := by decide +kernel
theorem dX0_putInOrder_7 : decode cX0_putInOrder 7 = .ok (.iconst 1, 1) := by decide +kernel
theorem dX0_putInOrder_8 : decode cX0_putInOrder 8 = .ok (.istore_n 1, 1) := by decide +kernel
theorem dX0_putInOrder_9 : decode cX0_putInOrder 9 = .ok (.iload_n 1, 1) := by decide +kernel
theorem dX0_putInOrder_10 : decode cX0_putInOrder 10 = .ok (.bipush 86, 2) := by decide +kernel
theorem dX0_putInOrder_12 : decode cX0_putInOrder 12 = .ok (.if_icmp .ge 41, 3) := by decide +kernel
theorem dX0_putInOrder_15 : decode cX0_putInOrder 15 = .ok (.iconst 0, 1) := by decide +kernel
theorem dX0_putInOrder_16 : decode cX0_putInOrder 16 = .ok (.istore_n 2, 1) := by decide +kernel
theorem dX0_putInOrder_17 : decode cX0_putInOrder 17 = .ok (.iload_n 2, 1) := by decide +kernel
theorem dX0_putInOrder_18 : decode cX0_putInOrder 18 = .ok (.bipush 86, 2) := by decide +kernel
theorem dX0_putInOrder_20 : decode cX0_putInOrder 20 = .ok (.if_icmp .ge 27, 3) := by decide +kernel
theorem dX0_putInOrder_23 : decode cX0_putInOrder 23 = .ok (.aload_n 0, 1) := by decide +kernel
theorem dX0_putInOrder_24 : decode cX0_putInOrder 24 = .ok (.getfield 21, 3) := by decide +kernel
theorem dX0_putInOrder_27 : decode cX0_putInOrder 27 = .ok (.iload_n 2, 1) := by decide +kernel
theorem dX0_putInOrder_28 : decode cX0_putInOrder 28 = .ok (.iaload, 1) := by decide +kernel
theorem dX0_putInOrder_29 : decode cX0_putInOrder 29 = .ok (.iload_n 1, 1) := by decide +kernel
theorem dX0_putInOrder_30 : decode cX0_putInOrder 30 = .ok (.if_icmp .ne 11, 3) := by decide +kernel
theorem dX0_putInOrder_33 : decode cX0_putInOrder 33 = .ok (.aload_n 0, 1) := by decide +kernel
theorem dX0_putInOrder_34 : decode cX0_putInOrder 34 = .ok (.getfield 32, 3) := by decide +kernel
theorem dX0_putInOrder_37 : decode cX0_putInOrder 37 = .ok (.iload_n 2, 1) := by decide +kernel
theorem dX0_putInOrder_38 : decode cX0_putInOrder 38 = .ok (.invokevirtual 77, 3) := by decide +kernel
theorem dX0_putInOrder_41 : decode cX0_putInOrder 41 = .ok (.iinc 2 1, 3) := by decide +kernel
theorem dX0_putInOrder_44 : decode cX0_putInOrder 44 = .ok (.goto (-27), 3) := by decide +kernel
theorem dX0_putInOrder_47 : decode cX0_putInOrder 47 = .ok (.iinc 1 1, 3) := by decide +kernel
theorem dX0_putInOrder_50 : decode cX0_putInOrder 50 = .ok (.goto (-41), 3) := by decide +kernel
theorem dX0_putInOrder_53 : decode cX0_putInOrder 53 = .ok (.return_, 1) := by decide +kernel
theorem dX0_number_0 : decode cX0_number 0 = .ok (.iconst 0, 1) := by decide +kernel
theorem dX0_number_1 : decode cX0_number 1 = .ok (.istore_n 1, 1) := by decide +kernel
theorem dX0_number_2 : decode cX0_number 2 = .ok (.aload_n 0, 1) := by decide +kernel
theorem dX0_number_3 : decode cX0_number 3 = .ok (.aload_n 0, 1) := by decide +kernel
theorem dX0_number_4 : decode cX0_number 4 = .ok (.getfield 32, 3) := by decide +kernel
theorem dX0_number_7 : decode cX0_number 7 = .ok (.iconst 0, 1) := by decide +kernel
theorem dX0_number_8 : decode cX0_number 8 = .ok (.invokevirtual 59, 3) := by decide +kernel
theorem dX0_number_11 : decode cX0_number 11 = .ok (.invokevirtual 56, 3) := by decide +kernel
theorem dX0_number_14 : decode cX0_number 14 = .ok (.istore_n 2, 1) := by decide +kernel
theorem dX0_number_15 : decode cX0_number 15 = .ok (.iconst 0, 1) := by decide +kernel
theorem dX0_number_16 : decode cX0_number 16 = .ok (.istore_n 3, 1) := by decide +kernel
theorem dX0_number_17 : decode cX0_number 17 = .ok (.iload_n 3, 1) := by decide +kernel
theorem dX0_number_18 : decode cX0_number 18 = .ok (.aload_n 0, 1) := by decide +kernel
theorem dX0_number_19 : decode cX0_number 19 = .ok (.getfield 32, 3) := by decide +kernel
theorem dX0_number_22 : decode cX0_number 22 = .ok (.invokevirtual 80, 3) := by decide +kernel
theorem dX0_number_25 : decode cX0_number 25 = .ok (.if_icmp .ge 60, 3) := by decide +kernel
theorem dX0_number_28 : decode cX0_number 28 = .ok (.aload_n 0, 1) := by decide +kernel
theorem dX0_number_29 : decode cX0_number 29 = .ok (.getfield 32, 3) := by decide +kernel
theorem dX0_number_32 : decode cX0_number 32 = .ok (.iload_n 3, 1) := by decide +kernel
theorem dX0_number_33 : decode cX0_number 33 = .ok (.invokevirtual 59, 3) := by decide +kernel
theorem dX0_number_36 : decode cX0_number 36 = .ok (.istore 4, 2) := by decide +kernel
theorem dX0_number_38 : decode cX0_number 38 = .ok (.iload_n 1, 1) := by decide +kernel
theorem dX0_number_39 : decode cX0_number 39 = .ok (.aload_n 0, 1) := by decide +kernel
theorem dX0_number_40 : decode cX0_number 40 = .ok (.iload 4, 2) := by decide +kernel
theorem dX0_number_42 : decode cX0_number 42 = .ok (.invokevirtual 56, 3) := by decide +kernel
theorem dX0_number_45 : decode cX0_number 45 = .ok (.iload_n 2, 1) := by decide +kernel
theorem dX0_number_46 : decode cX0_number 46 = .ok (.isub, 1) := by decide +kernel
theorem dX0_number_47 : decode cX0_number 47 = .ok (.ishl, 1) := by decide +kernel
theorem dX0_number_48 : decode cX0_number 48 = .ok (.istore_n 1, 1) := by decide +kernel
theorem dX0_number_49 : decode cX0_number 49 = .ok (.aload_n 0, 1) := by decide +kernel
theorem dX0_number_50 : decode cX0_number 50 = .ok (.iload 4, 2) := by decide +kernel
theorem dX0_number_52 : decode cX0_number 52 = .ok (.invokevirtual 56, 3) := by decide +kernel
theorem dX0_number_55 : decode cX0_number 55 = .ok (.istore_n 2, 1) := by decide +kernel
theorem dX0_number_56 : decode cX0_number 56 = .ok (.iload 4, 2) := by decide +kernel
theorem dX0_number_58 : decode cX0_number 58 = .ok (.ifCond .lt 18, 3) := by decide +kernel
theorem dX0_number_61 : decode cX0_number 61 = .ok (.iload 4, 2) := by decide +kernel
theorem dX0_number_63 : decode cX0_number 63 = .ok (.bipush 86, 2) := by decide +kernel
theorem dX0_number_65 : decode cX0_number 65 = .ok (.if_icmp .ge 11, 3) := by decide +kernel
theorem dX0_number_68 : decode cX0_number 68 = .ok (.aload_n 0, 1) := by decide +kernel
theorem dX0_number_69 : decode cX0_number 69 = .ok (.getfield 24, 3) := by decide +kernel
theorem dX0_number_72 : decode cX0_number 72 = .ok (.iload 4, 2) := by decide +kernel
theorem dX0_number_74 : decode cX0_number 74 = .ok (.iload_n 1, 1) := by decide +kernel
theorem dX0_number_75 : decode cX0_number 75 = .ok (.iastore, 1) := by decide +kernel
theorem dX0_number_76 : decode cX0_number 76 = .ok (.iinc 1 1, 3) := by decide +kernel
theorem dX0_number_79 : decode cX0_number 79 = .ok (.iinc 3 1, 3) := by decide +kernel
theorem dX0_number_82 : decode cX0_number 82 = .ok (.goto (-65), 3) := by decide +kernel
theorem dX0_number_85 : decode cX0_number 85 = .ok (.return_, 1) := by decide +kernel
theorem dX1_init_0 : decode cX1_init 0 = .ok (.aload_n 0, 1) := by decide +kernel
theorem dX1_init_1 : decode cX1_init 1 = .ok (.invokespecial 3, 3) := by decide +kernel
theorem dX1_init_4 : decode cX1_init 4 = .ok (.aload_n 0, 1) := by decide +kernel
theorem dX1_init_5 : decode cX1_init 5 = .ok (.new 9, 3) := by decide +kernel
theorem dX1_init_8 : decode cX1_init 8 = .ok (.dup, 1) := by decide +kernel
theorem dX1_init_9 : decode cX1_init 9 = .ok (.invokespecial 11, 3) := by decide +kernel
theorem dX1_init_12 : decode cX1_init 12 = .ok (.putfield 12, 3) := by decide +kernel
theorem dX1_init_15 : decode cX1_init 15 = .ok (.aload_n 0, 1) := by decide +kernel
theorem dX1_init_16 : decode cX1_init 16 = .ok (.bipush 86, 2) := by decide +kernel
theorem dX1_init_18 : decode cX1_init 18 = .ok (.newarray .int, 2) := by decide +kernel
theorem dX1_init_20 : decode cX1_init 20 = .ok (.putfield 18, 3) := by decide +kernel
theorem dX1_init_23 : decode cX1_init 23 = .ok (.aload_n 0, 1) := by decide +kernel
theorem dX1_init_24 : decode cX1_init 24 = .ok (.new 22, 3) := by decide +kernel
theorem dX1_init_27 : decode cX1_init 27 = .ok (.dup, 1) := by decide +kernel
theorem dX1_init_28 : decode cX1_init 28 = .ok (.iconst 0, 1) := by decide +kernel
theorem dX1_init_29 : decode cX1_init 29 = .ok (.invokespecial 24, 3) := by decide +kernel
theorem dX1_init_32 : decode cX1_init 32 = .ok (.putfield 27, 3) := by decide +kernel
theorem dX1_init_35 : decode cX1_init 35 = .ok (.aload_n 0, 1) := by decide +kernel
theorem dX1_init_36 : decode cX1_init 36 = .ok (.iconst 0, 1) := by decide +kernel
theorem dX1_init_37 : decode cX1_init 37 = .ok (.putfield 31, 3) := by decide +kernel
theorem dX1_init_40 : decode cX1_init 40 = .ok (.aload_n 0, 1) := by decide +kernel
theorem dX1_init_41 : decode cX1_init 41 = .ok (.iconst 0, 1) := by decide +kernel
theorem dX1_init_42 : decode cX1_init 42 = .ok (.putfield 35, 3) := by decide +kernel
theorem dX1_init_45 : decode cX1_init 45 = .ok (.aload_n 0, 1) := by decide +kernel
theorem dX1_init_46 : decode cX1_init 46 = .ok (.iconst 0, 1) := by decide +kernel
theorem dX1_init_47 : decode cX1_init 47 = .ok (.putfield 38, 3) := by decide +kernel
theorem dX1_init_50 : decode cX1_init 50 = .ok (.aload_n 0, 1) := by decide +kernel
theorem dX1_init_51 : decode cX1_init 51 = .ok (.iconst (-1), 1) := by decide +kernel
theorem dX1_init_52 : decode cX1_init 52 = .ok (.putfield 41, 3) := by decide +kernel
theorem dX1_init_55 : decode cX1_init 55 = .ok (.return_, 1) := by decide +kernel
theorem dX1_readFrom_0 : decode cX1_readFrom 0 = .ok (.aload_n 0, 1) := by decide +kernel
theorem dX1_readFrom_1 : decode cX1_readFrom 1 = .ok (.aload_n 1, 1) := by decide +kernel
theorem dX1_readFrom_2 : decode cX1_readFrom 2 = .ok (.iload_n 2, 1) := by decide +kernel
theorem dX1_readFrom_3 : decode cX1_readFrom 3 = .ok (.invokevirtual 44, 3) := by decide +kernel
theorem dX1_readFrom_6 : decode cX1_readFrom 6 = .ok (.aload_n 0, 1) := by decide +kernel
theorem dX1_readFrom_7 : decode cX1_readFrom 7 = .ok (.invokevirtual 48, 3) := by decide +kernel
theorem dX1_readFrom_10 : decode cX1_readFrom 10 = .ok (.istore_n 3, 1) := by decide +kernel
theorem dX1_readFrom_11 : decode cX1_readFrom 11 = .ok (.aload_n 0, 1) := by decide +kernel
theorem dX1_readFrom_12 : decode cX1_readFrom 12 = .ok (.invokevirtual 52, 3) := by decide +kernel
theorem dX1_readFrom_15 : decode cX1_readFrom 15 = .ok (.ifCond .eq 14, 3) := by decide +kernel
theorem dX1_readFrom_18 : decode cX1_readFrom 18 = .ok (.iload_n 3, 1) := by decide +kernel
theorem dX1_readFrom_19 : decode cX1_readFrom 19 = .ok (.bipush 60, 2) := by decide +kernel
theorem dX1_readFrom_21 : decode cX1_readFrom 21 = .ok (.if_icmp .le 8, 3) := by decide +kernel
theorem dX1_readFrom_24 : decode cX1_readFrom 24 = .ok (.aload_n 0, 1) := by decide +kernel
theorem dX1_readFrom_25 : decode cX1_readFrom 25 = .ok (.iconst 2, 1) := by decide +kernel
theorem dX1_readFrom_26 : decode cX1_readFrom 26 = .ok (.invokevirtual 56, 3) := by decide +kernel
theorem dX1_readFrom_29 : decode cX1_readFrom 29 = .ok (.iconst 0, 1) := by decide +kernel
theorem dX1_readFrom_30 : decode cX1_readFrom 30 = .ok (.istore 4, 2) := by decide +kernel
theorem dX1_readFrom_32 : decode cX1_readFrom 32 = .ok (.iload 4, 2) := by decide +kernel
theorem dX1_readFrom_34 : decode cX1_readFrom 34 = .ok (.iload_n 3, 1) := by decide +kernel
theorem dX1_readFrom_35 : decode cX1_readFrom 35 = .ok (.if_icmp .ge 20, 3) := by decide +kernel
theorem dX1_readFrom_38 : decode cX1_readFrom 38 = .ok (.aload_n 0, 1) := by decide +kernel
theorem dX1_readFrom_39 : decode cX1_readFrom 39 = .ok (.invokevirtual 52, 3) := by decide +kernel
theorem dX1_readFrom_42 : decode cX1_readFrom 42 = .ok (.ifCond .eq 13, 3) := by decide +kernel
theorem dX1_readFrom_45 : decode cX1_readFrom 45 = .ok (.aload_n 0, 1) := by decide +kernel
theorem dX1_readFrom_46 : decode cX1_readFrom 46 = .ok (.invokevirtual 59, 3) := by decide +kernel
theorem dX1_readFrom_49 : decode cX1_readFrom 49 = .ok (.iinc 4 1, 3) := by decide +kernel
theorem dX1_readFrom_52 : decode cX1_readFrom 52 = .ok (.goto (-20), 3) := by decide +kernel
theorem dX1_readFrom_55 : decode cX1_readFrom 55 = .ok (.aload_n 0, 1) := by decide +kernel
theorem dX1_readFrom_56 : decode cX1_readFrom 56 = .ok (.invokevirtual 52, 3) := by decide +kernel
theorem dX1_readFrom_59 : decode cX1_readFrom 59 = .ok (.ifCond .eq 7, 3) := by decide +kernel
theorem dX1_readFrom_62 : decode cX1_readFrom 62 = .ok (.aload_n 0, 1) := by decide +kernel
theorem dX1_readFrom_63 : decode cX1_readFrom 63 = .ok (.invokevirtual 62, 3) := by decide +kernel
theorem dX1_readFrom_66 : decode cX1_readFrom 66 = .ok (.aload_n 0, 1) := by decide +kernel
theorem dX1_readFrom_67 : decode cX1_readFrom 67 = .ok (.invokevirtual 52, 3) := by decide +kernel
theorem dX1_readFrom_70 : decode cX1_readFrom 70 = .ok (.ifCond .eq 29, 3) := by decide +kernel
theorem dX1_readFrom_73 : decode cX1_readFrom 73 = .ok (.aload_n 0, 1) := by decide +kernel
theorem dX1_readFrom_74 : decode cX1_readFrom 74 = .ok (.getfield 35, 3) := by decide +kernel
theorem dX1_readFrom_77 : decode cX1_readFrom 77 = .ok (.aload_n 0, 1) := by decide +kernel
theorem dX1_readFrom_78 : decode cX1_readFrom 78 = .ok (.getfield 31, 3) := by decide +kernel
theorem dX1_readFrom_81 : decode cX1_readFrom 81 = .ok (.if_icmp .ge 18, 3) := by decide +kernel
theorem dX1_readFrom_84 : decode cX1_readFrom 84 = .ok (.aload_n 0, 1) := by decide +kernel
theorem dX1_readFrom_85 : decode cX1_readFrom 85 = .ok (.dup, 1) := by decide +kernel
theorem dX1_readFrom_86 : decode cX1_readFrom 86 = .ok (.getfield 35, 3) := by decide +kernel
theorem dX1_readFrom_89 : decode cX1_readFrom 89 = .ok (.iconst 1, 1) := by decide +kernel
theorem dX1_readFrom_90 : decode cX1_readFrom 90 = .ok (.iadd, 1) := by decide +kernel
theorem dX1_readFrom_91 : decode cX1_readFrom 91 = .ok (.putfield 35, 3) := by decide +kernel
theorem dX1_readFrom_94 : decode cX1_readFrom 94 = .ok (.aload_n 0, 1) := by decide +kernel
theorem dX1_readFrom_95 : decode cX1_readFrom 95 = .ok (.iconst 1, 1) := by decide +kernel
theorem dX1_readFrom_96 : decode cX1_readFrom 96 = .ok (.invokevirtual 56, 3) := by decide +kernel
theorem dX1_readFrom_99 : decode cX1_readFrom 99 = .ok (.return_, 1) := by decide +kernel
theorem dX1_faultKind_0 : decode cX1_faultKind 0 = .ok (.aload_n 0, 1) := by decide +kernel
theorem dX1_faultKind_1 : decode cX1_faultKind 1 = .ok (.getfield 38, 3) := by decide +kernel
theorem dX1_faultKind_4 : decode cX1_faultKind 4 = .ok (.ireturn, 1) := by decide +kernel
theorem dX1_faultPlace_0 : decode cX1_faultPlace 0 = .ok (.aload_n 0, 1) := by decide +kernel
theorem dX1_faultPlace_1 : decode cX1_faultPlace 1 = .ok (.getfield 41, 3) := by decide +kernel
theorem dX1_faultPlace_4 : decode cX1_faultPlace 4 = .ok (.ireturn, 1) := by decide +kernel
theorem dX1_packing_0 : decode cX1_packing 0 = .ok (.aload_n 0, 1) := by decide +kernel
theorem dX1_packing_1 : decode cX1_packing 1 = .ok (.getfield 12, 3) := by decide +kernel
theorem dX1_packing_4 : decode cX1_packing 4 = .ok (.areturn, 1) := by decide +kernel
theorem dX1_start_0 : decode cX1_start 0 = .ok (.aload_n 0, 1) := by decide +kernel
theorem dX1_start_1 : decode cX1_start 1 = .ok (.getfield 12, 3) := by decide +kernel
theorem dX1_start_4 : decode cX1_start 4 = .ok (.invokevirtual 65, 3) := by decide +kernel
theorem dX1_start_7 : decode cX1_start 7 = .ok (.iconst 0, 1) := by decide +kernel
theorem dX1_start_8 : decode cX1_start 8 = .ok (.istore_n 3, 1) := by decide +kernel
theorem dX1_start_9 : decode cX1_start 9 = .ok (.iload_n 3, 1) := by decide +kernel
theorem dX1_start_10 : decode cX1_start 10 = .ok (.bipush 86, 2) := by decide +kernel
theorem dX1_start_12 : decode cX1_start 12 = .ok (.if_icmp .ge 27, 3) := by decide +kernel
theorem dX1_start_15 : decode cX1_start 15 = .ok (.aload_n 0, 1) := by decide +kernel
theorem dX1_start_16 : decode cX1_start 16 = .ok (.getfield 18, 3) := by decide +kernel
theorem dX1_start_19 : decode cX1_start 19 = .ok (.iload_n 3, 1) := by decide +kernel
theorem dX1_start_20 : decode cX1_start 20 = .ok (.iload_n 3, 1) := by decide +kernel
theorem dX1_start_21 : decode cX1_start 21 = .ok (.invokestatic 68, 3) := by decide +kernel
theorem dX1_start_24 : decode cX1_start 24 = .ok (.ifCond .eq 7, 3) := by decide +kernel
theorem dX1_start_27 : decode cX1_start 27 = .ok (.iconst 1, 1) := by decide +kernel
theorem dX1_start_28 : decode cX1_start 28 = .ok (.goto 4, 3) := by decide +kernel
theorem dX1_start_31 : decode cX1_start 31 = .ok (.iconst 0, 1) := by decide +kernel
theorem dX1_start_32 : decode cX1_start 32 = .ok (.iastore, 1) := by decide +kernel
theorem dX1_start_33 : decode cX1_start 33 = .ok (.iinc 3 1, 3) := by decide +kernel
theorem dX1_start_36 : decode cX1_start 36 = .ok (.goto (-27), 3) := by decide +kernel
theorem dX1_start_39 : decode cX1_start 39 = .ok (.aload_n 0, 1) := by decide +kernel
theorem dX1_start_40 : decode cX1_start 40 = .ok (.aload_n 1, 1) := by decide +kernel
theorem dX1_start_41 : decode cX1_start 41 = .ok (.putfield 27, 3) := by decide +kernel
theorem dX1_start_44 : decode cX1_start 44 = .ok (.aload_n 0, 1) := by decide +kernel
theorem dX1_start_45 : decode cX1_start 45 = .ok (.iload_n 2, 1) := by decide +kernel
theorem dX1_start_46 : decode cX1_start 46 = .ok (.putfield 31, 3) := by decide +kernel
theorem dX1_start_49 : decode cX1_start 49 = .ok (.aload_n 0, 1) := by decide +kernel
theorem dX1_start_50 : decode cX1_start 50 = .ok (.iconst 0, 1) := by decide +kernel
theorem dX1_start_51 : decode cX1_start 51 = .ok (.putfield 35, 3) := by decide +kernel
theorem dX1_start_54 : decode cX1_start 54 = .ok (.aload_n 0, 1) := by decide +kernel
theorem dX1_start_55 : decode cX1_start 55 = .ok (.iconst 0, 1) := by decide +kernel
theorem dX1_start_56 : decode cX1_start 56 = .ok (.putfield 38, 3) := by decide +kernel
theorem dX1_start_59 : decode cX1_start 59 = .ok (.aload_n 0, 1) := by decide +kernel
theorem dX1_start_60 : decode cX1_start 60 = .ok (.iconst (-1), 1) := by decide +kernel
theorem dX1_start_61 : decode cX1_start 61 = .ok (.putfield 41, 3) := by decide +kernel
theorem dX1_start_64 : decode cX1_start 64 = .ok (.return_, 1) := by decide +kernel
theorem dX1_isWhole_0 : decode cX1_isWhole 0 = .ok (.aload_n 0, 1) := by decide +kernel
theorem dX1_isWhole_1 : decode cX1_isWhole 1 = .ok (.getfield 38, 3) := by decide +kernel
theorem dX1_isWhole_4 : decode cX1_isWhole 4 = .ok (.ifCond .ne 7, 3) := by decide +kernel
theorem dX1_isWhole_7 : decode cX1_isWhole 7 = .ok (.iconst 1, 1) := by decide +kernel
theorem dX1_isWhole_8 : decode cX1_isWhole 8 = .ok (.goto 4, 3) := by decide +kernel
theorem dX1_isWhole_11 : decode cX1_isWhole 11 = .ok (.iconst 0, 1) := by decide +kernel
theorem dX1_isWhole_12 : decode cX1_isWhole 12 = .ok (.ireturn, 1) := by decide +kernel
theorem dX1_nextByte_0 : decode cX1_nextByte 0 = .ok (.aload_n 0, 1) := by decide +kernel
theorem dX1_nextByte_1 : decode cX1_nextByte 1 = .ok (.getfield 35, 3) := by decide +kernel
theorem dX1_nextByte_4 : decode cX1_nextByte 4 = .ok (.aload_n 0, 1) := by decide +kernel
theorem dX1_nextByte_5 : decode cX1_nextByte 5 = .ok (.getfield 31, 3) := by decide +kernel
theorem dX1_nextByte_8 : decode cX1_nextByte 8 = .ok (.if_icmp .lt 20, 3) := by decide +kernel
theorem dX1_nextByte_11 : decode cX1_nextByte 11 = .ok (.aload_n 0, 1) := by decide +kernel
theorem dX1_nextByte_12 : decode cX1_nextByte 12 = .ok (.dup, 1) := by decide +kernel
theorem dX1_nextByte_13 : decode cX1_nextByte 13 = .ok (.getfield 35, 3) := by decide +kernel
theorem dX1_nextByte_16 : decode cX1_nextByte 16 = .ok (.iconst 1, 1) := by decide +kernel
theorem dX1_nextByte_17 : decode cX1_nextByte 17 = .ok (.iadd, 1) := by decide +kernel
theorem dX1_nextByte_18 : decode cX1_nextByte 18 = .ok (.putfield 35, 3) := by decide +kernel
theorem dX1_nextByte_21 : decode cX1_nextByte 21 = .ok (.aload_n 0, 1) := by decide +kernel
theorem dX1_nextByte_22 : decode cX1_nextByte 22 = .ok (.iconst 1, 1) := by decide +kernel
theorem dX1_nextByte_23 : decode cX1_nextByte 23 = .ok (.invokevirtual 56, 3) := by decide +kernel
theorem dX1_nextByte_26 : decode cX1_nextByte 26 = .ok (.iconst (-1), 1) := by decide +kernel
theorem dX1_nextByte_27 : decode cX1_nextByte 27 = .ok (.ireturn, 1) := by decide +kernel
theorem dX1_nextByte_28 : decode cX1_nextByte 28 = .ok (.aload_n 0, 1) := by decide +kernel
theorem dX1_nextByte_29 : decode cX1_nextByte 29 = .ok (.getfield 27, 3) := by decide +kernel
theorem dX1_nextByte_32 : decode cX1_nextByte 32 = .ok (.aload_n 0, 1) := by decide +kernel
theorem dX1_nextByte_33 : decode cX1_nextByte 33 = .ok (.getfield 35, 3) := by decide +kernel
theorem dX1_nextByte_36 : decode cX1_nextByte 36 = .ok (.invokevirtual 72, 3) := by decide +kernel
theorem dX1_nextByte_39 : decode cX1_nextByte 39 = .ok (.istore_n 1, 1) := by decide +kernel
theorem dX1_nextByte_40 : decode cX1_nextByte 40 = .ok (.aload_n 0, 1) := by decide +kernel
theorem dX1_nextByte_41 : decode cX1_nextByte 41 = .ok (.dup, 1) := by decide +kernel
theorem dX1_nextByte_42 : decode cX1_nextByte 42 = .ok (.getfield 35, 3) := by decide +kernel
theorem dX1_nextByte_45 : decode cX1_nextByte 45 = .ok (.iconst 1, 1) := by decide +kernel
theorem dX1_nextByte_46 : decode cX1_nextByte 46 = .ok (.iadd, 1) := by decide +kernel
theorem dX1_nextByte_47 : decode cX1_nextByte 47 = .ok (.putfield 35, 3) := by decide +kernel
theorem dX1_nextByte_50 : decode cX1_nextByte 50 = .ok (.iload_n 1, 1) := by decide +kernel
theorem dX1_nextByte_51 : decode cX1_nextByte 51 = .ok (.ireturn, 1) := by decide +kernel
theorem dX1_blame_0 : decode cX1_blame 0 = .ok (.aload_n 0, 1) := by decide +kernel
theorem dX1_blame_1 : decode cX1_blame 1 = .ok (.iload_n 1, 1) := by decide +kernel
theorem dX1_blame_2 : decode cX1_blame 2 = .ok (.putfield 38, 3) := by decide +kernel
theorem dX1_blame_5 : decode cX1_blame 5 = .ok (.aload_n 0, 1) := by decide +kernel
theorem dX1_blame_6 : decode cX1_blame 6 = .ok (.aload_n 0, 1) := by decide +kernel
theorem dX1_blame_7 : decode cX1_blame 7 = .ok (.getfield 35, 3) := by decide +kernel
theorem dX1_blame_10 : decode cX1_blame 10 = .ok (.iconst 1, 1) := by decide +kernel
theorem dX1_blame_11 : decode cX1_blame 11 = .ok (.isub, 1) := by decide +kernel
theorem dX1_blame_12 : decode cX1_blame 12 = .ok (.putfield 41, 3) := by decide +kernel
theorem dX1_blame_15 : decode cX1_blame 15 = .ok (.return_, 1) := by decide +kernel
theorem dX1_lettersOf_0 : decode cX1_lettersOf 0 = .ok (.iload_n 1, 1) := by decide +kernel
theorem dX1_lettersOf_1 : decode cX1_lettersOf 1 = .ok (.ifCond .lt 18, 3) := by decide +kernel
theorem dX1_lettersOf_4 : decode cX1_lettersOf 4 = .ok (.iload_n 1, 1) := by decide +kernel
theorem dX1_lettersOf_5 : decode cX1_lettersOf 5 = .ok (.bipush 86, 2) := by decide +kernel
theorem dX1_lettersOf_7 : decode cX1_lettersOf 7 = .ok (.if_icmp .ge 12, 3) := by decide +kernel
theorem dX1_lettersOf_10 : decode cX1_lettersOf 10 = .ok (.aload_n 0, 1) := by decide +kernel
theorem dX1_lettersOf_11 : decode cX1_lettersOf 11 = .ok (.getfield 18, 3) := by decide +kernel
theorem dX1_lettersOf_14 : decode cX1_lettersOf 14 = .ok (.iload_n 1, 1) := by decide +kernel
theorem dX1_lettersOf_15 : decode cX1_lettersOf 15 = .ok (.iaload, 1) := by decide +kernel
theorem dX1_lettersOf_16 : decode cX1_lettersOf 16 = .ok (.goto 4, 3) := by decide +kernel
theorem dX1_lettersOf_19 : decode cX1_lettersOf 19 = .ok (.iconst 0, 1) := by decide +kernel
theorem dX1_lettersOf_20 : decode cX1_lettersOf 20 = .ok (.ireturn, 1) := by decide +kernel
theorem dX1_readRule_0 : decode cX1_readRule 0 = .ok (.aload_n 0, 1) := by decide +kernel
theorem dX1_readRule_1 : decode cX1_readRule 1 = .ok (.invokevirtual 48, 3) := by decide +kernel
theorem dX1_readRule_4 : decode cX1_readRule 4 = .ok (.istore_n 1, 1) := by decide +kernel
theorem dX1_readRule_5 : decode cX1_readRule 5 = .ok (.aload_n 0, 1) := by decide +kernel
theorem dX1_readRule_6 : decode cX1_readRule 6 = .ok (.invokevirtual 52, 3) := by decide +kernel
theorem dX1_readRule_9 : decode cX1_readRule 9 = .ok (.ifCond .ne 4, 3) := by decide +kernel
theorem dX1_readRule_12 : decode cX1_readRule 12 = .ok (.return_, 1) := by decide +kernel
theorem dX1_readRule_13 : decode cX1_readRule 13 = .ok (.iload_n 1, 1) := by decide +kernel
theorem dX1_readRule_14 : decode cX1_readRule 14 = .ok (.bipush 26, 2) := by decide +kernel
theorem dX1_readRule_16 : decode cX1_readRule 16 = .ok (.if_icmp .lt 9, 3) := by decide +kernel
theorem dX1_readRule_19 : decode cX1_readRule 19 = .ok (.iload_n 1, 1) := by decide +kernel
theorem dX1_readRule_20 : decode cX1_readRule 20 = .ok (.bipush 86, 2) := by decide +kernel
theorem dX1_readRule_22 : decode cX1_readRule 22 = .ok (.if_icmp .lt 9, 3) := by decide +kernel
theorem dX1_readRule_25 : decode cX1_readRule 25 = .ok (.aload_n 0, 1) := by decide +kernel
theorem dX1_readRule_26 : decode cX1_readRule 26 = .ok (.iconst 2, 1) := by decide +kernel
theorem dX1_readRule_27 : decode cX1_readRule 27 = .ok (.invokevirtual 56, 3) := by decide +kernel
theorem dX1_readRule_30 : decode cX1_readRule 30 = .ok (.return_, 1) := by decide +kernel
theorem dX1_readRule_31 : decode cX1_readRule 31 = .ok (.aload_n 0, 1) := by decide +kernel
theorem dX1_readRule_32 : decode cX1_readRule 32 = .ok (.iload_n 1, 1) := by decide +kernel
theorem dX1_readRule_33 : decode cX1_readRule 33 = .ok (.invokevirtual 76, 3) := by decide +kernel
theorem dX1_readRule_36 : decode cX1_readRule 36 = .ok (.ifCond .le 9, 3) := by decide +kernel
theorem dX1_readRule_39 : decode cX1_readRule 39 = .ok (.aload_n 0, 1) := by decide +kernel
theorem dX1_readRule_40 : decode cX1_readRule 40 = .ok (.iconst 3, 1) := by decide +kernel
theorem dX1_readRule_41 : decode cX1_readRule 41 = .ok (.invokevirtual 56, 3) := by decide +kernel
theorem dX1_readRule_44 : decode cX1_readRule 44 = .ok (.return_, 1) := by decide +kernel
theorem dX1_readRule_45 : decode cX1_readRule 45 = .ok (.aload_n 0, 1) := by decide +kernel
theorem dX1_readRule_46 : decode cX1_readRule 46 = .ok (.invokevirtual 48, 3) := by decide +kernel
theorem dX1_readRule_49 : decode cX1_readRule 49 = .ok (.istore_n 2, 1) := by decide +kernel
theorem dX1_readRule_50 : decode cX1_readRule 50 = .ok (.aload_n 0, 1) := by decide +kernel
theorem dX1_readRule_51 : decode cX1_readRule 51 = .ok (.invokevirtual 52, 3) := by decide +kernel
theorem dX1_readRule_54 : decode cX1_readRule 54 = .ok (.ifCond .eq 19, 3) := by decide +kernel
theorem dX1_readRule_57 : decode cX1_readRule 57 = .ok (.iload_n 2, 1) := by decide +kernel
theorem dX1_readRule_58 : decode cX1_readRule 58 = .ok (.iconst 2, 1) := by decide +kernel
theorem dX1_readRule_59 : decode cX1_readRule 59 = .ok (.if_icmp .lt 9, 3) := by decide +kernel
theorem dX1_readRule_62 : decode cX1_readRule 62 = .ok (.iload_n 2, 1) := by decide +kernel
theorem dX1_readRule_63 : decode cX1_readRule 63 = .ok (.bipush 12, 2) := by decide +kernel
theorem dX1_readRule_65 : decode cX1_readRule 65 = .ok (.if_icmp .le 8, 3) := by decide +kernel
theorem dX1_readRule_68 : decode cX1_readRule 68 = .ok (.aload_n 0, 1) := by decide +kernel
theorem dX1_readRule_69 : decode cX1_readRule 69 = .ok (.iconst 2, 1) := by decide +kernel
theorem dX1_readRule_70 : decode cX1_readRule 70 = .ok (.invokevirtual 56, 3) := by decide +kernel
theorem dX1_readRule_73 : decode cX1_readRule 73 = .ok (.aload_n 0, 1) := by decide +kernel
theorem dX1_readRule_74 : decode cX1_readRule 74 = .ok (.getfield 18, 3) := by decide +kernel
theorem dX1_readRule_77 : decode cX1_readRule 77 = .ok (.iload_n 1, 1) := by decide +kernel
theorem dX1_readRule_78 : decode cX1_readRule 78 = .ok (.aload_n 0, 1) := by decide +kernel
theorem dX1_readRule_79 : decode cX1_readRule 79 = .ok (.aload_n 0, 1) := by decide +kernel
theorem dX1_readRule_80 : decode cX1_readRule 80 = .ok (.getfield 12, 3) := by decide +kernel
theorem dX1_readRule_83 : decode cX1_readRule 83 = .ok (.iload_n 1, 1) := by decide +kernel
theorem dX1_readRule_84 : decode cX1_readRule 84 = .ok (.invokevirtual 79, 3) := by decide +kernel
theorem dX1_readRule_87 : decode cX1_readRule 87 = .ok (.iload_n 2, 1) := by decide +kernel
theorem dX1_readRule_88 : decode cX1_readRule 88 = .ok (.invokevirtual 83, 3) := by decide +kernel
theorem dX1_readRule_91 : decode cX1_readRule 91 = .ok (.iastore, 1) := by decide +kernel
theorem dX1_readRule_92 : decode cX1_readRule 92 = .ok (.return_, 1) := by decide +kernel
theorem dX1_readSequence_0 : decode cX1_readSequence 0 = .ok (.aload_n 0, 1) := by decide +kernel
theorem dX1_readSequence_1 : decode cX1_readSequence 1 = .ok (.invokevirtual 48, 3) := by decide +kernel
theorem dX1_readSequence_4 : decode cX1_readSequence 4 = .ok (.istore_n 1, 1) := by decide +kernel
theorem dX1_readSequence_5 : decode cX1_readSequence 5 = .ok (.aload_n 0, 1) := by decide +kernel
theorem dX1_readSequence_6 : decode cX1_readSequence 6 = .ok (.invokevirtual 52, 3) := by decide +kernel
theorem dX1_readSequence_9 : decode cX1_readSequence 9 = .ok (.ifCond .eq 15, 3) := by decide +kernel
theorem dX1_readSequence_12 : decode cX1_readSequence 12 = .ok (.iload_n 1, 1) := by decide +kernel
theorem dX1_readSequence_13 : decode cX1_readSequence 13 = .ok (.sipush 240, 3) := by decide +kernel
theorem dX1_readSequence_16 : decode cX1_readSequence 16 = .ok (.if_icmp .le 8, 3) := by decide +kernel
theorem dX1_readSequence_19 : decode cX1_readSequence 19 = .ok (.aload_n 0, 1) := by decide +kernel
theorem dX1_readSequence_20 : decode cX1_readSequence 20 = .ok (.iconst 2, 1) := by decide +kernel
theorem dX1_readSequence_21 : decode cX1_readSequence 21 = .ok (.invokevirtual 56, 3) := by decide +kernel
theorem dX1_readSequence_24 : decode cX1_readSequence 24 = .ok (.aload_n 0, 1) := by decide +kernel
theorem dX1_readSequence_25 : decode cX1_readSequence 25 = .ok (.aload_n 0, 1) := by decide +kernel
theorem dX1_readSequence_26 : decode cX1_readSequence 26 = .ok (.getfield 12, 3) := by decide +kernel
theorem dX1_readSequence_29 : decode cX1_readSequence 29 = .ok (.invokevirtual 87, 3) := by decide +kernel
theorem dX1_readSequence_32 : decode cX1_readSequence 32 = .ok (.iload_n 1, 1) := by decide +kernel
theorem dX1_readSequence_33 : decode cX1_readSequence 33 = .ok (.invokevirtual 83, 3) := by decide +kernel
theorem dX1_readSequence_36 : decode cX1_readSequence 36 = .ok (.pop, 1) := by decide +kernel
theorem dX1_readSequence_37 : decode cX1_readSequence 37 = .ok (.return_, 1) := by decide +kernel
theorem dX1_readRow_0 : decode cX1_readRow 0 = .ok (.iconst 0, 1) := by decide +kernel
theorem dX1_readRow_1 : decode cX1_readRow 1 = .ok (.istore_n 3, 1) := by decide +kernel
theorem dX1_readRow_2 : decode cX1_readRow 2 = .ok (.iconst 0, 1) := by decide +kernel
theorem dX1_readRow_3 : decode cX1_readRow 3 = .ok (.istore 4, 2) := by decide +kernel
theorem dX1_readRow_5 : decode cX1_readRow 5 = .ok (.iload 4, 2) := by decide +kernel
theorem dX1_readRow_7 : decode cX1_readRow 7 = .ok (.iload_n 2, 1) := by decide +kernel
theorem dX1_readRow_8 : decode cX1_readRow 8 = .ok (.if_icmp .ge 73, 3) := by decide +kernel
theorem dX1_readRow_11 : decode cX1_readRow 11 = .ok (.aload_n 0, 1) := by decide +kernel
theorem dX1_readRow_12 : decode cX1_readRow 12 = .ok (.invokevirtual 52, 3) := by decide +kernel
theorem dX1_readRow_15 : decode cX1_readRow 15 = .ok (.ifCond .eq 66, 3) := by decide +kernel
theorem dX1_readRow_18 : decode cX1_readRow 18 = .ok (.aload_n 0, 1) := by decide +kernel
theorem dX1_readRow_19 : decode cX1_readRow 19 = .ok (.invokevirtual 48, 3) := by decide +kernel
theorem dX1_readRow_22 : decode cX1_readRow 22 = .ok (.istore 5, 2) := by decide +kernel
theorem dX1_readRow_24 : decode cX1_readRow 24 = .ok (.aload_n 0, 1) := by decide +kernel
theorem dX1_readRow_25 : decode cX1_readRow 25 = .ok (.invokevirtual 52, 3) := by decide +kernel
theorem dX1_readRow_28 : decode cX1_readRow 28 = .ok (.ifCond .eq 47, 3) := by decide +kernel
theorem dX1_readRow_31 : decode cX1_readRow 31 = .ok (.iload_n 3, 1) := by decide +kernel
theorem dX1_readRow_32 : decode cX1_readRow 32 = .ok (.aload_n 0, 1) := by decide +kernel
theorem dX1_readRow_33 : decode cX1_readRow 33 = .ok (.iload 5, 2) := by decide +kernel
theorem dX1_readRow_35 : decode cX1_readRow 35 = .ok (.invokevirtual 76, 3) := by decide +kernel
theorem dX1_readRow_38 : decode cX1_readRow 38 = .ok (.iadd, 1) := by decide +kernel
theorem dX1_readRow_39 : decode cX1_readRow 39 = .ok (.istore_n 3, 1) := by decide +kernel
theorem dX1_readRow_40 : decode cX1_readRow 40 = .ok (.aload_n 0, 1) := by decide +kernel
theorem dX1_readRow_41 : decode cX1_readRow 41 = .ok (.iload 5, 2) := by decide +kernel
theorem dX1_readRow_43 : decode cX1_readRow 43 = .ok (.invokevirtual 76, 3) := by decide +kernel
theorem dX1_readRow_46 : decode cX1_readRow 46 = .ok (.ifCond .ne 11, 3) := by decide +kernel
theorem dX1_readRow_49 : decode cX1_readRow 49 = .ok (.aload_n 0, 1) := by decide +kernel
theorem dX1_readRow_50 : decode cX1_readRow 50 = .ok (.iconst 3, 1) := by decide +kernel
theorem dX1_readRow_51 : decode cX1_readRow 51 = .ok (.invokevirtual 56, 3) := by decide +kernel
theorem dX1_readRow_54 : decode cX1_readRow 54 = .ok (.goto 15, 3) := by decide +kernel
theorem dX1_readRow_57 : decode cX1_readRow 57 = .ok (.iload_n 3, 1) := by decide +kernel
theorem dX1_readRow_58 : decode cX1_readRow 58 = .ok (.sipush 240, 3) := by decide +kernel
theorem dX1_readRow_61 : decode cX1_readRow 61 = .ok (.if_icmp .le 8, 3) := by decide +kernel
theorem dX1_readRow_64 : decode cX1_readRow 64 = .ok (.aload_n 0, 1) := by decide +kernel
theorem dX1_readRow_65 : decode cX1_readRow 65 = .ok (.iconst 4, 1) := by decide +kernel
theorem dX1_readRow_66 : decode cX1_readRow 66 = .ok (.invokevirtual 56, 3) := by decide +kernel
theorem dX1_readRow_69 : decode cX1_readRow 69 = .ok (.aload_n 1, 1) := by decide +kernel
theorem dX1_readRow_70 : decode cX1_readRow 70 = .ok (.iload 5, 2) := by decide +kernel
theorem dX1_readRow_72 : decode cX1_readRow 72 = .ok (.invokevirtual 91, 3) := by decide +kernel
theorem dX1_readRow_75 : decode cX1_readRow 75 = .ok (.iinc 4 1, 3) := by decide +kernel
theorem dX1_readRow_78 : decode cX1_readRow 78 = .ok (.goto (-73), 3) := by decide +kernel
theorem dX1_readRow_81 : decode cX1_readRow 81 = .ok (.iload_n 3, 1) := by decide +kernel
theorem dX1_readRow_82 : decode cX1_readRow 82 = .ok (.ireturn, 1) := by decide +kernel
theorem dX2_init_0 : decode cX2_init 0 = .ok (.aload_n 0, 1) := by decide +kernel
theorem dX2_init_1 : decode cX2_init 1 = .ok (.invokespecial 3, 3) := by decide +kernel
theorem dX2_init_4 : decode cX2_init 4 = .ok (.aload_n 0, 1) := by decide +kernel
theorem dX2_init_5 : decode cX2_init 5 = .ok (.new 9, 3) := by decide +kernel
theorem dX2_init_8 : decode cX2_init 8 = .ok (.dup, 1) := by decide +kernel
theorem dX2_init_9 : decode cX2_init 9 = .ok (.sipush 240, 3) := by decide +kernel
theorem dX2_init_12 : decode cX2_init 12 = .ok (.invokespecial 11, 3) := by decide +kernel
theorem dX2_init_15 : decode cX2_init 15 = .ok (.putfield 14, 3) := by decide +kernel
theorem dX2_init_18 : decode cX2_init 18 = .ok (.aload_n 0, 1) := by decide +kernel
theorem dX2_init_19 : decode cX2_init 19 = .ok (.bipush 60, 2) := by decide +kernel
theorem dX2_init_21 : decode cX2_init 21 = .ok (.anewarray 9, 3) := by decide +kernel
theorem dX2_init_24 : decode cX2_init 24 = .ok (.putfield 20, 3) := by decide +kernel
theorem dX2_init_27 : decode cX2_init 27 = .ok (.aload_n 0, 1) := by decide +kernel
theorem dX2_init_28 : decode cX2_init 28 = .ok (.new 9, 3) := by decide +kernel
theorem dX2_init_31 : decode cX2_init 31 = .ok (.dup, 1) := by decide +kernel
theorem dX2_init_32 : decode cX2_init 32 = .ok (.iconst 0, 1) := by decide +kernel
theorem dX2_init_33 : decode cX2_init 33 = .ok (.invokespecial 11, 3) := by decide +kernel
theorem dX2_init_36 : decode cX2_init 36 = .ok (.putfield 24, 3) := by decide +kernel
theorem dX2_init_39 : decode cX2_init 39 = .ok (.iconst 0, 1) := by decide +kernel
theorem dX2_init_40 : decode cX2_init 40 = .ok (.istore_n 1, 1) := by decide +kernel
theorem dX2_init_41 : decode cX2_init 41 = .ok (.iload_n 1, 1) := by decide +kernel
theorem dX2_init_42 : decode cX2_init 42 = .ok (.bipush 60, 2) := by decide +kernel
theorem dX2_init_44 : decode cX2_init 44 = .ok (.if_icmp .ge 24, 3) := by decide +kernel
theorem dX2_init_47 : decode cX2_init 47 = .ok (.aload_n 0, 1) := by decide +kernel
theorem dX2_init_48 : decode cX2_init 48 = .ok (.getfield 20, 3) := by decide +kernel
theorem dX2_init_51 : decode cX2_init 51 = .ok (.iload_n 1, 1) := by decide +kernel
theorem dX2_init_52 : decode cX2_init 52 = .ok (.new 9, 3) := by decide +kernel
theorem dX2_init_55 : decode cX2_init 55 = .ok (.dup, 1) := by decide +kernel
theorem dX2_init_56 : decode cX2_init 56 = .ok (.bipush 12, 2) := by decide +kernel
theorem dX2_init_58 : decode cX2_init 58 = .ok (.invokespecial 11, 3) := by decide +kernel
theorem dX2_init_61 : decode cX2_init 61 = .ok (.aastore, 1) := by decide +kernel
theorem dX2_init_62 : decode cX2_init 62 = .ok (.iinc 1 1, 3) := by decide +kernel
theorem dX2_init_65 : decode cX2_init 65 = .ok (.goto (-24), 3) := by decide +kernel
theorem dX2_init_68 : decode cX2_init 68 = .ok (.return_, 1) := by decide +kernel
theorem dX2_sequence_0 : decode cX2_sequence 0 = .ok (.aload_n 0, 1) := by decide +kernel
theorem dX2_sequence_1 : decode cX2_sequence 1 = .ok (.getfield 14, 3) := by decide +kernel
theorem dX2_sequence_4 : decode cX2_sequence 4 = .ok (.areturn, 1) := by decide +kernel
theorem dX2_rowOf_0 : decode cX2_rowOf 0 = .ok (.iload_n 1, 1) := by decide +kernel
theorem dX2_rowOf_1 : decode cX2_rowOf 1 = .ok (.bipush 26, 2) := by decide +kernel
theorem dX2_rowOf_3 : decode cX2_rowOf 3 = .ok (.if_icmp .lt 21, 3) := by decide +kernel
theorem dX2_rowOf_6 : decode cX2_rowOf 6 = .ok (.iload_n 1, 1) := by decide +kernel
theorem dX2_rowOf_7 : decode cX2_rowOf 7 = .ok (.bipush 86, 2) := by decide +kernel
theorem dX2_rowOf_9 : decode cX2_rowOf 9 = .ok (.if_icmp .ge 15, 3) := by decide +kernel
theorem dX2_rowOf_12 : decode cX2_rowOf 12 = .ok (.aload_n 0, 1) := by decide +kernel
theorem dX2_rowOf_13 : decode cX2_rowOf 13 = .ok (.getfield 20, 3) := by decide +kernel
theorem dX2_rowOf_16 : decode cX2_rowOf 16 = .ok (.iload_n 1, 1) := by decide +kernel
theorem dX2_rowOf_17 : decode cX2_rowOf 17 = .ok (.bipush 26, 2) := by decide +kernel
theorem dX2_rowOf_19 : decode cX2_rowOf 19 = .ok (.isub, 1) := by decide +kernel
theorem dX2_rowOf_20 : decode cX2_rowOf 20 = .ok (.aaload, 1) := by decide +kernel
theorem dX2_rowOf_21 : decode cX2_rowOf 21 = .ok (.goto 7, 3) := by decide +kernel
theorem dX2_rowOf_24 : decode cX2_rowOf 24 = .ok (.aload_n 0, 1) := by decide +kernel
theorem dX2_rowOf_25 : decode cX2_rowOf 25 = .ok (.getfield 24, 3) := by decide +kernel
theorem dX2_rowOf_28 : decode cX2_rowOf 28 = .ok (.areturn, 1) := by decide +kernel
theorem dX2_isRule_0 : decode cX2_isRule 0 = .ok (.aload_n 0, 1) := by decide +kernel
theorem dX2_isRule_1 : decode cX2_isRule 1 = .ok (.iload_n 1, 1) := by decide +kernel
theorem dX2_isRule_2 : decode cX2_isRule 2 = .ok (.invokevirtual 27, 3) := by decide +kernel
theorem dX2_isRule_5 : decode cX2_isRule 5 = .ok (.invokevirtual 31, 3) := by decide +kernel
theorem dX2_isRule_8 : decode cX2_isRule 8 = .ok (.ifCond .le 7, 3) := by decide +kernel
theorem dX2_isRule_11 : decode cX2_isRule 11 = .ok (.iconst 1, 1) := by decide +kernel
theorem dX2_isRule_12 : decode cX2_isRule 12 = .ok (.goto 4, 3) := by decide +kernel
theorem dX2_isRule_15 : decode cX2_isRule 15 = .ok (.iconst 0, 1) := by decide +kernel
theorem dX2_isRule_16 : decode cX2_isRule 16 = .ok (.ireturn, 1) := by decide +kernel
theorem dX2_has_0 : decode cX2_has 0 = .ok (.iload_n 1, 1) := by decide +kernel
theorem dX2_has_1 : decode cX2_has 1 = .ok (.invokestatic 35, 3) := by decide +kernel
theorem dX2_has_4 : decode cX2_has 4 = .ok (.ifCond .ne 11, 3) := by decide +kernel
theorem dX2_has_7 : decode cX2_has 7 = .ok (.aload_n 0, 1) := by decide +kernel
theorem dX2_has_8 : decode cX2_has 8 = .ok (.iload_n 1, 1) := by decide +kernel
theorem dX2_has_9 : decode cX2_has 9 = .ok (.invokevirtual 39, 3) := by decide +kernel
theorem dX2_has_12 : decode cX2_has 12 = .ok (.ifCond .eq 7, 3) := by decide +kernel
theorem dX2_has_15 : decode cX2_has 15 = .ok (.iconst 1, 1) := by decide +kernel
theorem dX2_has_16 : decode cX2_has 16 = .ok (.goto 4, 3) := by decide +kernel
theorem dX2_has_19 : decode cX2_has 19 = .ok (.iconst 0, 1) := by decide +kernel
theorem dX2_has_20 : decode cX2_has 20 = .ok (.ireturn, 1) := by decide +kernel
theorem dX2_clear_0 : decode cX2_clear 0 = .ok (.aload_n 0, 1) := by decide +kernel
theorem dX2_clear_1 : decode cX2_clear 1 = .ok (.getfield 14, 3) := by decide +kernel
theorem dX2_clear_4 : decode cX2_clear 4 = .ok (.invokevirtual 42, 3) := by decide +kernel
theorem dX2_clear_7 : decode cX2_clear 7 = .ok (.iconst 0, 1) := by decide +kernel
theorem dX2_clear_8 : decode cX2_clear 8 = .ok (.istore_n 1, 1) := by decide +kernel
theorem dX2_clear_9 : decode cX2_clear 9 = .ok (.iload_n 1, 1) := by decide +kernel
theorem dX2_clear_10 : decode cX2_clear 10 = .ok (.bipush 60, 2) := by decide +kernel
theorem dX2_clear_12 : decode cX2_clear 12 = .ok (.if_icmp .ge 18, 3) := by decide +kernel
theorem dX2_clear_15 : decode cX2_clear 15 = .ok (.aload_n 0, 1) := by decide +kernel
theorem dX2_clear_16 : decode cX2_clear 16 = .ok (.getfield 20, 3) := by decide +kernel
theorem dX2_clear_19 : decode cX2_clear 19 = .ok (.iload_n 1, 1) := by decide +kernel
theorem dX2_clear_20 : decode cX2_clear 20 = .ok (.aaload, 1) := by decide +kernel
theorem dX2_clear_21 : decode cX2_clear 21 = .ok (.invokevirtual 42, 3) := by decide +kernel
theorem dX2_clear_24 : decode cX2_clear 24 = .ok (.iinc 1 1, 3) := by decide +kernel
theorem dX2_clear_27 : decode cX2_clear 27 = .ok (.goto (-18), 3) := by decide +kernel
theorem dX2_clear_30 : decode cX2_clear 30 = .ok (.return_, 1) := by decide +kernel
theorem dX2_take_0 : decode cX2_take 0 = .ok (.aload_n 0, 1) := by decide +kernel
theorem dX2_take_1 : decode cX2_take 1 = .ok (.getfield 14, 3) := by decide +kernel
theorem dX2_take_4 : decode cX2_take 4 = .ok (.aload_n 1, 1) := by decide +kernel
theorem dX2_take_5 : decode cX2_take 5 = .ok (.getfield 14, 3) := by decide +kernel
theorem dX2_take_8 : decode cX2_take 8 = .ok (.invokevirtual 45, 3) := by decide +kernel
theorem dX2_take_11 : decode cX2_take 11 = .ok (.iconst 0, 1) := by decide +kernel
theorem dX2_take_12 : decode cX2_take 12 = .ok (.istore_n 2, 1) := by decide +kernel
theorem dX2_take_13 : decode cX2_take 13 = .ok (.iload_n 2, 1) := by decide +kernel
theorem dX2_take_14 : decode cX2_take 14 = .ok (.bipush 60, 2) := by decide +kernel
theorem dX2_take_16 : decode cX2_take 16 = .ok (.if_icmp .ge 24, 3) := by decide +kernel
theorem dX2_take_19 : decode cX2_take 19 = .ok (.aload_n 0, 1) := by decide +kernel
theorem dX2_take_20 : decode cX2_take 20 = .ok (.getfield 20, 3) := by decide +kernel
theorem dX2_take_23 : decode cX2_take 23 = .ok (.iload_n 2, 1) := by decide +kernel
theorem dX2_take_24 : decode cX2_take 24 = .ok (.aaload, 1) := by decide +kernel
theorem dX2_take_25 : decode cX2_take 25 = .ok (.aload_n 1, 1) := by decide +kernel
theorem dX2_take_26 : decode cX2_take 26 = .ok (.getfield 20, 3) := by decide +kernel
theorem dX2_take_29 : decode cX2_take 29 = .ok (.iload_n 2, 1) := by decide +kernel
theorem dX2_take_30 : decode cX2_take 30 = .ok (.aaload, 1) := by decide +kernel
theorem dX2_take_31 : decode cX2_take 31 = .ok (.invokevirtual 45, 3) := by decide +kernel
theorem dX2_take_34 : decode cX2_take 34 = .ok (.iinc 2 1, 3) := by decide +kernel
theorem dX2_take_37 : decode cX2_take 37 = .ok (.goto (-24), 3) := by decide +kernel
theorem dX2_take_40 : decode cX2_take 40 = .ok (.return_, 1) := by decide +kernel
theorem dX2_ruleCount_0 : decode cX2_ruleCount 0 = .ok (.iconst 0, 1) := by decide +kernel
theorem dX2_ruleCount_1 : decode cX2_ruleCount 1 = .ok (.istore_n 1, 1) := by decide +kernel
theorem dX2_ruleCount_2 : decode cX2_ruleCount 2 = .ok (.iconst 0, 1) := by decide +kernel
theorem dX2_ruleCount_3 : decode cX2_ruleCount 3 = .ok (.istore_n 2, 1) := by decide +kernel
theorem dX2_ruleCount_4 : decode cX2_ruleCount 4 = .ok (.iload_n 2, 1) := by decide +kernel
theorem dX2_ruleCount_5 : decode cX2_ruleCount 5 = .ok (.bipush 60, 2) := by decide +kernel
theorem dX2_ruleCount_7 : decode cX2_ruleCount 7 = .ok (.if_icmp .ge 24, 3) := by decide +kernel
theorem dX2_ruleCount_10 : decode cX2_ruleCount 10 = .ok (.aload_n 0, 1) := by decide +kernel
theorem dX2_ruleCount_11 : decode cX2_ruleCount 11 = .ok (.getfield 20, 3) := by decide +kernel
theorem dX2_ruleCount_14 : decode cX2_ruleCount 14 = .ok (.iload_n 2, 1) := by decide +kernel
theorem dX2_ruleCount_15 : decode cX2_ruleCount 15 = .ok (.aaload, 1) := by decide +kernel
theorem dX2_ruleCount_16 : decode cX2_ruleCount 16 = .ok (.invokevirtual 31, 3) := by decide +kernel
theorem dX2_ruleCount_19 : decode cX2_ruleCount 19 = .ok (.ifCond .le 6, 3) := by decide +kernel
theorem dX2_ruleCount_22 : decode cX2_ruleCount 22 = .ok (.iinc 1 1, 3) := by decide +kernel
theorem dX2_ruleCount_25 : decode cX2_ruleCount 25 = .ok (.iinc 2 1, 3) := by decide +kernel
theorem dX2_ruleCount_28 : decode cX2_ruleCount 28 = .ok (.goto (-24), 3) := by decide +kernel
theorem dX2_ruleCount_31 : decode cX2_ruleCount 31 = .ok (.iload_n 1, 1) := by decide +kernel
theorem dX2_ruleCount_32 : decode cX2_ruleCount 32 = .ok (.ireturn, 1) := by decide +kernel
theorem dX2_size_0 : decode cX2_size 0 = .ok (.aload_n 0, 1) := by decide +kernel
theorem dX2_size_1 : decode cX2_size 1 = .ok (.getfield 14, 3) := by decide +kernel
theorem dX2_size_4 : decode cX2_size 4 = .ok (.invokevirtual 31, 3) := by decide +kernel
theorem dX2_size_7 : decode cX2_size 7 = .ok (.istore_n 1, 1) := by decide +kernel
theorem dX2_size_8 : decode cX2_size 8 = .ok (.iconst 0, 1) := by decide +kernel
theorem dX2_size_9 : decode cX2_size 9 = .ok (.istore_n 2, 1) := by decide +kernel
theorem dX2_size_10 : decode cX2_size 10 = .ok (.iload_n 2, 1) := by decide +kernel
theorem dX2_size_11 : decode cX2_size 11 = .ok (.bipush 60, 2) := by decide +kernel
theorem dX2_size_13 : decode cX2_size 13 = .ok (.if_icmp .ge 21, 3) := by decide +kernel
theorem dX2_size_16 : decode cX2_size 16 = .ok (.iload_n 1, 1) := by decide +kernel
theorem dX2_size_17 : decode cX2_size 17 = .ok (.aload_n 0, 1) := by decide +kernel
theorem dX2_size_18 : decode cX2_size 18 = .ok (.getfield 20, 3) := by decide +kernel
theorem dX2_size_21 : decode cX2_size 21 = .ok (.iload_n 2, 1) := by decide +kernel
theorem dX2_size_22 : decode cX2_size 22 = .ok (.aaload, 1) := by decide +kernel
theorem dX2_size_23 : decode cX2_size 23 = .ok (.invokevirtual 31, 3) := by decide +kernel
theorem dX2_size_26 : decode cX2_size 26 = .ok (.iadd, 1) := by decide +kernel
theorem dX2_size_27 : decode cX2_size 27 = .ok (.istore_n 1, 1) := by decide +kernel
theorem dX2_size_28 : decode cX2_size 28 = .ok (.iinc 2 1, 3) := by decide +kernel
theorem dX2_size_31 : decode cX2_size 31 = .ok (.goto (-21), 3) := by decide +kernel
theorem dX2_size_34 : decode cX2_size 34 = .ok (.iload_n 1, 1) := by decide +kernel
theorem dX2_size_35 : decode cX2_size 35 = .ok (.ireturn, 1) := by decide +kernel
theorem dX2_usesOf_0 : decode cX2_usesOf 0 = .ok (.aload_n 0, 1) := by decide +kernel
theorem dX2_usesOf_1 : decode cX2_usesOf 1 = .ok (.getfield 14, 3) := by decide +kernel
theorem dX2_usesOf_4 : decode cX2_usesOf 4 = .ok (.iload_n 1, 1) := by decide +kernel
theorem dX2_usesOf_5 : decode cX2_usesOf 5 = .ok (.invokevirtual 49, 3) := by decide +kernel
theorem dX2_usesOf_8 : decode cX2_usesOf 8 = .ok (.istore_n 2, 1) := by decide +kernel
theorem dX2_usesOf_9 : decode cX2_usesOf 9 = .ok (.iconst 0, 1) := by decide +kernel
theorem dX2_usesOf_10 : decode cX2_usesOf 10 = .ok (.istore_n 3, 1) := by decide +kernel
theorem dX2_usesOf_11 : decode cX2_usesOf 11 = .ok (.iload_n 3, 1) := by decide +kernel
theorem dX2_usesOf_12 : decode cX2_usesOf 12 = .ok (.bipush 60, 2) := by decide +kernel
theorem dX2_usesOf_14 : decode cX2_usesOf 14 = .ok (.if_icmp .ge 22, 3) := by decide +kernel
theorem dX2_usesOf_17 : decode cX2_usesOf 17 = .ok (.iload_n 2, 1) := by decide +kernel
theorem dX2_usesOf_18 : decode cX2_usesOf 18 = .ok (.aload_n 0, 1) := by decide +kernel
theorem dX2_usesOf_19 : decode cX2_usesOf 19 = .ok (.getfield 20, 3) := by decide +kernel
theorem dX2_usesOf_22 : decode cX2_usesOf 22 = .ok (.iload_n 3, 1) := by decide +kernel
theorem dX2_usesOf_23 : decode cX2_usesOf 23 = .ok (.aaload, 1) := by decide +kernel
theorem dX2_usesOf_24 : decode cX2_usesOf 24 = .ok (.iload_n 1, 1) := by decide +kernel
theorem dX2_usesOf_25 : decode cX2_usesOf 25 = .ok (.invokevirtual 49, 3) := by decide +kernel
theorem dX2_usesOf_28 : decode cX2_usesOf 28 = .ok (.iadd, 1) := by decide +kernel
theorem dX2_usesOf_29 : decode cX2_usesOf 29 = .ok (.istore_n 2, 1) := by decide +kernel
theorem dX2_usesOf_30 : decode cX2_usesOf 30 = .ok (.iinc 3 1, 3) := by decide +kernel
theorem dX2_usesOf_33 : decode cX2_usesOf 33 = .ok (.goto (-22), 3) := by decide +kernel
theorem dX2_usesOf_36 : decode cX2_usesOf 36 = .ok (.iload_n 2, 1) := by decide +kernel
theorem dX2_usesOf_37 : decode cX2_usesOf 37 = .ok (.ireturn, 1) := by decide +kernel
theorem dX2_freeSign_0 : decode cX2_freeSign 0 = .ok (.iconst 0, 1) := by decide +kernel
theorem dX2_freeSign_1 : decode cX2_freeSign 1 = .ok (.istore_n 1, 1) := by decide +kernel
theorem dX2_freeSign_2 : decode cX2_freeSign 2 = .ok (.iload_n 1, 1) := by decide +kernel
theorem dX2_freeSign_3 : decode cX2_freeSign 3 = .ok (.bipush 60, 2) := by decide +kernel
theorem dX2_freeSign_5 : decode cX2_freeSign 5 = .ok (.if_icmp .ge 26, 3) := by decide +kernel
theorem dX2_freeSign_8 : decode cX2_freeSign 8 = .ok (.aload_n 0, 1) := by decide +kernel
theorem dX2_freeSign_9 : decode cX2_freeSign 9 = .ok (.getfield 20, 3) := by decide +kernel
theorem dX2_freeSign_12 : decode cX2_freeSign 12 = .ok (.iload_n 1, 1) := by decide +kernel
theorem dX2_freeSign_13 : decode cX2_freeSign 13 = .ok (.aaload, 1) := by decide +kernel
theorem dX2_freeSign_14 : decode cX2_freeSign 14 = .ok (.invokevirtual 31, 3) := by decide +kernel
theorem dX2_freeSign_17 : decode cX2_freeSign 17 = .ok (.ifCond .ne 8, 3) := by decide +kernel
theorem dX2_freeSign_20 : decode cX2_freeSign 20 = .ok (.bipush 26, 2) := by decide +kernel
theorem dX2_freeSign_22 : decode cX2_freeSign 22 = .ok (.iload_n 1, 1) := by decide +kernel
theorem dX2_freeSign_23 : decode cX2_freeSign 23 = .ok (.iadd, 1) := by decide +kernel
theorem dX2_freeSign_24 : decode cX2_freeSign 24 = .ok (.ireturn, 1) := by decide +kernel
theorem dX2_freeSign_25 : decode cX2_freeSign 25 = .ok (.iinc 1 1, 3) := by decide +kernel
theorem dX2_freeSign_28 : decode cX2_freeSign 28 = .ok (.goto (-26), 3) := by decide +kernel
theorem dX2_freeSign_31 : decode cX2_freeSign 31 = .ok (.iconst (-1), 1) := by decide +kernel
theorem dX2_freeSign_32 : decode cX2_freeSign 32 = .ok (.ireturn, 1) := by decide +kernel
theorem dX2_ruleOf_0 : decode cX2_ruleOf 0 = .ok (.iconst 0, 1) := by decide +kernel
theorem dX2_ruleOf_1 : decode cX2_ruleOf 1 = .ok (.istore_n 3, 1) := by decide +kernel
theorem dX2_ruleOf_2 : decode cX2_ruleOf 2 = .ok (.iload_n 3, 1) := by decide +kernel
theorem dX2_ruleOf_3 : decode cX2_ruleOf 3 = .ok (.bipush 60, 2) := by decide +kernel
theorem dX2_ruleOf_5 : decode cX2_ruleOf 5 = .ok (.if_icmp .ge 28, 3) := by decide +kernel
theorem dX2_ruleOf_8 : decode cX2_ruleOf 8 = .ok (.aload_n 0, 1) := by decide +kernel
theorem dX2_ruleOf_9 : decode cX2_ruleOf 9 = .ok (.getfield 20, 3) := by decide +kernel
theorem dX2_ruleOf_12 : decode cX2_ruleOf 12 = .ok (.iload_n 3, 1) := by decide +kernel
theorem dX2_ruleOf_13 : decode cX2_ruleOf 13 = .ok (.aaload, 1) := by decide +kernel
theorem dX2_ruleOf_14 : decode cX2_ruleOf 14 = .ok (.iload_n 1, 1) := by decide +kernel
theorem dX2_ruleOf_15 : decode cX2_ruleOf 15 = .ok (.iload_n 2, 1) := by decide +kernel
theorem dX2_ruleOf_16 : decode cX2_ruleOf 16 = .ok (.invokevirtual 53, 3) := by decide +kernel
theorem dX2_ruleOf_19 : decode cX2_ruleOf 19 = .ok (.ifCond .eq 8, 3) := by decide +kernel
theorem dX2_ruleOf_22 : decode cX2_ruleOf 22 = .ok (.bipush 26, 2) := by decide +kernel
theorem dX2_ruleOf_24 : decode cX2_ruleOf 24 = .ok (.iload_n 3, 1) := by decide +kernel
theorem dX2_ruleOf_25 : decode cX2_ruleOf 25 = .ok (.iadd, 1) := by decide +kernel
theorem dX2_ruleOf_26 : decode cX2_ruleOf 26 = .ok (.ireturn, 1) := by decide +kernel
theorem dX2_ruleOf_27 : decode cX2_ruleOf 27 = .ok (.iinc 3 1, 3) := by decide +kernel
theorem dX2_ruleOf_30 : decode cX2_ruleOf 30 = .ok (.goto (-28), 3) := by decide +kernel
theorem dX2_ruleOf_33 : decode cX2_ruleOf 33 = .ok (.iconst (-1), 1) := by decide +kernel
theorem dX2_ruleOf_34 : decode cX2_ruleOf 34 = .ok (.ireturn, 1) := by decide +kernel
theorem dX2_signFor_0 : decode cX2_signFor 0 = .ok (.aload_n 0, 1) := by decide +kernel
theorem dX2_signFor_1 : decode cX2_signFor 1 = .ok (.iload_n 1, 1) := by decide +kernel
theorem dX2_signFor_2 : decode cX2_signFor 2 = .ok (.iload_n 2, 1) := by decide +kernel
theorem dX2_signFor_3 : decode cX2_signFor 3 = .ok (.invokevirtual 57, 3) := by decide +kernel
theorem dX2_signFor_6 : decode cX2_signFor 6 = .ok (.istore_n 3, 1) := by decide +kernel
theorem dX2_signFor_7 : decode cX2_signFor 7 = .ok (.iload_n 3, 1) := by decide +kernel
theorem dX2_signFor_8 : decode cX2_signFor 8 = .ok (.iconst (-1), 1) := by decide +kernel
theorem dX2_signFor_9 : decode cX2_signFor 9 = .ok (.if_icmp .ne 10, 3) := by decide +kernel
theorem dX2_signFor_12 : decode cX2_signFor 12 = .ok (.aload_n 0, 1) := by decide +kernel
theorem dX2_signFor_13 : decode cX2_signFor 13 = .ok (.invokevirtual 61, 3) := by decide +kernel
theorem dX2_signFor_16 : decode cX2_signFor 16 = .ok (.goto 4, 3) := by decide +kernel
theorem dX2_signFor_19 : decode cX2_signFor 19 = .ok (.iload_n 3, 1) := by decide +kernel
theorem dX2_signFor_20 : decode cX2_signFor 20 = .ok (.ireturn, 1) := by decide +kernel
theorem dX2_joinPair_0 : decode cX2_joinPair 0 = .ok (.aload_n 0, 1) := by decide +kernel
theorem dX2_joinPair_1 : decode cX2_joinPair 1 = .ok (.iload_n 1, 1) := by decide +kernel
theorem dX2_joinPair_2 : decode cX2_joinPair 2 = .ok (.iload_n 2, 1) := by decide +kernel
theorem dX2_joinPair_3 : decode cX2_joinPair 3 = .ok (.invokevirtual 64, 3) := by decide +kernel
theorem dX2_joinPair_6 : decode cX2_joinPair 6 = .ok (.istore_n 3, 1) := by decide +kernel
theorem dX2_joinPair_7 : decode cX2_joinPair 7 = .ok (.iload_n 3, 1) := by decide +kernel
theorem dX2_joinPair_8 : decode cX2_joinPair 8 = .ok (.iconst (-1), 1) := by decide +kernel
theorem dX2_joinPair_9 : decode cX2_joinPair 9 = .ok (.if_icmp .ne 5, 3) := by decide +kernel
theorem dX2_joinPair_12 : decode cX2_joinPair 12 = .ok (.iconst (-1), 1) := by decide +kernel
theorem dX2_joinPair_13 : decode cX2_joinPair 13 = .ok (.ireturn, 1) := by decide +kernel
theorem dX2_joinPair_14 : decode cX2_joinPair 14 = .ok (.aload_n 0, 1) := by decide +kernel
theorem dX2_joinPair_15 : decode cX2_joinPair 15 = .ok (.iload_n 3, 1) := by decide +kernel
theorem dX2_joinPair_16 : decode cX2_joinPair 16 = .ok (.invokevirtual 27, 3) := by decide +kernel
theorem dX2_joinPair_19 : decode cX2_joinPair 19 = .ok (.astore 4, 2) := by decide +kernel
theorem dX2_joinPair_21 : decode cX2_joinPair 21 = .ok (.aload 4, 2) := by decide +kernel
theorem dX2_joinPair_23 : decode cX2_joinPair 23 = .ok (.invokevirtual 31, 3) := by decide +kernel
theorem dX2_joinPair_26 : decode cX2_joinPair 26 = .ok (.ifCond .ne 15, 3) := by decide +kernel
theorem dX2_joinPair_29 : decode cX2_joinPair 29 = .ok (.aload 4, 2) := by decide +kernel
theorem dX2_joinPair_31 : decode cX2_joinPair 31 = .ok (.iload_n 1, 1) := by decide +kernel
theorem dX2_joinPair_32 : decode cX2_joinPair 32 = .ok (.invokevirtual 67, 3) := by decide +kernel
theorem dX2_joinPair_35 : decode cX2_joinPair 35 = .ok (.aload 4, 2) := by decide +kernel
theorem dX2_joinPair_37 : decode cX2_joinPair 37 = .ok (.iload_n 2, 1) := by decide +kernel
theorem dX2_joinPair_38 : decode cX2_joinPair 38 = .ok (.invokevirtual 67, 3) := by decide +kernel
theorem dX2_joinPair_41 : decode cX2_joinPair 41 = .ok (.aload_n 0, 1) := by decide +kernel
theorem dX2_joinPair_42 : decode cX2_joinPair 42 = .ok (.getfield 14, 3) := by decide +kernel
theorem dX2_joinPair_45 : decode cX2_joinPair 45 = .ok (.iload_n 1, 1) := by decide +kernel
theorem dX2_joinPair_46 : decode cX2_joinPair 46 = .ok (.iload_n 2, 1) := by decide +kernel
theorem dX2_joinPair_47 : decode cX2_joinPair 47 = .ok (.iload_n 3, 1) := by decide +kernel
theorem dX2_joinPair_48 : decode cX2_joinPair 48 = .ok (.invokevirtual 70, 3) := by decide +kernel
theorem dX2_joinPair_51 : decode cX2_joinPair 51 = .ok (.iload_n 3, 1) := by decide +kernel
theorem dX2_joinPair_52 : decode cX2_joinPair 52 = .ok (.ireturn, 1) := by decide +kernel
theorem dX2_canGiveUp_0 : decode cX2_canGiveUp 0 = .ok (.aload_n 0, 1) := by decide +kernel
theorem dX2_canGiveUp_1 : decode cX2_canGiveUp 1 = .ok (.iload_n 1, 1) := by decide +kernel
theorem dX2_canGiveUp_2 : decode cX2_canGiveUp 2 = .ok (.invokevirtual 27, 3) := by decide +kernel
theorem dX2_canGiveUp_5 : decode cX2_canGiveUp 5 = .ok (.invokevirtual 31, 3) := by decide +kernel
theorem dX2_canGiveUp_8 : decode cX2_canGiveUp 8 = .ok (.iconst 1, 1) := by decide +kernel
theorem dX2_canGiveUp_9 : decode cX2_canGiveUp 9 = .ok (.isub, 1) := by decide +kernel
theorem dX2_canGiveUp_10 : decode cX2_canGiveUp 10 = .ok (.istore_n 2, 1) := by decide +kernel
theorem dX2_canGiveUp_11 : decode cX2_canGiveUp 11 = .ok (.iconst 0, 1) := by decide +kernel
theorem dX2_canGiveUp_12 : decode cX2_canGiveUp 12 = .ok (.istore_n 3, 1) := by decide +kernel
theorem dX2_canGiveUp_13 : decode cX2_canGiveUp 13 = .ok (.iload_n 3, 1) := by decide +kernel
theorem dX2_canGiveUp_14 : decode cX2_canGiveUp 14 = .ok (.bipush 60, 2) := by decide +kernel
theorem dX2_canGiveUp_16 : decode cX2_canGiveUp 16 = .ok (.if_icmp .ge 38, 3) := by decide +kernel
theorem dX2_canGiveUp_19 : decode cX2_canGiveUp 19 = .ok (.aload_n 0, 1) := by decide +kernel
theorem dX2_canGiveUp_20 : decode cX2_canGiveUp 20 = .ok (.getfield 20, 3) := by decide +kernel
theorem dX2_canGiveUp_23 : decode cX2_canGiveUp 23 = .ok (.iload_n 3, 1) := by decide +kernel
theorem dX2_canGiveUp_24 : decode cX2_canGiveUp 24 = .ok (.aaload, 1) := by decide +kernel
theorem dX2_canGiveUp_25 : decode cX2_canGiveUp 25 = .ok (.invokevirtual 31, 3) := by decide +kernel
theorem dX2_canGiveUp_28 : decode cX2_canGiveUp 28 = .ok (.aload_n 0, 1) := by decide +kernel
theorem dX2_canGiveUp_29 : decode cX2_canGiveUp 29 = .ok (.getfield 20, 3) := by decide +kernel
theorem dX2_canGiveUp_32 : decode cX2_canGiveUp 32 = .ok (.iload_n 3, 1) := by decide +kernel
theorem dX2_canGiveUp_33 : decode cX2_canGiveUp 33 = .ok (.aaload, 1) := by decide +kernel
theorem dX2_canGiveUp_34 : decode cX2_canGiveUp 34 = .ok (.iload_n 1, 1) := by decide +kernel
theorem dX2_canGiveUp_35 : decode cX2_canGiveUp 35 = .ok (.invokevirtual 49, 3) := by decide +kernel
theorem dX2_canGiveUp_38 : decode cX2_canGiveUp 38 = .ok (.iload_n 2, 1) := by decide +kernel
theorem dX2_canGiveUp_39 : decode cX2_canGiveUp 39 = .ok (.imul, 1) := by decide +kernel
theorem dX2_canGiveUp_40 : decode cX2_canGiveUp 40 = .ok (.iadd, 1) := by decide +kernel
theorem dX2_canGiveUp_41 : decode cX2_canGiveUp 41 = .ok (.bipush 12, 2) := by decide +kernel
theorem dX2_canGiveUp_43 : decode cX2_canGiveUp 43 = .ok (.if_icmp .le 5, 3) := by decide +kernel
theorem dX2_canGiveUp_46 : decode cX2_canGiveUp 46 = .ok (.iconst 0, 1) := by decide +kernel
theorem dX2_canGiveUp_47 : decode cX2_canGiveUp 47 = .ok (.ireturn, 1) := by decide +kernel
theorem dX2_canGiveUp_48 : decode cX2_canGiveUp 48 = .ok (.iinc 3 1, 3) := by decide +kernel
theorem dX2_canGiveUp_51 : decode cX2_canGiveUp 51 = .ok (.goto (-38), 3) := by decide +kernel
theorem dX2_canGiveUp_54 : decode cX2_canGiveUp 54 = .ok (.iconst 1, 1) := by decide +kernel
theorem dX2_canGiveUp_55 : decode cX2_canGiveUp 55 = .ok (.ireturn, 1) := by decide +kernel
theorem dX2_giveUp_0 : decode cX2_giveUp 0 = .ok (.aload_n 0, 1) := by decide +kernel
theorem dX2_giveUp_1 : decode cX2_giveUp 1 = .ok (.iload_n 1, 1) := by decide +kernel
theorem dX2_giveUp_2 : decode cX2_giveUp 2 = .ok (.invokevirtual 27, 3) := by decide +kernel
theorem dX2_giveUp_5 : decode cX2_giveUp 5 = .ok (.astore_n 2, 1) := by decide +kernel
theorem dX2_giveUp_6 : decode cX2_giveUp 6 = .ok (.aload_n 0, 1) := by decide +kernel
theorem dX2_giveUp_7 : decode cX2_giveUp 7 = .ok (.getfield 14, 3) := by decide +kernel
theorem dX2_giveUp_10 : decode cX2_giveUp 10 = .ok (.iload_n 1, 1) := by decide +kernel
theorem dX2_giveUp_11 : decode cX2_giveUp 11 = .ok (.aload_n 2, 1) := by decide +kernel
theorem dX2_giveUp_12 : decode cX2_giveUp 12 = .ok (.invokevirtual 74, 3) := by decide +kernel
theorem dX2_giveUp_15 : decode cX2_giveUp 15 = .ok (.iconst 0, 1) := by decide +kernel
theorem dX2_giveUp_16 : decode cX2_giveUp 16 = .ok (.istore_n 3, 1) := by decide +kernel
theorem dX2_giveUp_17 : decode cX2_giveUp 17 = .ok (.iload_n 3, 1) := by decide +kernel
theorem dX2_giveUp_18 : decode cX2_giveUp 18 = .ok (.bipush 60, 2) := by decide +kernel
theorem dX2_giveUp_20 : decode cX2_giveUp 20 = .ok (.if_icmp .ge 20, 3) := by decide +kernel
theorem dX2_giveUp_23 : decode cX2_giveUp 23 = .ok (.aload_n 0, 1) := by decide +kernel
theorem dX2_giveUp_24 : decode cX2_giveUp 24 = .ok (.getfield 20, 3) := by decide +kernel
theorem dX2_giveUp_27 : decode cX2_giveUp 27 = .ok (.iload_n 3, 1) := by decide +kernel
theorem dX2_giveUp_28 : decode cX2_giveUp 28 = .ok (.aaload, 1) := by decide +kernel
theorem dX2_giveUp_29 : decode cX2_giveUp 29 = .ok (.iload_n 1, 1) := by decide +kernel
theorem dX2_giveUp_30 : decode cX2_giveUp 30 = .ok (.aload_n 2, 1) := by decide +kernel
theorem dX2_giveUp_31 : decode cX2_giveUp 31 = .ok (.invokevirtual 74, 3) := by decide +kernel
theorem dX2_giveUp_34 : decode cX2_giveUp 34 = .ok (.iinc 3 1, 3) := by decide +kernel
theorem dX2_giveUp_37 : decode cX2_giveUp 37 = .ok (.goto (-20), 3) := by decide +kernel
theorem dX2_giveUp_40 : decode cX2_giveUp 40 = .ok (.aload_n 2, 1) := by decide +kernel
theorem dX2_giveUp_41 : decode cX2_giveUp 41 = .ok (.invokevirtual 42, 3) := by decide +kernel
theorem dX2_giveUp_44 : decode cX2_giveUp 44 = .ok (.return_, 1) := by decide +kernel
theorem dX2_leastIdle_0 : decode cX2_leastIdle 0 = .ok (.bipush 26, 2) := by decide +kernel
theorem dX2_leastIdle_2 : decode cX2_leastIdle 2 = .ok (.istore_n 1, 1) := by decide +kernel
theorem dX2_leastIdle_3 : decode cX2_leastIdle 3 = .ok (.iload_n 1, 1) := by decide +kernel
theorem dX2_leastIdle_4 : decode cX2_leastIdle 4 = .ok (.bipush 86, 2) := by decide +kernel
theorem dX2_leastIdle_6 : decode cX2_leastIdle 6 = .ok (.if_icmp .ge 42, 3) := by decide +kernel
theorem dX2_leastIdle_9 : decode cX2_leastIdle 9 = .ok (.aload_n 0, 1) := by decide +kernel
theorem dX2_leastIdle_10 : decode cX2_leastIdle 10 = .ok (.iload_n 1, 1) := by decide +kernel
theorem dX2_leastIdle_11 : decode cX2_leastIdle 11 = .ok (.invokevirtual 39, 3) := by decide +kernel
theorem dX2_leastIdle_14 : decode cX2_leastIdle 14 = .ok (.ifCond .eq 28, 3) := by decide +kernel
theorem dX2_leastIdle_17 : decode cX2_leastIdle 17 = .ok (.aload_n 0, 1) := by decide +kernel
theorem dX2_leastIdle_18 : decode cX2_leastIdle 18 = .ok (.iload_n 1, 1) := by decide +kernel
theorem dX2_leastIdle_19 : decode cX2_leastIdle 19 = .ok (.invokevirtual 78, 3) := by decide +kernel
theorem dX2_leastIdle_22 : decode cX2_leastIdle 22 = .ok (.istore_n 2, 1) := by decide +kernel
theorem dX2_leastIdle_23 : decode cX2_leastIdle 23 = .ok (.iload_n 2, 1) := by decide +kernel
theorem dX2_leastIdle_24 : decode cX2_leastIdle 24 = .ok (.ifCond .eq 16, 3) := by decide +kernel
theorem dX2_leastIdle_27 : decode cX2_leastIdle 27 = .ok (.iload_n 2, 1) := by decide +kernel
theorem dX2_leastIdle_28 : decode cX2_leastIdle 28 = .ok (.iconst 1, 1) := by decide +kernel
theorem dX2_leastIdle_29 : decode cX2_leastIdle 29 = .ok (.if_icmp .ne 13, 3) := by decide +kernel
theorem dX2_leastIdle_32 : decode cX2_leastIdle 32 = .ok (.aload_n 0, 1) := by decide +kernel
theorem dX2_leastIdle_33 : decode cX2_leastIdle 33 = .ok (.iload_n 1, 1) := by decide +kernel
theorem dX2_leastIdle_34 : decode cX2_leastIdle 34 = .ok (.invokevirtual 81, 3) := by decide +kernel
theorem dX2_leastIdle_37 : decode cX2_leastIdle 37 = .ok (.ifCond .eq 5, 3) := by decide +kernel
theorem dX2_leastIdle_40 : decode cX2_leastIdle 40 = .ok (.iload_n 1, 1) := by decide +kernel
theorem dX2_leastIdle_41 : decode cX2_leastIdle 41 = .ok (.ireturn, 1) := by decide +kernel
theorem dX2_leastIdle_42 : decode cX2_leastIdle 42 = .ok (.iinc 1 1, 3) := by decide +kernel
theorem dX2_leastIdle_45 : decode cX2_leastIdle 45 = .ok (.goto (-42), 3) := by decide +kernel
theorem dX2_leastIdle_48 : decode cX2_leastIdle 48 = .ok (.iconst (-1), 1) := by decide +kernel
theorem dX2_leastIdle_49 : decode cX2_leastIdle 49 = .ok (.ireturn, 1) := by decide +kernel
theorem dX2_open_0 : decode cX2_open 0 = .ok (.iconst 0, 1) := by decide +kernel
theorem dX2_open_1 : decode cX2_open 1 = .ok (.istore_n 3, 1) := by decide +kernel
theorem dX2_open_2 : decode cX2_open 2 = .ok (.iconst 0, 1) := by decide +kernel
theorem dX2_open_3 : decode cX2_open 3 = .ok (.istore 4, 2) := by decide +kernel
theorem dX2_open_5 : decode cX2_open 5 = .ok (.iconst 0, 1) := by decide +kernel
theorem dX2_open_6 : decode cX2_open 6 = .ok (.istore 5, 2) := by decide +kernel
theorem dX2_open_8 : decode cX2_open 8 = .ok (.iload 5, 2) := by decide +kernel
theorem dX2_open_10 : decode cX2_open 10 = .ok (.bipush 60, 2) := by decide +kernel
theorem dX2_open_12 : decode cX2_open 12 = .ok (.if_icmp .gt 101, 3) := by decide +kernel
theorem dX2_open_15 : decode cX2_open 15 = .ok (.iload_n 3, 1) := by decide +kernel
theorem dX2_open_16 : decode cX2_open 16 = .ok (.aload_n 0, 1) := by decide +kernel
theorem dX2_open_17 : decode cX2_open 17 = .ok (.getfield 14, 3) := by decide +kernel
theorem dX2_open_20 : decode cX2_open 20 = .ok (.invokevirtual 31, 3) := by decide +kernel
theorem dX2_open_23 : decode cX2_open 23 = .ok (.if_icmp .ge 45, 3) := by decide +kernel
theorem dX2_open_26 : decode cX2_open 26 = .ok (.iload 4, 2) := by decide +kernel
theorem dX2_open_28 : decode cX2_open 28 = .ok (.aload_n 2, 1) := by decide +kernel
theorem dX2_open_29 : decode cX2_open 29 = .ok (.aload_n 0, 1) := by decide +kernel
theorem dX2_open_30 : decode cX2_open 30 = .ok (.getfield 14, 3) := by decide +kernel
theorem dX2_open_33 : decode cX2_open 33 = .ok (.iload_n 3, 1) := by decide +kernel
theorem dX2_open_34 : decode cX2_open 34 = .ok (.invokevirtual 84, 3) := by decide +kernel
theorem dX2_open_37 : decode cX2_open 37 = .ok (.invokevirtual 87, 3) := by decide +kernel
theorem dX2_open_40 : decode cX2_open 40 = .ok (.iadd, 1) := by decide +kernel
theorem dX2_open_41 : decode cX2_open 41 = .ok (.iload_n 1, 1) := by decide +kernel
theorem dX2_open_42 : decode cX2_open 42 = .ok (.if_icmp .gt 26, 3) := by decide +kernel
theorem dX2_open_45 : decode cX2_open 45 = .ok (.iload 4, 2) := by decide +kernel
theorem dX2_open_47 : decode cX2_open 47 = .ok (.aload_n 2, 1) := by decide +kernel
theorem dX2_open_48 : decode cX2_open 48 = .ok (.aload_n 0, 1) := by decide +kernel
theorem dX2_open_49 : decode cX2_open 49 = .ok (.getfield 14, 3) := by decide +kernel
theorem dX2_open_52 : decode cX2_open 52 = .ok (.iload_n 3, 1) := by decide +kernel
theorem dX2_open_53 : decode cX2_open 53 = .ok (.invokevirtual 84, 3) := by decide +kernel
theorem dX2_open_56 : decode cX2_open 56 = .ok (.invokevirtual 87, 3) := by decide +kernel
theorem dX2_open_59 : decode cX2_open 59 = .ok (.iadd, 1) := by decide +kernel
theorem dX2_open_60 : decode cX2_open 60 = .ok (.istore 4, 2) := by decide +kernel
theorem dX2_open_62 : decode cX2_open 62 = .ok (.iinc 3 1, 3) := by decide +kernel
theorem dX2_open_65 : decode cX2_open 65 = .ok (.goto (-50), 3) := by decide +kernel
theorem dX2_open_68 : decode cX2_open 68 = .ok (.iload 4, 2) := by decide +kernel
theorem dX2_open_70 : decode cX2_open 70 = .ok (.iload_n 1, 1) := by decide +kernel
theorem dX2_open_71 : decode cX2_open 71 = .ok (.if_icmp .eq 14, 3) := by decide +kernel
theorem dX2_open_74 : decode cX2_open 74 = .ok (.iload_n 3, 1) := by decide +kernel
theorem dX2_open_75 : decode cX2_open 75 = .ok (.aload_n 0, 1) := by decide +kernel
theorem dX2_open_76 : decode cX2_open 76 = .ok (.getfield 14, 3) := by decide +kernel
theorem dX2_open_79 : decode cX2_open 79 = .ok (.invokevirtual 31, 3) := by decide +kernel
theorem dX2_open_82 : decode cX2_open 82 = .ok (.if_icmp .lt 5, 3) := by decide +kernel
theorem dX2_open_85 : decode cX2_open 85 = .ok (.iload_n 3, 1) := by decide +kernel
theorem dX2_open_86 : decode cX2_open 86 = .ok (.ireturn, 1) := by decide +kernel
theorem dX2_open_87 : decode cX2_open 87 = .ok (.aload_n 0, 1) := by decide +kernel
theorem dX2_open_88 : decode cX2_open 88 = .ok (.getfield 14, 3) := by decide +kernel
theorem dX2_open_91 : decode cX2_open 91 = .ok (.iload_n 3, 1) := by decide +kernel
theorem dX2_open_92 : decode cX2_open 92 = .ok (.aload_n 0, 1) := by decide +kernel
theorem dX2_open_93 : decode cX2_open 93 = .ok (.aload_n 0, 1) := by decide +kernel
theorem dX2_open_94 : decode cX2_open 94 = .ok (.getfield 14, 3) := by decide +kernel
theorem dX2_open_97 : decode cX2_open 97 = .ok (.iload_n 3, 1) := by decide +kernel
theorem dX2_open_98 : decode cX2_open 98 = .ok (.invokevirtual 84, 3) := by decide +kernel
theorem dX2_open_101 : decode cX2_open 101 = .ok (.invokevirtual 27, 3) := by decide +kernel
theorem dX2_open_104 : decode cX2_open 104 = .ok (.invokevirtual 92, 3) := by decide +kernel
theorem dX2_open_107 : decode cX2_open 107 = .ok (.iinc 5 1, 3) := by decide +kernel
theorem dX2_open_110 : decode cX2_open 110 = .ok (.goto (-102), 3) := by decide +kernel
theorem dX2_open_113 : decode cX2_open 113 = .ok (.iload_n 3, 1) := by decide +kernel
theorem dX2_open_114 : decode cX2_open 114 = .ok (.ireturn, 1) := by decide +kernel
theorem dX3_init_0 : decode cX3_init 0 = .ok (.aload_n 0, 1) := by decide +kernel
theorem dX3_init_1 : decode cX3_init 1 = .ok (.invokespecial 3, 3) := by decide +kernel
theorem dX3_init_4 : decode cX3_init 4 = .ok (.aload_n 0, 1) := by decide +kernel
theorem dX3_init_5 : decode cX3_init 5 = .ok (.sipush 7396, 3) := by decide +kernel
theorem dX3_init_8 : decode cX3_init 8 = .ok (.newarray .int, 2) := by decide +kernel
theorem dX3_init_10 : decode cX3_init 10 = .ok (.putfield 9, 3) := by decide +kernel
theorem dX3_init_13 : decode cX3_init 13 = .ok (.aload_n 0, 1) := by decide +kernel
theorem dX3_init_14 : decode cX3_init 14 = .ok (.new 15, 3) := by decide +kernel
theorem dX3_init_17 : decode cX3_init 17 = .ok (.dup, 1) := by decide +kernel
theorem dX3_init_18 : decode cX3_init 18 = .ok (.sipush 240, 3) := by decide +kernel
theorem dX3_init_21 : decode cX3_init 21 = .ok (.invokespecial 17, 3) := by decide +kernel
theorem dX3_init_24 : decode cX3_init 24 = .ok (.putfield 20, 3) := by decide +kernel
theorem dX3_init_27 : decode cX3_init 27 = .ok (.return_, 1) := by decide +kernel
theorem dX3_pairOf_0 : decode cX3_pairOf 0 = .ok (.iload_n 0, 1) := by decide +kernel
theorem dX3_pairOf_1 : decode cX3_pairOf 1 = .ok (.ifCond .lt 23, 3) := by decide +kernel
theorem dX3_pairOf_4 : decode cX3_pairOf 4 = .ok (.iload_n 0, 1) := by decide +kernel
theorem dX3_pairOf_5 : decode cX3_pairOf 5 = .ok (.bipush 86, 2) := by decide +kernel
theorem dX3_pairOf_7 : decode cX3_pairOf 7 = .ok (.if_icmp .ge 17, 3) := by decide +kernel
theorem dX3_pairOf_10 : decode cX3_pairOf 10 = .ok (.iload_n 1, 1) := by decide +kernel
theorem dX3_pairOf_11 : decode cX3_pairOf 11 = .ok (.ifCond .lt 13, 3) := by decide +kernel
theorem dX3_pairOf_14 : decode cX3_pairOf 14 = .ok (.iload_n 1, 1) := by decide +kernel
theorem dX3_pairOf_15 : decode cX3_pairOf 15 = .ok (.bipush 86, 2) := by decide +kernel
theorem dX3_pairOf_17 : decode cX3_pairOf 17 = .ok (.if_icmp .ge 7, 3) := by decide +kernel
theorem dX3_pairOf_20 : decode cX3_pairOf 20 = .ok (.iconst 1, 1) := by decide +kernel
theorem dX3_pairOf_21 : decode cX3_pairOf 21 = .ok (.goto 4, 3) := by decide +kernel
theorem dX3_pairOf_24 : decode cX3_pairOf 24 = .ok (.iconst 0, 1) := by decide +kernel
theorem dX3_pairOf_25 : decode cX3_pairOf 25 = .ok (.istore_n 2, 1) := by decide +kernel
theorem dX3_pairOf_26 : decode cX3_pairOf 26 = .ok (.iload_n 2, 1) := by decide +kernel
theorem dX3_pairOf_27 : decode cX3_pairOf 27 = .ok (.ifCond .eq 12, 3) := by decide +kernel
theorem dX3_pairOf_30 : decode cX3_pairOf 30 = .ok (.iload_n 0, 1) := by decide +kernel
theorem dX3_pairOf_31 : decode cX3_pairOf 31 = .ok (.bipush 86, 2) := by decide +kernel
theorem dX3_pairOf_33 : decode cX3_pairOf 33 = .ok (.imul, 1) := by decide +kernel
theorem dX3_pairOf_34 : decode cX3_pairOf 34 = .ok (.iload_n 1, 1) := by decide +kernel
theorem dX3_pairOf_35 : decode cX3_pairOf 35 = .ok (.iadd, 1) := by decide +kernel
theorem dX3_pairOf_36 : decode cX3_pairOf 36 = .ok (.goto 4, 3) := by decide +kernel
theorem dX3_pairOf_39 : decode cX3_pairOf 39 = .ok (.iconst (-1), 1) := by decide +kernel
theorem dX3_pairOf_40 : decode cX3_pairOf 40 = .ok (.ireturn, 1) := by decide +kernel
theorem dX3_leftOf_0 : decode cX3_leftOf 0 = .ok (.iload_n 0, 1) := by decide +kernel
theorem dX3_leftOf_1 : decode cX3_leftOf 1 = .ok (.bipush 86, 2) := by decide +kernel
theorem dX3_leftOf_3 : decode cX3_leftOf 3 = .ok (.idiv, 1) := by decide +kernel
theorem dX3_leftOf_4 : decode cX3_leftOf 4 = .ok (.ireturn, 1) := by decide +kernel
theorem dX3_rightOf_0 : decode cX3_rightOf 0 = .ok (.iload_n 0, 1) := by decide +kernel
theorem dX3_rightOf_1 : decode cX3_rightOf 1 = .ok (.bipush 86, 2) := by decide +kernel
theorem dX3_rightOf_3 : decode cX3_rightOf 3 = .ok (.irem, 1) := by decide +kernel
theorem dX3_rightOf_4 : decode cX3_rightOf 4 = .ok (.ireturn, 1) := by decide +kernel
theorem dX3_tally_0 : decode cX3_tally 0 = .ok (.aload_n 0, 1) := by decide +kernel
theorem dX3_tally_1 : decode cX3_tally 1 = .ok (.invokevirtual 24, 3) := by decide +kernel
theorem dX3_tally_4 : decode cX3_tally 4 = .ok (.iconst (-1), 1) := by decide +kernel
theorem dX3_tally_5 : decode cX3_tally 5 = .ok (.istore_n 2, 1) := by decide +kernel
theorem dX3_tally_6 : decode cX3_tally 6 = .ok (.iconst 0, 1) := by decide +kernel
theorem dX3_tally_7 : decode cX3_tally 7 = .ok (.istore_n 3, 1) := by decide +kernel
theorem dX3_tally_8 : decode cX3_tally 8 = .ok (.iload_n 3, 1) := by decide +kernel
theorem dX3_tally_9 : decode cX3_tally 9 = .ok (.iconst 1, 1) := by decide +kernel
theorem dX3_tally_10 : decode cX3_tally 10 = .ok (.iadd, 1) := by decide +kernel
theorem dX3_tally_11 : decode cX3_tally 11 = .ok (.aload_n 1, 1) := by decide +kernel
theorem dX3_tally_12 : decode cX3_tally 12 = .ok (.invokevirtual 27, 3) := by decide +kernel
theorem dX3_tally_15 : decode cX3_tally 15 = .ok (.if_icmp .ge 66, 3) := by decide +kernel
theorem dX3_tally_18 : decode cX3_tally 18 = .ok (.aload_n 1, 1) := by decide +kernel
theorem dX3_tally_19 : decode cX3_tally 19 = .ok (.iload_n 3, 1) := by decide +kernel
theorem dX3_tally_20 : decode cX3_tally 20 = .ok (.invokevirtual 31, 3) := by decide +kernel
theorem dX3_tally_23 : decode cX3_tally 23 = .ok (.istore 4, 2) := by decide +kernel
theorem dX3_tally_25 : decode cX3_tally 25 = .ok (.aload_n 1, 1) := by decide +kernel
theorem dX3_tally_26 : decode cX3_tally 26 = .ok (.iload_n 3, 1) := by decide +kernel
theorem dX3_tally_27 : decode cX3_tally 27 = .ok (.iconst 1, 1) := by decide +kernel
theorem dX3_tally_28 : decode cX3_tally 28 = .ok (.iadd, 1) := by decide +kernel
theorem dX3_tally_29 : decode cX3_tally 29 = .ok (.invokevirtual 31, 3) := by decide +kernel
theorem dX3_tally_32 : decode cX3_tally 32 = .ok (.istore 5, 2) := by decide +kernel
theorem dX3_tally_34 : decode cX3_tally 34 = .ok (.iload 4, 2) := by decide +kernel
theorem dX3_tally_36 : decode cX3_tally 36 = .ok (.iload 5, 2) := by decide +kernel
theorem dX3_tally_38 : decode cX3_tally 38 = .ok (.if_icmp .eq 17, 3) := by decide +kernel
theorem dX3_tally_41 : decode cX3_tally 41 = .ok (.aload_n 0, 1) := by decide +kernel
theorem dX3_tally_42 : decode cX3_tally 42 = .ok (.iload 4, 2) := by decide +kernel
theorem dX3_tally_44 : decode cX3_tally 44 = .ok (.iload 5, 2) := by decide +kernel
theorem dX3_tally_46 : decode cX3_tally 46 = .ok (.invokestatic 35, 3) := by decide +kernel
theorem dX3_tally_49 : decode cX3_tally 49 = .ok (.invokevirtual 39, 3) := by decide +kernel
theorem dX3_tally_52 : decode cX3_tally 52 = .ok (.goto 23, 3) := by decide +kernel
theorem dX3_tally_55 : decode cX3_tally 55 = .ok (.iload_n 2, 1) := by decide +kernel
theorem dX3_tally_56 : decode cX3_tally 56 = .ok (.iload_n 3, 1) := by decide +kernel
theorem dX3_tally_57 : decode cX3_tally 57 = .ok (.if_icmp .eq 18, 3) := by decide +kernel
theorem dX3_tally_60 : decode cX3_tally 60 = .ok (.aload_n 0, 1) := by decide +kernel
theorem dX3_tally_61 : decode cX3_tally 61 = .ok (.iload 4, 2) := by decide +kernel
theorem dX3_tally_63 : decode cX3_tally 63 = .ok (.iload 5, 2) := by decide +kernel
theorem dX3_tally_65 : decode cX3_tally 65 = .ok (.invokestatic 35, 3) := by decide +kernel
theorem dX3_tally_68 : decode cX3_tally 68 = .ok (.invokevirtual 39, 3) := by decide +kernel
theorem dX3_tally_71 : decode cX3_tally 71 = .ok (.iload_n 3, 1) := by decide +kernel
theorem dX3_tally_72 : decode cX3_tally 72 = .ok (.iconst 1, 1) := by decide +kernel
theorem dX3_tally_73 : decode cX3_tally 73 = .ok (.iadd, 1) := by decide +kernel
theorem dX3_tally_74 : decode cX3_tally 74 = .ok (.istore_n 2, 1) := by decide +kernel
theorem dX3_tally_75 : decode cX3_tally 75 = .ok (.iinc 3 1, 3) := by decide +kernel
theorem dX3_tally_78 : decode cX3_tally 78 = .ok (.goto (-70), 3) := by decide +kernel
theorem dX3_tally_81 : decode cX3_tally 81 = .ok (.return_, 1) := by decide +kernel
theorem dX3_kinds_0 : decode cX3_kinds 0 = .ok (.aload_n 0, 1) := by decide +kernel
theorem dX3_kinds_1 : decode cX3_kinds 1 = .ok (.getfield 20, 3) := by decide +kernel
theorem dX3_kinds_4 : decode cX3_kinds 4 = .ok (.invokevirtual 27, 3) := by decide +kernel
theorem dX3_kinds_7 : decode cX3_kinds 7 = .ok (.ireturn, 1) := by decide +kernel
theorem dX3_pairAt_0 : decode cX3_pairAt 0 = .ok (.aload_n 0, 1) := by decide +kernel
theorem dX3_pairAt_1 : decode cX3_pairAt 1 = .ok (.getfield 20, 3) := by decide +kernel
theorem dX3_pairAt_4 : decode cX3_pairAt 4 = .ok (.iload_n 1, 1) := by decide +kernel
theorem dX3_pairAt_5 : decode cX3_pairAt 5 = .ok (.invokevirtual 31, 3) := by decide +kernel
theorem dX3_pairAt_8 : decode cX3_pairAt 8 = .ok (.ireturn, 1) := by decide +kernel
theorem dX3_countOf_0 : decode cX3_countOf 0 = .ok (.aload_n 0, 1) := by decide +kernel
theorem dX3_countOf_1 : decode cX3_countOf 1 = .ok (.iload_n 1, 1) := by decide +kernel
theorem dX3_countOf_2 : decode cX3_countOf 2 = .ok (.iload_n 2, 1) := by decide +kernel
theorem dX3_countOf_3 : decode cX3_countOf 3 = .ok (.invokestatic 35, 3) := by decide +kernel
theorem dX3_countOf_6 : decode cX3_countOf 6 = .ok (.invokevirtual 42, 3) := by decide +kernel
theorem dX3_countOf_9 : decode cX3_countOf 9 = .ok (.ireturn, 1) := by decide +kernel
theorem dX3_countOfPair_0 : decode cX3_countOfPair 0 = .ok (.iload_n 1, 1) := by decide +kernel
theorem dX3_countOfPair_1 : decode cX3_countOfPair 1 = .ok (.ifCond .lt 21, 3) := by decide +kernel
theorem dX3_countOfPair_4 : decode cX3_countOfPair 4 = .ok (.iload_n 1, 1) := by decide +kernel
theorem dX3_countOfPair_5 : decode cX3_countOfPair 5 = .ok (.aload_n 0, 1) := by decide +kernel
theorem dX3_countOfPair_6 : decode cX3_countOfPair 6 = .ok (.getfield 9, 3) := by decide +kernel
theorem dX3_countOfPair_9 : decode cX3_countOfPair 9 = .ok (.arraylength, 1) := by decide +kernel
theorem dX3_countOfPair_10 : decode cX3_countOfPair 10 = .ok (.if_icmp .ge 12, 3) := by decide +kernel
theorem dX3_countOfPair_13 : decode cX3_countOfPair 13 = .ok (.aload_n 0, 1) := by decide +kernel
theorem dX3_countOfPair_14 : decode cX3_countOfPair 14 = .ok (.getfield 9, 3) := by decide +kernel
theorem dX3_countOfPair_17 : decode cX3_countOfPair 17 = .ok (.iload_n 1, 1) := by decide +kernel
theorem dX3_countOfPair_18 : decode cX3_countOfPair 18 = .ok (.iaload, 1) := by decide +kernel
theorem dX3_countOfPair_19 : decode cX3_countOfPair 19 = .ok (.goto 4, 3) := by decide +kernel
theorem dX3_countOfPair_22 : decode cX3_countOfPair 22 = .ok (.iconst 0, 1) := by decide +kernel
theorem dX3_countOfPair_23 : decode cX3_countOfPair 23 = .ok (.ireturn, 1) := by decide +kernel
theorem dX3_ranked_0 : decode cX3_ranked 0 = .ok (.iload_n 1, 1) := by decide +kernel
theorem dX3_ranked_1 : decode cX3_ranked 1 = .ok (.ifCond .lt 14, 3) := by decide +kernel
theorem dX3_ranked_4 : decode cX3_ranked 4 = .ok (.iload_n 1, 1) := by decide +kernel
theorem dX3_ranked_5 : decode cX3_ranked 5 = .ok (.aload_n 0, 1) := by decide +kernel
theorem dX3_ranked_6 : decode cX3_ranked 6 = .ok (.getfield 20, 3) := by decide +kernel
theorem dX3_ranked_9 : decode cX3_ranked 9 = .ok (.invokevirtual 27, 3) := by decide +kernel
theorem dX3_ranked_12 : decode cX3_ranked 12 = .ok (.if_icmp .lt 5, 3) := by decide +kernel
theorem dX3_ranked_15 : decode cX3_ranked 15 = .ok (.iconst (-1), 1) := by decide +kernel
theorem dX3_ranked_16 : decode cX3_ranked 16 = .ok (.ireturn, 1) := by decide +kernel
theorem dX3_ranked_17 : decode cX3_ranked 17 = .ok (.iconst (-1), 1) := by decide +kernel
theorem dX3_ranked_18 : decode cX3_ranked 18 = .ok (.istore_n 2, 1) := by decide +kernel
theorem dX3_ranked_19 : decode cX3_ranked 19 = .ok (.iconst 0, 1) := by decide +kernel
theorem dX3_ranked_20 : decode cX3_ranked 20 = .ok (.istore_n 3, 1) := by decide +kernel
theorem dX3_ranked_21 : decode cX3_ranked 21 = .ok (.iload_n 3, 1) := by decide +kernel
theorem dX3_ranked_22 : decode cX3_ranked 22 = .ok (.iload_n 1, 1) := by decide +kernel
theorem dX3_ranked_23 : decode cX3_ranked 23 = .ok (.if_icmp .gt 22, 3) := by decide +kernel
theorem dX3_ranked_26 : decode cX3_ranked 26 = .ok (.aload_n 0, 1) := by decide +kernel
theorem dX3_ranked_27 : decode cX3_ranked 27 = .ok (.iload_n 2, 1) := by decide +kernel
theorem dX3_ranked_28 : decode cX3_ranked 28 = .ok (.invokevirtual 45, 3) := by decide +kernel
theorem dX3_ranked_31 : decode cX3_ranked 31 = .ok (.istore_n 2, 1) := by decide +kernel
theorem dX3_ranked_32 : decode cX3_ranked 32 = .ok (.iload_n 2, 1) := by decide +kernel
theorem dX3_ranked_33 : decode cX3_ranked 33 = .ok (.iconst (-1), 1) := by decide +kernel
theorem dX3_ranked_34 : decode cX3_ranked 34 = .ok (.if_icmp .ne 5, 3) := by decide +kernel
theorem dX3_ranked_37 : decode cX3_ranked 37 = .ok (.iconst (-1), 1) := by decide +kernel
theorem dX3_ranked_38 : decode cX3_ranked 38 = .ok (.ireturn, 1) := by decide +kernel
theorem dX3_ranked_39 : decode cX3_ranked 39 = .ok (.iinc 3 1, 3) := by decide +kernel
theorem dX3_ranked_42 : decode cX3_ranked 42 = .ok (.goto (-21), 3) := by decide +kernel
theorem dX3_ranked_45 : decode cX3_ranked 45 = .ok (.iload_n 2, 1) := by decide +kernel
theorem dX3_ranked_46 : decode cX3_ranked 46 = .ok (.ireturn, 1) := by decide +kernel
theorem dX3_nextBehind_0 : decode cX3_nextBehind 0 = .ok (.iconst (-1), 1) := by decide +kernel
theorem dX3_nextBehind_1 : decode cX3_nextBehind 1 = .ok (.istore_n 2, 1) := by decide +kernel
theorem dX3_nextBehind_2 : decode cX3_nextBehind 2 = .ok (.iconst 0, 1) := by decide +kernel
theorem dX3_nextBehind_3 : decode cX3_nextBehind 3 = .ok (.istore_n 3, 1) := by decide +kernel
theorem dX3_nextBehind_4 : decode cX3_nextBehind 4 = .ok (.iload_n 3, 1) := by decide +kernel
theorem dX3_nextBehind_5 : decode cX3_nextBehind 5 = .ok (.aload_n 0, 1) := by decide +kernel
theorem dX3_nextBehind_6 : decode cX3_nextBehind 6 = .ok (.getfield 20, 3) := by decide +kernel
theorem dX3_nextBehind_9 : decode cX3_nextBehind 9 = .ok (.invokevirtual 27, 3) := by decide +kernel
theorem dX3_nextBehind_12 : decode cX3_nextBehind 12 = .ok (.if_icmp .ge 62, 3) := by decide +kernel
theorem dX3_nextBehind_15 : decode cX3_nextBehind 15 = .ok (.aload_n 0, 1) := by decide +kernel
theorem dX3_nextBehind_16 : decode cX3_nextBehind 16 = .ok (.getfield 20, 3) := by decide +kernel
theorem dX3_nextBehind_19 : decode cX3_nextBehind 19 = .ok (.iload_n 3, 1) := by decide +kernel
theorem dX3_nextBehind_20 : decode cX3_nextBehind 20 = .ok (.invokevirtual 31, 3) := by decide +kernel
theorem dX3_nextBehind_23 : decode cX3_nextBehind 23 = .ok (.istore 4, 2) := by decide +kernel
theorem dX3_nextBehind_25 : decode cX3_nextBehind 25 = .ok (.aload_n 0, 1) := by decide +kernel
theorem dX3_nextBehind_26 : decode cX3_nextBehind 26 = .ok (.iload 4, 2) := by decide +kernel
theorem dX3_nextBehind_28 : decode cX3_nextBehind 28 = .ok (.invokevirtual 42, 3) := by decide +kernel
theorem dX3_nextBehind_31 : decode cX3_nextBehind 31 = .ok (.iconst 2, 1) := by decide +kernel
theorem dX3_nextBehind_32 : decode cX3_nextBehind 32 = .ok (.if_icmp .lt 36, 3) := by decide +kernel
theorem dX3_nextBehind_35 : decode cX3_nextBehind 35 = .ok (.iload_n 1, 1) := by decide +kernel
theorem dX3_nextBehind_36 : decode cX3_nextBehind 36 = .ok (.iconst (-1), 1) := by decide +kernel
theorem dX3_nextBehind_37 : decode cX3_nextBehind 37 = .ok (.if_icmp .eq 13, 3) := by decide +kernel
theorem dX3_nextBehind_40 : decode cX3_nextBehind 40 = .ok (.aload_n 0, 1) := by decide +kernel
theorem dX3_nextBehind_41 : decode cX3_nextBehind 41 = .ok (.iload_n 1, 1) := by decide +kernel
theorem dX3_nextBehind_42 : decode cX3_nextBehind 42 = .ok (.iload 4, 2) := by decide +kernel
theorem dX3_nextBehind_44 : decode cX3_nextBehind 44 = .ok (.invokevirtual 48, 3) := by decide +kernel
theorem dX3_nextBehind_47 : decode cX3_nextBehind 47 = .ok (.ifCond .eq 21, 3) := by decide +kernel
theorem dX3_nextBehind_50 : decode cX3_nextBehind 50 = .ok (.iload_n 2, 1) := by decide +kernel
theorem dX3_nextBehind_51 : decode cX3_nextBehind 51 = .ok (.iconst (-1), 1) := by decide +kernel
theorem dX3_nextBehind_52 : decode cX3_nextBehind 52 = .ok (.if_icmp .eq 13, 3) := by decide +kernel
theorem dX3_nextBehind_55 : decode cX3_nextBehind 55 = .ok (.aload_n 0, 1) := by decide +kernel
theorem dX3_nextBehind_56 : decode cX3_nextBehind 56 = .ok (.iload 4, 2) := by decide +kernel
theorem dX3_nextBehind_58 : decode cX3_nextBehind 58 = .ok (.iload_n 2, 1) := by decide +kernel
theorem dX3_nextBehind_59 : decode cX3_nextBehind 59 = .ok (.invokevirtual 48, 3) := by decide +kernel
theorem dX3_nextBehind_62 : decode cX3_nextBehind 62 = .ok (.ifCond .eq 6, 3) := by decide +kernel
theorem dX3_nextBehind_65 : decode cX3_nextBehind 65 = .ok (.iload 4, 2) := by decide +kernel
theorem dX3_nextBehind_67 : decode cX3_nextBehind 67 = .ok (.istore_n 2, 1) := by decide +kernel
theorem dX3_nextBehind_68 : decode cX3_nextBehind 68 = .ok (.iinc 3 1, 3) := by decide +kernel
theorem dX3_nextBehind_71 : decode cX3_nextBehind 71 = .ok (.goto (-67), 3) := by decide +kernel
theorem dX3_nextBehind_74 : decode cX3_nextBehind 74 = .ok (.iload_n 2, 1) := by decide +kernel
theorem dX3_nextBehind_75 : decode cX3_nextBehind 75 = .ok (.ireturn, 1) := by decide +kernel
theorem dX3_isAhead_0 : decode cX3_isAhead 0 = .ok (.aload_n 0, 1) := by decide +kernel
theorem dX3_isAhead_1 : decode cX3_isAhead 1 = .ok (.iload_n 1, 1) := by decide +kernel
theorem dX3_isAhead_2 : decode cX3_isAhead 2 = .ok (.invokevirtual 42, 3) := by decide +kernel
theorem dX3_isAhead_5 : decode cX3_isAhead 5 = .ok (.aload_n 0, 1) := by decide +kernel
theorem dX3_isAhead_6 : decode cX3_isAhead 6 = .ok (.iload_n 2, 1) := by decide +kernel
theorem dX3_isAhead_7 : decode cX3_isAhead 7 = .ok (.invokevirtual 42, 3) := by decide +kernel
theorem dX3_isAhead_10 : decode cX3_isAhead 10 = .ok (.isub, 1) := by decide +kernel
theorem dX3_isAhead_11 : decode cX3_isAhead 11 = .ok (.istore_n 3, 1) := by decide +kernel
theorem dX3_isAhead_12 : decode cX3_isAhead 12 = .ok (.iload_n 3, 1) := by decide +kernel
theorem dX3_isAhead_13 : decode cX3_isAhead 13 = .ok (.ifCond .gt 12, 3) := by decide +kernel
theorem dX3_isAhead_16 : decode cX3_isAhead 16 = .ok (.iload_n 3, 1) := by decide +kernel
theorem dX3_isAhead_17 : decode cX3_isAhead 17 = .ok (.ifCond .ne 12, 3) := by decide +kernel
theorem dX3_isAhead_20 : decode cX3_isAhead 20 = .ok (.iload_n 1, 1) := by decide +kernel
theorem dX3_isAhead_21 : decode cX3_isAhead 21 = .ok (.iload_n 2, 1) := by decide +kernel
theorem dX3_isAhead_22 : decode cX3_isAhead 22 = .ok (.if_icmp .ge 7, 3) := by decide +kernel
theorem dX3_isAhead_25 : decode cX3_isAhead 25 = .ok (.iconst 1, 1) := by decide +kernel
theorem dX3_isAhead_26 : decode cX3_isAhead 26 = .ok (.goto 4, 3) := by decide +kernel
theorem dX3_isAhead_29 : decode cX3_isAhead 29 = .ok (.iconst 0, 1) := by decide +kernel
theorem dX3_isAhead_30 : decode cX3_isAhead 30 = .ok (.ireturn, 1) := by decide +kernel
theorem dX3_addOne_0 : decode cX3_addOne 0 = .ok (.iload_n 1, 1) := by decide +kernel
theorem dX3_addOne_1 : decode cX3_addOne 1 = .ok (.ifCond .lt 12, 3) := by decide +kernel
theorem dX3_addOne_4 : decode cX3_addOne 4 = .ok (.iload_n 1, 1) := by decide +kernel
theorem dX3_addOne_5 : decode cX3_addOne 5 = .ok (.aload_n 0, 1) := by decide +kernel
theorem dX3_addOne_6 : decode cX3_addOne 6 = .ok (.getfield 9, 3) := by decide +kernel
theorem dX3_addOne_9 : decode cX3_addOne 9 = .ok (.arraylength, 1) := by decide +kernel
theorem dX3_addOne_10 : decode cX3_addOne 10 = .ok (.if_icmp .lt 4, 3) := by decide +kernel
theorem dX3_addOne_13 : decode cX3_addOne 13 = .ok (.return_, 1) := by decide +kernel
theorem dX3_addOne_14 : decode cX3_addOne 14 = .ok (.aload_n 0, 1) := by decide +kernel
theorem dX3_addOne_15 : decode cX3_addOne 15 = .ok (.getfield 9, 3) := by decide +kernel
theorem dX3_addOne_18 : decode cX3_addOne 18 = .ok (.iload_n 1, 1) := by decide +kernel
theorem dX3_addOne_19 : decode cX3_addOne 19 = .ok (.iaload, 1) := by decide +kernel
theorem dX3_addOne_20 : decode cX3_addOne 20 = .ok (.ifCond .ne 11, 3) := by decide +kernel
theorem dX3_addOne_23 : decode cX3_addOne 23 = .ok (.aload_n 0, 1) := by decide +kernel
theorem dX3_addOne_24 : decode cX3_addOne 24 = .ok (.getfield 20, 3) := by decide +kernel
theorem dX3_addOne_27 : decode cX3_addOne 27 = .ok (.iload_n 1, 1) := by decide +kernel
theorem dX3_addOne_28 : decode cX3_addOne 28 = .ok (.invokevirtual 52, 3) := by decide +kernel
theorem dX3_addOne_31 : decode cX3_addOne 31 = .ok (.aload_n 0, 1) := by decide +kernel
theorem dX3_addOne_32 : decode cX3_addOne 32 = .ok (.getfield 9, 3) := by decide +kernel
theorem dX3_addOne_35 : decode cX3_addOne 35 = .ok (.iload_n 1, 1) := by decide +kernel
theorem dX3_addOne_36 : decode cX3_addOne 36 = .ok (.dup2, 1) := by decide +kernel
theorem dX3_addOne_37 : decode cX3_addOne 37 = .ok (.iaload, 1) := by decide +kernel
theorem dX3_addOne_38 : decode cX3_addOne 38 = .ok (.iconst 1, 1) := by decide +kernel
theorem dX3_addOne_39 : decode cX3_addOne 39 = .ok (.iadd, 1) := by decide +kernel
theorem dX3_addOne_40 : decode cX3_addOne 40 = .ok (.iastore, 1) := by decide +kernel
theorem dX3_addOne_41 : decode cX3_addOne 41 = .ok (.return_, 1) := by decide +kernel
theorem dX3_forget_0 : decode cX3_forget 0 = .ok (.iconst 0, 1) := by decide +kernel
theorem dX3_forget_1 : decode cX3_forget 1 = .ok (.istore_n 1, 1) := by decide +kernel
theorem dX3_forget_2 : decode cX3_forget 2 = .ok (.iload_n 1, 1) := by decide +kernel
theorem dX3_forget_3 : decode cX3_forget 3 = .ok (.aload_n 0, 1) := by decide +kernel
theorem dX3_forget_4 : decode cX3_forget 4 = .ok (.getfield 20, 3) := by decide +kernel
theorem dX3_forget_7 : decode cX3_forget 7 = .ok (.invokevirtual 27, 3) := by decide +kernel
theorem dX3_forget_10 : decode cX3_forget 10 = .ok (.if_icmp .ge 38, 3) := by decide +kernel
theorem dX3_forget_13 : decode cX3_forget 13 = .ok (.aload_n 0, 1) := by decide +kernel
theorem dX3_forget_14 : decode cX3_forget 14 = .ok (.getfield 20, 3) := by decide +kernel
theorem dX3_forget_17 : decode cX3_forget 17 = .ok (.iload_n 1, 1) := by decide +kernel
theorem dX3_forget_18 : decode cX3_forget 18 = .ok (.invokevirtual 31, 3) := by decide +kernel
theorem dX3_forget_21 : decode cX3_forget 21 = .ok (.istore_n 2, 1) := by decide +kernel
theorem dX3_forget_22 : decode cX3_forget 22 = .ok (.iload_n 2, 1) := by decide +kernel
theorem dX3_forget_23 : decode cX3_forget 23 = .ok (.ifCond .lt 19, 3) := by decide +kernel
theorem dX3_forget_26 : decode cX3_forget 26 = .ok (.iload_n 2, 1) := by decide +kernel
theorem dX3_forget_27 : decode cX3_forget 27 = .ok (.aload_n 0, 1) := by decide +kernel
theorem dX3_forget_28 : decode cX3_forget 28 = .ok (.getfield 9, 3) := by decide +kernel
theorem dX3_forget_31 : decode cX3_forget 31 = .ok (.arraylength, 1) := by decide +kernel
theorem dX3_forget_32 : decode cX3_forget 32 = .ok (.if_icmp .ge 10, 3) := by decide +kernel
theorem dX3_forget_35 : decode cX3_forget 35 = .ok (.aload_n 0, 1) := by decide +kernel
theorem dX3_forget_36 : decode cX3_forget 36 = .ok (.getfield 9, 3) := by decide +kernel
theorem dX3_forget_39 : decode cX3_forget 39 = .ok (.iload_n 2, 1) := by decide +kernel
theorem dX3_forget_40 : decode cX3_forget 40 = .ok (.iconst 0, 1) := by decide +kernel
theorem dX3_forget_41 : decode cX3_forget 41 = .ok (.iastore, 1) := by decide +kernel
theorem dX3_forget_42 : decode cX3_forget 42 = .ok (.iinc 1 1, 3) := by decide +kernel
theorem dX3_forget_45 : decode cX3_forget 45 = .ok (.goto (-43), 3) := by decide +kernel
theorem dX3_forget_48 : decode cX3_forget 48 = .ok (.aload_n 0, 1) := by decide +kernel
theorem dX3_forget_49 : decode cX3_forget 49 = .ok (.getfield 20, 3) := by decide +kernel
theorem dX3_forget_52 : decode cX3_forget 52 = .ok (.invokevirtual 55, 3) := by decide +kernel
theorem dX3_forget_55 : decode cX3_forget 55 = .ok (.return_, 1) := by decide +kernel
theorem dX4_init_0 : decode cX4_init 0 = .ok (.aload_n 0, 1) := by decide +kernel
theorem dX4_init_1 : decode cX4_init 1 = .ok (.invokespecial 3, 3) := by decide +kernel
theorem dX4_init_4 : decode cX4_init 4 = .ok (.aload_n 0, 1) := by decide +kernel
theorem dX4_init_5 : decode cX4_init 5 = .ok (.bipush 10, 2) := by decide +kernel
theorem dX4_init_7 : decode cX4_init 7 = .ok (.anewarray 9, 3) := by decide +kernel
theorem dX4_init_10 : decode cX4_init 10 = .ok (.putfield 11, 3) := by decide +kernel
theorem dX4_init_13 : decode cX4_init 13 = .ok (.aload_n 0, 1) := by decide +kernel
theorem dX4_init_14 : decode cX4_init 14 = .ok (.iconst 0, 1) := by decide +kernel
theorem dX4_init_15 : decode cX4_init 15 = .ok (.putfield 17, 3) := by decide +kernel
theorem dX4_init_18 : decode cX4_init 18 = .ok (.aload_n 0, 1) := by decide +kernel
theorem dX4_init_19 : decode cX4_init 19 = .ok (.iconst 0, 1) := by decide +kernel
theorem dX4_init_20 : decode cX4_init 20 = .ok (.putfield 21, 3) := by decide +kernel
theorem dX4_init_23 : decode cX4_init 23 = .ok (.iconst 0, 1) := by decide +kernel
theorem dX4_init_24 : decode cX4_init 24 = .ok (.istore_n 1, 1) := by decide +kernel
theorem dX4_init_25 : decode cX4_init 25 = .ok (.iload_n 1, 1) := by decide +kernel
theorem dX4_init_26 : decode cX4_init 26 = .ok (.bipush 10, 2) := by decide +kernel
theorem dX4_init_28 : decode cX4_init 28 = .ok (.if_icmp .ge 22, 3) := by decide +kernel
theorem dX4_init_31 : decode cX4_init 31 = .ok (.aload_n 0, 1) := by decide +kernel
theorem dX4_init_32 : decode cX4_init 32 = .ok (.getfield 11, 3) := by decide +kernel
theorem dX4_init_35 : decode cX4_init 35 = .ok (.iload_n 1, 1) := by decide +kernel
theorem dX4_init_36 : decode cX4_init 36 = .ok (.new 9, 3) := by decide +kernel
theorem dX4_init_39 : decode cX4_init 39 = .ok (.dup, 1) := by decide +kernel
theorem dX4_init_40 : decode cX4_init 40 = .ok (.invokespecial 24, 3) := by decide +kernel
theorem dX4_init_43 : decode cX4_init 43 = .ok (.aastore, 1) := by decide +kernel
theorem dX4_init_44 : decode cX4_init 44 = .ok (.iinc 1 1, 3) := by decide +kernel
theorem dX4_init_47 : decode cX4_init 47 = .ok (.goto (-22), 3) := by decide +kernel
theorem dX4_init_50 : decode cX4_init 50 = .ok (.return_, 1) := by decide +kernel
theorem dX4_size_0 : decode cX4_size 0 = .ok (.aload_n 0, 1) := by decide +kernel
theorem dX4_size_1 : decode cX4_size 1 = .ok (.getfield 21, 3) := by decide +kernel
theorem dX4_size_4 : decode cX4_size 4 = .ok (.ireturn, 1) := by decide +kernel
theorem dX4_forget_0 : decode cX4_forget 0 = .ok (.aload_n 0, 1) := by decide +kernel
theorem dX4_forget_1 : decode cX4_forget 1 = .ok (.iconst 0, 1) := by decide +kernel
theorem dX4_forget_2 : decode cX4_forget 2 = .ok (.putfield 21, 3) := by decide +kernel
theorem dX4_forget_5 : decode cX4_forget 5 = .ok (.return_, 1) := by decide +kernel
theorem dX4_keep_0 : decode cX4_keep 0 = .ok (.aload_n 0, 1) := by decide +kernel
theorem dX4_keep_1 : decode cX4_keep 1 = .ok (.getfield 11, 3) := by decide +kernel
theorem dX4_keep_4 : decode cX4_keep 4 = .ok (.aload_n 0, 1) := by decide +kernel
theorem dX4_keep_5 : decode cX4_keep 5 = .ok (.getfield 17, 3) := by decide +kernel
theorem dX4_keep_8 : decode cX4_keep 8 = .ok (.aaload, 1) := by decide +kernel
theorem dX4_keep_9 : decode cX4_keep 9 = .ok (.aload_n 1, 1) := by decide +kernel
theorem dX4_keep_10 : decode cX4_keep 10 = .ok (.invokevirtual 25, 3) := by decide +kernel
theorem dX4_keep_13 : decode cX4_keep 13 = .ok (.aload_n 0, 1) := by decide +kernel
theorem dX4_keep_14 : decode cX4_keep 14 = .ok (.aload_n 0, 1) := by decide +kernel
theorem dX4_keep_15 : decode cX4_keep 15 = .ok (.getfield 17, 3) := by decide +kernel
theorem dX4_keep_18 : decode cX4_keep 18 = .ok (.iconst 1, 1) := by decide +kernel
theorem dX4_keep_19 : decode cX4_keep 19 = .ok (.iadd, 1) := by decide +kernel
theorem dX4_keep_20 : decode cX4_keep 20 = .ok (.bipush 10, 2) := by decide +kernel
theorem dX4_keep_22 : decode cX4_keep 22 = .ok (.invokestatic 29, 3) := by decide +kernel
theorem dX4_keep_25 : decode cX4_keep 25 = .ok (.putfield 17, 3) := by decide +kernel
theorem dX4_keep_28 : decode cX4_keep 28 = .ok (.aload_n 0, 1) := by decide +kernel
theorem dX4_keep_29 : decode cX4_keep 29 = .ok (.aload_n 0, 1) := by decide +kernel
theorem dX4_keep_30 : decode cX4_keep 30 = .ok (.getfield 21, 3) := by decide +kernel
theorem dX4_keep_33 : decode cX4_keep 33 = .ok (.iconst 1, 1) := by decide +kernel
theorem dX4_keep_34 : decode cX4_keep 34 = .ok (.iadd, 1) := by decide +kernel
theorem dX4_keep_35 : decode cX4_keep 35 = .ok (.bipush 10, 2) := by decide +kernel
theorem dX4_keep_37 : decode cX4_keep 37 = .ok (.invokestatic 35, 3) := by decide +kernel
theorem dX4_keep_40 : decode cX4_keep 40 = .ok (.putfield 21, 3) := by decide +kernel
theorem dX4_keep_43 : decode cX4_keep 43 = .ok (.return_, 1) := by decide +kernel
theorem dX4_goBack_0 : decode cX4_goBack 0 = .ok (.aload_n 0, 1) := by decide +kernel
theorem dX4_goBack_1 : decode cX4_goBack 1 = .ok (.aload_n 0, 1) := by decide +kernel
theorem dX4_goBack_2 : decode cX4_goBack 2 = .ok (.getfield 17, 3) := by decide +kernel
theorem dX4_goBack_5 : decode cX4_goBack 5 = .ok (.iload_n 1, 1) := by decide +kernel
theorem dX4_goBack_6 : decode cX4_goBack 6 = .ok (.isub, 1) := by decide +kernel
theorem dX4_goBack_7 : decode cX4_goBack 7 = .ok (.bipush 10, 2) := by decide +kernel
theorem dX4_goBack_9 : decode cX4_goBack 9 = .ok (.invokestatic 29, 3) := by decide +kernel
theorem dX4_goBack_12 : decode cX4_goBack 12 = .ok (.putfield 17, 3) := by decide +kernel
theorem dX4_goBack_15 : decode cX4_goBack 15 = .ok (.aload_n 0, 1) := by decide +kernel
theorem dX4_goBack_16 : decode cX4_goBack 16 = .ok (.aload_n 0, 1) := by decide +kernel
theorem dX4_goBack_17 : decode cX4_goBack 17 = .ok (.getfield 21, 3) := by decide +kernel
theorem dX4_goBack_20 : decode cX4_goBack 20 = .ok (.iload_n 1, 1) := by decide +kernel
theorem dX4_goBack_21 : decode cX4_goBack 21 = .ok (.isub, 1) := by decide +kernel
theorem dX4_goBack_22 : decode cX4_goBack 22 = .ok (.iconst 0, 1) := by decide +kernel
theorem dX4_goBack_23 : decode cX4_goBack 23 = .ok (.invokestatic 38, 3) := by decide +kernel
theorem dX4_goBack_26 : decode cX4_goBack 26 = .ok (.putfield 21, 3) := by decide +kernel
theorem dX4_goBack_29 : decode cX4_goBack 29 = .ok (.aload_n 2, 1) := by decide +kernel
theorem dX4_goBack_30 : decode cX4_goBack 30 = .ok (.aload_n 0, 1) := by decide +kernel
theorem dX4_goBack_31 : decode cX4_goBack 31 = .ok (.getfield 11, 3) := by decide +kernel
theorem dX4_goBack_34 : decode cX4_goBack 34 = .ok (.aload_n 0, 1) := by decide +kernel
theorem dX4_goBack_35 : decode cX4_goBack 35 = .ok (.getfield 17, 3) := by decide +kernel
theorem dX4_goBack_38 : decode cX4_goBack 38 = .ok (.aaload, 1) := by decide +kernel
theorem dX4_goBack_39 : decode cX4_goBack 39 = .ok (.invokevirtual 25, 3) := by decide +kernel
theorem dX4_goBack_42 : decode cX4_goBack 42 = .ok (.return_, 1) := by decide +kernel
theorem dX5_init_0 : decode cX5_init 0 = .ok (.aload_n 0, 1) := by decide +kernel
theorem dX5_init_1 : decode cX5_init 1 = .ok (.invokespecial 3, 3) := by decide +kernel
theorem dX5_init_4 : decode cX5_init 4 = .ok (.aload_n 0, 1) := by decide +kernel
theorem dX5_init_5 : decode cX5_init 5 = .ok (.new 9, 3) := by decide +kernel
theorem dX5_init_8 : decode cX5_init 8 = .ok (.dup, 1) := by decide +kernel
theorem dX5_init_9 : decode cX5_init 9 = .ok (.sipush 240, 3) := by decide +kernel
theorem dX5_init_12 : decode cX5_init 12 = .ok (.invokespecial 11, 3) := by decide +kernel
theorem dX5_init_15 : decode cX5_init 15 = .ok (.putfield 14, 3) := by decide +kernel
theorem dX5_init_18 : decode cX5_init 18 = .ok (.aload_n 0, 1) := by decide +kernel
theorem dX5_init_19 : decode cX5_init 19 = .ok (.new 9, 3) := by decide +kernel
theorem dX5_init_22 : decode cX5_init 22 = .ok (.dup, 1) := by decide +kernel
theorem dX5_init_23 : decode cX5_init 23 = .ok (.sipush 240, 3) := by decide +kernel
theorem dX5_init_26 : decode cX5_init 26 = .ok (.invokespecial 11, 3) := by decide +kernel
theorem dX5_init_29 : decode cX5_init 29 = .ok (.putfield 20, 3) := by decide +kernel
theorem dX5_init_32 : decode cX5_init 32 = .ok (.aload_n 0, 1) := by decide +kernel
theorem dX5_init_33 : decode cX5_init 33 = .ok (.new 9, 3) := by decide +kernel
theorem dX5_init_36 : decode cX5_init 36 = .ok (.dup, 1) := by decide +kernel
theorem dX5_init_37 : decode cX5_init 37 = .ok (.sipush 240, 3) := by decide +kernel
theorem dX5_init_40 : decode cX5_init 40 = .ok (.invokespecial 11, 3) := by decide +kernel
theorem dX5_init_43 : decode cX5_init 43 = .ok (.putfield 23, 3) := by decide +kernel
theorem dX5_init_46 : decode cX5_init 46 = .ok (.aload_n 0, 1) := by decide +kernel
theorem dX5_init_47 : decode cX5_init 47 = .ok (.new 9, 3) := by decide +kernel
theorem dX5_init_50 : decode cX5_init 50 = .ok (.dup, 1) := by decide +kernel
theorem dX5_init_51 : decode cX5_init 51 = .ok (.sipush 240, 3) := by decide +kernel
theorem dX5_init_54 : decode cX5_init 54 = .ok (.invokespecial 11, 3) := by decide +kernel
theorem dX5_init_57 : decode cX5_init 57 = .ok (.putfield 26, 3) := by decide +kernel
theorem dX5_init_60 : decode cX5_init 60 = .ok (.aload_n 0, 1) := by decide +kernel
theorem dX5_init_61 : decode cX5_init 61 = .ok (.sipush 241, 3) := by decide +kernel
theorem dX5_init_64 : decode cX5_init 64 = .ok (.newarray .int, 2) := by decide +kernel
theorem dX5_init_66 : decode cX5_init 66 = .ok (.putfield 29, 3) := by decide +kernel
theorem dX5_init_69 : decode cX5_init 69 = .ok (.aload_n 0, 1) := by decide +kernel
theorem dX5_init_70 : decode cX5_init 70 = .ok (.iconst 0, 1) := by decide +kernel
theorem dX5_init_71 : decode cX5_init 71 = .ok (.putfield 33, 3) := by decide +kernel
theorem dX5_init_74 : decode cX5_init 74 = .ok (.aload_n 0, 1) := by decide +kernel
theorem dX5_init_75 : decode cX5_init 75 = .ok (.iconst (-1), 1) := by decide +kernel
theorem dX5_init_76 : decode cX5_init 76 = .ok (.putfield 37, 3) := by decide +kernel
theorem dX5_init_79 : decode cX5_init 79 = .ok (.return_, 1) := by decide +kernel
theorem dX5_readRow_0 : decode cX5_readRow 0 = .ok (.aload_n 0, 1) := by decide +kernel
theorem dX5_readRow_1 : decode cX5_readRow 1 = .ok (.getfield 14, 3) := by decide +kernel
theorem dX5_readRow_4 : decode cX5_readRow 4 = .ok (.invokevirtual 40, 3) := by decide +kernel
theorem dX5_readRow_7 : decode cX5_readRow 7 = .ok (.aload_n 0, 1) := by decide +kernel
theorem dX5_readRow_8 : decode cX5_readRow 8 = .ok (.getfield 20, 3) := by decide +kernel
theorem dX5_readRow_11 : decode cX5_readRow 11 = .ok (.invokevirtual 40, 3) := by decide +kernel
theorem dX5_readRow_14 : decode cX5_readRow 14 = .ok (.aload_n 0, 1) := by decide +kernel
theorem dX5_readRow_15 : decode cX5_readRow 15 = .ok (.getfield 23, 3) := by decide +kernel
theorem dX5_readRow_18 : decode cX5_readRow 18 = .ok (.invokevirtual 40, 3) := by decide +kernel
theorem dX5_readRow_21 : decode cX5_readRow 21 = .ok (.aload_n 0, 1) := by decide +kernel
theorem dX5_readRow_22 : decode cX5_readRow 22 = .ok (.getfield 26, 3) := by decide +kernel
theorem dX5_readRow_25 : decode cX5_readRow 25 = .ok (.invokevirtual 40, 3) := by decide +kernel
theorem dX5_readRow_28 : decode cX5_readRow 28 = .ok (.iconst 0, 1) := by decide +kernel
theorem dX5_readRow_29 : decode cX5_readRow 29 = .ok (.istore 4, 2) := by decide +kernel
theorem dX5_readRow_31 : decode cX5_readRow 31 = .ok (.iload 4, 2) := by decide +kernel
theorem dX5_readRow_33 : decode cX5_readRow 33 = .ok (.aload_n 1, 1) := by decide +kernel
theorem dX5_readRow_34 : decode cX5_readRow 34 = .ok (.invokevirtual 43, 3) := by decide +kernel
theorem dX5_readRow_37 : decode cX5_readRow 37 = .ok (.if_icmp .ge 108, 3) := by decide +kernel
theorem dX5_readRow_40 : decode cX5_readRow 40 = .ok (.aload_n 0, 1) := by decide +kernel
theorem dX5_readRow_41 : decode cX5_readRow 41 = .ok (.getfield 14, 3) := by decide +kernel
theorem dX5_readRow_44 : decode cX5_readRow 44 = .ok (.invokevirtual 43, 3) := by decide +kernel
theorem dX5_readRow_47 : decode cX5_readRow 47 = .ok (.istore 5, 2) := by decide +kernel
theorem dX5_readRow_49 : decode cX5_readRow 49 = .ok (.iload 5, 2) := by decide +kernel
theorem dX5_readRow_51 : decode cX5_readRow 51 = .ok (.aload_n 3, 1) := by decide +kernel
theorem dX5_readRow_52 : decode cX5_readRow 52 = .ok (.aload_n 1, 1) := by decide +kernel
theorem dX5_readRow_53 : decode cX5_readRow 53 = .ok (.iload 4, 2) := by decide +kernel
theorem dX5_readRow_55 : decode cX5_readRow 55 = .ok (.invokevirtual 47, 3) := by decide +kernel
theorem dX5_readRow_58 : decode cX5_readRow 58 = .ok (.invokevirtual 51, 3) := by decide +kernel
theorem dX5_readRow_61 : decode cX5_readRow 61 = .ok (.iadd, 1) := by decide +kernel
theorem dX5_readRow_62 : decode cX5_readRow 62 = .ok (.istore 6, 2) := by decide +kernel
theorem dX5_readRow_64 : decode cX5_readRow 64 = .ok (.iload 5, 2) := by decide +kernel
theorem dX5_readRow_66 : decode cX5_readRow 66 = .ok (.istore 7, 2) := by decide +kernel
theorem dX5_readRow_68 : decode cX5_readRow 68 = .ok (.iload 7, 2) := by decide +kernel
theorem dX5_readRow_70 : decode cX5_readRow 70 = .ok (.iload 6, 2) := by decide +kernel
theorem dX5_readRow_72 : decode cX5_readRow 72 = .ok (.if_icmp .ge 67, 3) := by decide +kernel
theorem dX5_readRow_75 : decode cX5_readRow 75 = .ok (.aload_n 3, 1) := by decide +kernel
theorem dX5_readRow_76 : decode cX5_readRow 76 = .ok (.aload_n 2, 1) := by decide +kernel
theorem dX5_readRow_77 : decode cX5_readRow 77 = .ok (.aload_n 1, 1) := by decide +kernel
theorem dX5_readRow_78 : decode cX5_readRow 78 = .ok (.iload 4, 2) := by decide +kernel
theorem dX5_readRow_80 : decode cX5_readRow 80 = .ok (.invokevirtual 47, 3) := by decide +kernel
theorem dX5_readRow_83 : decode cX5_readRow 83 = .ok (.iload 7, 2) := by decide +kernel
theorem dX5_readRow_85 : decode cX5_readRow 85 = .ok (.iload 5, 2) := by decide +kernel
theorem dX5_readRow_87 : decode cX5_readRow 87 = .ok (.isub, 1) := by decide +kernel
theorem dX5_readRow_88 : decode cX5_readRow 88 = .ok (.bipush 60, 2) := by decide +kernel
theorem dX5_readRow_90 : decode cX5_readRow 90 = .ok (.invokevirtual 56, 3) := by decide +kernel
theorem dX5_readRow_93 : decode cX5_readRow 93 = .ok (.aload_n 0, 1) := by decide +kernel
theorem dX5_readRow_94 : decode cX5_readRow 94 = .ok (.getfield 14, 3) := by decide +kernel
theorem dX5_readRow_97 : decode cX5_readRow 97 = .ok (.aload_n 3, 1) := by decide +kernel
theorem dX5_readRow_98 : decode cX5_readRow 98 = .ok (.invokevirtual 60, 3) := by decide +kernel
theorem dX5_readRow_101 : decode cX5_readRow 101 = .ok (.invokevirtual 63, 3) := by decide +kernel
theorem dX5_readRow_104 : decode cX5_readRow 104 = .ok (.aload_n 0, 1) := by decide +kernel
theorem dX5_readRow_105 : decode cX5_readRow 105 = .ok (.getfield 20, 3) := by decide +kernel
theorem dX5_readRow_108 : decode cX5_readRow 108 = .ok (.iload 4, 2) := by decide +kernel
theorem dX5_readRow_110 : decode cX5_readRow 110 = .ok (.invokevirtual 63, 3) := by decide +kernel
theorem dX5_readRow_113 : decode cX5_readRow 113 = .ok (.aload_n 0, 1) := by decide +kernel
theorem dX5_readRow_114 : decode cX5_readRow 114 = .ok (.getfield 23, 3) := by decide +kernel
theorem dX5_readRow_117 : decode cX5_readRow 117 = .ok (.iload 5, 2) := by decide +kernel
theorem dX5_readRow_119 : decode cX5_readRow 119 = .ok (.invokevirtual 63, 3) := by decide +kernel
theorem dX5_readRow_122 : decode cX5_readRow 122 = .ok (.aload_n 0, 1) := by decide +kernel
theorem dX5_readRow_123 : decode cX5_readRow 123 = .ok (.getfield 26, 3) := by decide +kernel
theorem dX5_readRow_126 : decode cX5_readRow 126 = .ok (.aload_n 3, 1) := by decide +kernel
theorem dX5_readRow_127 : decode cX5_readRow 127 = .ok (.invokevirtual 66, 3) := by decide +kernel
theorem dX5_readRow_130 : decode cX5_readRow 130 = .ok (.invokevirtual 63, 3) := by decide +kernel
theorem dX5_readRow_133 : decode cX5_readRow 133 = .ok (.iinc 7 1, 3) := by decide +kernel
theorem dX5_readRow_136 : decode cX5_readRow 136 = .ok (.goto (-68), 3) := by decide +kernel
theorem dX5_readRow_139 : decode cX5_readRow 139 = .ok (.iinc 4 1, 3) := by decide +kernel
theorem dX5_readRow_142 : decode cX5_readRow 142 = .ok (.goto (-111), 3) := by decide +kernel
theorem dX5_readRow_145 : decode cX5_readRow 145 = .ok (.return_, 1) := by decide +kernel
theorem dX5_size_0 : decode cX5_size 0 = .ok (.aload_n 0, 1) := by decide +kernel
theorem dX5_size_1 : decode cX5_size 1 = .ok (.getfield 14, 3) := by decide +kernel
theorem dX5_size_4 : decode cX5_size 4 = .ok (.invokevirtual 43, 3) := by decide +kernel
theorem dX5_size_7 : decode cX5_size 7 = .ok (.ireturn, 1) := by decide +kernel
theorem dX5_hasPlace_0 : decode cX5_hasPlace 0 = .ok (.iload_n 1, 1) := by decide +kernel
theorem dX5_hasPlace_1 : decode cX5_hasPlace 1 = .ok (.ifCond .lt 18, 3) := by decide +kernel
theorem dX5_hasPlace_4 : decode cX5_hasPlace 4 = .ok (.iload_n 1, 1) := by decide +kernel
theorem dX5_hasPlace_5 : decode cX5_hasPlace 5 = .ok (.aload_n 0, 1) := by decide +kernel
theorem dX5_hasPlace_6 : decode cX5_hasPlace 6 = .ok (.getfield 14, 3) := by decide +kernel
theorem dX5_hasPlace_9 : decode cX5_hasPlace 9 = .ok (.invokevirtual 43, 3) := by decide +kernel
theorem dX5_hasPlace_12 : decode cX5_hasPlace 12 = .ok (.if_icmp .ge 7, 3) := by decide +kernel
theorem dX5_hasPlace_15 : decode cX5_hasPlace 15 = .ok (.iconst 1, 1) := by decide +kernel
theorem dX5_hasPlace_16 : decode cX5_hasPlace 16 = .ok (.goto 4, 3) := by decide +kernel
theorem dX5_hasPlace_19 : decode cX5_hasPlace 19 = .ok (.iconst 0, 1) := by decide +kernel
theorem dX5_hasPlace_20 : decode cX5_hasPlace 20 = .ok (.ireturn, 1) := by decide +kernel
theorem dX5_letterAt_0 : decode cX5_letterAt 0 = .ok (.aload_n 0, 1) := by decide +kernel
theorem dX5_letterAt_1 : decode cX5_letterAt 1 = .ok (.getfield 14, 3) := by decide +kernel
theorem dX5_letterAt_4 : decode cX5_letterAt 4 = .ok (.iload_n 1, 1) := by decide +kernel
theorem dX5_letterAt_5 : decode cX5_letterAt 5 = .ok (.invokevirtual 47, 3) := by decide +kernel
theorem dX5_letterAt_8 : decode cX5_letterAt 8 = .ok (.ireturn, 1) := by decide +kernel
theorem dX5_homeAt_0 : decode cX5_homeAt 0 = .ok (.aload_n 0, 1) := by decide +kernel
theorem dX5_homeAt_1 : decode cX5_homeAt 1 = .ok (.getfield 20, 3) := by decide +kernel
theorem dX5_homeAt_4 : decode cX5_homeAt 4 = .ok (.iload_n 1, 1) := by decide +kernel
theorem dX5_homeAt_5 : decode cX5_homeAt 5 = .ok (.invokevirtual 47, 3) := by decide +kernel
theorem dX5_homeAt_8 : decode cX5_homeAt 8 = .ok (.ireturn, 1) := by decide +kernel
theorem dX5_beginAt_0 : decode cX5_beginAt 0 = .ok (.aload_n 0, 1) := by decide +kernel
theorem dX5_beginAt_1 : decode cX5_beginAt 1 = .ok (.getfield 23, 3) := by decide +kernel
theorem dX5_beginAt_4 : decode cX5_beginAt 4 = .ok (.iload_n 1, 1) := by decide +kernel
theorem dX5_beginAt_5 : decode cX5_beginAt 5 = .ok (.invokevirtual 47, 3) := by decide +kernel
theorem dX5_beginAt_8 : decode cX5_beginAt 8 = .ok (.ireturn, 1) := by decide +kernel
theorem dX5_depthAt_0 : decode cX5_depthAt 0 = .ok (.aload_n 0, 1) := by decide +kernel
theorem dX5_depthAt_1 : decode cX5_depthAt 1 = .ok (.getfield 26, 3) := by decide +kernel
theorem dX5_depthAt_4 : decode cX5_depthAt 4 = .ok (.iload_n 1, 1) := by decide +kernel
theorem dX5_depthAt_5 : decode cX5_depthAt 5 = .ok (.invokevirtual 47, 3) := by decide +kernel
theorem dX5_depthAt_8 : decode cX5_depthAt 8 = .ok (.ireturn, 1) := by decide +kernel
theorem dX5_depthSum_0 : decode cX5_depthSum 0 = .ok (.iconst 0, 1) := by decide +kernel
theorem dX5_depthSum_1 : decode cX5_depthSum 1 = .ok (.istore_n 1, 1) := by decide +kernel
theorem dX5_depthSum_2 : decode cX5_depthSum 2 = .ok (.iconst 0, 1) := by decide +kernel
theorem dX5_depthSum_3 : decode cX5_depthSum 3 = .ok (.istore_n 2, 1) := by decide +kernel
theorem dX5_depthSum_4 : decode cX5_depthSum 4 = .ok (.iload_n 2, 1) := by decide +kernel
theorem dX5_depthSum_5 : decode cX5_depthSum 5 = .ok (.aload_n 0, 1) := by decide +kernel
theorem dX5_depthSum_6 : decode cX5_depthSum 6 = .ok (.getfield 26, 3) := by decide +kernel
theorem dX5_depthSum_9 : decode cX5_depthSum 9 = .ok (.invokevirtual 43, 3) := by decide +kernel
theorem dX5_depthSum_12 : decode cX5_depthSum 12 = .ok (.if_icmp .ge 20, 3) := by decide +kernel
theorem dX5_depthSum_15 : decode cX5_depthSum 15 = .ok (.iload_n 1, 1) := by decide +kernel
theorem dX5_depthSum_16 : decode cX5_depthSum 16 = .ok (.aload_n 0, 1) := by decide +kernel
theorem dX5_depthSum_17 : decode cX5_depthSum 17 = .ok (.getfield 26, 3) := by decide +kernel
theorem dX5_depthSum_20 : decode cX5_depthSum 20 = .ok (.iload_n 2, 1) := by decide +kernel
theorem dX5_depthSum_21 : decode cX5_depthSum 21 = .ok (.invokevirtual 47, 3) := by decide +kernel
theorem dX5_depthSum_24 : decode cX5_depthSum 24 = .ok (.iadd, 1) := by decide +kernel
theorem dX5_depthSum_25 : decode cX5_depthSum 25 = .ok (.istore_n 1, 1) := by decide +kernel
theorem dX5_depthSum_26 : decode cX5_depthSum 26 = .ok (.iinc 2 1, 3) := by decide +kernel
theorem dX5_depthSum_29 : decode cX5_depthSum 29 = .ok (.goto (-25), 3) := by decide +kernel
theorem dX5_depthSum_32 : decode cX5_depthSum 32 = .ok (.iload_n 1, 1) := by decide +kernel
theorem dX5_depthSum_33 : decode cX5_depthSum 33 = .ok (.ireturn, 1) := by decide +kernel
theorem dX5_alikeFrom_0 : decode cX5_alikeFrom 0 = .ok (.aload_n 0, 1) := by decide +kernel
theorem dX5_alikeFrom_1 : decode cX5_alikeFrom 1 = .ok (.getfield 14, 3) := by decide +kernel
theorem dX5_alikeFrom_4 : decode cX5_alikeFrom 4 = .ok (.invokevirtual 43, 3) := by decide +kernel
theorem dX5_alikeFrom_7 : decode cX5_alikeFrom 7 = .ok (.iload_n 1, 1) := by decide +kernel
theorem dX5_alikeFrom_8 : decode cX5_alikeFrom 8 = .ok (.iload_n 2, 1) := by decide +kernel
theorem dX5_alikeFrom_9 : decode cX5_alikeFrom 9 = .ok (.invokestatic 69, 3) := by decide +kernel
theorem dX5_alikeFrom_12 : decode cX5_alikeFrom 12 = .ok (.isub, 1) := by decide +kernel
theorem dX5_alikeFrom_13 : decode cX5_alikeFrom 13 = .ok (.istore_n 3, 1) := by decide +kernel
theorem dX5_alikeFrom_14 : decode cX5_alikeFrom 14 = .ok (.iconst 0, 1) := by decide +kernel
theorem dX5_alikeFrom_15 : decode cX5_alikeFrom 15 = .ok (.istore 4, 2) := by decide +kernel
theorem dX5_alikeFrom_17 : decode cX5_alikeFrom 17 = .ok (.iload 4, 2) := by decide +kernel
theorem dX5_alikeFrom_19 : decode cX5_alikeFrom 19 = .ok (.iload_n 3, 1) := by decide +kernel
theorem dX5_alikeFrom_20 : decode cX5_alikeFrom 20 = .ok (.if_icmp .ge 37, 3) := by decide +kernel
theorem dX5_alikeFrom_23 : decode cX5_alikeFrom 23 = .ok (.aload_n 0, 1) := by decide +kernel
theorem dX5_alikeFrom_24 : decode cX5_alikeFrom 24 = .ok (.getfield 14, 3) := by decide +kernel
theorem dX5_alikeFrom_27 : decode cX5_alikeFrom 27 = .ok (.iload_n 1, 1) := by decide +kernel
theorem dX5_alikeFrom_28 : decode cX5_alikeFrom 28 = .ok (.iload 4, 2) := by decide +kernel
theorem dX5_alikeFrom_30 : decode cX5_alikeFrom 30 = .ok (.iadd, 1) := by decide +kernel
theorem dX5_alikeFrom_31 : decode cX5_alikeFrom 31 = .ok (.invokevirtual 47, 3) := by decide +kernel
theorem dX5_alikeFrom_34 : decode cX5_alikeFrom 34 = .ok (.aload_n 0, 1) := by decide +kernel
theorem dX5_alikeFrom_35 : decode cX5_alikeFrom 35 = .ok (.getfield 14, 3) := by decide +kernel
theorem dX5_alikeFrom_38 : decode cX5_alikeFrom 38 = .ok (.iload_n 2, 1) := by decide +kernel
theorem dX5_alikeFrom_39 : decode cX5_alikeFrom 39 = .ok (.iload 4, 2) := by decide +kernel
theorem dX5_alikeFrom_41 : decode cX5_alikeFrom 41 = .ok (.iadd, 1) := by decide +kernel
theorem dX5_alikeFrom_42 : decode cX5_alikeFrom 42 = .ok (.invokevirtual 47, 3) := by decide +kernel
theorem dX5_alikeFrom_45 : decode cX5_alikeFrom 45 = .ok (.if_icmp .eq 6, 3) := by decide +kernel
theorem dX5_alikeFrom_48 : decode cX5_alikeFrom 48 = .ok (.iload 4, 2) := by decide +kernel
theorem dX5_alikeFrom_50 : decode cX5_alikeFrom 50 = .ok (.ireturn, 1) := by decide +kernel
theorem dX5_alikeFrom_51 : decode cX5_alikeFrom 51 = .ok (.iinc 4 1, 3) := by decide +kernel
theorem dX5_alikeFrom_54 : decode cX5_alikeFrom 54 = .ok (.goto (-37), 3) := by decide +kernel
theorem dX5_alikeFrom_57 : decode cX5_alikeFrom 57 = .ok (.iload_n 3, 1) := by decide +kernel
theorem dX5_alikeFrom_58 : decode cX5_alikeFrom 58 = .ok (.iconst 0, 1) := by decide +kernel
theorem dX5_alikeFrom_59 : decode cX5_alikeFrom 59 = .ok (.invokestatic 69, 3) := by decide +kernel
theorem dX5_alikeFrom_62 : decode cX5_alikeFrom 62 = .ok (.ireturn, 1) := by decide +kernel
theorem dX5_seekTwice_0 : decode cX5_seekTwice 0 = .ok (.aload_n 0, 1) := by decide +kernel
theorem dX5_seekTwice_1 : decode cX5_seekTwice 1 = .ok (.iconst 0, 1) := by decide +kernel
theorem dX5_seekTwice_2 : decode cX5_seekTwice 2 = .ok (.putfield 33, 3) := by decide +kernel
theorem dX5_seekTwice_5 : decode cX5_seekTwice 5 = .ok (.aload_n 0, 1) := by decide +kernel
theorem dX5_seekTwice_6 : decode cX5_seekTwice 6 = .ok (.iconst (-1), 1) := by decide +kernel
theorem dX5_seekTwice_7 : decode cX5_seekTwice 7 = .ok (.putfield 37, 3) := by decide +kernel
theorem dX5_seekTwice_10 : decode cX5_seekTwice 10 = .ok (.aload_n 0, 1) := by decide +kernel
theorem dX5_seekTwice_11 : decode cX5_seekTwice 11 = .ok (.getfield 14, 3) := by decide +kernel
theorem dX5_seekTwice_14 : decode cX5_seekTwice 14 = .ok (.invokevirtual 43, 3) := by decide +kernel
theorem dX5_seekTwice_17 : decode cX5_seekTwice 17 = .ok (.istore_n 1, 1) := by decide +kernel
theorem dX5_seekTwice_18 : decode cX5_seekTwice 18 = .ok (.iload_n 1, 1) := by decide +kernel
theorem dX5_seekTwice_19 : decode cX5_seekTwice 19 = .ok (.aload_n 0, 1) := by decide +kernel
theorem dX5_seekTwice_20 : decode cX5_seekTwice 20 = .ok (.getfield 29, 3) := by decide +kernel
theorem dX5_seekTwice_23 : decode cX5_seekTwice 23 = .ok (.arraylength, 1) := by decide +kernel
theorem dX5_seekTwice_24 : decode cX5_seekTwice 24 = .ok (.if_icmp .lt 4, 3) := by decide +kernel
theorem dX5_seekTwice_27 : decode cX5_seekTwice 27 = .ok (.return_, 1) := by decide +kernel
theorem dX5_seekTwice_28 : decode cX5_seekTwice 28 = .ok (.aload_n 0, 1) := by decide +kernel
theorem dX5_seekTwice_29 : decode cX5_seekTwice 29 = .ok (.getfield 29, 3) := by decide +kernel
theorem dX5_seekTwice_32 : decode cX5_seekTwice 32 = .ok (.iload_n 1, 1) := by decide +kernel
theorem dX5_seekTwice_33 : decode cX5_seekTwice 33 = .ok (.iconst 0, 1) := by decide +kernel
theorem dX5_seekTwice_34 : decode cX5_seekTwice 34 = .ok (.iastore, 1) := by decide +kernel
theorem dX5_seekTwice_35 : decode cX5_seekTwice 35 = .ok (.iload_n 1, 1) := by decide +kernel
theorem dX5_seekTwice_36 : decode cX5_seekTwice 36 = .ok (.iconst 2, 1) := by decide +kernel
theorem dX5_seekTwice_37 : decode cX5_seekTwice 37 = .ok (.isub, 1) := by decide +kernel
theorem dX5_seekTwice_38 : decode cX5_seekTwice 38 = .ok (.istore_n 2, 1) := by decide +kernel
theorem dX5_seekTwice_39 : decode cX5_seekTwice 39 = .ok (.iload_n 2, 1) := by decide +kernel
theorem dX5_seekTwice_40 : decode cX5_seekTwice 40 = .ok (.ifCond .lt 100, 3) := by decide +kernel
theorem dX5_seekTwice_43 : decode cX5_seekTwice 43 = .ok (.iload_n 2, 1) := by decide +kernel
theorem dX5_seekTwice_44 : decode cX5_seekTwice 44 = .ok (.iconst 1, 1) := by decide +kernel
theorem dX5_seekTwice_45 : decode cX5_seekTwice 45 = .ok (.iadd, 1) := by decide +kernel
theorem dX5_seekTwice_46 : decode cX5_seekTwice 46 = .ok (.istore_n 3, 1) := by decide +kernel
theorem dX5_seekTwice_47 : decode cX5_seekTwice 47 = .ok (.iload_n 3, 1) := by decide +kernel
theorem dX5_seekTwice_48 : decode cX5_seekTwice 48 = .ok (.iload_n 1, 1) := by decide +kernel
theorem dX5_seekTwice_49 : decode cX5_seekTwice 49 = .ok (.if_icmp .ge 85, 3) := by decide +kernel
theorem dX5_seekTwice_52 : decode cX5_seekTwice 52 = .ok (.aload_n 0, 1) := by decide +kernel
theorem dX5_seekTwice_53 : decode cX5_seekTwice 53 = .ok (.getfield 29, 3) := by decide +kernel
theorem dX5_seekTwice_56 : decode cX5_seekTwice 56 = .ok (.iload_n 3, 1) := by decide +kernel
theorem dX5_seekTwice_57 : decode cX5_seekTwice 57 = .ok (.aload_n 0, 1) := by decide +kernel
theorem dX5_seekTwice_58 : decode cX5_seekTwice 58 = .ok (.getfield 14, 3) := by decide +kernel
theorem dX5_seekTwice_61 : decode cX5_seekTwice 61 = .ok (.iload_n 2, 1) := by decide +kernel
theorem dX5_seekTwice_62 : decode cX5_seekTwice 62 = .ok (.invokevirtual 47, 3) := by decide +kernel
theorem dX5_seekTwice_65 : decode cX5_seekTwice 65 = .ok (.aload_n 0, 1) := by decide +kernel
theorem dX5_seekTwice_66 : decode cX5_seekTwice 66 = .ok (.getfield 14, 3) := by decide +kernel
theorem dX5_seekTwice_69 : decode cX5_seekTwice 69 = .ok (.iload_n 3, 1) := by decide +kernel
theorem dX5_seekTwice_70 : decode cX5_seekTwice 70 = .ok (.invokevirtual 47, 3) := by decide +kernel
theorem dX5_seekTwice_73 : decode cX5_seekTwice 73 = .ok (.if_icmp .ne 16, 3) := by decide +kernel
theorem dX5_seekTwice_76 : decode cX5_seekTwice 76 = .ok (.aload_n 0, 1) := by decide +kernel
theorem dX5_seekTwice_77 : decode cX5_seekTwice 77 = .ok (.getfield 29, 3) := by decide +kernel
theorem dX5_seekTwice_80 : decode cX5_seekTwice 80 = .ok (.iload_n 3, 1) := by decide +kernel
theorem dX5_seekTwice_81 : decode cX5_seekTwice 81 = .ok (.iconst 1, 1) := by decide +kernel
theorem dX5_seekTwice_82 : decode cX5_seekTwice 82 = .ok (.iadd, 1) := by decide +kernel
theorem dX5_seekTwice_83 : decode cX5_seekTwice 83 = .ok (.iaload, 1) := by decide +kernel
theorem dX5_seekTwice_84 : decode cX5_seekTwice 84 = .ok (.iconst 1, 1) := by decide +kernel
theorem dX5_seekTwice_85 : decode cX5_seekTwice 85 = .ok (.iadd, 1) := by decide +kernel
theorem dX5_seekTwice_86 : decode cX5_seekTwice 86 = .ok (.goto 4, 3) := by decide +kernel
theorem dX5_seekTwice_89 : decode cX5_seekTwice 89 = .ok (.iconst 0, 1) := by decide +kernel
theorem dX5_seekTwice_90 : decode cX5_seekTwice 90 = .ok (.iastore, 1) := by decide +kernel
theorem dX5_seekTwice_91 : decode cX5_seekTwice 91 = .ok (.aload_n 0, 1) := by decide +kernel
theorem dX5_seekTwice_92 : decode cX5_seekTwice 92 = .ok (.getfield 29, 3) := by decide +kernel
theorem dX5_seekTwice_95 : decode cX5_seekTwice 95 = .ok (.iload_n 3, 1) := by decide +kernel
theorem dX5_seekTwice_96 : decode cX5_seekTwice 96 = .ok (.iaload, 1) := by decide +kernel
theorem dX5_seekTwice_97 : decode cX5_seekTwice 97 = .ok (.ifCond .le 31, 3) := by decide +kernel
theorem dX5_seekTwice_100 : decode cX5_seekTwice 100 = .ok (.aload_n 0, 1) := by decide +kernel
theorem dX5_seekTwice_101 : decode cX5_seekTwice 101 = .ok (.getfield 29, 3) := by decide +kernel
theorem dX5_seekTwice_104 : decode cX5_seekTwice 104 = .ok (.iload_n 3, 1) := by decide +kernel
theorem dX5_seekTwice_105 : decode cX5_seekTwice 105 = .ok (.iaload, 1) := by decide +kernel
theorem dX5_seekTwice_106 : decode cX5_seekTwice 106 = .ok (.aload_n 0, 1) := by decide +kernel
theorem dX5_seekTwice_107 : decode cX5_seekTwice 107 = .ok (.getfield 33, 3) := by decide +kernel
theorem dX5_seekTwice_110 : decode cX5_seekTwice 110 = .ok (.if_icmp .lt 18, 3) := by decide +kernel
theorem dX5_seekTwice_113 : decode cX5_seekTwice 113 = .ok (.aload_n 0, 1) := by decide +kernel
theorem dX5_seekTwice_114 : decode cX5_seekTwice 114 = .ok (.aload_n 0, 1) := by decide +kernel
theorem dX5_seekTwice_115 : decode cX5_seekTwice 115 = .ok (.getfield 29, 3) := by decide +kernel
theorem dX5_seekTwice_118 : decode cX5_seekTwice 118 = .ok (.iload_n 3, 1) := by decide +kernel
theorem dX5_seekTwice_119 : decode cX5_seekTwice 119 = .ok (.iaload, 1) := by decide +kernel
theorem dX5_seekTwice_120 : decode cX5_seekTwice 120 = .ok (.putfield 33, 3) := by decide +kernel
theorem dX5_seekTwice_123 : decode cX5_seekTwice 123 = .ok (.aload_n 0, 1) := by decide +kernel
theorem dX5_seekTwice_124 : decode cX5_seekTwice 124 = .ok (.iload_n 2, 1) := by decide +kernel
theorem dX5_seekTwice_125 : decode cX5_seekTwice 125 = .ok (.putfield 37, 3) := by decide +kernel
theorem dX5_seekTwice_128 : decode cX5_seekTwice 128 = .ok (.iinc 3 1, 3) := by decide +kernel
theorem dX5_seekTwice_131 : decode cX5_seekTwice 131 = .ok (.goto (-84), 3) := by decide +kernel
theorem dX5_seekTwice_134 : decode cX5_seekTwice 134 = .ok (.iinc 2 (-1), 3) := by decide +kernel
theorem dX5_seekTwice_137 : decode cX5_seekTwice 137 = .ok (.goto (-98), 3) := by decide +kernel
theorem dX5_seekTwice_140 : decode cX5_seekTwice 140 = .ok (.return_, 1) := by decide +kernel
theorem dX5_longestTwice_0 : decode cX5_longestTwice 0 = .ok (.aload_n 0, 1) := by decide +kernel
theorem dX5_longestTwice_1 : decode cX5_longestTwice 1 = .ok (.getfield 33, 3) := by decide +kernel
theorem dX5_longestTwice_4 : decode cX5_longestTwice 4 = .ok (.ireturn, 1) := by decide +kernel
theorem dX5_twiceAt_0 : decode cX5_twiceAt 0 = .ok (.aload_n 0, 1) := by decide +kernel
theorem dX5_twiceAt_1 : decode cX5_twiceAt 1 = .ok (.getfield 37, 3) := by decide +kernel
theorem dX5_twiceAt_4 : decode cX5_twiceAt 4 = .ok (.ireturn, 1) := by decide +kernel
theorem dX5_hitsOf_0 : decode cX5_hitsOf 0 = .ok (.iconst 0, 1) := by decide +kernel
theorem dX5_hitsOf_1 : decode cX5_hitsOf 1 = .ok (.istore_n 2, 1) := by decide +kernel
theorem dX5_hitsOf_2 : decode cX5_hitsOf 2 = .ok (.iconst 0, 1) := by decide +kernel
theorem dX5_hitsOf_3 : decode cX5_hitsOf 3 = .ok (.istore_n 3, 1) := by decide +kernel
theorem dX5_hitsOf_4 : decode cX5_hitsOf 4 = .ok (.iload_n 3, 1) := by decide +kernel
theorem dX5_hitsOf_5 : decode cX5_hitsOf 5 = .ok (.aload_n 0, 1) := by decide +kernel
theorem dX5_hitsOf_6 : decode cX5_hitsOf 6 = .ok (.getfield 14, 3) := by decide +kernel
theorem dX5_hitsOf_9 : decode cX5_hitsOf 9 = .ok (.invokevirtual 43, 3) := by decide +kernel
theorem dX5_hitsOf_12 : decode cX5_hitsOf 12 = .ok (.if_icmp .ge 21, 3) := by decide +kernel
theorem dX5_hitsOf_15 : decode cX5_hitsOf 15 = .ok (.aload_n 0, 1) := by decide +kernel
theorem dX5_hitsOf_16 : decode cX5_hitsOf 16 = .ok (.aload_n 1, 1) := by decide +kernel
theorem dX5_hitsOf_17 : decode cX5_hitsOf 17 = .ok (.iload_n 3, 1) := by decide +kernel
theorem dX5_hitsOf_18 : decode cX5_hitsOf 18 = .ok (.invokevirtual 75, 3) := by decide +kernel
theorem dX5_hitsOf_21 : decode cX5_hitsOf 21 = .ok (.ifCond .eq 6, 3) := by decide +kernel
theorem dX5_hitsOf_24 : decode cX5_hitsOf 24 = .ok (.iinc 2 1, 3) := by decide +kernel
theorem dX5_hitsOf_27 : decode cX5_hitsOf 27 = .ok (.iinc 3 1, 3) := by decide +kernel
theorem dX5_hitsOf_30 : decode cX5_hitsOf 30 = .ok (.goto (-26), 3) := by decide +kernel
theorem dX5_hitsOf_33 : decode cX5_hitsOf 33 = .ok (.iload_n 2, 1) := by decide +kernel
theorem dX5_hitsOf_34 : decode cX5_hitsOf 34 = .ok (.ireturn, 1) := by decide +kernel
theorem dX5_crossingsOf_0 : decode cX5_crossingsOf 0 = .ok (.iconst 0, 1) := by decide +kernel
theorem dX5_crossingsOf_1 : decode cX5_crossingsOf 1 = .ok (.istore_n 2, 1) := by decide +kernel
theorem dX5_crossingsOf_2 : decode cX5_crossingsOf 2 = .ok (.iconst 0, 1) := by decide +kernel
theorem dX5_crossingsOf_3 : decode cX5_crossingsOf 3 = .ok (.istore_n 3, 1) := by decide +kernel
theorem dX5_crossingsOf_4 : decode cX5_crossingsOf 4 = .ok (.iload_n 3, 1) := by decide +kernel
theorem dX5_crossingsOf_5 : decode cX5_crossingsOf 5 = .ok (.aload_n 0, 1) := by decide +kernel
theorem dX5_crossingsOf_6 : decode cX5_crossingsOf 6 = .ok (.getfield 14, 3) := by decide +kernel
theorem dX5_crossingsOf_9 : decode cX5_crossingsOf 9 = .ok (.invokevirtual 43, 3) := by decide +kernel
theorem dX5_crossingsOf_12 : decode cX5_crossingsOf 12 = .ok (.if_icmp .ge 47, 3) := by decide +kernel
theorem dX5_crossingsOf_15 : decode cX5_crossingsOf 15 = .ok (.aload_n 0, 1) := by decide +kernel
theorem dX5_crossingsOf_16 : decode cX5_crossingsOf 16 = .ok (.aload_n 1, 1) := by decide +kernel
theorem dX5_crossingsOf_17 : decode cX5_crossingsOf 17 = .ok (.iload_n 3, 1) := by decide +kernel
theorem dX5_crossingsOf_18 : decode cX5_crossingsOf 18 = .ok (.invokevirtual 75, 3) := by decide +kernel
theorem dX5_crossingsOf_21 : decode cX5_crossingsOf 21 = .ok (.ifCond .eq 32, 3) := by decide +kernel
theorem dX5_crossingsOf_24 : decode cX5_crossingsOf 24 = .ok (.aload_n 0, 1) := by decide +kernel
theorem dX5_crossingsOf_25 : decode cX5_crossingsOf 25 = .ok (.getfield 20, 3) := by decide +kernel
theorem dX5_crossingsOf_28 : decode cX5_crossingsOf 28 = .ok (.iload_n 3, 1) := by decide +kernel
theorem dX5_crossingsOf_29 : decode cX5_crossingsOf 29 = .ok (.invokevirtual 47, 3) := by decide +kernel
theorem dX5_crossingsOf_32 : decode cX5_crossingsOf 32 = .ok (.aload_n 0, 1) := by decide +kernel
theorem dX5_crossingsOf_33 : decode cX5_crossingsOf 33 = .ok (.getfield 20, 3) := by decide +kernel
theorem dX5_crossingsOf_36 : decode cX5_crossingsOf 36 = .ok (.iload_n 3, 1) := by decide +kernel
theorem dX5_crossingsOf_37 : decode cX5_crossingsOf 37 = .ok (.aload_n 1, 1) := by decide +kernel
theorem dX5_crossingsOf_38 : decode cX5_crossingsOf 38 = .ok (.invokevirtual 43, 3) := by decide +kernel
theorem dX5_crossingsOf_41 : decode cX5_crossingsOf 41 = .ok (.iadd, 1) := by decide +kernel
theorem dX5_crossingsOf_42 : decode cX5_crossingsOf 42 = .ok (.iconst 1, 1) := by decide +kernel
theorem dX5_crossingsOf_43 : decode cX5_crossingsOf 43 = .ok (.isub, 1) := by decide +kernel
theorem dX5_crossingsOf_44 : decode cX5_crossingsOf 44 = .ok (.invokevirtual 47, 3) := by decide +kernel
theorem dX5_crossingsOf_47 : decode cX5_crossingsOf 47 = .ok (.if_icmp .eq 6, 3) := by decide +kernel
theorem dX5_crossingsOf_50 : decode cX5_crossingsOf 50 = .ok (.iinc 2 1, 3) := by decide +kernel
theorem dX5_crossingsOf_53 : decode cX5_crossingsOf 53 = .ok (.iinc 3 1, 3) := by decide +kernel
theorem dX5_crossingsOf_56 : decode cX5_crossingsOf 56 = .ok (.goto (-52), 3) := by decide +kernel
theorem dX5_crossingsOf_59 : decode cX5_crossingsOf 59 = .ok (.iload_n 2, 1) := by decide +kernel
theorem dX5_crossingsOf_60 : decode cX5_crossingsOf 60 = .ok (.ireturn, 1) := by decide +kernel
theorem dX5_hitAt_0 : decode cX5_hitAt 0 = .ok (.iconst 0, 1) := by decide +kernel
theorem dX5_hitAt_1 : decode cX5_hitAt 1 = .ok (.istore_n 3, 1) := by decide +kernel
theorem dX5_hitAt_2 : decode cX5_hitAt 2 = .ok (.iconst 0, 1) := by decide +kernel
theorem dX5_hitAt_3 : decode cX5_hitAt 3 = .ok (.istore 4, 2) := by decide +kernel
theorem dX5_hitAt_5 : decode cX5_hitAt 5 = .ok (.iload 4, 2) := by decide +kernel
theorem dX5_hitAt_7 : decode cX5_hitAt 7 = .ok (.aload_n 0, 1) := by decide +kernel
theorem dX5_hitAt_8 : decode cX5_hitAt 8 = .ok (.getfield 14, 3) := by decide +kernel
theorem dX5_hitAt_11 : decode cX5_hitAt 11 = .ok (.invokevirtual 43, 3) := by decide +kernel
theorem dX5_hitAt_14 : decode cX5_hitAt 14 = .ok (.if_icmp .ge 30, 3) := by decide +kernel
theorem dX5_hitAt_17 : decode cX5_hitAt 17 = .ok (.aload_n 0, 1) := by decide +kernel
theorem dX5_hitAt_18 : decode cX5_hitAt 18 = .ok (.aload_n 1, 1) := by decide +kernel
theorem dX5_hitAt_19 : decode cX5_hitAt 19 = .ok (.iload 4, 2) := by decide +kernel
theorem dX5_hitAt_21 : decode cX5_hitAt 21 = .ok (.invokevirtual 75, 3) := by decide +kernel
theorem dX5_hitAt_24 : decode cX5_hitAt 24 = .ok (.ifCond .eq 14, 3) := by decide +kernel
theorem dX5_hitAt_27 : decode cX5_hitAt 27 = .ok (.iload_n 3, 1) := by decide +kernel
theorem dX5_hitAt_28 : decode cX5_hitAt 28 = .ok (.iload_n 2, 1) := by decide +kernel
theorem dX5_hitAt_29 : decode cX5_hitAt 29 = .ok (.if_icmp .ne 6, 3) := by decide +kernel
theorem dX5_hitAt_32 : decode cX5_hitAt 32 = .ok (.iload 4, 2) := by decide +kernel
theorem dX5_hitAt_34 : decode cX5_hitAt 34 = .ok (.ireturn, 1) := by decide +kernel
theorem dX5_hitAt_35 : decode cX5_hitAt 35 = .ok (.iinc 3 1, 3) := by decide +kernel
theorem dX5_hitAt_38 : decode cX5_hitAt 38 = .ok (.iinc 4 1, 3) := by decide +kernel
theorem dX5_hitAt_41 : decode cX5_hitAt 41 = .ok (.goto (-36), 3) := by decide +kernel
theorem dX5_hitAt_44 : decode cX5_hitAt 44 = .ok (.iconst (-1), 1) := by decide +kernel
theorem dX5_hitAt_45 : decode cX5_hitAt 45 = .ok (.ireturn, 1) := by decide +kernel
theorem dX5_isHit_0 : decode cX5_isHit 0 = .ok (.aload_n 1, 1) := by decide +kernel
theorem dX5_isHit_1 : decode cX5_isHit 1 = .ok (.invokevirtual 43, 3) := by decide +kernel
theorem dX5_isHit_4 : decode cX5_isHit 4 = .ok (.ifCond .eq 19, 3) := by decide +kernel
theorem dX5_isHit_7 : decode cX5_isHit 7 = .ok (.aload_n 1, 1) := by decide +kernel
theorem dX5_isHit_8 : decode cX5_isHit 8 = .ok (.invokevirtual 43, 3) := by decide +kernel
theorem dX5_isHit_11 : decode cX5_isHit 11 = .ok (.aload_n 0, 1) := by decide +kernel
theorem dX5_isHit_12 : decode cX5_isHit 12 = .ok (.getfield 14, 3) := by decide +kernel
theorem dX5_isHit_15 : decode cX5_isHit 15 = .ok (.invokevirtual 43, 3) := by decide +kernel
theorem dX5_isHit_18 : decode cX5_isHit 18 = .ok (.iload_n 2, 1) := by decide +kernel
theorem dX5_isHit_19 : decode cX5_isHit 19 = .ok (.isub, 1) := by decide +kernel
theorem dX5_isHit_20 : decode cX5_isHit 20 = .ok (.if_icmp .le 5, 3) := by decide +kernel
theorem dX5_isHit_23 : decode cX5_isHit 23 = .ok (.iconst 0, 1) := by decide +kernel
theorem dX5_isHit_24 : decode cX5_isHit 24 = .ok (.ireturn, 1) := by decide +kernel
theorem dX5_isHit_25 : decode cX5_isHit 25 = .ok (.iconst 0, 1) := by decide +kernel
theorem dX5_isHit_26 : decode cX5_isHit 26 = .ok (.istore_n 3, 1) := by decide +kernel
theorem dX5_isHit_27 : decode cX5_isHit 27 = .ok (.iload_n 3, 1) := by decide +kernel
theorem dX5_isHit_28 : decode cX5_isHit 28 = .ok (.aload_n 1, 1) := by decide +kernel
theorem dX5_isHit_29 : decode cX5_isHit 29 = .ok (.invokevirtual 43, 3) := by decide +kernel
theorem dX5_isHit_32 : decode cX5_isHit 32 = .ok (.if_icmp .ge 29, 3) := by decide +kernel
theorem dX5_isHit_35 : decode cX5_isHit 35 = .ok (.aload_n 0, 1) := by decide +kernel
theorem dX5_isHit_36 : decode cX5_isHit 36 = .ok (.getfield 14, 3) := by decide +kernel
theorem dX5_isHit_39 : decode cX5_isHit 39 = .ok (.iload_n 2, 1) := by decide +kernel
theorem dX5_isHit_40 : decode cX5_isHit 40 = .ok (.iload_n 3, 1) := by decide +kernel
theorem dX5_isHit_41 : decode cX5_isHit 41 = .ok (.iadd, 1) := by decide +kernel
theorem dX5_isHit_42 : decode cX5_isHit 42 = .ok (.invokevirtual 47, 3) := by decide +kernel
theorem dX5_isHit_45 : decode cX5_isHit 45 = .ok (.aload_n 1, 1) := by decide +kernel
theorem dX5_isHit_46 : decode cX5_isHit 46 = .ok (.iload_n 3, 1) := by decide +kernel
theorem dX5_isHit_47 : decode cX5_isHit 47 = .ok (.invokevirtual 47, 3) := by decide +kernel
theorem dX5_isHit_50 : decode cX5_isHit 50 = .ok (.if_icmp .eq 5, 3) := by decide +kernel
theorem dX5_isHit_53 : decode cX5_isHit 53 = .ok (.iconst 0, 1) := by decide +kernel
theorem dX5_isHit_54 : decode cX5_isHit 54 = .ok (.ireturn, 1) := by decide +kernel
theorem dX5_isHit_55 : decode cX5_isHit 55 = .ok (.iinc 3 1, 3) := by decide +kernel
theorem dX5_isHit_58 : decode cX5_isHit 58 = .ok (.goto (-31), 3) := by decide +kernel
theorem dX5_isHit_61 : decode cX5_isHit 61 = .ok (.iconst 1, 1) := by decide +kernel
theorem dX5_isHit_62 : decode cX5_isHit 62 = .ok (.ireturn, 1) := by decide +kernel
theorem dX6_init_0 : decode cX6_init 0 = .ok (.aload_n 0, 1) := by decide +kernel
theorem dX6_init_1 : decode cX6_init 1 = .ok (.invokespecial 3, 3) := by decide +kernel
theorem dX6_init_4 : decode cX6_init 4 = .ok (.aload_n 0, 1) := by decide +kernel
theorem dX6_init_5 : decode cX6_init 5 = .ok (.iconst 0, 1) := by decide +kernel
theorem dX6_init_6 : decode cX6_init 6 = .ok (.putfield 9, 3) := by decide +kernel
theorem dX6_init_9 : decode cX6_init 9 = .ok (.aload_n 0, 1) := by decide +kernel
theorem dX6_init_10 : decode cX6_init 10 = .ok (.iload_n 1, 1) := by decide +kernel
theorem dX6_init_11 : decode cX6_init 11 = .ok (.ifCond .ge 7, 3) := by decide +kernel
theorem dX6_init_14 : decode cX6_init 14 = .ok (.iconst 0, 1) := by decide +kernel
theorem dX6_init_15 : decode cX6_init 15 = .ok (.goto 4, 3) := by decide +kernel
theorem dX6_init_18 : decode cX6_init 18 = .ok (.iload_n 1, 1) := by decide +kernel
theorem dX6_init_19 : decode cX6_init 19 = .ok (.newarray .int, 2) := by decide +kernel
theorem dX6_init_21 : decode cX6_init 21 = .ok (.putfield 15, 3) := by decide +kernel
theorem dX6_init_24 : decode cX6_init 24 = .ok (.return_, 1) := by decide +kernel
theorem dX6_size_0 : decode cX6_size 0 = .ok (.aload_n 0, 1) := by decide +kernel
theorem dX6_size_1 : decode cX6_size 1 = .ok (.getfield 9, 3) := by decide +kernel
theorem dX6_size_4 : decode cX6_size 4 = .ok (.ireturn, 1) := by decide +kernel
theorem dX6_get_0 : decode cX6_get 0 = .ok (.iload_n 1, 1) := by decide +kernel
theorem dX6_get_1 : decode cX6_get 1 = .ok (.ifCond .lt 20, 3) := by decide +kernel
theorem dX6_get_4 : decode cX6_get 4 = .ok (.iload_n 1, 1) := by decide +kernel
theorem dX6_get_5 : decode cX6_get 5 = .ok (.aload_n 0, 1) := by decide +kernel
theorem dX6_get_6 : decode cX6_get 6 = .ok (.getfield 9, 3) := by decide +kernel
theorem dX6_get_9 : decode cX6_get 9 = .ok (.if_icmp .ge 12, 3) := by decide +kernel
theorem dX6_get_12 : decode cX6_get 12 = .ok (.aload_n 0, 1) := by decide +kernel
theorem dX6_get_13 : decode cX6_get 13 = .ok (.getfield 15, 3) := by decide +kernel
theorem dX6_get_16 : decode cX6_get 16 = .ok (.iload_n 1, 1) := by decide +kernel
theorem dX6_get_17 : decode cX6_get 17 = .ok (.iaload, 1) := by decide +kernel
theorem dX6_get_18 : decode cX6_get 18 = .ok (.goto 4, 3) := by decide +kernel
theorem dX6_get_21 : decode cX6_get 21 = .ok (.iconst (-1), 1) := by decide +kernel
theorem dX6_get_22 : decode cX6_get 22 = .ok (.ireturn, 1) := by decide +kernel
theorem dX6_set_0 : decode cX6_set 0 = .ok (.iload_n 1, 1) := by decide +kernel
theorem dX6_set_1 : decode cX6_set 1 = .ok (.ifCond .lt 18, 3) := by decide +kernel
theorem dX6_set_4 : decode cX6_set 4 = .ok (.iload_n 1, 1) := by decide +kernel
theorem dX6_set_5 : decode cX6_set 5 = .ok (.aload_n 0, 1) := by decide +kernel
theorem dX6_set_6 : decode cX6_set 6 = .ok (.getfield 9, 3) := by decide +kernel
theorem dX6_set_9 : decode cX6_set 9 = .ok (.if_icmp .ge 10, 3) := by decide +kernel
theorem dX6_set_12 : decode cX6_set 12 = .ok (.aload_n 0, 1) := by decide +kernel
theorem dX6_set_13 : decode cX6_set 13 = .ok (.getfield 15, 3) := by decide +kernel
theorem dX6_set_16 : decode cX6_set 16 = .ok (.iload_n 1, 1) := by decide +kernel
theorem dX6_set_17 : decode cX6_set 17 = .ok (.iload_n 2, 1) := by decide +kernel
theorem dX6_set_18 : decode cX6_set 18 = .ok (.iastore, 1) := by decide +kernel
theorem dX6_set_19 : decode cX6_set 19 = .ok (.return_, 1) := by decide +kernel
theorem dX6_clear_0 : decode cX6_clear 0 = .ok (.aload_n 0, 1) := by decide +kernel
theorem dX6_clear_1 : decode cX6_clear 1 = .ok (.iconst 0, 1) := by decide +kernel
theorem dX6_clear_2 : decode cX6_clear 2 = .ok (.putfield 9, 3) := by decide +kernel
theorem dX6_clear_5 : decode cX6_clear 5 = .ok (.return_, 1) := by decide +kernel
theorem dX6_add_0 : decode cX6_add 0 = .ok (.aload_n 0, 1) := by decide +kernel
theorem dX6_add_1 : decode cX6_add 1 = .ok (.getfield 9, 3) := by decide +kernel
theorem dX6_add_4 : decode cX6_add 4 = .ok (.aload_n 0, 1) := by decide +kernel
theorem dX6_add_5 : decode cX6_add 5 = .ok (.getfield 15, 3) := by decide +kernel
theorem dX6_add_8 : decode cX6_add 8 = .ok (.arraylength, 1) := by decide +kernel
theorem dX6_add_9 : decode cX6_add 9 = .ok (.if_icmp .ge 23, 3) := by decide +kernel
theorem dX6_add_12 : decode cX6_add 12 = .ok (.aload_n 0, 1) := by decide +kernel
theorem dX6_add_13 : decode cX6_add 13 = .ok (.getfield 15, 3) := by decide +kernel
theorem dX6_add_16 : decode cX6_add 16 = .ok (.aload_n 0, 1) := by decide +kernel
theorem dX6_add_17 : decode cX6_add 17 = .ok (.getfield 9, 3) := by decide +kernel
theorem dX6_add_20 : decode cX6_add 20 = .ok (.iload_n 1, 1) := by decide +kernel
theorem dX6_add_21 : decode cX6_add 21 = .ok (.iastore, 1) := by decide +kernel
theorem dX6_add_22 : decode cX6_add 22 = .ok (.aload_n 0, 1) := by decide +kernel
theorem dX6_add_23 : decode cX6_add 23 = .ok (.dup, 1) := by decide +kernel
theorem dX6_add_24 : decode cX6_add 24 = .ok (.getfield 9, 3) := by decide +kernel
theorem dX6_add_27 : decode cX6_add 27 = .ok (.iconst 1, 1) := by decide +kernel
theorem dX6_add_28 : decode cX6_add 28 = .ok (.iadd, 1) := by decide +kernel
theorem dX6_add_29 : decode cX6_add 29 = .ok (.putfield 9, 3) := by decide +kernel
theorem dX6_add_32 : decode cX6_add 32 = .ok (.return_, 1) := by decide +kernel
theorem dX6_addAt_0 : decode cX6_addAt 0 = .ok (.iload_n 1, 1) := by decide +kernel
theorem dX6_addAt_1 : decode cX6_addAt 1 = .ok (.ifCond .lt 23, 3) := by decide +kernel
theorem dX6_addAt_4 : decode cX6_addAt 4 = .ok (.iload_n 1, 1) := by decide +kernel
theorem dX6_addAt_5 : decode cX6_addAt 5 = .ok (.aload_n 0, 1) := by decide +kernel
theorem dX6_addAt_6 : decode cX6_addAt 6 = .ok (.getfield 9, 3) := by decide +kernel
theorem dX6_addAt_9 : decode cX6_addAt 9 = .ok (.if_icmp .gt 15, 3) := by decide +kernel
theorem dX6_addAt_12 : decode cX6_addAt 12 = .ok (.aload_n 0, 1) := by decide +kernel
theorem dX6_addAt_13 : decode cX6_addAt 13 = .ok (.getfield 9, 3) := by decide +kernel
theorem dX6_addAt_16 : decode cX6_addAt 16 = .ok (.aload_n 0, 1) := by decide +kernel
theorem dX6_addAt_17 : decode cX6_addAt 17 = .ok (.getfield 15, 3) := by decide +kernel
theorem dX6_addAt_20 : decode cX6_addAt 20 = .ok (.arraylength, 1) := by decide +kernel
theorem dX6_addAt_21 : decode cX6_addAt 21 = .ok (.if_icmp .lt 4, 3) := by decide +kernel
theorem dX6_addAt_24 : decode cX6_addAt 24 = .ok (.return_, 1) := by decide +kernel
theorem dX6_addAt_25 : decode cX6_addAt 25 = .ok (.aload_n 0, 1) := by decide +kernel
theorem dX6_addAt_26 : decode cX6_addAt 26 = .ok (.iload_n 1, 1) := by decide +kernel
theorem dX6_addAt_27 : decode cX6_addAt 27 = .ok (.iload_n 1, 1) := by decide +kernel
theorem dX6_addAt_28 : decode cX6_addAt 28 = .ok (.iconst 1, 1) := by decide +kernel
theorem dX6_addAt_29 : decode cX6_addAt 29 = .ok (.iadd, 1) := by decide +kernel
theorem dX6_addAt_30 : decode cX6_addAt 30 = .ok (.invokevirtual 19, 3) := by decide +kernel
theorem dX6_addAt_33 : decode cX6_addAt 33 = .ok (.aload_n 0, 1) := by decide +kernel
theorem dX6_addAt_34 : decode cX6_addAt 34 = .ok (.getfield 15, 3) := by decide +kernel
theorem dX6_addAt_37 : decode cX6_addAt 37 = .ok (.iload_n 1, 1) := by decide +kernel
theorem dX6_addAt_38 : decode cX6_addAt 38 = .ok (.iload_n 2, 1) := by decide +kernel
theorem dX6_addAt_39 : decode cX6_addAt 39 = .ok (.iastore, 1) := by decide +kernel
theorem dX6_addAt_40 : decode cX6_addAt 40 = .ok (.return_, 1) := by decide +kernel
theorem dX6_removeFrom_0 : decode cX6_removeFrom 0 = .ok (.iload_n 1, 1) := by decide +kernel
theorem dX6_removeFrom_1 : decode cX6_removeFrom 1 = .ok (.ifCond .lt 25, 3) := by decide +kernel
theorem dX6_removeFrom_4 : decode cX6_removeFrom 4 = .ok (.iload_n 2, 1) := by decide +kernel
theorem dX6_removeFrom_5 : decode cX6_removeFrom 5 = .ok (.ifCond .lt 21, 3) := by decide +kernel
theorem dX6_removeFrom_8 : decode cX6_removeFrom 8 = .ok (.iload_n 2, 1) := by decide +kernel
theorem dX6_removeFrom_9 : decode cX6_removeFrom 9 = .ok (.aload_n 0, 1) := by decide +kernel
theorem dX6_removeFrom_10 : decode cX6_removeFrom 10 = .ok (.getfield 9, 3) := by decide +kernel
theorem dX6_removeFrom_13 : decode cX6_removeFrom 13 = .ok (.iload_n 1, 1) := by decide +kernel
theorem dX6_removeFrom_14 : decode cX6_removeFrom 14 = .ok (.isub, 1) := by decide +kernel
theorem dX6_removeFrom_15 : decode cX6_removeFrom 15 = .ok (.if_icmp .gt 11, 3) := by decide +kernel
theorem dX6_removeFrom_18 : decode cX6_removeFrom 18 = .ok (.aload_n 0, 1) := by decide +kernel
theorem dX6_removeFrom_19 : decode cX6_removeFrom 19 = .ok (.iload_n 1, 1) := by decide +kernel
theorem dX6_removeFrom_20 : decode cX6_removeFrom 20 = .ok (.iload_n 2, 1) := by decide +kernel
theorem dX6_removeFrom_21 : decode cX6_removeFrom 21 = .ok (.iadd, 1) := by decide +kernel
theorem dX6_removeFrom_22 : decode cX6_removeFrom 22 = .ok (.iload_n 1, 1) := by decide +kernel
theorem dX6_removeFrom_23 : decode cX6_removeFrom 23 = .ok (.invokevirtual 19, 3) := by decide +kernel
theorem dX6_removeFrom_26 : decode cX6_removeFrom 26 = .ok (.return_, 1) := by decide +kernel
theorem dX6_take_0 : decode cX6_take 0 = .ok (.aload_n 0, 1) := by decide +kernel
theorem dX6_take_1 : decode cX6_take 1 = .ok (.invokevirtual 23, 3) := by decide +kernel
theorem dX6_take_4 : decode cX6_take 4 = .ok (.iconst 0, 1) := by decide +kernel
theorem dX6_take_5 : decode cX6_take 5 = .ok (.istore_n 2, 1) := by decide +kernel
theorem dX6_take_6 : decode cX6_take 6 = .ok (.iload_n 2, 1) := by decide +kernel
theorem dX6_take_7 : decode cX6_take 7 = .ok (.aload_n 1, 1) := by decide +kernel
theorem dX6_take_8 : decode cX6_take 8 = .ok (.getfield 9, 3) := by decide +kernel
theorem dX6_take_11 : decode cX6_take 11 = .ok (.if_icmp .ge 19, 3) := by decide +kernel
theorem dX6_take_14 : decode cX6_take 14 = .ok (.aload_n 0, 1) := by decide +kernel
theorem dX6_take_15 : decode cX6_take 15 = .ok (.aload_n 1, 1) := by decide +kernel
theorem dX6_take_16 : decode cX6_take 16 = .ok (.getfield 15, 3) := by decide +kernel
theorem dX6_take_19 : decode cX6_take 19 = .ok (.iload_n 2, 1) := by decide +kernel
theorem dX6_take_20 : decode cX6_take 20 = .ok (.iaload, 1) := by decide +kernel
theorem dX6_take_21 : decode cX6_take 21 = .ok (.invokevirtual 26, 3) := by decide +kernel
theorem dX6_take_24 : decode cX6_take 24 = .ok (.iinc 2 1, 3) := by decide +kernel
theorem dX6_take_27 : decode cX6_take 27 = .ok (.goto (-21), 3) := by decide +kernel
theorem dX6_take_30 : decode cX6_take 30 = .ok (.return_, 1) := by decide +kernel
theorem dX6_howMany_0 : decode cX6_howMany 0 = .ok (.iconst 0, 1) := by decide +kernel
theorem dX6_howMany_1 : decode cX6_howMany 1 = .ok (.istore_n 2, 1) := by decide +kernel
theorem dX6_howMany_2 : decode cX6_howMany 2 = .ok (.iconst 0, 1) := by decide +kernel
theorem dX6_howMany_3 : decode cX6_howMany 3 = .ok (.istore_n 3, 1) := by decide +kernel
theorem dX6_howMany_4 : decode cX6_howMany 4 = .ok (.iload_n 3, 1) := by decide +kernel
theorem dX6_howMany_5 : decode cX6_howMany 5 = .ok (.aload_n 0, 1) := by decide +kernel
theorem dX6_howMany_6 : decode cX6_howMany 6 = .ok (.getfield 9, 3) := by decide +kernel
theorem dX6_howMany_9 : decode cX6_howMany 9 = .ok (.if_icmp .ge 22, 3) := by decide +kernel
theorem dX6_howMany_12 : decode cX6_howMany 12 = .ok (.aload_n 0, 1) := by decide +kernel
theorem dX6_howMany_13 : decode cX6_howMany 13 = .ok (.getfield 15, 3) := by decide +kernel
theorem dX6_howMany_16 : decode cX6_howMany 16 = .ok (.iload_n 3, 1) := by decide +kernel
theorem dX6_howMany_17 : decode cX6_howMany 17 = .ok (.iaload, 1) := by decide +kernel
theorem dX6_howMany_18 : decode cX6_howMany 18 = .ok (.iload_n 1, 1) := by decide +kernel
theorem dX6_howMany_19 : decode cX6_howMany 19 = .ok (.if_icmp .ne 6, 3) := by decide +kernel
theorem dX6_howMany_22 : decode cX6_howMany 22 = .ok (.iinc 2 1, 3) := by decide +kernel
theorem dX6_howMany_25 : decode cX6_howMany 25 = .ok (.iinc 3 1, 3) := by decide +kernel
theorem dX6_howMany_28 : decode cX6_howMany 28 = .ok (.goto (-24), 3) := by decide +kernel
theorem dX6_howMany_31 : decode cX6_howMany 31 = .ok (.iload_n 2, 1) := by decide +kernel
theorem dX6_howMany_32 : decode cX6_howMany 32 = .ok (.ireturn, 1) := by decide +kernel
theorem dX6_isPair_0 : decode cX6_isPair 0 = .ok (.aload_n 0, 1) := by decide +kernel
theorem dX6_isPair_1 : decode cX6_isPair 1 = .ok (.getfield 9, 3) := by decide +kernel
theorem dX6_isPair_4 : decode cX6_isPair 4 = .ok (.iconst 2, 1) := by decide +kernel
theorem dX6_isPair_5 : decode cX6_isPair 5 = .ok (.if_icmp .ne 27, 3) := by decide +kernel
theorem dX6_isPair_8 : decode cX6_isPair 8 = .ok (.aload_n 0, 1) := by decide +kernel
theorem dX6_isPair_9 : decode cX6_isPair 9 = .ok (.getfield 15, 3) := by decide +kernel
theorem dX6_isPair_12 : decode cX6_isPair 12 = .ok (.iconst 0, 1) := by decide +kernel
theorem dX6_isPair_13 : decode cX6_isPair 13 = .ok (.iaload, 1) := by decide +kernel
theorem dX6_isPair_14 : decode cX6_isPair 14 = .ok (.iload_n 1, 1) := by decide +kernel
theorem dX6_isPair_15 : decode cX6_isPair 15 = .ok (.if_icmp .ne 17, 3) := by decide +kernel
theorem dX6_isPair_18 : decode cX6_isPair 18 = .ok (.aload_n 0, 1) := by decide +kernel
theorem dX6_isPair_19 : decode cX6_isPair 19 = .ok (.getfield 15, 3) := by decide +kernel
theorem dX6_isPair_22 : decode cX6_isPair 22 = .ok (.iconst 1, 1) := by decide +kernel
theorem dX6_isPair_23 : decode cX6_isPair 23 = .ok (.iaload, 1) := by decide +kernel
theorem dX6_isPair_24 : decode cX6_isPair 24 = .ok (.iload_n 2, 1) := by decide +kernel
theorem dX6_isPair_25 : decode cX6_isPair 25 = .ok (.if_icmp .ne 7, 3) := by decide +kernel
theorem dX6_isPair_28 : decode cX6_isPair 28 = .ok (.iconst 1, 1) := by decide +kernel
theorem dX6_isPair_29 : decode cX6_isPair 29 = .ok (.goto 4, 3) := by decide +kernel
theorem dX6_isPair_32 : decode cX6_isPair 32 = .ok (.iconst 0, 1) := by decide +kernel
theorem dX6_isPair_33 : decode cX6_isPair 33 = .ok (.ireturn, 1) := by decide +kernel
theorem dX6_joinPairs_0 : decode cX6_joinPairs 0 = .ok (.iconst 0, 1) := by decide +kernel
theorem dX6_joinPairs_1 : decode cX6_joinPairs 1 = .ok (.istore 4, 2) := by decide +kernel
theorem dX6_joinPairs_3 : decode cX6_joinPairs 3 = .ok (.iconst 0, 1) := by decide +kernel
theorem dX6_joinPairs_4 : decode cX6_joinPairs 4 = .ok (.istore 5, 2) := by decide +kernel
theorem dX6_joinPairs_6 : decode cX6_joinPairs 6 = .ok (.iload 5, 2) := by decide +kernel
theorem dX6_joinPairs_8 : decode cX6_joinPairs 8 = .ok (.aload_n 0, 1) := by decide +kernel
theorem dX6_joinPairs_9 : decode cX6_joinPairs 9 = .ok (.getfield 9, 3) := by decide +kernel
theorem dX6_joinPairs_12 : decode cX6_joinPairs 12 = .ok (.if_icmp .ge 89, 3) := by decide +kernel
theorem dX6_joinPairs_15 : decode cX6_joinPairs 15 = .ok (.iload 5, 2) := by decide +kernel
theorem dX6_joinPairs_17 : decode cX6_joinPairs 17 = .ok (.iconst 1, 1) := by decide +kernel
theorem dX6_joinPairs_18 : decode cX6_joinPairs 18 = .ok (.iadd, 1) := by decide +kernel
theorem dX6_joinPairs_19 : decode cX6_joinPairs 19 = .ok (.aload_n 0, 1) := by decide +kernel
theorem dX6_joinPairs_20 : decode cX6_joinPairs 20 = .ok (.getfield 9, 3) := by decide +kernel
theorem dX6_joinPairs_23 : decode cX6_joinPairs 23 = .ok (.if_icmp .ge 31, 3) := by decide +kernel
theorem dX6_joinPairs_26 : decode cX6_joinPairs 26 = .ok (.aload_n 0, 1) := by decide +kernel
theorem dX6_joinPairs_27 : decode cX6_joinPairs 27 = .ok (.getfield 15, 3) := by decide +kernel
theorem dX6_joinPairs_30 : decode cX6_joinPairs 30 = .ok (.iload 5, 2) := by decide +kernel
theorem dX6_joinPairs_32 : decode cX6_joinPairs 32 = .ok (.iaload, 1) := by decide +kernel
theorem dX6_joinPairs_33 : decode cX6_joinPairs 33 = .ok (.iload_n 1, 1) := by decide +kernel
theorem dX6_joinPairs_34 : decode cX6_joinPairs 34 = .ok (.if_icmp .ne 20, 3) := by decide +kernel
theorem dX6_joinPairs_37 : decode cX6_joinPairs 37 = .ok (.aload_n 0, 1) := by decide +kernel
theorem dX6_joinPairs_38 : decode cX6_joinPairs 38 = .ok (.getfield 15, 3) := by decide +kernel
theorem dX6_joinPairs_41 : decode cX6_joinPairs 41 = .ok (.iload 5, 2) := by decide +kernel
theorem dX6_joinPairs_43 : decode cX6_joinPairs 43 = .ok (.iconst 1, 1) := by decide +kernel
theorem dX6_joinPairs_44 : decode cX6_joinPairs 44 = .ok (.iadd, 1) := by decide +kernel
theorem dX6_joinPairs_45 : decode cX6_joinPairs 45 = .ok (.iaload, 1) := by decide +kernel
theorem dX6_joinPairs_46 : decode cX6_joinPairs 46 = .ok (.iload_n 2, 1) := by decide +kernel
theorem dX6_joinPairs_47 : decode cX6_joinPairs 47 = .ok (.if_icmp .ne 7, 3) := by decide +kernel
theorem dX6_joinPairs_50 : decode cX6_joinPairs 50 = .ok (.iconst 1, 1) := by decide +kernel
theorem dX6_joinPairs_51 : decode cX6_joinPairs 51 = .ok (.goto 4, 3) := by decide +kernel
theorem dX6_joinPairs_54 : decode cX6_joinPairs 54 = .ok (.iconst 0, 1) := by decide +kernel
theorem dX6_joinPairs_55 : decode cX6_joinPairs 55 = .ok (.istore 6, 2) := by decide +kernel
theorem dX6_joinPairs_57 : decode cX6_joinPairs 57 = .ok (.aload_n 0, 1) := by decide +kernel
theorem dX6_joinPairs_58 : decode cX6_joinPairs 58 = .ok (.getfield 15, 3) := by decide +kernel
theorem dX6_joinPairs_61 : decode cX6_joinPairs 61 = .ok (.iload 4, 2) := by decide +kernel
theorem dX6_joinPairs_63 : decode cX6_joinPairs 63 = .ok (.iload 6, 2) := by decide +kernel
theorem dX6_joinPairs_65 : decode cX6_joinPairs 65 = .ok (.ifCond .eq 7, 3) := by decide +kernel
theorem dX6_joinPairs_68 : decode cX6_joinPairs 68 = .ok (.iload_n 3, 1) := by decide +kernel
theorem dX6_joinPairs_69 : decode cX6_joinPairs 69 = .ok (.goto 10, 3) := by decide +kernel
theorem dX6_joinPairs_72 : decode cX6_joinPairs 72 = .ok (.aload_n 0, 1) := by decide +kernel
theorem dX6_joinPairs_73 : decode cX6_joinPairs 73 = .ok (.getfield 15, 3) := by decide +kernel
theorem dX6_joinPairs_76 : decode cX6_joinPairs 76 = .ok (.iload 5, 2) := by decide +kernel
theorem dX6_joinPairs_78 : decode cX6_joinPairs 78 = .ok (.iaload, 1) := by decide +kernel
theorem dX6_joinPairs_79 : decode cX6_joinPairs 79 = .ok (.iastore, 1) := by decide +kernel
theorem dX6_joinPairs_80 : decode cX6_joinPairs 80 = .ok (.iinc 4 1, 3) := by decide +kernel
theorem dX6_joinPairs_83 : decode cX6_joinPairs 83 = .ok (.iload 5, 2) := by decide +kernel
theorem dX6_joinPairs_85 : decode cX6_joinPairs 85 = .ok (.iload 6, 2) := by decide +kernel
theorem dX6_joinPairs_87 : decode cX6_joinPairs 87 = .ok (.ifCond .eq 7, 3) := by decide +kernel
theorem dX6_joinPairs_90 : decode cX6_joinPairs 90 = .ok (.iconst 2, 1) := by decide +kernel
theorem dX6_joinPairs_91 : decode cX6_joinPairs 91 = .ok (.goto 4, 3) := by decide +kernel
theorem dX6_joinPairs_94 : decode cX6_joinPairs 94 = .ok (.iconst 1, 1) := by decide +kernel
theorem dX6_joinPairs_95 : decode cX6_joinPairs 95 = .ok (.iadd, 1) := by decide +kernel
theorem dX6_joinPairs_96 : decode cX6_joinPairs 96 = .ok (.istore 5, 2) := by decide +kernel
theorem dX6_joinPairs_98 : decode cX6_joinPairs 98 = .ok (.goto (-92), 3) := by decide +kernel
theorem dX6_joinPairs_101 : decode cX6_joinPairs 101 = .ok (.aload_n 0, 1) := by decide +kernel
theorem dX6_joinPairs_102 : decode cX6_joinPairs 102 = .ok (.iload 4, 2) := by decide +kernel
theorem dX6_joinPairs_104 : decode cX6_joinPairs 104 = .ok (.putfield 9, 3) := by decide +kernel
theorem dX6_joinPairs_107 : decode cX6_joinPairs 107 = .ok (.return_, 1) := by decide +kernel
theorem dX6_spreadAll_0 : decode cX6_spreadAll 0 = .ok (.aload_n 0, 1) := by decide +kernel
theorem dX6_spreadAll_1 : decode cX6_spreadAll 1 = .ok (.getfield 9, 3) := by decide +kernel
theorem dX6_spreadAll_4 : decode cX6_spreadAll 4 = .ok (.iconst 1, 1) := by decide +kernel
theorem dX6_spreadAll_5 : decode cX6_spreadAll 5 = .ok (.isub, 1) := by decide +kernel
theorem dX6_spreadAll_6 : decode cX6_spreadAll 6 = .ok (.istore_n 3, 1) := by decide +kernel
theorem dX6_spreadAll_7 : decode cX6_spreadAll 7 = .ok (.iload_n 3, 1) := by decide +kernel
theorem dX6_spreadAll_8 : decode cX6_spreadAll 8 = .ok (.ifCond .lt 25, 3) := by decide +kernel
theorem dX6_spreadAll_11 : decode cX6_spreadAll 11 = .ok (.aload_n 0, 1) := by decide +kernel
theorem dX6_spreadAll_12 : decode cX6_spreadAll 12 = .ok (.getfield 15, 3) := by decide +kernel
theorem dX6_spreadAll_15 : decode cX6_spreadAll 15 = .ok (.iload_n 3, 1) := by decide +kernel
theorem dX6_spreadAll_16 : decode cX6_spreadAll 16 = .ok (.iaload, 1) := by decide +kernel
theorem dX6_spreadAll_17 : decode cX6_spreadAll 17 = .ok (.iload_n 1, 1) := by decide +kernel
theorem dX6_spreadAll_18 : decode cX6_spreadAll 18 = .ok (.if_icmp .ne 9, 3) := by decide +kernel
theorem dX6_spreadAll_21 : decode cX6_spreadAll 21 = .ok (.aload_n 0, 1) := by decide +kernel
theorem dX6_spreadAll_22 : decode cX6_spreadAll 22 = .ok (.iload_n 3, 1) := by decide +kernel
theorem dX6_spreadAll_23 : decode cX6_spreadAll 23 = .ok (.aload_n 2, 1) := by decide +kernel
theorem dX6_spreadAll_24 : decode cX6_spreadAll 24 = .ok (.invokevirtual 30, 3) := by decide +kernel
theorem dX6_spreadAll_27 : decode cX6_spreadAll 27 = .ok (.iinc 3 (-1), 3) := by decide +kernel
theorem dX6_spreadAll_30 : decode cX6_spreadAll 30 = .ok (.goto (-23), 3) := by decide +kernel
theorem dX6_spreadAll_33 : decode cX6_spreadAll 33 = .ok (.return_, 1) := by decide +kernel
theorem dX6_spreadAt_0 : decode cX6_spreadAt 0 = .ok (.iload_n 1, 1) := by decide +kernel
theorem dX6_spreadAt_1 : decode cX6_spreadAt 1 = .ok (.ifCond .lt 30, 3) := by decide +kernel
theorem dX6_spreadAt_4 : decode cX6_spreadAt 4 = .ok (.iload_n 1, 1) := by decide +kernel
theorem dX6_spreadAt_5 : decode cX6_spreadAt 5 = .ok (.aload_n 0, 1) := by decide +kernel
theorem dX6_spreadAt_6 : decode cX6_spreadAt 6 = .ok (.getfield 9, 3) := by decide +kernel
theorem dX6_spreadAt_9 : decode cX6_spreadAt 9 = .ok (.if_icmp .ge 22, 3) := by decide +kernel
theorem dX6_spreadAt_12 : decode cX6_spreadAt 12 = .ok (.aload_n 2, 1) := by decide +kernel
theorem dX6_spreadAt_13 : decode cX6_spreadAt 13 = .ok (.getfield 9, 3) := by decide +kernel
theorem dX6_spreadAt_16 : decode cX6_spreadAt 16 = .ok (.aload_n 0, 1) := by decide +kernel
theorem dX6_spreadAt_17 : decode cX6_spreadAt 17 = .ok (.getfield 15, 3) := by decide +kernel
theorem dX6_spreadAt_20 : decode cX6_spreadAt 20 = .ok (.arraylength, 1) := by decide +kernel
theorem dX6_spreadAt_21 : decode cX6_spreadAt 21 = .ok (.aload_n 0, 1) := by decide +kernel
theorem dX6_spreadAt_22 : decode cX6_spreadAt 22 = .ok (.getfield 9, 3) := by decide +kernel
theorem dX6_spreadAt_25 : decode cX6_spreadAt 25 = .ok (.isub, 1) := by decide +kernel
theorem dX6_spreadAt_26 : decode cX6_spreadAt 26 = .ok (.iconst 1, 1) := by decide +kernel
theorem dX6_spreadAt_27 : decode cX6_spreadAt 27 = .ok (.iadd, 1) := by decide +kernel
theorem dX6_spreadAt_28 : decode cX6_spreadAt 28 = .ok (.if_icmp .le 4, 3) := by decide +kernel
theorem dX6_spreadAt_31 : decode cX6_spreadAt 31 = .ok (.return_, 1) := by decide +kernel
theorem dX6_spreadAt_32 : decode cX6_spreadAt 32 = .ok (.aload_n 0, 1) := by decide +kernel
theorem dX6_spreadAt_33 : decode cX6_spreadAt 33 = .ok (.iload_n 1, 1) := by decide +kernel
theorem dX6_spreadAt_34 : decode cX6_spreadAt 34 = .ok (.iconst 1, 1) := by decide +kernel
theorem dX6_spreadAt_35 : decode cX6_spreadAt 35 = .ok (.iadd, 1) := by decide +kernel
theorem dX6_spreadAt_36 : decode cX6_spreadAt 36 = .ok (.iload_n 1, 1) := by decide +kernel
theorem dX6_spreadAt_37 : decode cX6_spreadAt 37 = .ok (.aload_n 2, 1) := by decide +kernel
theorem dX6_spreadAt_38 : decode cX6_spreadAt 38 = .ok (.getfield 9, 3) := by decide +kernel
theorem dX6_spreadAt_41 : decode cX6_spreadAt 41 = .ok (.iadd, 1) := by decide +kernel
theorem dX6_spreadAt_42 : decode cX6_spreadAt 42 = .ok (.invokevirtual 19, 3) := by decide +kernel
theorem dX6_spreadAt_45 : decode cX6_spreadAt 45 = .ok (.iconst 0, 1) := by decide +kernel
theorem dX6_spreadAt_46 : decode cX6_spreadAt 46 = .ok (.istore_n 3, 1) := by decide +kernel
theorem dX6_spreadAt_47 : decode cX6_spreadAt 47 = .ok (.iload_n 3, 1) := by decide +kernel
theorem dX6_spreadAt_48 : decode cX6_spreadAt 48 = .ok (.aload_n 2, 1) := by decide +kernel
theorem dX6_spreadAt_49 : decode cX6_spreadAt 49 = .ok (.getfield 9, 3) := by decide +kernel
theorem dX6_spreadAt_52 : decode cX6_spreadAt 52 = .ok (.if_icmp .ge 23, 3) := by decide +kernel
theorem dX6_spreadAt_55 : decode cX6_spreadAt 55 = .ok (.aload_n 0, 1) := by decide +kernel
theorem dX6_spreadAt_56 : decode cX6_spreadAt 56 = .ok (.getfield 15, 3) := by decide +kernel
theorem dX6_spreadAt_59 : decode cX6_spreadAt 59 = .ok (.iload_n 1, 1) := by decide +kernel
theorem dX6_spreadAt_60 : decode cX6_spreadAt 60 = .ok (.iload_n 3, 1) := by decide +kernel
theorem dX6_spreadAt_61 : decode cX6_spreadAt 61 = .ok (.iadd, 1) := by decide +kernel
theorem dX6_spreadAt_62 : decode cX6_spreadAt 62 = .ok (.aload_n 2, 1) := by decide +kernel
theorem dX6_spreadAt_63 : decode cX6_spreadAt 63 = .ok (.getfield 15, 3) := by decide +kernel
theorem dX6_spreadAt_66 : decode cX6_spreadAt 66 = .ok (.iload_n 3, 1) := by decide +kernel
theorem dX6_spreadAt_67 : decode cX6_spreadAt 67 = .ok (.iaload, 1) := by decide +kernel
theorem dX6_spreadAt_68 : decode cX6_spreadAt 68 = .ok (.iastore, 1) := by decide +kernel
theorem dX6_spreadAt_69 : decode cX6_spreadAt 69 = .ok (.iinc 3 1, 3) := by decide +kernel
theorem dX6_spreadAt_72 : decode cX6_spreadAt 72 = .ok (.goto (-25), 3) := by decide +kernel
theorem dX6_spreadAt_75 : decode cX6_spreadAt 75 = .ok (.return_, 1) := by decide +kernel
theorem dX6_moveTail_0 : decode cX6_moveTail 0 = .ok (.iload_n 1, 1) := by decide +kernel
theorem dX6_moveTail_1 : decode cX6_moveTail 1 = .ok (.ifCond .lt 31, 3) := by decide +kernel
theorem dX6_moveTail_4 : decode cX6_moveTail 4 = .ok (.iload_n 1, 1) := by decide +kernel
theorem dX6_moveTail_5 : decode cX6_moveTail 5 = .ok (.aload_n 0, 1) := by decide +kernel
theorem dX6_moveTail_6 : decode cX6_moveTail 6 = .ok (.getfield 9, 3) := by decide +kernel
theorem dX6_moveTail_9 : decode cX6_moveTail 9 = .ok (.if_icmp .gt 23, 3) := by decide +kernel
theorem dX6_moveTail_12 : decode cX6_moveTail 12 = .ok (.iload_n 2, 1) := by decide +kernel
theorem dX6_moveTail_13 : decode cX6_moveTail 13 = .ok (.ifCond .lt 19, 3) := by decide +kernel
theorem dX6_moveTail_16 : decode cX6_moveTail 16 = .ok (.iload_n 2, 1) := by decide +kernel
theorem dX6_moveTail_17 : decode cX6_moveTail 17 = .ok (.aload_n 0, 1) := by decide +kernel
theorem dX6_moveTail_18 : decode cX6_moveTail 18 = .ok (.getfield 15, 3) := by decide +kernel
theorem dX6_moveTail_21 : decode cX6_moveTail 21 = .ok (.arraylength, 1) := by decide +kernel
theorem dX6_moveTail_22 : decode cX6_moveTail 22 = .ok (.aload_n 0, 1) := by decide +kernel
theorem dX6_moveTail_23 : decode cX6_moveTail 23 = .ok (.getfield 9, 3) := by decide +kernel
theorem dX6_moveTail_26 : decode cX6_moveTail 26 = .ok (.iload_n 1, 1) := by decide +kernel
theorem dX6_moveTail_27 : decode cX6_moveTail 27 = .ok (.isub, 1) := by decide +kernel
theorem dX6_moveTail_28 : decode cX6_moveTail 28 = .ok (.isub, 1) := by decide +kernel
theorem dX6_moveTail_29 : decode cX6_moveTail 29 = .ok (.if_icmp .le 4, 3) := by decide +kernel
theorem dX6_moveTail_32 : decode cX6_moveTail 32 = .ok (.return_, 1) := by decide +kernel
theorem dX6_moveTail_33 : decode cX6_moveTail 33 = .ok (.aload_n 0, 1) := by decide +kernel
theorem dX6_moveTail_34 : decode cX6_moveTail 34 = .ok (.getfield 15, 3) := by decide +kernel
theorem dX6_moveTail_37 : decode cX6_moveTail 37 = .ok (.iload_n 1, 1) := by decide +kernel
theorem dX6_moveTail_38 : decode cX6_moveTail 38 = .ok (.aload_n 0, 1) := by decide +kernel
theorem dX6_moveTail_39 : decode cX6_moveTail 39 = .ok (.getfield 15, 3) := by decide +kernel
theorem dX6_moveTail_42 : decode cX6_moveTail 42 = .ok (.iload_n 2, 1) := by decide +kernel
theorem dX6_moveTail_43 : decode cX6_moveTail 43 = .ok (.aload_n 0, 1) := by decide +kernel
theorem dX6_moveTail_44 : decode cX6_moveTail 44 = .ok (.getfield 9, 3) := by decide +kernel
theorem dX6_moveTail_47 : decode cX6_moveTail 47 = .ok (.iload_n 1, 1) := by decide +kernel
theorem dX6_moveTail_48 : decode cX6_moveTail 48 = .ok (.isub, 1) := by decide +kernel
theorem dX6_moveTail_49 : decode cX6_moveTail 49 = .ok (.invokestatic 34, 3) := by decide +kernel
theorem dX6_moveTail_52 : decode cX6_moveTail 52 = .ok (.aload_n 0, 1) := by decide +kernel
theorem dX6_moveTail_53 : decode cX6_moveTail 53 = .ok (.dup, 1) := by decide +kernel
theorem dX6_moveTail_54 : decode cX6_moveTail 54 = .ok (.getfield 9, 3) := by decide +kernel
theorem dX6_moveTail_57 : decode cX6_moveTail 57 = .ok (.iload_n 2, 1) := by decide +kernel
theorem dX6_moveTail_58 : decode cX6_moveTail 58 = .ok (.iload_n 1, 1) := by decide +kernel
theorem dX6_moveTail_59 : decode cX6_moveTail 59 = .ok (.isub, 1) := by decide +kernel
theorem dX6_moveTail_60 : decode cX6_moveTail 60 = .ok (.iadd, 1) := by decide +kernel
theorem dX6_moveTail_61 : decode cX6_moveTail 61 = .ok (.putfield 9, 3) := by decide +kernel
theorem dX6_moveTail_64 : decode cX6_moveTail 64 = .ok (.return_, 1) := by decide +kernel
theorem dX7_init_0 : decode cX7_init 0 = .ok (.aload_n 0, 1) := by decide +kernel
theorem dX7_init_1 : decode cX7_init 1 = .ok (.invokespecial 3, 3) := by decide +kernel
theorem dX7_init_4 : decode cX7_init 4 = .ok (.aload_n 0, 1) := by decide +kernel
theorem dX7_init_5 : decode cX7_init 5 = .ok (.new 9, 3) := by decide +kernel
theorem dX7_init_8 : decode cX7_init 8 = .ok (.dup, 1) := by decide +kernel
theorem dX7_init_9 : decode cX7_init 9 = .ok (.invokespecial 11, 3) := by decide +kernel
theorem dX7_init_12 : decode cX7_init 12 = .ok (.putfield 12, 3) := by decide +kernel
theorem dX7_init_15 : decode cX7_init 15 = .ok (.aload_n 0, 1) := by decide +kernel
theorem dX7_init_16 : decode cX7_init 16 = .ok (.new 9, 3) := by decide +kernel
theorem dX7_init_19 : decode cX7_init 19 = .ok (.dup, 1) := by decide +kernel
theorem dX7_init_20 : decode cX7_init 20 = .ok (.invokespecial 11, 3) := by decide +kernel
theorem dX7_init_23 : decode cX7_init 23 = .ok (.putfield 18, 3) := by decide +kernel
theorem dX7_init_26 : decode cX7_init 26 = .ok (.aload_n 0, 1) := by decide +kernel
theorem dX7_init_27 : decode cX7_init 27 = .ok (.sipush 7396, 3) := by decide +kernel
theorem dX7_init_30 : decode cX7_init 30 = .ok (.newarray .boolean, 2) := by decide +kernel
theorem dX7_init_32 : decode cX7_init 32 = .ok (.putfield 21, 3) := by decide +kernel
theorem dX7_init_35 : decode cX7_init 35 = .ok (.aload_n 0, 1) := by decide +kernel
theorem dX7_init_36 : decode cX7_init 36 = .ok (.new 25, 3) := by decide +kernel
theorem dX7_init_39 : decode cX7_init 39 = .ok (.dup, 1) := by decide +kernel
theorem dX7_init_40 : decode cX7_init 40 = .ok (.sipush 240, 3) := by decide +kernel
theorem dX7_init_43 : decode cX7_init 43 = .ok (.invokespecial 27, 3) := by decide +kernel
theorem dX7_init_46 : decode cX7_init 46 = .ok (.putfield 30, 3) := by decide +kernel
theorem dX7_init_49 : decode cX7_init 49 = .ok (.return_, 1) := by decide +kernel
theorem dX7_leastSize_0 : decode cX7_leastSize 0 = .ok (.aload_n 1, 1) := by decide +kernel
theorem dX7_leastSize_1 : decode cX7_leastSize 1 = .ok (.invokevirtual 34, 3) := by decide +kernel
theorem dX7_leastSize_4 : decode cX7_leastSize 4 = .ok (.istore_n 3, 1) := by decide +kernel
theorem dX7_leastSize_5 : decode cX7_leastSize 5 = .ok (.iload_n 2, 1) := by decide +kernel
theorem dX7_leastSize_6 : decode cX7_leastSize 6 = .ok (.iconst 1, 1) := by decide +kernel
theorem dX7_leastSize_7 : decode cX7_leastSize 7 = .ok (.if_icmp .ge 5, 3) := by decide +kernel
theorem dX7_leastSize_10 : decode cX7_leastSize 10 = .ok (.iload_n 3, 1) := by decide +kernel
theorem dX7_leastSize_11 : decode cX7_leastSize 11 = .ok (.ireturn, 1) := by decide +kernel
theorem dX7_leastSize_12 : decode cX7_leastSize 12 = .ok (.bipush 60, 2) := by decide +kernel
theorem dX7_leastSize_14 : decode cX7_leastSize 14 = .ok (.aload_n 1, 1) := by decide +kernel
theorem dX7_leastSize_15 : decode cX7_leastSize 15 = .ok (.invokevirtual 40, 3) := by decide +kernel
theorem dX7_leastSize_18 : decode cX7_leastSize 18 = .ok (.isub, 1) := by decide +kernel
theorem dX7_leastSize_19 : decode cX7_leastSize 19 = .ok (.istore 4, 2) := by decide +kernel
theorem dX7_leastSize_21 : decode cX7_leastSize 21 = .ok (.aload_n 0, 1) := by decide +kernel
theorem dX7_leastSize_22 : decode cX7_leastSize 22 = .ok (.aload_n 1, 1) := by decide +kernel
theorem dX7_leastSize_23 : decode cX7_leastSize 23 = .ok (.iconst 1, 1) := by decide +kernel
theorem dX7_leastSize_24 : decode cX7_leastSize 24 = .ok (.invokevirtual 43, 3) := by decide +kernel
theorem dX7_leastSize_27 : decode cX7_leastSize 27 = .ok (.aload_n 0, 1) := by decide +kernel
theorem dX7_leastSize_28 : decode cX7_leastSize 28 = .ok (.getfield 12, 3) := by decide +kernel
theorem dX7_leastSize_31 : decode cX7_leastSize 31 = .ok (.aload_n 1, 1) := by decide +kernel
theorem dX7_leastSize_32 : decode cX7_leastSize 32 = .ok (.invokevirtual 47, 3) := by decide +kernel
theorem dX7_leastSize_35 : decode cX7_leastSize 35 = .ok (.invokevirtual 51, 3) := by decide +kernel
theorem dX7_leastSize_38 : decode cX7_leastSize 38 = .ok (.iload_n 3, 1) := by decide +kernel
theorem dX7_leastSize_39 : decode cX7_leastSize 39 = .ok (.iload_n 3, 1) := by decide +kernel
theorem dX7_leastSize_40 : decode cX7_leastSize 40 = .ok (.aload_n 0, 1) := by decide +kernel
theorem dX7_leastSize_41 : decode cX7_leastSize 41 = .ok (.aload_n 0, 1) := by decide +kernel
theorem dX7_leastSize_42 : decode cX7_leastSize 42 = .ok (.getfield 12, 3) := by decide +kernel
theorem dX7_leastSize_45 : decode cX7_leastSize 45 = .ok (.iload 4, 2) := by decide +kernel
theorem dX7_leastSize_47 : decode cX7_leastSize 47 = .ok (.invokevirtual 55, 3) := by decide +kernel
theorem dX7_leastSize_50 : decode cX7_leastSize 50 = .ok (.isub, 1) := by decide +kernel
theorem dX7_leastSize_51 : decode cX7_leastSize 51 = .ok (.invokestatic 59, 3) := by decide +kernel
theorem dX7_leastSize_54 : decode cX7_leastSize 54 = .ok (.istore 5, 2) := by decide +kernel
theorem dX7_leastSize_56 : decode cX7_leastSize 56 = .ok (.iload_n 2, 1) := by decide +kernel
theorem dX7_leastSize_57 : decode cX7_leastSize 57 = .ok (.iconst 1, 1) := by decide +kernel
theorem dX7_leastSize_58 : decode cX7_leastSize 58 = .ok (.if_icmp .le 48, 3) := by decide +kernel
theorem dX7_leastSize_61 : decode cX7_leastSize 61 = .ok (.iconst 0, 1) := by decide +kernel
theorem dX7_leastSize_62 : decode cX7_leastSize 62 = .ok (.istore 6, 2) := by decide +kernel
theorem dX7_leastSize_64 : decode cX7_leastSize 64 = .ok (.iload 6, 2) := by decide +kernel
theorem dX7_leastSize_66 : decode cX7_leastSize 66 = .ok (.aload_n 0, 1) := by decide +kernel
theorem dX7_leastSize_67 : decode cX7_leastSize 67 = .ok (.getfield 12, 3) := by decide +kernel
theorem dX7_leastSize_70 : decode cX7_leastSize 70 = .ok (.invokevirtual 65, 3) := by decide +kernel
theorem dX7_leastSize_73 : decode cX7_leastSize 73 = .ok (.if_icmp .ge 33, 3) := by decide +kernel
theorem dX7_leastSize_76 : decode cX7_leastSize 76 = .ok (.iload 5, 2) := by decide +kernel
theorem dX7_leastSize_78 : decode cX7_leastSize 78 = .ok (.aload_n 0, 1) := by decide +kernel
theorem dX7_leastSize_79 : decode cX7_leastSize 79 = .ok (.aload_n 1, 1) := by decide +kernel
theorem dX7_leastSize_80 : decode cX7_leastSize 80 = .ok (.aload_n 0, 1) := by decide +kernel
theorem dX7_leastSize_81 : decode cX7_leastSize 81 = .ok (.getfield 12, 3) := by decide +kernel
theorem dX7_leastSize_84 : decode cX7_leastSize 84 = .ok (.iload 6, 2) := by decide +kernel
theorem dX7_leastSize_86 : decode cX7_leastSize 86 = .ok (.invokevirtual 68, 3) := by decide +kernel
theorem dX7_leastSize_89 : decode cX7_leastSize 89 = .ok (.iload_n 3, 1) := by decide +kernel
theorem dX7_leastSize_90 : decode cX7_leastSize 90 = .ok (.iload 4, 2) := by decide +kernel
theorem dX7_leastSize_92 : decode cX7_leastSize 92 = .ok (.invokevirtual 72, 3) := by decide +kernel
theorem dX7_leastSize_95 : decode cX7_leastSize 95 = .ok (.invokestatic 59, 3) := by decide +kernel
theorem dX7_leastSize_98 : decode cX7_leastSize 98 = .ok (.istore 5, 2) := by decide +kernel
theorem dX7_leastSize_100 : decode cX7_leastSize 100 = .ok (.iinc 6 1, 3) := by decide +kernel
theorem dX7_leastSize_103 : decode cX7_leastSize 103 = .ok (.goto (-39), 3) := by decide +kernel
theorem dX7_leastSize_106 : decode cX7_leastSize 106 = .ok (.aload_n 0, 1) := by decide +kernel
theorem dX7_leastSize_107 : decode cX7_leastSize 107 = .ok (.aload_n 1, 1) := by decide +kernel
theorem dX7_leastSize_108 : decode cX7_leastSize 108 = .ok (.iconst 0, 1) := by decide +kernel
theorem dX7_leastSize_109 : decode cX7_leastSize 109 = .ok (.invokevirtual 43, 3) := by decide +kernel
theorem dX7_leastSize_112 : decode cX7_leastSize 112 = .ok (.iload 5, 2) := by decide +kernel
theorem dX7_leastSize_114 : decode cX7_leastSize 114 = .ok (.ireturn, 1) := by decide +kernel
theorem dX7_markRules_0 : decode cX7_markRules 0 = .ok (.bipush 26, 2) := by decide +kernel
theorem dX7_markRules_2 : decode cX7_markRules 2 = .ok (.istore_n 3, 1) := by decide +kernel
theorem dX7_markRules_3 : decode cX7_markRules 3 = .ok (.iload_n 3, 1) := by decide +kernel
theorem dX7_markRules_4 : decode cX7_markRules 4 = .ok (.bipush 86, 2) := by decide +kernel
theorem dX7_markRules_6 : decode cX7_markRules 6 = .ok (.if_icmp .ge 65, 3) := by decide +kernel
theorem dX7_markRules_9 : decode cX7_markRules 9 = .ok (.aload_n 1, 1) := by decide +kernel
theorem dX7_markRules_10 : decode cX7_markRules 10 = .ok (.iload_n 3, 1) := by decide +kernel
theorem dX7_markRules_11 : decode cX7_markRules 11 = .ok (.invokevirtual 76, 3) := by decide +kernel
theorem dX7_markRules_14 : decode cX7_markRules 14 = .ok (.astore 4, 2) := by decide +kernel
theorem dX7_markRules_16 : decode cX7_markRules 16 = .ok (.aload 4, 2) := by decide +kernel
theorem dX7_markRules_18 : decode cX7_markRules 18 = .ok (.invokevirtual 80, 3) := by decide +kernel
theorem dX7_markRules_21 : decode cX7_markRules 21 = .ok (.iconst 2, 1) := by decide +kernel
theorem dX7_markRules_22 : decode cX7_markRules 22 = .ok (.if_icmp .ne 43, 3) := by decide +kernel
theorem dX7_markRules_25 : decode cX7_markRules 25 = .ok (.aload 4, 2) := by decide +kernel
theorem dX7_markRules_27 : decode cX7_markRules 27 = .ok (.iconst 0, 1) := by decide +kernel
theorem dX7_markRules_28 : decode cX7_markRules 28 = .ok (.invokevirtual 81, 3) := by decide +kernel
theorem dX7_markRules_31 : decode cX7_markRules 31 = .ok (.aload 4, 2) := by decide +kernel
theorem dX7_markRules_33 : decode cX7_markRules 33 = .ok (.iconst 1, 1) := by decide +kernel
theorem dX7_markRules_34 : decode cX7_markRules 34 = .ok (.invokevirtual 81, 3) := by decide +kernel
theorem dX7_markRules_37 : decode cX7_markRules 37 = .ok (.invokestatic 84, 3) := by decide +kernel
theorem dX7_markRules_40 : decode cX7_markRules 40 = .ok (.istore 5, 2) := by decide +kernel
theorem dX7_markRules_42 : decode cX7_markRules 42 = .ok (.iload 5, 2) := by decide +kernel
theorem dX7_markRules_44 : decode cX7_markRules 44 = .ok (.ifCond .lt 21, 3) := by decide +kernel
theorem dX7_markRules_47 : decode cX7_markRules 47 = .ok (.iload 5, 2) := by decide +kernel
theorem dX7_markRules_49 : decode cX7_markRules 49 = .ok (.aload_n 0, 1) := by decide +kernel
theorem dX7_markRules_50 : decode cX7_markRules 50 = .ok (.getfield 21, 3) := by decide +kernel
theorem dX7_markRules_53 : decode cX7_markRules 53 = .ok (.arraylength, 1) := by decide +kernel
theorem dX7_markRules_54 : decode cX7_markRules 54 = .ok (.if_icmp .ge 11, 3) := by decide +kernel
theorem dX7_markRules_57 : decode cX7_markRules 57 = .ok (.aload_n 0, 1) := by decide +kernel
theorem dX7_markRules_58 : decode cX7_markRules 58 = .ok (.getfield 21, 3) := by decide +kernel
theorem dX7_markRules_61 : decode cX7_markRules 61 = .ok (.iload 5, 2) := by decide +kernel
theorem dX7_markRules_63 : decode cX7_markRules 63 = .ok (.iload_n 2, 1) := by decide +kernel
theorem dX7_markRules_64 : decode cX7_markRules 64 = .ok (.bastore, 1) := by decide +kernel
theorem dX7_markRules_65 : decode cX7_markRules 65 = .ok (.iinc 3 1, 3) := by decide +kernel
theorem dX7_markRules_68 : decode cX7_markRules 68 = .ok (.goto (-65), 3) := by decide +kernel
theorem dX7_markRules_71 : decode cX7_markRules 71 = .ok (.return_, 1) := by decide +kernel
theorem dX7_isRuled_0 : decode cX7_isRuled 0 = .ok (.iload_n 1, 1) := by decide +kernel
theorem dX7_isRuled_1 : decode cX7_isRuled 1 = .ok (.ifCond .lt 25, 3) := by decide +kernel
theorem dX7_isRuled_4 : decode cX7_isRuled 4 = .ok (.iload_n 1, 1) := by decide +kernel
theorem dX7_isRuled_5 : decode cX7_isRuled 5 = .ok (.aload_n 0, 1) := by decide +kernel
theorem dX7_isRuled_6 : decode cX7_isRuled 6 = .ok (.getfield 21, 3) := by decide +kernel
theorem dX7_isRuled_9 : decode cX7_isRuled 9 = .ok (.arraylength, 1) := by decide +kernel
theorem dX7_isRuled_10 : decode cX7_isRuled 10 = .ok (.if_icmp .ge 16, 3) := by decide +kernel
theorem dX7_isRuled_13 : decode cX7_isRuled 13 = .ok (.aload_n 0, 1) := by decide +kernel
theorem dX7_isRuled_14 : decode cX7_isRuled 14 = .ok (.getfield 21, 3) := by decide +kernel
theorem dX7_isRuled_17 : decode cX7_isRuled 17 = .ok (.iload_n 1, 1) := by decide +kernel
theorem dX7_isRuled_18 : decode cX7_isRuled 18 = .ok (.baload, 1) := by decide +kernel
theorem dX7_isRuled_19 : decode cX7_isRuled 19 = .ok (.ifCond .eq 7, 3) := by decide +kernel
theorem dX7_isRuled_22 : decode cX7_isRuled 22 = .ok (.iconst 1, 1) := by decide +kernel
theorem dX7_isRuled_23 : decode cX7_isRuled 23 = .ok (.goto 4, 3) := by decide +kernel
theorem dX7_isRuled_26 : decode cX7_isRuled 26 = .ok (.iconst 0, 1) := by decide +kernel
theorem dX7_isRuled_27 : decode cX7_isRuled 27 = .ok (.ireturn, 1) := by decide +kernel
theorem dX7_gainOf_0 : decode cX7_gainOf 0 = .ok (.aload_n 1, 1) := by decide +kernel
theorem dX7_gainOf_1 : decode cX7_gainOf 1 = .ok (.iload_n 2, 1) := by decide +kernel
theorem dX7_gainOf_2 : decode cX7_gainOf 2 = .ok (.invokevirtual 87, 3) := by decide +kernel
theorem dX7_gainOf_5 : decode cX7_gainOf 5 = .ok (.istore_n 3, 1) := by decide +kernel
theorem dX7_gainOf_6 : decode cX7_gainOf 6 = .ok (.aload_n 0, 1) := by decide +kernel
theorem dX7_gainOf_7 : decode cX7_gainOf 7 = .ok (.iload_n 2, 1) := by decide +kernel
theorem dX7_gainOf_8 : decode cX7_gainOf 8 = .ok (.invokevirtual 90, 3) := by decide +kernel
theorem dX7_gainOf_11 : decode cX7_gainOf 11 = .ok (.ifCond .eq 7, 3) := by decide +kernel
theorem dX7_gainOf_14 : decode cX7_gainOf 14 = .ok (.iload_n 3, 1) := by decide +kernel
theorem dX7_gainOf_15 : decode cX7_gainOf 15 = .ok (.goto 6, 3) := by decide +kernel
theorem dX7_gainOf_18 : decode cX7_gainOf 18 = .ok (.iload_n 3, 1) := by decide +kernel
theorem dX7_gainOf_19 : decode cX7_gainOf 19 = .ok (.iconst 2, 1) := by decide +kernel
theorem dX7_gainOf_20 : decode cX7_gainOf 20 = .ok (.isub, 1) := by decide +kernel
theorem dX7_gainOf_21 : decode cX7_gainOf 21 = .ok (.ireturn, 1) := by decide +kernel
theorem dX7_greatestGain_0 : decode cX7_greatestGain 0 = .ok (.iconst 0, 1) := by decide +kernel
theorem dX7_greatestGain_1 : decode cX7_greatestGain 1 = .ok (.istore_n 3, 1) := by decide +kernel
theorem dX7_greatestGain_2 : decode cX7_greatestGain 2 = .ok (.iconst 0, 1) := by decide +kernel
theorem dX7_greatestGain_3 : decode cX7_greatestGain 3 = .ok (.istore 4, 2) := by decide +kernel
theorem dX7_greatestGain_5 : decode cX7_greatestGain 5 = .ok (.iload 4, 2) := by decide +kernel
theorem dX7_greatestGain_7 : decode cX7_greatestGain 7 = .ok (.aload_n 1, 1) := by decide +kernel
theorem dX7_greatestGain_8 : decode cX7_greatestGain 8 = .ok (.invokevirtual 65, 3) := by decide +kernel
theorem dX7_greatestGain_11 : decode cX7_greatestGain 11 = .ok (.if_icmp .ge 42, 3) := by decide +kernel
theorem dX7_greatestGain_14 : decode cX7_greatestGain 14 = .ok (.aload_n 1, 1) := by decide +kernel
end
section
theorem dX7_greatestGain_15 : decode cX7_greatestGain 15 = .ok (.iload 4, 2) := by decide +kernel
theorem dX7_greatestGain_17 : decode cX7_greatestGain 17 = .ok (.invokevirtual 68, 3) := by decide +kernel
theorem dX7_greatestGain_20 : decode cX7_greatestGain 20 = .ok (.istore 5, 2) := by decide +kernel
theorem dX7_greatestGain_22 : decode cX7_greatestGain 22 = .ok (.iload_n 2, 1) := by decide +kernel
theorem dX7_greatestGain_23 : decode cX7_greatestGain 23 = .ok (.ifCond .gt 12, 3) := by decide +kernel
theorem dX7_greatestGain_26 : decode cX7_greatestGain 26 = .ok (.aload_n 0, 1) := by decide +kernel
theorem dX7_greatestGain_27 : decode cX7_greatestGain 27 = .ok (.iload 5, 2) := by decide +kernel
theorem dX7_greatestGain_29 : decode cX7_greatestGain 29 = .ok (.invokevirtual 90, 3) := by decide +kernel
theorem dX7_greatestGain_32 : decode cX7_greatestGain 32 = .ok (.ifCond .eq 15, 3) := by decide +kernel
theorem dX7_greatestGain_35 : decode cX7_greatestGain 35 = .ok (.iload_n 3, 1) := by decide +kernel
theorem dX7_greatestGain_36 : decode cX7_greatestGain 36 = .ok (.aload_n 0, 1) := by decide +kernel
theorem dX7_greatestGain_37 : decode cX7_greatestGain 37 = .ok (.aload_n 1, 1) := by decide +kernel
theorem dX7_greatestGain_38 : decode cX7_greatestGain 38 = .ok (.iload 5, 2) := by decide +kernel
theorem dX7_greatestGain_40 : decode cX7_greatestGain 40 = .ok (.invokevirtual 94, 3) := by decide +kernel
theorem dX7_greatestGain_43 : decode cX7_greatestGain 43 = .ok (.invokestatic 97, 3) := by decide +kernel
theorem dX7_greatestGain_46 : decode cX7_greatestGain 46 = .ok (.istore_n 3, 1) := by decide +kernel
theorem dX7_greatestGain_47 : decode cX7_greatestGain 47 = .ok (.iinc 4 1, 3) := by decide +kernel
theorem dX7_greatestGain_50 : decode cX7_greatestGain 50 = .ok (.goto (-45), 3) := by decide +kernel
theorem dX7_greatestGain_53 : decode cX7_greatestGain 53 = .ok (.iload_n 3, 1) := by decide +kernel
theorem dX7_greatestGain_54 : decode cX7_greatestGain 54 = .ok (.ireturn, 1) := by decide +kernel
theorem dX7_leastBehind_0 : decode cX7_leastBehind 0 = .ok (.iload 4, 2) := by decide +kernel
theorem dX7_leastBehind_2 : decode cX7_leastBehind 2 = .ok (.ifCond .ne 13, 3) := by decide +kernel
theorem dX7_leastBehind_5 : decode cX7_leastBehind 5 = .ok (.aload_n 0, 1) := by decide +kernel
theorem dX7_leastBehind_6 : decode cX7_leastBehind 6 = .ok (.iload_n 2, 1) := by decide +kernel
theorem dX7_leastBehind_7 : decode cX7_leastBehind 7 = .ok (.invokevirtual 90, 3) := by decide +kernel
theorem dX7_leastBehind_10 : decode cX7_leastBehind 10 = .ok (.ifCond .ne 5, 3) := by decide +kernel
theorem dX7_leastBehind_13 : decode cX7_leastBehind 13 = .ok (.iload_n 3, 1) := by decide +kernel
theorem dX7_leastBehind_14 : decode cX7_leastBehind 14 = .ok (.ireturn, 1) := by decide +kernel
theorem dX7_leastBehind_15 : decode cX7_leastBehind 15 = .ok (.iload_n 2, 1) := by decide +kernel
theorem dX7_leastBehind_16 : decode cX7_leastBehind 16 = .ok (.invokestatic 100, 3) := by decide +kernel
theorem dX7_leastBehind_19 : decode cX7_leastBehind 19 = .ok (.istore 5, 2) := by decide +kernel
theorem dX7_leastBehind_21 : decode cX7_leastBehind 21 = .ok (.iload_n 2, 1) := by decide +kernel
theorem dX7_leastBehind_22 : decode cX7_leastBehind 22 = .ok (.invokestatic 103, 3) := by decide +kernel
theorem dX7_leastBehind_25 : decode cX7_leastBehind 25 = .ok (.istore 6, 2) := by decide +kernel
theorem dX7_leastBehind_27 : decode cX7_leastBehind 27 = .ok (.aload_n 0, 1) := by decide +kernel
theorem dX7_leastBehind_28 : decode cX7_leastBehind 28 = .ok (.getfield 30, 3) := by decide +kernel
theorem dX7_leastBehind_31 : decode cX7_leastBehind 31 = .ok (.aload_n 1, 1) := by decide +kernel
theorem dX7_leastBehind_32 : decode cX7_leastBehind 32 = .ok (.invokevirtual 47, 3) := by decide +kernel
theorem dX7_leastBehind_35 : decode cX7_leastBehind 35 = .ok (.invokevirtual 106, 3) := by decide +kernel
theorem dX7_leastBehind_38 : decode cX7_leastBehind 38 = .ok (.aload_n 0, 1) := by decide +kernel
theorem dX7_leastBehind_39 : decode cX7_leastBehind 39 = .ok (.getfield 30, 3) := by decide +kernel
theorem dX7_leastBehind_42 : decode cX7_leastBehind 42 = .ok (.iload 5, 2) := by decide +kernel
theorem dX7_leastBehind_44 : decode cX7_leastBehind 44 = .ok (.iload 6, 2) := by decide +kernel
theorem dX7_leastBehind_46 : decode cX7_leastBehind 46 = .ok (.aload_n 1, 1) := by decide +kernel
theorem dX7_leastBehind_47 : decode cX7_leastBehind 47 = .ok (.iload 5, 2) := by decide +kernel
theorem dX7_leastBehind_49 : decode cX7_leastBehind 49 = .ok (.iload 6, 2) := by decide +kernel
theorem dX7_leastBehind_51 : decode cX7_leastBehind 51 = .ok (.invokevirtual 109, 3) := by decide +kernel
theorem dX7_leastBehind_54 : decode cX7_leastBehind 54 = .ok (.invokevirtual 112, 3) := by decide +kernel
theorem dX7_leastBehind_57 : decode cX7_leastBehind 57 = .ok (.aload_n 0, 1) := by decide +kernel
theorem dX7_leastBehind_58 : decode cX7_leastBehind 58 = .ok (.getfield 18, 3) := by decide +kernel
theorem dX7_leastBehind_61 : decode cX7_leastBehind 61 = .ok (.aload_n 0, 1) := by decide +kernel
theorem dX7_leastBehind_62 : decode cX7_leastBehind 62 = .ok (.getfield 30, 3) := by decide +kernel
theorem dX7_leastBehind_65 : decode cX7_leastBehind 65 = .ok (.invokevirtual 51, 3) := by decide +kernel
theorem dX7_leastBehind_68 : decode cX7_leastBehind 68 = .ok (.aload_n 0, 1) := by decide +kernel
theorem dX7_leastBehind_69 : decode cX7_leastBehind 69 = .ok (.iload_n 2, 1) := by decide +kernel
theorem dX7_leastBehind_70 : decode cX7_leastBehind 70 = .ok (.invokevirtual 90, 3) := by decide +kernel
theorem dX7_leastBehind_73 : decode cX7_leastBehind 73 = .ok (.ifCond .eq 8, 3) := by decide +kernel
theorem dX7_leastBehind_76 : decode cX7_leastBehind 76 = .ok (.iload 4, 2) := by decide +kernel
theorem dX7_leastBehind_78 : decode cX7_leastBehind 78 = .ok (.goto 7, 3) := by decide +kernel
theorem dX7_leastBehind_81 : decode cX7_leastBehind 81 = .ok (.iload 4, 2) := by decide +kernel
theorem dX7_leastBehind_83 : decode cX7_leastBehind 83 = .ok (.iconst 1, 1) := by decide +kernel
theorem dX7_leastBehind_84 : decode cX7_leastBehind 84 = .ok (.isub, 1) := by decide +kernel
theorem dX7_leastBehind_85 : decode cX7_leastBehind 85 = .ok (.istore 7, 2) := by decide +kernel
theorem dX7_leastBehind_87 : decode cX7_leastBehind 87 = .ok (.iload_n 3, 1) := by decide +kernel
theorem dX7_leastBehind_88 : decode cX7_leastBehind 88 = .ok (.aload_n 0, 1) := by decide +kernel
theorem dX7_leastBehind_89 : decode cX7_leastBehind 89 = .ok (.aload_n 0, 1) := by decide +kernel
theorem dX7_leastBehind_90 : decode cX7_leastBehind 90 = .ok (.getfield 12, 3) := by decide +kernel
theorem dX7_leastBehind_93 : decode cX7_leastBehind 93 = .ok (.iload_n 2, 1) := by decide +kernel
theorem dX7_leastBehind_94 : decode cX7_leastBehind 94 = .ok (.invokevirtual 94, 3) := by decide +kernel
theorem dX7_leastBehind_97 : decode cX7_leastBehind 97 = .ok (.isub, 1) := by decide +kernel
theorem dX7_leastBehind_98 : decode cX7_leastBehind 98 = .ok (.aload_n 0, 1) := by decide +kernel
theorem dX7_leastBehind_99 : decode cX7_leastBehind 99 = .ok (.aload_n 0, 1) := by decide +kernel
theorem dX7_leastBehind_100 : decode cX7_leastBehind 100 = .ok (.getfield 18, 3) := by decide +kernel
theorem dX7_leastBehind_103 : decode cX7_leastBehind 103 = .ok (.iload 7, 2) := by decide +kernel
theorem dX7_leastBehind_105 : decode cX7_leastBehind 105 = .ok (.invokevirtual 55, 3) := by decide +kernel
theorem dX7_leastBehind_108 : decode cX7_leastBehind 108 = .ok (.isub, 1) := by decide +kernel
theorem dX7_leastBehind_109 : decode cX7_leastBehind 109 = .ok (.ireturn, 1) := by decide +kernel
theorem dX8_init_0 : decode cX8_init 0 = .ok (.aload_n 0, 1) := by decide +kernel
theorem dX8_init_1 : decode cX8_init 1 = .ok (.invokespecial 3, 3) := by decide +kernel
theorem dX8_init_4 : decode cX8_init 4 = .ok (.aload_n 0, 1) := by decide +kernel
theorem dX8_init_5 : decode cX8_init 5 = .ok (.bipush 86, 2) := by decide +kernel
theorem dX8_init_7 : decode cX8_init 7 = .ok (.newarray .int, 2) := by decide +kernel
theorem dX8_init_9 : decode cX8_init 9 = .ok (.putfield 9, 3) := by decide +kernel
theorem dX8_init_12 : decode cX8_init 12 = .ok (.aload_n 0, 1) := by decide +kernel
theorem dX8_init_13 : decode cX8_init 13 = .ok (.bipush 86, 2) := by decide +kernel
theorem dX8_init_15 : decode cX8_init 15 = .ok (.newarray .int, 2) := by decide +kernel
theorem dX8_init_17 : decode cX8_init 17 = .ok (.putfield 15, 3) := by decide +kernel
theorem dX8_init_20 : decode cX8_init 20 = .ok (.aload_n 0, 1) := by decide +kernel
theorem dX8_init_21 : decode cX8_init 21 = .ok (.new 18, 3) := by decide +kernel
theorem dX8_init_24 : decode cX8_init 24 = .ok (.dup, 1) := by decide +kernel
theorem dX8_init_25 : decode cX8_init 25 = .ok (.bipush 60, 2) := by decide +kernel
theorem dX8_init_27 : decode cX8_init 27 = .ok (.invokespecial 20, 3) := by decide +kernel
theorem dX8_init_30 : decode cX8_init 30 = .ok (.putfield 23, 3) := by decide +kernel
theorem dX8_init_33 : decode cX8_init 33 = .ok (.aload_n 0, 1) := by decide +kernel
theorem dX8_init_34 : decode cX8_init 34 = .ok (.iconst (-1), 1) := by decide +kernel
theorem dX8_init_35 : decode cX8_init 35 = .ok (.putfield 27, 3) := by decide +kernel
theorem dX8_init_38 : decode cX8_init 38 = .ok (.aload_n 0, 1) := by decide +kernel
theorem dX8_init_39 : decode cX8_init 39 = .ok (.iconst 0, 1) := by decide +kernel
theorem dX8_init_40 : decode cX8_init 40 = .ok (.putfield 31, 3) := by decide +kernel
theorem dX8_init_43 : decode cX8_init 43 = .ok (.return_, 1) := by decide +kernel
theorem dX8_learn_0 : decode cX8_learn 0 = .ok (.aload_n 0, 1) := by decide +kernel
theorem dX8_learn_1 : decode cX8_learn 1 = .ok (.getfield 23, 3) := by decide +kernel
theorem dX8_learn_4 : decode cX8_learn 4 = .ok (.invokevirtual 34, 3) := by decide +kernel
theorem dX8_learn_7 : decode cX8_learn 7 = .ok (.iconst 0, 1) := by decide +kernel
theorem dX8_learn_8 : decode cX8_learn 8 = .ok (.istore_n 2, 1) := by decide +kernel
theorem dX8_learn_9 : decode cX8_learn 9 = .ok (.iload_n 2, 1) := by decide +kernel
theorem dX8_learn_10 : decode cX8_learn 10 = .ok (.bipush 86, 2) := by decide +kernel
theorem dX8_learn_12 : decode cX8_learn 12 = .ok (.if_icmp .ge 34, 3) := by decide +kernel
theorem dX8_learn_15 : decode cX8_learn 15 = .ok (.aload_n 0, 1) := by decide +kernel
theorem dX8_learn_16 : decode cX8_learn 16 = .ok (.getfield 9, 3) := by decide +kernel
theorem dX8_learn_19 : decode cX8_learn 19 = .ok (.iload_n 2, 1) := by decide +kernel
theorem dX8_learn_20 : decode cX8_learn 20 = .ok (.iload_n 2, 1) := by decide +kernel
theorem dX8_learn_21 : decode cX8_learn 21 = .ok (.invokestatic 37, 3) := by decide +kernel
theorem dX8_learn_24 : decode cX8_learn 24 = .ok (.ifCond .eq 7, 3) := by decide +kernel
theorem dX8_learn_27 : decode cX8_learn 27 = .ok (.iconst 1, 1) := by decide +kernel
theorem dX8_learn_28 : decode cX8_learn 28 = .ok (.goto 4, 3) := by decide +kernel
theorem dX8_learn_31 : decode cX8_learn 31 = .ok (.iconst 0, 1) := by decide +kernel
theorem dX8_learn_32 : decode cX8_learn 32 = .ok (.iastore, 1) := by decide +kernel
theorem dX8_learn_33 : decode cX8_learn 33 = .ok (.aload_n 0, 1) := by decide +kernel
theorem dX8_learn_34 : decode cX8_learn 34 = .ok (.getfield 15, 3) := by decide +kernel
theorem dX8_learn_37 : decode cX8_learn 37 = .ok (.iload_n 2, 1) := by decide +kernel
theorem dX8_learn_38 : decode cX8_learn 38 = .ok (.iconst 0, 1) := by decide +kernel
theorem dX8_learn_39 : decode cX8_learn 39 = .ok (.iastore, 1) := by decide +kernel
theorem dX8_learn_40 : decode cX8_learn 40 = .ok (.iinc 2 1, 3) := by decide +kernel
theorem dX8_learn_43 : decode cX8_learn 43 = .ok (.goto (-34), 3) := by decide +kernel
theorem dX8_learn_46 : decode cX8_learn 46 = .ok (.iconst 0, 1) := by decide +kernel
theorem dX8_learn_47 : decode cX8_learn 47 = .ok (.istore_n 2, 1) := by decide +kernel
theorem dX8_learn_48 : decode cX8_learn 48 = .ok (.iload_n 2, 1) := by decide +kernel
theorem dX8_learn_49 : decode cX8_learn 49 = .ok (.bipush 60, 2) := by decide +kernel
theorem dX8_learn_51 : decode cX8_learn 51 = .ok (.if_icmp .ge 31, 3) := by decide +kernel
theorem dX8_learn_54 : decode cX8_learn 54 = .ok (.aload_n 0, 1) := by decide +kernel
theorem dX8_learn_55 : decode cX8_learn 55 = .ok (.aload_n 1, 1) := by decide +kernel
theorem dX8_learn_56 : decode cX8_learn 56 = .ok (.invokevirtual 41, 3) := by decide +kernel
theorem dX8_learn_59 : decode cX8_learn 59 = .ok (.istore_n 3, 1) := by decide +kernel
theorem dX8_learn_60 : decode cX8_learn 60 = .ok (.iload_n 3, 1) := by decide +kernel
theorem dX8_learn_61 : decode cX8_learn 61 = .ok (.iconst (-1), 1) := by decide +kernel
theorem dX8_learn_62 : decode cX8_learn 62 = .ok (.if_icmp .ne 4, 3) := by decide +kernel
theorem dX8_learn_65 : decode cX8_learn 65 = .ok (.return_, 1) := by decide +kernel
theorem dX8_learn_66 : decode cX8_learn 66 = .ok (.aload_n 0, 1) := by decide +kernel
theorem dX8_learn_67 : decode cX8_learn 67 = .ok (.iload_n 3, 1) := by decide +kernel
theorem dX8_learn_68 : decode cX8_learn 68 = .ok (.aload_n 1, 1) := by decide +kernel
theorem dX8_learn_69 : decode cX8_learn 69 = .ok (.iload_n 3, 1) := by decide +kernel
theorem dX8_learn_70 : decode cX8_learn 70 = .ok (.invokevirtual 45, 3) := by decide +kernel
theorem dX8_learn_73 : decode cX8_learn 73 = .ok (.invokevirtual 51, 3) := by decide +kernel
theorem dX8_learn_76 : decode cX8_learn 76 = .ok (.iinc 2 1, 3) := by decide +kernel
theorem dX8_learn_79 : decode cX8_learn 79 = .ok (.goto (-31), 3) := by decide +kernel
theorem dX8_learn_82 : decode cX8_learn 82 = .ok (.return_, 1) := by decide +kernel
theorem dX8_told_0 : decode cX8_told 0 = .ok (.aload_n 0, 1) := by decide +kernel
theorem dX8_told_1 : decode cX8_told 1 = .ok (.getfield 23, 3) := by decide +kernel
theorem dX8_told_4 : decode cX8_told 4 = .ok (.invokevirtual 55, 3) := by decide +kernel
theorem dX8_told_7 : decode cX8_told 7 = .ok (.ireturn, 1) := by decide +kernel
theorem dX8_toldAt_0 : decode cX8_toldAt 0 = .ok (.aload_n 0, 1) := by decide +kernel
theorem dX8_toldAt_1 : decode cX8_toldAt 1 = .ok (.getfield 23, 3) := by decide +kernel
theorem dX8_toldAt_4 : decode cX8_toldAt 4 = .ok (.iload_n 1, 1) := by decide +kernel
theorem dX8_toldAt_5 : decode cX8_toldAt 5 = .ok (.invokevirtual 59, 3) := by decide +kernel
theorem dX8_toldAt_8 : decode cX8_toldAt 8 = .ok (.ireturn, 1) := by decide +kernel
theorem dX8_lettersOf_0 : decode cX8_lettersOf 0 = .ok (.iload_n 1, 1) := by decide +kernel
theorem dX8_lettersOf_1 : decode cX8_lettersOf 1 = .ok (.ifCond .lt 18, 3) := by decide +kernel
theorem dX8_lettersOf_4 : decode cX8_lettersOf 4 = .ok (.iload_n 1, 1) := by decide +kernel
theorem dX8_lettersOf_5 : decode cX8_lettersOf 5 = .ok (.bipush 86, 2) := by decide +kernel
theorem dX8_lettersOf_7 : decode cX8_lettersOf 7 = .ok (.if_icmp .ge 12, 3) := by decide +kernel
theorem dX8_lettersOf_10 : decode cX8_lettersOf 10 = .ok (.aload_n 0, 1) := by decide +kernel
theorem dX8_lettersOf_11 : decode cX8_lettersOf 11 = .ok (.getfield 9, 3) := by decide +kernel
theorem dX8_lettersOf_14 : decode cX8_lettersOf 14 = .ok (.iload_n 1, 1) := by decide +kernel
theorem dX8_lettersOf_15 : decode cX8_lettersOf 15 = .ok (.iaload, 1) := by decide +kernel
theorem dX8_lettersOf_16 : decode cX8_lettersOf 16 = .ok (.goto 4, 3) := by decide +kernel
theorem dX8_lettersOf_19 : decode cX8_lettersOf 19 = .ok (.iconst 0, 1) := by decide +kernel
theorem dX8_lettersOf_20 : decode cX8_lettersOf 20 = .ok (.ireturn, 1) := by decide +kernel
theorem dX8_depthOf_0 : decode cX8_depthOf 0 = .ok (.iload_n 1, 1) := by decide +kernel
theorem dX8_depthOf_1 : decode cX8_depthOf 1 = .ok (.ifCond .lt 18, 3) := by decide +kernel
theorem dX8_depthOf_4 : decode cX8_depthOf 4 = .ok (.iload_n 1, 1) := by decide +kernel
theorem dX8_depthOf_5 : decode cX8_depthOf 5 = .ok (.bipush 86, 2) := by decide +kernel
theorem dX8_depthOf_7 : decode cX8_depthOf 7 = .ok (.if_icmp .ge 12, 3) := by decide +kernel
theorem dX8_depthOf_10 : decode cX8_depthOf 10 = .ok (.aload_n 0, 1) := by decide +kernel
theorem dX8_depthOf_11 : decode cX8_depthOf 11 = .ok (.getfield 15, 3) := by decide +kernel
theorem dX8_depthOf_14 : decode cX8_depthOf 14 = .ok (.iload_n 1, 1) := by decide +kernel
theorem dX8_depthOf_15 : decode cX8_depthOf 15 = .ok (.iaload, 1) := by decide +kernel
theorem dX8_depthOf_16 : decode cX8_depthOf 16 = .ok (.goto 4, 3) := by decide +kernel
theorem dX8_depthOf_19 : decode cX8_depthOf 19 = .ok (.iconst 0, 1) := by decide +kernel
theorem dX8_depthOf_20 : decode cX8_depthOf 20 = .ok (.ireturn, 1) := by decide +kernel
theorem dX8_goDown_0 : decode cX8_goDown 0 = .ok (.aload_n 0, 1) := by decide +kernel
theorem dX8_goDown_1 : decode cX8_goDown 1 = .ok (.iload_n 2, 1) := by decide +kernel
theorem dX8_goDown_2 : decode cX8_goDown 2 = .ok (.putfield 27, 3) := by decide +kernel
theorem dX8_goDown_5 : decode cX8_goDown 5 = .ok (.aload_n 0, 1) := by decide +kernel
theorem dX8_goDown_6 : decode cX8_goDown 6 = .ok (.iconst 0, 1) := by decide +kernel
theorem dX8_goDown_7 : decode cX8_goDown 7 = .ok (.putfield 31, 3) := by decide +kernel
theorem dX8_goDown_10 : decode cX8_goDown 10 = .ok (.iload_n 3, 1) := by decide +kernel
theorem dX8_goDown_11 : decode cX8_goDown 11 = .ok (.istore 5, 2) := by decide +kernel
theorem dX8_goDown_13 : decode cX8_goDown 13 = .ok (.aload_n 0, 1) := by decide +kernel
theorem dX8_goDown_14 : decode cX8_goDown 14 = .ok (.getfield 31, 3) := by decide +kernel
theorem dX8_goDown_17 : decode cX8_goDown 17 = .ok (.iload 4, 2) := by decide +kernel
theorem dX8_goDown_19 : decode cX8_goDown 19 = .ok (.if_icmp .ge 101, 3) := by decide +kernel
theorem dX8_goDown_22 : decode cX8_goDown 22 = .ok (.aload_n 1, 1) := by decide +kernel
theorem dX8_goDown_23 : decode cX8_goDown 23 = .ok (.aload_n 0, 1) := by decide +kernel
theorem dX8_goDown_24 : decode cX8_goDown 24 = .ok (.getfield 27, 3) := by decide +kernel
theorem dX8_goDown_27 : decode cX8_goDown 27 = .ok (.invokevirtual 63, 3) := by decide +kernel
theorem dX8_goDown_30 : decode cX8_goDown 30 = .ok (.ifCond .eq 90, 3) := by decide +kernel
theorem dX8_goDown_33 : decode cX8_goDown 33 = .ok (.aload_n 1, 1) := by decide +kernel
theorem dX8_goDown_34 : decode cX8_goDown 34 = .ok (.aload_n 0, 1) := by decide +kernel
theorem dX8_goDown_35 : decode cX8_goDown 35 = .ok (.getfield 27, 3) := by decide +kernel
theorem dX8_goDown_38 : decode cX8_goDown 38 = .ok (.invokevirtual 45, 3) := by decide +kernel
theorem dX8_goDown_41 : decode cX8_goDown 41 = .ok (.astore 6, 2) := by decide +kernel
theorem dX8_goDown_43 : decode cX8_goDown 43 = .ok (.iconst 0, 1) := by decide +kernel
theorem dX8_goDown_44 : decode cX8_goDown 44 = .ok (.istore 7, 2) := by decide +kernel
theorem dX8_goDown_46 : decode cX8_goDown 46 = .ok (.iload 7, 2) := by decide +kernel
theorem dX8_goDown_48 : decode cX8_goDown 48 = .ok (.aload 6, 2) := by decide +kernel
theorem dX8_goDown_50 : decode cX8_goDown 50 = .ok (.invokevirtual 55, 3) := by decide +kernel
theorem dX8_goDown_53 : decode cX8_goDown 53 = .ok (.iconst 1, 1) := by decide +kernel
theorem dX8_goDown_54 : decode cX8_goDown 54 = .ok (.isub, 1) := by decide +kernel
theorem dX8_goDown_55 : decode cX8_goDown 55 = .ok (.if_icmp .ge 41, 3) := by decide +kernel
theorem dX8_goDown_58 : decode cX8_goDown 58 = .ok (.iload 5, 2) := by decide +kernel
theorem dX8_goDown_60 : decode cX8_goDown 60 = .ok (.aload_n 0, 1) := by decide +kernel
theorem dX8_goDown_61 : decode cX8_goDown 61 = .ok (.aload 6, 2) := by decide +kernel
theorem dX8_goDown_63 : decode cX8_goDown 63 = .ok (.iload 7, 2) := by decide +kernel
theorem dX8_goDown_65 : decode cX8_goDown 65 = .ok (.invokevirtual 59, 3) := by decide +kernel
theorem dX8_goDown_68 : decode cX8_goDown 68 = .ok (.invokevirtual 66, 3) := by decide +kernel
theorem dX8_goDown_71 : decode cX8_goDown 71 = .ok (.if_icmp .lt 25, 3) := by decide +kernel
theorem dX8_goDown_74 : decode cX8_goDown 74 = .ok (.iload 5, 2) := by decide +kernel
theorem dX8_goDown_76 : decode cX8_goDown 76 = .ok (.aload_n 0, 1) := by decide +kernel
theorem dX8_goDown_77 : decode cX8_goDown 77 = .ok (.aload 6, 2) := by decide +kernel
theorem dX8_goDown_79 : decode cX8_goDown 79 = .ok (.iload 7, 2) := by decide +kernel
theorem dX8_goDown_81 : decode cX8_goDown 81 = .ok (.invokevirtual 59, 3) := by decide +kernel
theorem dX8_goDown_84 : decode cX8_goDown 84 = .ok (.invokevirtual 66, 3) := by decide +kernel
theorem dX8_goDown_87 : decode cX8_goDown 87 = .ok (.isub, 1) := by decide +kernel
theorem dX8_goDown_88 : decode cX8_goDown 88 = .ok (.istore 5, 2) := by decide +kernel
theorem dX8_goDown_90 : decode cX8_goDown 90 = .ok (.iinc 7 1, 3) := by decide +kernel
theorem dX8_goDown_93 : decode cX8_goDown 93 = .ok (.goto (-47), 3) := by decide +kernel
theorem dX8_goDown_96 : decode cX8_goDown 96 = .ok (.aload_n 0, 1) := by decide +kernel
theorem dX8_goDown_97 : decode cX8_goDown 97 = .ok (.aload 6, 2) := by decide +kernel
theorem dX8_goDown_99 : decode cX8_goDown 99 = .ok (.iload 7, 2) := by decide +kernel
theorem dX8_goDown_101 : decode cX8_goDown 101 = .ok (.invokevirtual 59, 3) := by decide +kernel
theorem dX8_goDown_104 : decode cX8_goDown 104 = .ok (.putfield 27, 3) := by decide +kernel
theorem dX8_goDown_107 : decode cX8_goDown 107 = .ok (.aload_n 0, 1) := by decide +kernel
theorem dX8_goDown_108 : decode cX8_goDown 108 = .ok (.dup, 1) := by decide +kernel
theorem dX8_goDown_109 : decode cX8_goDown 109 = .ok (.getfield 31, 3) := by decide +kernel
theorem dX8_goDown_112 : decode cX8_goDown 112 = .ok (.iconst 1, 1) := by decide +kernel
theorem dX8_goDown_113 : decode cX8_goDown 113 = .ok (.iadd, 1) := by decide +kernel
theorem dX8_goDown_114 : decode cX8_goDown 114 = .ok (.putfield 31, 3) := by decide +kernel
theorem dX8_goDown_117 : decode cX8_goDown 117 = .ok (.goto (-104), 3) := by decide +kernel
theorem dX8_goDown_120 : decode cX8_goDown 120 = .ok (.return_, 1) := by decide +kernel
theorem dX8_reached_0 : decode cX8_reached 0 = .ok (.aload_n 0, 1) := by decide +kernel
theorem dX8_reached_1 : decode cX8_reached 1 = .ok (.getfield 27, 3) := by decide +kernel
theorem dX8_reached_4 : decode cX8_reached 4 = .ok (.ireturn, 1) := by decide +kernel
theorem dX8_levelsGone_0 : decode cX8_levelsGone 0 = .ok (.aload_n 0, 1) := by decide +kernel
theorem dX8_levelsGone_1 : decode cX8_levelsGone 1 = .ok (.getfield 31, 3) := by decide +kernel
theorem dX8_levelsGone_4 : decode cX8_levelsGone 4 = .ok (.ireturn, 1) := by decide +kernel
theorem dX8_leastReady_0 : decode cX8_leastReady 0 = .ok (.bipush 26, 2) := by decide +kernel
theorem dX8_leastReady_2 : decode cX8_leastReady 2 = .ok (.istore_n 2, 1) := by decide +kernel
theorem dX8_leastReady_3 : decode cX8_leastReady 3 = .ok (.iload_n 2, 1) := by decide +kernel
theorem dX8_leastReady_4 : decode cX8_leastReady 4 = .ok (.bipush 86, 2) := by decide +kernel
theorem dX8_leastReady_6 : decode cX8_leastReady 6 = .ok (.if_icmp .ge 40, 3) := by decide +kernel
theorem dX8_leastReady_9 : decode cX8_leastReady 9 = .ok (.aload_n 0, 1) := by decide +kernel
theorem dX8_leastReady_10 : decode cX8_leastReady 10 = .ok (.getfield 9, 3) := by decide +kernel
theorem dX8_leastReady_13 : decode cX8_leastReady 13 = .ok (.iload_n 2, 1) := by decide +kernel
theorem dX8_leastReady_14 : decode cX8_leastReady 14 = .ok (.iaload, 1) := by decide +kernel
theorem dX8_leastReady_15 : decode cX8_leastReady 15 = .ok (.ifCond .ne 25, 3) := by decide +kernel
theorem dX8_leastReady_18 : decode cX8_leastReady 18 = .ok (.aload_n 1, 1) := by decide +kernel
theorem dX8_leastReady_19 : decode cX8_leastReady 19 = .ok (.iload_n 2, 1) := by decide +kernel
theorem dX8_leastReady_20 : decode cX8_leastReady 20 = .ok (.invokevirtual 63, 3) := by decide +kernel
theorem dX8_leastReady_23 : decode cX8_leastReady 23 = .ok (.ifCond .eq 17, 3) := by decide +kernel
theorem dX8_leastReady_26 : decode cX8_leastReady 26 = .ok (.aload_n 0, 1) := by decide +kernel
theorem dX8_leastReady_27 : decode cX8_leastReady 27 = .ok (.aload_n 1, 1) := by decide +kernel
theorem dX8_leastReady_28 : decode cX8_leastReady 28 = .ok (.iload_n 2, 1) := by decide +kernel
theorem dX8_leastReady_29 : decode cX8_leastReady 29 = .ok (.invokevirtual 45, 3) := by decide +kernel
theorem dX8_leastReady_32 : decode cX8_leastReady 32 = .ok (.invokevirtual 69, 3) := by decide +kernel
theorem dX8_leastReady_35 : decode cX8_leastReady 35 = .ok (.ifCond .eq 5, 3) := by decide +kernel
theorem dX8_leastReady_38 : decode cX8_leastReady 38 = .ok (.iload_n 2, 1) := by decide +kernel
theorem dX8_leastReady_39 : decode cX8_leastReady 39 = .ok (.ireturn, 1) := by decide +kernel
theorem dX8_leastReady_40 : decode cX8_leastReady 40 = .ok (.iinc 2 1, 3) := by decide +kernel
theorem dX8_leastReady_43 : decode cX8_leastReady 43 = .ok (.goto (-40), 3) := by decide +kernel
theorem dX8_leastReady_46 : decode cX8_leastReady 46 = .ok (.iconst (-1), 1) := by decide +kernel
theorem dX8_leastReady_47 : decode cX8_leastReady 47 = .ok (.ireturn, 1) := by decide +kernel
theorem dX8_isReady_0 : decode cX8_isReady 0 = .ok (.iconst 0, 1) := by decide +kernel
theorem dX8_isReady_1 : decode cX8_isReady 1 = .ok (.istore_n 2, 1) := by decide +kernel
theorem dX8_isReady_2 : decode cX8_isReady 2 = .ok (.iload_n 2, 1) := by decide +kernel
theorem dX8_isReady_3 : decode cX8_isReady 3 = .ok (.aload_n 1, 1) := by decide +kernel
theorem dX8_isReady_4 : decode cX8_isReady 4 = .ok (.invokevirtual 55, 3) := by decide +kernel
theorem dX8_isReady_7 : decode cX8_isReady 7 = .ok (.if_icmp .ge 23, 3) := by decide +kernel
theorem dX8_isReady_10 : decode cX8_isReady 10 = .ok (.aload_n 0, 1) := by decide +kernel
theorem dX8_isReady_11 : decode cX8_isReady 11 = .ok (.aload_n 1, 1) := by decide +kernel
theorem dX8_isReady_12 : decode cX8_isReady 12 = .ok (.iload_n 2, 1) := by decide +kernel
theorem dX8_isReady_13 : decode cX8_isReady 13 = .ok (.invokevirtual 59, 3) := by decide +kernel
theorem dX8_isReady_16 : decode cX8_isReady 16 = .ok (.invokevirtual 66, 3) := by decide +kernel
theorem dX8_isReady_19 : decode cX8_isReady 19 = .ok (.ifCond .ne 5, 3) := by decide +kernel
theorem dX8_isReady_22 : decode cX8_isReady 22 = .ok (.iconst 0, 1) := by decide +kernel
theorem dX8_isReady_23 : decode cX8_isReady 23 = .ok (.ireturn, 1) := by decide +kernel
theorem dX8_isReady_24 : decode cX8_isReady 24 = .ok (.iinc 2 1, 3) := by decide +kernel
theorem dX8_isReady_27 : decode cX8_isReady 27 = .ok (.goto (-25), 3) := by decide +kernel
theorem dX8_isReady_30 : decode cX8_isReady 30 = .ok (.iconst 1, 1) := by decide +kernel
theorem dX8_isReady_31 : decode cX8_isReady 31 = .ok (.ireturn, 1) := by decide +kernel
theorem dX8_tell_0 : decode cX8_tell 0 = .ok (.iload_n 1, 1) := by decide +kernel
theorem dX8_tell_1 : decode cX8_tell 1 = .ok (.ifCond .lt 9, 3) := by decide +kernel
theorem dX8_tell_4 : decode cX8_tell 4 = .ok (.iload_n 1, 1) := by decide +kernel
theorem dX8_tell_5 : decode cX8_tell 5 = .ok (.bipush 86, 2) := by decide +kernel
theorem dX8_tell_7 : decode cX8_tell 7 = .ok (.if_icmp .lt 4, 3) := by decide +kernel
theorem dX8_tell_10 : decode cX8_tell 10 = .ok (.return_, 1) := by decide +kernel
theorem dX8_tell_11 : decode cX8_tell 11 = .ok (.iconst 0, 1) := by decide +kernel
theorem dX8_tell_12 : decode cX8_tell 12 = .ok (.istore_n 3, 1) := by decide +kernel
theorem dX8_tell_13 : decode cX8_tell 13 = .ok (.iconst 0, 1) := by decide +kernel
theorem dX8_tell_14 : decode cX8_tell 14 = .ok (.istore 4, 2) := by decide +kernel
theorem dX8_tell_16 : decode cX8_tell 16 = .ok (.iconst 0, 1) := by decide +kernel
theorem dX8_tell_17 : decode cX8_tell 17 = .ok (.istore 5, 2) := by decide +kernel
theorem dX8_tell_19 : decode cX8_tell 19 = .ok (.iload 5, 2) := by decide +kernel
theorem dX8_tell_21 : decode cX8_tell 21 = .ok (.aload_n 2, 1) := by decide +kernel
theorem dX8_tell_22 : decode cX8_tell 22 = .ok (.invokevirtual 55, 3) := by decide +kernel
theorem dX8_tell_25 : decode cX8_tell 25 = .ok (.if_icmp .ge 39, 3) := by decide +kernel
theorem dX8_tell_28 : decode cX8_tell 28 = .ok (.iload_n 3, 1) := by decide +kernel
theorem dX8_tell_29 : decode cX8_tell 29 = .ok (.aload_n 0, 1) := by decide +kernel
theorem dX8_tell_30 : decode cX8_tell 30 = .ok (.aload_n 2, 1) := by decide +kernel
theorem dX8_tell_31 : decode cX8_tell 31 = .ok (.iload 5, 2) := by decide +kernel
theorem dX8_tell_33 : decode cX8_tell 33 = .ok (.invokevirtual 59, 3) := by decide +kernel
theorem dX8_tell_36 : decode cX8_tell 36 = .ok (.invokevirtual 66, 3) := by decide +kernel
theorem dX8_tell_39 : decode cX8_tell 39 = .ok (.iadd, 1) := by decide +kernel
theorem dX8_tell_40 : decode cX8_tell 40 = .ok (.istore_n 3, 1) := by decide +kernel
theorem dX8_tell_41 : decode cX8_tell 41 = .ok (.iload 4, 2) := by decide +kernel
theorem dX8_tell_43 : decode cX8_tell 43 = .ok (.aload_n 0, 1) := by decide +kernel
theorem dX8_tell_44 : decode cX8_tell 44 = .ok (.aload_n 2, 1) := by decide +kernel
theorem dX8_tell_45 : decode cX8_tell 45 = .ok (.iload 5, 2) := by decide +kernel
theorem dX8_tell_47 : decode cX8_tell 47 = .ok (.invokevirtual 59, 3) := by decide +kernel
theorem dX8_tell_50 : decode cX8_tell 50 = .ok (.invokevirtual 73, 3) := by decide +kernel
theorem dX8_tell_53 : decode cX8_tell 53 = .ok (.invokestatic 76, 3) := by decide +kernel
theorem dX8_tell_56 : decode cX8_tell 56 = .ok (.istore 4, 2) := by decide +kernel
theorem dX8_tell_58 : decode cX8_tell 58 = .ok (.iinc 5 1, 3) := by decide +kernel
theorem dX8_tell_61 : decode cX8_tell 61 = .ok (.goto (-42), 3) := by decide +kernel
theorem dX8_tell_64 : decode cX8_tell 64 = .ok (.aload_n 0, 1) := by decide +kernel
theorem dX8_tell_65 : decode cX8_tell 65 = .ok (.getfield 9, 3) := by decide +kernel
theorem dX8_tell_68 : decode cX8_tell 68 = .ok (.iload_n 1, 1) := by decide +kernel
theorem dX8_tell_69 : decode cX8_tell 69 = .ok (.iload_n 3, 1) := by decide +kernel
theorem dX8_tell_70 : decode cX8_tell 70 = .ok (.iastore, 1) := by decide +kernel
theorem dX8_tell_71 : decode cX8_tell 71 = .ok (.aload_n 0, 1) := by decide +kernel
theorem dX8_tell_72 : decode cX8_tell 72 = .ok (.getfield 15, 3) := by decide +kernel
theorem dX8_tell_75 : decode cX8_tell 75 = .ok (.iload_n 1, 1) := by decide +kernel
theorem dX8_tell_76 : decode cX8_tell 76 = .ok (.iload 4, 2) := by decide +kernel
theorem dX8_tell_78 : decode cX8_tell 78 = .ok (.iconst 1, 1) := by decide +kernel
theorem dX8_tell_79 : decode cX8_tell 79 = .ok (.iadd, 1) := by decide +kernel
theorem dX8_tell_80 : decode cX8_tell 80 = .ok (.iastore, 1) := by decide +kernel
theorem dX8_tell_81 : decode cX8_tell 81 = .ok (.aload_n 0, 1) := by decide +kernel
theorem dX8_tell_82 : decode cX8_tell 82 = .ok (.getfield 23, 3) := by decide +kernel
theorem dX8_tell_85 : decode cX8_tell 85 = .ok (.iload_n 1, 1) := by decide +kernel
theorem dX8_tell_86 : decode cX8_tell 86 = .ok (.invokevirtual 82, 3) := by decide +kernel
theorem dX8_tell_89 : decode cX8_tell 89 = .ok (.return_, 1) := by decide +kernel
theorem dX9_init_0 : decode cX9_init 0 = .ok (.aload_n 0, 1) := by decide +kernel
theorem dX9_init_1 : decode cX9_init 1 = .ok (.invokespecial 3, 3) := by decide +kernel
theorem dX9_init_4 : decode cX9_init 4 = .ok (.aload_n 0, 1) := by decide +kernel
theorem dX9_init_5 : decode cX9_init 5 = .ok (.new 9, 3) := by decide +kernel
theorem dX9_init_8 : decode cX9_init 8 = .ok (.dup, 1) := by decide +kernel
theorem dX9_init_9 : decode cX9_init 9 = .ok (.invokespecial 11, 3) := by decide +kernel
theorem dX9_init_12 : decode cX9_init 12 = .ok (.putfield 12, 3) := by decide +kernel
theorem dX9_init_15 : decode cX9_init 15 = .ok (.aload_n 0, 1) := by decide +kernel
theorem dX9_init_16 : decode cX9_init 16 = .ok (.new 16, 3) := by decide +kernel
theorem dX9_init_19 : decode cX9_init 19 = .ok (.dup, 1) := by decide +kernel
theorem dX9_init_20 : decode cX9_init 20 = .ok (.invokespecial 18, 3) := by decide +kernel
theorem dX9_init_23 : decode cX9_init 23 = .ok (.putfield 19, 3) := by decide +kernel
theorem dX9_init_26 : decode cX9_init 26 = .ok (.aload_n 0, 1) := by decide +kernel
theorem dX9_init_27 : decode cX9_init 27 = .ok (.iconst 2, 1) := by decide +kernel
theorem dX9_init_28 : decode cX9_init 28 = .ok (.anewarray 9, 3) := by decide +kernel
theorem dX9_init_31 : decode cX9_init 31 = .ok (.putfield 23, 3) := by decide +kernel
theorem dX9_init_34 : decode cX9_init 34 = .ok (.aload_n 0, 1) := by decide +kernel
theorem dX9_init_35 : decode cX9_init 35 = .ok (.iconst 2, 1) := by decide +kernel
theorem dX9_init_36 : decode cX9_init 36 = .ok (.newarray .boolean, 2) := by decide +kernel
theorem dX9_init_38 : decode cX9_init 38 = .ok (.putfield 27, 3) := by decide +kernel
theorem dX9_init_41 : decode cX9_init 41 = .ok (.aload_n 0, 1) := by decide +kernel
theorem dX9_init_42 : decode cX9_init 42 = .ok (.new 31, 3) := by decide +kernel
theorem dX9_init_45 : decode cX9_init 45 = .ok (.dup, 1) := by decide +kernel
theorem dX9_init_46 : decode cX9_init 46 = .ok (.sipush 260, 3) := by decide +kernel
theorem dX9_init_49 : decode cX9_init 49 = .ok (.invokespecial 33, 3) := by decide +kernel
theorem dX9_init_52 : decode cX9_init 52 = .ok (.putfield 36, 3) := by decide +kernel
theorem dX9_init_55 : decode cX9_init 55 = .ok (.aload_n 0, 1) := by decide +kernel
theorem dX9_init_56 : decode cX9_init 56 = .ok (.new 31, 3) := by decide +kernel
theorem dX9_init_59 : decode cX9_init 59 = .ok (.dup, 1) := by decide +kernel
theorem dX9_init_60 : decode cX9_init 60 = .ok (.bipush 20, 2) := by decide +kernel
theorem dX9_init_62 : decode cX9_init 62 = .ok (.invokespecial 33, 3) := by decide +kernel
theorem dX9_init_65 : decode cX9_init 65 = .ok (.putfield 40, 3) := by decide +kernel
theorem dX9_init_68 : decode cX9_init 68 = .ok (.aload_n 0, 1) := by decide +kernel
theorem dX9_init_69 : decode cX9_init 69 = .ok (.new 43, 3) := by decide +kernel
theorem dX9_init_72 : decode cX9_init 72 = .ok (.dup, 1) := by decide +kernel
theorem dX9_init_73 : decode cX9_init 73 = .ok (.invokespecial 45, 3) := by decide +kernel
theorem dX9_init_76 : decode cX9_init 76 = .ok (.putfield 46, 3) := by decide +kernel
theorem dX9_init_79 : decode cX9_init 79 = .ok (.aload_n 0, 1) := by decide +kernel
theorem dX9_init_80 : decode cX9_init 80 = .ok (.iconst 0, 1) := by decide +kernel
theorem dX9_init_81 : decode cX9_init 81 = .ok (.putfield 50, 3) := by decide +kernel
theorem dX9_init_84 : decode cX9_init 84 = .ok (.aload_n 0, 1) := by decide +kernel
theorem dX9_init_85 : decode cX9_init 85 = .ok (.iconst (-1), 1) := by decide +kernel
theorem dX9_init_86 : decode cX9_init 86 = .ok (.putfield 54, 3) := by decide +kernel
theorem dX9_init_89 : decode cX9_init 89 = .ok (.aload_n 0, 1) := by decide +kernel
theorem dX9_init_90 : decode cX9_init 90 = .ok (.new 57, 3) := by decide +kernel
theorem dX9_init_93 : decode cX9_init 93 = .ok (.dup, 1) := by decide +kernel
theorem dX9_init_94 : decode cX9_init 94 = .ok (.invokespecial 59, 3) := by decide +kernel
theorem dX9_init_97 : decode cX9_init 97 = .ok (.putfield 60, 3) := by decide +kernel
theorem dX9_init_100 : decode cX9_init 100 = .ok (.aload_n 0, 1) := by decide +kernel
theorem dX9_init_101 : decode cX9_init 101 = .ok (.new 64, 3) := by decide +kernel
theorem dX9_init_104 : decode cX9_init 104 = .ok (.dup, 1) := by decide +kernel
theorem dX9_init_105 : decode cX9_init 105 = .ok (.invokespecial 66, 3) := by decide +kernel
theorem dX9_init_108 : decode cX9_init 108 = .ok (.putfield 67, 3) := by decide +kernel
theorem dX9_init_111 : decode cX9_init 111 = .ok (.aload_n 0, 1) := by decide +kernel
theorem dX9_init_112 : decode cX9_init 112 = .ok (.iconst 0, 1) := by decide +kernel
theorem dX9_init_113 : decode cX9_init 113 = .ok (.putfield 71, 3) := by decide +kernel
theorem dX9_init_116 : decode cX9_init 116 = .ok (.aload_n 0, 1) := by decide +kernel
theorem dX9_init_117 : decode cX9_init 117 = .ok (.new 31, 3) := by decide +kernel
theorem dX9_init_120 : decode cX9_init 120 = .ok (.dup, 1) := by decide +kernel
theorem dX9_init_121 : decode cX9_init 121 = .ok (.iconst 1, 1) := by decide +kernel
theorem dX9_init_122 : decode cX9_init 122 = .ok (.invokespecial 33, 3) := by decide +kernel
theorem dX9_init_125 : decode cX9_init 125 = .ok (.putfield 75, 3) := by decide +kernel
theorem dX9_init_128 : decode cX9_init 128 = .ok (.aload_n 0, 1) := by decide +kernel
theorem dX9_init_129 : decode cX9_init 129 = .ok (.new 64, 3) := by decide +kernel
theorem dX9_init_132 : decode cX9_init 132 = .ok (.dup, 1) := by decide +kernel
theorem dX9_init_133 : decode cX9_init 133 = .ok (.invokespecial 66, 3) := by decide +kernel
theorem dX9_init_136 : decode cX9_init 136 = .ok (.putfield 78, 3) := by decide +kernel
theorem dX9_init_139 : decode cX9_init 139 = .ok (.aload_n 0, 1) := by decide +kernel
theorem dX9_init_140 : decode cX9_init 140 = .ok (.new 81, 3) := by decide +kernel
theorem dX9_init_143 : decode cX9_init 143 = .ok (.dup, 1) := by decide +kernel
theorem dX9_init_144 : decode cX9_init 144 = .ok (.invokespecial 83, 3) := by decide +kernel
theorem dX9_init_147 : decode cX9_init 147 = .ok (.putfield 84, 3) := by decide +kernel
theorem dX9_init_150 : decode cX9_init 150 = .ok (.aload_n 0, 1) := by decide +kernel
theorem dX9_init_151 : decode cX9_init 151 = .ok (.new 88, 3) := by decide +kernel
theorem dX9_init_154 : decode cX9_init 154 = .ok (.dup, 1) := by decide +kernel
theorem dX9_init_155 : decode cX9_init 155 = .ok (.invokespecial 90, 3) := by decide +kernel
theorem dX9_init_158 : decode cX9_init 158 = .ok (.putfield 91, 3) := by decide +kernel
theorem dX9_init_161 : decode cX9_init 161 = .ok (.aload_n 0, 1) := by decide +kernel
theorem dX9_init_162 : decode cX9_init 162 = .ok (.new 95, 3) := by decide +kernel
theorem dX9_init_165 : decode cX9_init 165 = .ok (.dup, 1) := by decide +kernel
theorem dX9_init_166 : decode cX9_init 166 = .ok (.invokespecial 97, 3) := by decide +kernel
theorem dX9_init_169 : decode cX9_init 169 = .ok (.putfield 98, 3) := by decide +kernel
theorem dX9_init_172 : decode cX9_init 172 = .ok (.aload_n 0, 1) := by decide +kernel
theorem dX9_init_173 : decode cX9_init 173 = .ok (.new 31, 3) := by decide +kernel
theorem dX9_init_176 : decode cX9_init 176 = .ok (.dup, 1) := by decide +kernel
theorem dX9_init_177 : decode cX9_init 177 = .ok (.sipush 1082, 3) := by decide +kernel
theorem dX9_init_180 : decode cX9_init 180 = .ok (.invokespecial 33, 3) := by decide +kernel
theorem dX9_init_183 : decode cX9_init 183 = .ok (.putfield 102, 3) := by decide +kernel
theorem dX9_init_186 : decode cX9_init 186 = .ok (.iconst 0, 1) := by decide +kernel
theorem dX9_init_187 : decode cX9_init 187 = .ok (.istore_n 1, 1) := by decide +kernel
theorem dX9_init_188 : decode cX9_init 188 = .ok (.iload_n 1, 1) := by decide +kernel
theorem dX9_init_189 : decode cX9_init 189 = .ok (.iconst 2, 1) := by decide +kernel
theorem dX9_init_190 : decode cX9_init 190 = .ok (.if_icmp .ge 22, 3) := by decide +kernel
theorem dX9_init_193 : decode cX9_init 193 = .ok (.aload_n 0, 1) := by decide +kernel
theorem dX9_init_194 : decode cX9_init 194 = .ok (.getfield 23, 3) := by decide +kernel
theorem dX9_init_197 : decode cX9_init 197 = .ok (.iload_n 1, 1) := by decide +kernel
theorem dX9_init_198 : decode cX9_init 198 = .ok (.new 9, 3) := by decide +kernel
theorem dX9_init_201 : decode cX9_init 201 = .ok (.dup, 1) := by decide +kernel
theorem dX9_init_202 : decode cX9_init 202 = .ok (.invokespecial 11, 3) := by decide +kernel
theorem dX9_init_205 : decode cX9_init 205 = .ok (.aastore, 1) := by decide +kernel
theorem dX9_init_206 : decode cX9_init 206 = .ok (.iinc 1 1, 3) := by decide +kernel
theorem dX9_init_209 : decode cX9_init 209 = .ok (.goto (-21), 3) := by decide +kernel
theorem dX9_init_212 : decode cX9_init 212 = .ok (.return_, 1) := by decide +kernel
theorem dX9_feed_0 : decode cX9_feed 0 = .ok (.aload_n 0, 1) := by decide +kernel
theorem dX9_feed_1 : decode cX9_feed 1 = .ok (.getfield 36, 3) := by decide +kernel
theorem dX9_feed_4 : decode cX9_feed 4 = .ok (.invokevirtual 105, 3) := by decide +kernel
theorem dX9_feed_7 : decode cX9_feed 7 = .ok (.bipush 20, 2) := by decide +kernel
theorem dX9_feed_9 : decode cX9_feed 9 = .ok (.iadd, 1) := by decide +kernel
theorem dX9_feed_10 : decode cX9_feed 10 = .ok (.sipush 260, 3) := by decide +kernel
theorem dX9_feed_13 : decode cX9_feed 13 = .ok (.if_icmp .le 6, 3) := by decide +kernel
theorem dX9_feed_16 : decode cX9_feed 16 = .ok (.bipush (-4), 2) := by decide +kernel
theorem dX9_feed_18 : decode cX9_feed 18 = .ok (.ireturn, 1) := by decide +kernel
theorem dX9_feed_19 : decode cX9_feed 19 = .ok (.aload_n 0, 1) := by decide +kernel
theorem dX9_feed_20 : decode cX9_feed 20 = .ok (.iload_n 1, 1) := by decide +kernel
theorem dX9_feed_21 : decode cX9_feed 21 = .ok (.invokevirtual 109, 3) := by decide +kernel
theorem dX9_feed_24 : decode cX9_feed 24 = .ok (.aload_n 0, 1) := by decide +kernel
theorem dX9_feed_25 : decode cX9_feed 25 = .ok (.iload_n 2, 1) := by decide +kernel
theorem dX9_feed_26 : decode cX9_feed 26 = .ok (.invokevirtual 109, 3) := by decide +kernel
theorem dX9_feed_29 : decode cX9_feed 29 = .ok (.aload_n 0, 1) := by decide +kernel
theorem dX9_feed_30 : decode cX9_feed 30 = .ok (.iload_n 3, 1) := by decide +kernel
theorem dX9_feed_31 : decode cX9_feed 31 = .ok (.invokevirtual 109, 3) := by decide +kernel
theorem dX9_feed_34 : decode cX9_feed 34 = .ok (.aload_n 0, 1) := by decide +kernel
theorem dX9_feed_35 : decode cX9_feed 35 = .ok (.iload 4, 2) := by decide +kernel
theorem dX9_feed_37 : decode cX9_feed 37 = .ok (.invokevirtual 109, 3) := by decide +kernel
theorem dX9_feed_40 : decode cX9_feed 40 = .ok (.aload_n 0, 1) := by decide +kernel
theorem dX9_feed_41 : decode cX9_feed 41 = .ok (.iload 5, 2) := by decide +kernel
theorem dX9_feed_43 : decode cX9_feed 43 = .ok (.invokevirtual 109, 3) := by decide +kernel
theorem dX9_feed_46 : decode cX9_feed 46 = .ok (.aload_n 0, 1) := by decide +kernel
theorem dX9_feed_47 : decode cX9_feed 47 = .ok (.getfield 36, 3) := by decide +kernel
theorem dX9_feed_50 : decode cX9_feed 50 = .ok (.invokevirtual 105, 3) := by decide +kernel
theorem dX9_feed_53 : decode cX9_feed 53 = .ok (.ireturn, 1) := by decide +kernel
theorem dX9_text_0 : decode cX9_text 0 = .ok (.aload_n 0, 1) := by decide +kernel
theorem dX9_text_1 : decode cX9_text 1 = .ok (.iload_n 1, 1) := by decide +kernel
theorem dX9_text_2 : decode cX9_text 2 = .ok (.invokevirtual 112, 3) := by decide +kernel
theorem dX9_text_5 : decode cX9_text 5 = .ok (.ifCond .ne 6, 3) := by decide +kernel
theorem dX9_text_8 : decode cX9_text 8 = .ok (.bipush (-3), 2) := by decide +kernel
theorem dX9_text_10 : decode cX9_text 10 = .ok (.ireturn, 1) := by decide +kernel
theorem dX9_text_11 : decode cX9_text 11 = .ok (.iload_n 1, 1) := by decide +kernel
theorem dX9_text_12 : decode cX9_text 12 = .ok (.sipush 240, 3) := by decide +kernel
theorem dX9_text_15 : decode cX9_text 15 = .ok (.if_icmp .le 12, 3) := by decide +kernel
theorem dX9_text_18 : decode cX9_text 18 = .ok (.aload_n 0, 1) := by decide +kernel
theorem dX9_text_19 : decode cX9_text 19 = .ok (.iconst 0, 1) := by decide +kernel
theorem dX9_text_20 : decode cX9_text 20 = .ok (.iconst (-1), 1) := by decide +kernel
theorem dX9_text_21 : decode cX9_text 21 = .ok (.invokevirtual 116, 3) := by decide +kernel
theorem dX9_text_24 : decode cX9_text 24 = .ok (.bipush (-4), 2) := by decide +kernel
theorem dX9_text_26 : decode cX9_text 26 = .ok (.ireturn, 1) := by decide +kernel
theorem dX9_text_27 : decode cX9_text 27 = .ok (.aload_n 0, 1) := by decide +kernel
theorem dX9_text_28 : decode cX9_text 28 = .ok (.iload_n 1, 1) := by decide +kernel
theorem dX9_text_29 : decode cX9_text 29 = .ok (.invokevirtual 120, 3) := by decide +kernel
theorem dX9_text_32 : decode cX9_text 32 = .ok (.istore_n 2, 1) := by decide +kernel
theorem dX9_text_33 : decode cX9_text 33 = .ok (.iload_n 2, 1) := by decide +kernel
theorem dX9_text_34 : decode cX9_text 34 = .ok (.iconst (-1), 1) := by decide +kernel
theorem dX9_text_35 : decode cX9_text 35 = .ok (.if_icmp .eq 10, 3) := by decide +kernel
theorem dX9_text_38 : decode cX9_text 38 = .ok (.aload_n 0, 1) := by decide +kernel
theorem dX9_text_39 : decode cX9_text 39 = .ok (.iconst 1, 1) := by decide +kernel
theorem dX9_text_40 : decode cX9_text 40 = .ok (.iload_n 2, 1) := by decide +kernel
theorem dX9_text_41 : decode cX9_text 41 = .ok (.invokevirtual 124, 3) := by decide +kernel
theorem dX9_text_44 : decode cX9_text 44 = .ok (.ireturn, 1) := by decide +kernel
theorem dX9_text_45 : decode cX9_text 45 = .ok (.aload_n 0, 1) := by decide +kernel
theorem dX9_text_46 : decode cX9_text 46 = .ok (.getfield 19, 3) := by decide +kernel
theorem dX9_text_49 : decode cX9_text 49 = .ok (.aload_n 0, 1) := by decide +kernel
theorem dX9_text_50 : decode cX9_text 50 = .ok (.getfield 12, 3) := by decide +kernel
theorem dX9_text_53 : decode cX9_text 53 = .ok (.invokevirtual 128, 3) := by decide +kernel
theorem dX9_text_56 : decode cX9_text 56 = .ok (.aload_n 0, 1) := by decide +kernel
theorem dX9_text_57 : decode cX9_text 57 = .ok (.getfield 12, 3) := by decide +kernel
theorem dX9_text_60 : decode cX9_text 60 = .ok (.invokevirtual 132, 3) := by decide +kernel
theorem dX9_text_63 : decode cX9_text 63 = .ok (.aload_n 0, 1) := by decide +kernel
theorem dX9_text_64 : decode cX9_text 64 = .ok (.iload_n 1, 1) := by decide +kernel
theorem dX9_text_65 : decode cX9_text 65 = .ok (.aload_n 0, 1) := by decide +kernel
theorem dX9_text_66 : decode cX9_text 66 = .ok (.getfield 12, 3) := by decide +kernel
theorem dX9_text_69 : decode cX9_text 69 = .ok (.invokevirtual 135, 3) := by decide +kernel
theorem dX9_text_72 : decode cX9_text 72 = .ok (.invokevirtual 139, 3) := by decide +kernel
theorem dX9_text_75 : decode cX9_text 75 = .ok (.aload_n 0, 1) := by decide +kernel
theorem dX9_text_76 : decode cX9_text 76 = .ok (.iconst 0, 1) := by decide +kernel
theorem dX9_text_77 : decode cX9_text 77 = .ok (.putfield 71, 3) := by decide +kernel
theorem dX9_text_80 : decode cX9_text 80 = .ok (.aload_n 0, 1) := by decide +kernel
theorem dX9_text_81 : decode cX9_text 81 = .ok (.iconst 0, 1) := by decide +kernel
theorem dX9_text_82 : decode cX9_text 82 = .ok (.iconst (-1), 1) := by decide +kernel
theorem dX9_text_83 : decode cX9_text 83 = .ok (.invokevirtual 116, 3) := by decide +kernel
theorem dX9_text_86 : decode cX9_text 86 = .ok (.iload_n 1, 1) := by decide +kernel
theorem dX9_text_87 : decode cX9_text 87 = .ok (.ireturn, 1) := by decide +kernel
theorem dX9_phrase_0 : decode cX9_phrase 0 = .ok (.aload_n 0, 1) := by decide +kernel
theorem dX9_phrase_1 : decode cX9_phrase 1 = .ok (.iload_n 1, 1) := by decide +kernel
theorem dX9_phrase_2 : decode cX9_phrase 2 = .ok (.invokevirtual 112, 3) := by decide +kernel
theorem dX9_phrase_5 : decode cX9_phrase 5 = .ok (.ifCond .ne 6, 3) := by decide +kernel
theorem dX9_phrase_8 : decode cX9_phrase 8 = .ok (.bipush (-3), 2) := by decide +kernel
theorem dX9_phrase_10 : decode cX9_phrase 10 = .ok (.ireturn, 1) := by decide +kernel
theorem dX9_phrase_11 : decode cX9_phrase 11 = .ok (.iload_n 1, 1) := by decide +kernel
theorem dX9_phrase_12 : decode cX9_phrase 12 = .ok (.ifCond .eq 9, 3) := by decide +kernel
theorem dX9_phrase_15 : decode cX9_phrase 15 = .ok (.iload_n 1, 1) := by decide +kernel
theorem dX9_phrase_16 : decode cX9_phrase 16 = .ok (.bipush 20, 2) := by decide +kernel
theorem dX9_phrase_18 : decode cX9_phrase 18 = .ok (.if_icmp .le 12, 3) := by decide +kernel
theorem dX9_phrase_21 : decode cX9_phrase 21 = .ok (.aload_n 0, 1) := by decide +kernel
theorem dX9_phrase_22 : decode cX9_phrase 22 = .ok (.iconst 0, 1) := by decide +kernel
theorem dX9_phrase_23 : decode cX9_phrase 23 = .ok (.iconst (-1), 1) := by decide +kernel
theorem dX9_phrase_24 : decode cX9_phrase 24 = .ok (.invokevirtual 116, 3) := by decide +kernel
theorem dX9_phrase_27 : decode cX9_phrase 27 = .ok (.bipush (-4), 2) := by decide +kernel
theorem dX9_phrase_29 : decode cX9_phrase 29 = .ok (.ireturn, 1) := by decide +kernel
theorem dX9_phrase_30 : decode cX9_phrase 30 = .ok (.aload_n 0, 1) := by decide +kernel
theorem dX9_phrase_31 : decode cX9_phrase 31 = .ok (.iload_n 1, 1) := by decide +kernel
theorem dX9_phrase_32 : decode cX9_phrase 32 = .ok (.invokevirtual 120, 3) := by decide +kernel
theorem dX9_phrase_35 : decode cX9_phrase 35 = .ok (.istore_n 2, 1) := by decide +kernel
theorem dX9_phrase_36 : decode cX9_phrase 36 = .ok (.iload_n 2, 1) := by decide +kernel
theorem dX9_phrase_37 : decode cX9_phrase 37 = .ok (.iconst (-1), 1) := by decide +kernel
theorem dX9_phrase_38 : decode cX9_phrase 38 = .ok (.if_icmp .eq 10, 3) := by decide +kernel
theorem dX9_phrase_41 : decode cX9_phrase 41 = .ok (.aload_n 0, 1) := by decide +kernel
theorem dX9_phrase_42 : decode cX9_phrase 42 = .ok (.iconst 1, 1) := by decide +kernel
theorem dX9_phrase_43 : decode cX9_phrase 43 = .ok (.iload_n 2, 1) := by decide +kernel
theorem dX9_phrase_44 : decode cX9_phrase 44 = .ok (.invokevirtual 124, 3) := by decide +kernel
theorem dX9_phrase_47 : decode cX9_phrase 47 = .ok (.ireturn, 1) := by decide +kernel
theorem dX9_phrase_48 : decode cX9_phrase 48 = .ok (.aload_n 0, 1) := by decide +kernel
theorem dX9_phrase_49 : decode cX9_phrase 49 = .ok (.getfield 40, 3) := by decide +kernel
theorem dX9_phrase_52 : decode cX9_phrase 52 = .ok (.invokevirtual 143, 3) := by decide +kernel
theorem dX9_phrase_55 : decode cX9_phrase 55 = .ok (.aload_n 0, 1) := by decide +kernel
theorem dX9_phrase_56 : decode cX9_phrase 56 = .ok (.iload_n 1, 1) := by decide +kernel
theorem dX9_phrase_57 : decode cX9_phrase 57 = .ok (.aload_n 0, 1) := by decide +kernel
theorem dX9_phrase_58 : decode cX9_phrase 58 = .ok (.getfield 40, 3) := by decide +kernel
theorem dX9_phrase_61 : decode cX9_phrase 61 = .ok (.invokevirtual 139, 3) := by decide +kernel
theorem dX9_phrase_64 : decode cX9_phrase 64 = .ok (.aload_n 0, 1) := by decide +kernel
theorem dX9_phrase_65 : decode cX9_phrase 65 = .ok (.iconst 0, 1) := by decide +kernel
theorem dX9_phrase_66 : decode cX9_phrase 66 = .ok (.iconst (-1), 1) := by decide +kernel
theorem dX9_phrase_67 : decode cX9_phrase 67 = .ok (.invokevirtual 116, 3) := by decide +kernel
theorem dX9_phrase_70 : decode cX9_phrase 70 = .ok (.aload_n 0, 1) := by decide +kernel
theorem dX9_phrase_71 : decode cX9_phrase 71 = .ok (.invokevirtual 144, 3) := by decide +kernel
theorem dX9_phrase_74 : decode cX9_phrase 74 = .ok (.aload_n 0, 1) := by decide +kernel
theorem dX9_phrase_75 : decode cX9_phrase 75 = .ok (.getfield 67, 3) := by decide +kernel
theorem dX9_phrase_78 : decode cX9_phrase 78 = .ok (.aload_n 0, 1) := by decide +kernel
theorem dX9_phrase_79 : decode cX9_phrase 79 = .ok (.getfield 40, 3) := by decide +kernel
theorem dX9_phrase_82 : decode cX9_phrase 82 = .ok (.invokevirtual 147, 3) := by decide +kernel
theorem dX9_phrase_85 : decode cX9_phrase 85 = .ok (.ireturn, 1) := by decide +kernel
theorem dX9_load_0 : decode cX9_load 0 = .ok (.aload_n 0, 1) := by decide +kernel
theorem dX9_load_1 : decode cX9_load 1 = .ok (.iload_n 1, 1) := by decide +kernel
theorem dX9_load_2 : decode cX9_load 2 = .ok (.invokevirtual 112, 3) := by decide +kernel
theorem dX9_load_5 : decode cX9_load 5 = .ok (.ifCond .ne 6, 3) := by decide +kernel
theorem dX9_load_8 : decode cX9_load 8 = .ok (.bipush (-3), 2) := by decide +kernel
theorem dX9_load_10 : decode cX9_load 10 = .ok (.ireturn, 1) := by decide +kernel
theorem dX9_load_11 : decode cX9_load 11 = .ok (.aload_n 0, 1) := by decide +kernel
theorem dX9_load_12 : decode cX9_load 12 = .ok (.getfield 46, 3) := by decide +kernel
theorem dX9_load_15 : decode cX9_load 15 = .ok (.aload_n 0, 1) := by decide +kernel
theorem dX9_load_16 : decode cX9_load 16 = .ok (.getfield 36, 3) := by decide +kernel
theorem dX9_load_19 : decode cX9_load 19 = .ok (.iload_n 1, 1) := by decide +kernel
theorem dX9_load_20 : decode cX9_load 20 = .ok (.invokevirtual 151, 3) := by decide +kernel
theorem dX9_load_23 : decode cX9_load 23 = .ok (.aload_n 0, 1) := by decide +kernel
theorem dX9_load_24 : decode cX9_load 24 = .ok (.getfield 46, 3) := by decide +kernel
theorem dX9_load_27 : decode cX9_load 27 = .ok (.invokevirtual 155, 3) := by decide +kernel
theorem dX9_load_30 : decode cX9_load 30 = .ok (.ifCond .eq 22, 3) := by decide +kernel
theorem dX9_load_33 : decode cX9_load 33 = .ok (.aload_n 0, 1) := by decide +kernel
theorem dX9_load_34 : decode cX9_load 34 = .ok (.aload_n 0, 1) := by decide +kernel
theorem dX9_load_35 : decode cX9_load 35 = .ok (.getfield 46, 3) := by decide +kernel
theorem dX9_load_38 : decode cX9_load 38 = .ok (.invokevirtual 155, 3) := by decide +kernel
theorem dX9_load_41 : decode cX9_load 41 = .ok (.aload_n 0, 1) := by decide +kernel
theorem dX9_load_42 : decode cX9_load 42 = .ok (.getfield 46, 3) := by decide +kernel
theorem dX9_load_45 : decode cX9_load 45 = .ok (.invokevirtual 157, 3) := by decide +kernel
theorem dX9_load_48 : decode cX9_load 48 = .ok (.invokevirtual 124, 3) := by decide +kernel
theorem dX9_load_51 : decode cX9_load 51 = .ok (.ireturn, 1) := by decide +kernel
theorem dX9_load_52 : decode cX9_load 52 = .ok (.aload_n 0, 1) := by decide +kernel
theorem dX9_load_53 : decode cX9_load 53 = .ok (.getfield 19, 3) := by decide +kernel
theorem dX9_load_56 : decode cX9_load 56 = .ok (.aload_n 0, 1) := by decide +kernel
theorem dX9_load_57 : decode cX9_load 57 = .ok (.getfield 12, 3) := by decide +kernel
theorem dX9_load_60 : decode cX9_load 60 = .ok (.invokevirtual 128, 3) := by decide +kernel
theorem dX9_load_63 : decode cX9_load 63 = .ok (.aload_n 0, 1) := by decide +kernel
theorem dX9_load_64 : decode cX9_load 64 = .ok (.getfield 12, 3) := by decide +kernel
theorem dX9_load_67 : decode cX9_load 67 = .ok (.aload_n 0, 1) := by decide +kernel
theorem dX9_load_68 : decode cX9_load 68 = .ok (.getfield 46, 3) := by decide +kernel
theorem dX9_load_71 : decode cX9_load 71 = .ok (.invokevirtual 159, 3) := by decide +kernel
theorem dX9_load_74 : decode cX9_load 74 = .ok (.invokevirtual 162, 3) := by decide +kernel
theorem dX9_load_77 : decode cX9_load 77 = .ok (.aload_n 0, 1) := by decide +kernel
theorem dX9_load_78 : decode cX9_load 78 = .ok (.iconst 0, 1) := by decide +kernel
theorem dX9_load_79 : decode cX9_load 79 = .ok (.putfield 71, 3) := by decide +kernel
theorem dX9_load_82 : decode cX9_load 82 = .ok (.aload_n 0, 1) := by decide +kernel
theorem dX9_load_83 : decode cX9_load 83 = .ok (.iconst 0, 1) := by decide +kernel
theorem dX9_load_84 : decode cX9_load 84 = .ok (.iconst (-1), 1) := by decide +kernel
theorem dX9_load_85 : decode cX9_load 85 = .ok (.invokevirtual 116, 3) := by decide +kernel
theorem dX9_load_88 : decode cX9_load 88 = .ok (.aload_n 0, 1) := by decide +kernel
theorem dX9_load_89 : decode cX9_load 89 = .ok (.invokevirtual 165, 3) := by decide +kernel
theorem dX9_load_92 : decode cX9_load 92 = .ok (.ireturn, 1) := by decide +kernel
theorem dX9_fault_0 : decode cX9_fault 0 = .ok (.iload_n 1, 1) := by decide +kernel
theorem dX9_fault_1 : decode cX9_fault 1 = .ok (.ifCond .ne 8, 3) := by decide +kernel
theorem dX9_fault_4 : decode cX9_fault 4 = .ok (.aload_n 0, 1) := by decide +kernel
theorem dX9_fault_5 : decode cX9_fault 5 = .ok (.getfield 50, 3) := by decide +kernel
theorem dX9_fault_8 : decode cX9_fault 8 = .ok (.ireturn, 1) := by decide +kernel
theorem dX9_fault_9 : decode cX9_fault 9 = .ok (.iload_n 1, 1) := by decide +kernel
theorem dX9_fault_10 : decode cX9_fault 10 = .ok (.iconst 1, 1) := by decide +kernel
theorem dX9_fault_11 : decode cX9_fault 11 = .ok (.if_icmp .ne 10, 3) := by decide +kernel
theorem dX9_fault_14 : decode cX9_fault 14 = .ok (.aload_n 0, 1) := by decide +kernel
theorem dX9_fault_15 : decode cX9_fault 15 = .ok (.getfield 54, 3) := by decide +kernel
theorem dX9_fault_18 : decode cX9_fault 18 = .ok (.goto 4, 3) := by decide +kernel
theorem dX9_fault_21 : decode cX9_fault 21 = .ok (.iconst (-1), 1) := by decide +kernel
theorem dX9_fault_22 : decode cX9_fault 22 = .ok (.ireturn, 1) := by decide +kernel
theorem dX9_step_0 : decode cX9_step 0 = .ok (.aload_n 0, 1) := by decide +kernel
theorem dX9_step_1 : decode cX9_step 1 = .ok (.getfield 84, 3) := by decide +kernel
theorem dX9_step_4 : decode cX9_step 4 = .ok (.aload_n 0, 1) := by decide +kernel
theorem dX9_step_5 : decode cX9_step 5 = .ok (.getfield 12, 3) := by decide +kernel
theorem dX9_step_8 : decode cX9_step 8 = .ok (.invokevirtual 135, 3) := by decide +kernel
theorem dX9_step_11 : decode cX9_step 11 = .ok (.invokevirtual 168, 3) := by decide +kernel
theorem dX9_step_14 : decode cX9_step 14 = .ok (.aload_n 0, 1) := by decide +kernel
theorem dX9_step_15 : decode cX9_step 15 = .ok (.getfield 84, 3) := by decide +kernel
theorem dX9_step_18 : decode cX9_step 18 = .ok (.iconst 0, 1) := by decide +kernel
theorem dX9_step_19 : decode cX9_step 19 = .ok (.invokevirtual 172, 3) := by decide +kernel
theorem dX9_step_22 : decode cX9_step 22 = .ok (.istore_n 1, 1) := by decide +kernel
theorem dX9_step_23 : decode cX9_step 23 = .ok (.iload_n 1, 1) := by decide +kernel
theorem dX9_step_24 : decode cX9_step 24 = .ok (.iconst (-1), 1) := by decide +kernel
theorem dX9_step_25 : decode cX9_step 25 = .ok (.if_icmp .ne 5, 3) := by decide +kernel
theorem dX9_step_28 : decode cX9_step 28 = .ok (.iconst (-1), 1) := by decide +kernel
theorem dX9_step_29 : decode cX9_step 29 = .ok (.ireturn, 1) := by decide +kernel
theorem dX9_step_30 : decode cX9_step 30 = .ok (.aload_n 0, 1) := by decide +kernel
theorem dX9_step_31 : decode cX9_step 31 = .ok (.iload_n 1, 1) := by decide +kernel
theorem dX9_step_32 : decode cX9_step 32 = .ok (.invokestatic 175, 3) := by decide +kernel
theorem dX9_step_35 : decode cX9_step 35 = .ok (.iload_n 1, 1) := by decide +kernel
theorem dX9_step_36 : decode cX9_step 36 = .ok (.invokestatic 178, 3) := by decide +kernel
theorem dX9_step_39 : decode cX9_step 39 = .ok (.invokevirtual 181, 3) := by decide +kernel
theorem dX9_step_42 : decode cX9_step 42 = .ok (.ireturn, 1) := by decide +kernel
theorem dX9_pack_0 : decode cX9_pack 0 = .ok (.aload_n 0, 1) := by decide +kernel
theorem dX9_pack_1 : decode cX9_pack 1 = .ok (.getfield 19, 3) := by decide +kernel
theorem dX9_pack_4 : decode cX9_pack 4 = .ok (.aload_n 0, 1) := by decide +kernel
theorem dX9_pack_5 : decode cX9_pack 5 = .ok (.getfield 12, 3) := by decide +kernel
theorem dX9_pack_8 : decode cX9_pack 8 = .ok (.invokevirtual 128, 3) := by decide +kernel
theorem dX9_pack_11 : decode cX9_pack 11 = .ok (.aload_n 0, 1) := by decide +kernel
theorem dX9_pack_12 : decode cX9_pack 12 = .ok (.iconst 0, 1) := by decide +kernel
theorem dX9_pack_13 : decode cX9_pack 13 = .ok (.putfield 71, 3) := by decide +kernel
theorem dX9_pack_16 : decode cX9_pack 16 = .ok (.iconst 0, 1) := by decide +kernel
theorem dX9_pack_17 : decode cX9_pack 17 = .ok (.istore_n 1, 1) := by decide +kernel
theorem dX9_pack_18 : decode cX9_pack 18 = .ok (.iload_n 1, 1) := by decide +kernel
theorem dX9_pack_19 : decode cX9_pack 19 = .ok (.sipush 240, 3) := by decide +kernel
theorem dX9_pack_22 : decode cX9_pack 22 = .ok (.if_icmp .ge 16, 3) := by decide +kernel
theorem dX9_pack_25 : decode cX9_pack 25 = .ok (.aload_n 0, 1) := by decide +kernel
theorem dX9_pack_26 : decode cX9_pack 26 = .ok (.invokevirtual 184, 3) := by decide +kernel
theorem dX9_pack_29 : decode cX9_pack 29 = .ok (.ifCond .eq 9, 3) := by decide +kernel
theorem dX9_pack_32 : decode cX9_pack 32 = .ok (.iinc 1 1, 3) := by decide +kernel
theorem dX9_pack_35 : decode cX9_pack 35 = .ok (.goto (-17), 3) := by decide +kernel
theorem dX9_pack_38 : decode cX9_pack 38 = .ok (.iload_n 1, 1) := by decide +kernel
theorem dX9_pack_39 : decode cX9_pack 39 = .ok (.ireturn, 1) := by decide +kernel
theorem dX9_replace_0 : decode cX9_replace 0 = .ok (.aload_n 0, 1) := by decide +kernel
theorem dX9_replace_1 : decode cX9_replace 1 = .ok (.getfield 12, 3) := by decide +kernel
theorem dX9_replace_4 : decode cX9_replace 4 = .ok (.iload_n 1, 1) := by decide +kernel
theorem dX9_replace_5 : decode cX9_replace 5 = .ok (.invokevirtual 188, 3) := by decide +kernel
theorem dX9_replace_8 : decode cX9_replace 8 = .ok (.ifCond .eq 14, 3) := by decide +kernel
theorem dX9_replace_11 : decode cX9_replace 11 = .ok (.aload_n 0, 1) := by decide +kernel
theorem dX9_replace_12 : decode cX9_replace 12 = .ok (.getfield 12, 3) := by decide +kernel
theorem dX9_replace_15 : decode cX9_replace 15 = .ok (.iload_n 2, 1) := by decide +kernel
theorem dX9_replace_16 : decode cX9_replace 16 = .ok (.invokevirtual 188, 3) := by decide +kernel
theorem dX9_replace_19 : decode cX9_replace 19 = .ok (.ifCond .ne 6, 3) := by decide +kernel
theorem dX9_replace_22 : decode cX9_replace 22 = .ok (.bipush (-2), 2) := by decide +kernel
theorem dX9_replace_24 : decode cX9_replace 24 = .ok (.ireturn, 1) := by decide +kernel
theorem dX9_replace_25 : decode cX9_replace 25 = .ok (.aload_n 0, 1) := by decide +kernel
theorem dX9_replace_26 : decode cX9_replace 26 = .ok (.getfield 84, 3) := by decide +kernel
theorem dX9_replace_29 : decode cX9_replace 29 = .ok (.aload_n 0, 1) := by decide +kernel
theorem dX9_replace_30 : decode cX9_replace 30 = .ok (.getfield 12, 3) := by decide +kernel
theorem dX9_replace_33 : decode cX9_replace 33 = .ok (.invokevirtual 135, 3) := by decide +kernel
theorem dX9_replace_36 : decode cX9_replace 36 = .ok (.invokevirtual 168, 3) := by decide +kernel
theorem dX9_replace_39 : decode cX9_replace 39 = .ok (.aload_n 0, 1) := by decide +kernel
theorem dX9_replace_40 : decode cX9_replace 40 = .ok (.getfield 84, 3) := by decide +kernel
theorem dX9_replace_43 : decode cX9_replace 43 = .ok (.iload_n 1, 1) := by decide +kernel
theorem dX9_replace_44 : decode cX9_replace 44 = .ok (.iload_n 2, 1) := by decide +kernel
theorem dX9_replace_45 : decode cX9_replace 45 = .ok (.invokevirtual 191, 3) := by decide +kernel
theorem dX9_replace_48 : decode cX9_replace 48 = .ok (.ifCond .ne 6, 3) := by decide +kernel
theorem dX9_replace_51 : decode cX9_replace 51 = .ok (.bipush (-5), 2) := by decide +kernel
theorem dX9_replace_53 : decode cX9_replace 53 = .ok (.ireturn, 1) := by decide +kernel
theorem dX9_replace_54 : decode cX9_replace 54 = .ok (.aload_n 0, 1) := by decide +kernel
theorem dX9_replace_55 : decode cX9_replace 55 = .ok (.iload_n 1, 1) := by decide +kernel
theorem dX9_replace_56 : decode cX9_replace 56 = .ok (.iload_n 2, 1) := by decide +kernel
theorem dX9_replace_57 : decode cX9_replace 57 = .ok (.invokevirtual 181, 3) := by decide +kernel
theorem dX9_replace_60 : decode cX9_replace 60 = .ok (.ireturn, 1) := by decide +kernel
theorem dX9_drop_0 : decode cX9_drop 0 = .ok (.aload_n 0, 1) := by decide +kernel
theorem dX9_drop_1 : decode cX9_drop 1 = .ok (.getfield 12, 3) := by decide +kernel
theorem dX9_drop_4 : decode cX9_drop 4 = .ok (.iload_n 1, 1) := by decide +kernel
theorem dX9_drop_5 : decode cX9_drop 5 = .ok (.invokevirtual 194, 3) := by decide +kernel
theorem dX9_drop_8 : decode cX9_drop 8 = .ok (.ifCond .ne 6, 3) := by decide +kernel
theorem dX9_drop_11 : decode cX9_drop 11 = .ok (.bipush (-2), 2) := by decide +kernel
theorem dX9_drop_13 : decode cX9_drop 13 = .ok (.ireturn, 1) := by decide +kernel
theorem dX9_drop_14 : decode cX9_drop 14 = .ok (.aload_n 0, 1) := by decide +kernel
theorem dX9_drop_15 : decode cX9_drop 15 = .ok (.getfield 12, 3) := by decide +kernel
theorem dX9_drop_18 : decode cX9_drop 18 = .ok (.iload_n 1, 1) := by decide +kernel
theorem dX9_drop_19 : decode cX9_drop 19 = .ok (.invokevirtual 197, 3) := by decide +kernel
theorem dX9_drop_22 : decode cX9_drop 22 = .ok (.ifCond .ne 6, 3) := by decide +kernel
theorem dX9_drop_25 : decode cX9_drop 25 = .ok (.bipush (-5), 2) := by decide +kernel
theorem dX9_drop_27 : decode cX9_drop 27 = .ok (.ireturn, 1) := by decide +kernel
theorem dX9_drop_28 : decode cX9_drop 28 = .ok (.aload_n 0, 1) := by decide +kernel
theorem dX9_drop_29 : decode cX9_drop 29 = .ok (.getfield 19, 3) := by decide +kernel
theorem dX9_drop_32 : decode cX9_drop 32 = .ok (.aload_n 0, 1) := by decide +kernel
theorem dX9_drop_33 : decode cX9_drop 33 = .ok (.getfield 12, 3) := by decide +kernel
theorem dX9_drop_36 : decode cX9_drop 36 = .ok (.invokevirtual 128, 3) := by decide +kernel
theorem dX9_drop_39 : decode cX9_drop 39 = .ok (.aload_n 0, 1) := by decide +kernel
theorem dX9_drop_40 : decode cX9_drop 40 = .ok (.getfield 12, 3) := by decide +kernel
theorem dX9_drop_43 : decode cX9_drop 43 = .ok (.iload_n 1, 1) := by decide +kernel
theorem dX9_drop_44 : decode cX9_drop 44 = .ok (.invokevirtual 200, 3) := by decide +kernel
theorem dX9_drop_47 : decode cX9_drop 47 = .ok (.aload_n 0, 1) := by decide +kernel
theorem dX9_drop_48 : decode cX9_drop 48 = .ok (.iconst 0, 1) := by decide +kernel
theorem dX9_drop_49 : decode cX9_drop 49 = .ok (.putfield 71, 3) := by decide +kernel
theorem dX9_drop_52 : decode cX9_drop 52 = .ok (.aload_n 0, 1) := by decide +kernel
theorem dX9_drop_53 : decode cX9_drop 53 = .ok (.getfield 12, 3) := by decide +kernel
theorem dX9_drop_56 : decode cX9_drop 56 = .ok (.invokevirtual 203, 3) := by decide +kernel
theorem dX9_drop_59 : decode cX9_drop 59 = .ok (.ireturn, 1) := by decide +kernel
theorem dX9_trim_0 : decode cX9_trim 0 = .ok (.aload_n 0, 1) := by decide +kernel
theorem dX9_trim_1 : decode cX9_trim 1 = .ok (.getfield 19, 3) := by decide +kernel
theorem dX9_trim_4 : decode cX9_trim 4 = .ok (.aload_n 0, 1) := by decide +kernel
theorem dX9_trim_5 : decode cX9_trim 5 = .ok (.getfield 12, 3) := by decide +kernel
theorem dX9_trim_8 : decode cX9_trim 8 = .ok (.invokevirtual 128, 3) := by decide +kernel
theorem dX9_trim_11 : decode cX9_trim 11 = .ok (.aload_n 0, 1) := by decide +kernel
theorem dX9_trim_12 : decode cX9_trim 12 = .ok (.iconst 0, 1) := by decide +kernel
theorem dX9_trim_13 : decode cX9_trim 13 = .ok (.putfield 71, 3) := by decide +kernel
theorem dX9_trim_16 : decode cX9_trim 16 = .ok (.iconst 0, 1) := by decide +kernel
theorem dX9_trim_17 : decode cX9_trim 17 = .ok (.istore_n 1, 1) := by decide +kernel
theorem dX9_trim_18 : decode cX9_trim 18 = .ok (.iconst 0, 1) := by decide +kernel
theorem dX9_trim_19 : decode cX9_trim 19 = .ok (.istore_n 2, 1) := by decide +kernel
theorem dX9_trim_20 : decode cX9_trim 20 = .ok (.iload_n 2, 1) := by decide +kernel
theorem dX9_trim_21 : decode cX9_trim 21 = .ok (.bipush 60, 2) := by decide +kernel
theorem dX9_trim_23 : decode cX9_trim 23 = .ok (.if_icmp .ge 35, 3) := by decide +kernel
theorem dX9_trim_26 : decode cX9_trim 26 = .ok (.aload_n 0, 1) := by decide +kernel
theorem dX9_trim_27 : decode cX9_trim 27 = .ok (.getfield 12, 3) := by decide +kernel
theorem dX9_trim_30 : decode cX9_trim 30 = .ok (.invokevirtual 204, 3) := by decide +kernel
theorem dX9_trim_33 : decode cX9_trim 33 = .ok (.istore_n 3, 1) := by decide +kernel
theorem dX9_trim_34 : decode cX9_trim 34 = .ok (.iload_n 3, 1) := by decide +kernel
theorem dX9_trim_35 : decode cX9_trim 35 = .ok (.iconst (-1), 1) := by decide +kernel
theorem dX9_trim_36 : decode cX9_trim 36 = .ok (.if_icmp .ne 5, 3) := by decide +kernel
theorem dX9_trim_39 : decode cX9_trim 39 = .ok (.iload_n 1, 1) := by decide +kernel
theorem dX9_trim_40 : decode cX9_trim 40 = .ok (.ireturn, 1) := by decide +kernel
theorem dX9_trim_41 : decode cX9_trim 41 = .ok (.aload_n 0, 1) := by decide +kernel
theorem dX9_trim_42 : decode cX9_trim 42 = .ok (.getfield 12, 3) := by decide +kernel
theorem dX9_trim_45 : decode cX9_trim 45 = .ok (.iload_n 3, 1) := by decide +kernel
theorem dX9_trim_46 : decode cX9_trim 46 = .ok (.invokevirtual 200, 3) := by decide +kernel
theorem dX9_trim_49 : decode cX9_trim 49 = .ok (.iinc 1 1, 3) := by decide +kernel
theorem dX9_trim_52 : decode cX9_trim 52 = .ok (.iinc 2 1, 3) := by decide +kernel
theorem dX9_trim_55 : decode cX9_trim 55 = .ok (.goto (-35), 3) := by decide +kernel
theorem dX9_trim_58 : decode cX9_trim 58 = .ok (.iload_n 1, 1) := by decide +kernel
theorem dX9_trim_59 : decode cX9_trim 59 = .ok (.ireturn, 1) := by decide +kernel
theorem dX9_unpack_0 : decode cX9_unpack 0 = .ok (.aload_n 0, 1) := by decide +kernel
theorem dX9_unpack_1 : decode cX9_unpack 1 = .ok (.invokevirtual 144, 3) := by decide +kernel
theorem dX9_unpack_4 : decode cX9_unpack 4 = .ok (.aload_n 0, 1) := by decide +kernel
theorem dX9_unpack_5 : decode cX9_unpack 5 = .ok (.getfield 19, 3) := by decide +kernel
theorem dX9_unpack_8 : decode cX9_unpack 8 = .ok (.aload_n 0, 1) := by decide +kernel
theorem dX9_unpack_9 : decode cX9_unpack 9 = .ok (.getfield 12, 3) := by decide +kernel
theorem dX9_unpack_12 : decode cX9_unpack 12 = .ok (.invokevirtual 128, 3) := by decide +kernel
theorem dX9_unpack_15 : decode cX9_unpack 15 = .ok (.aload_n 0, 1) := by decide +kernel
theorem dX9_unpack_16 : decode cX9_unpack 16 = .ok (.getfield 12, 3) := by decide +kernel
theorem dX9_unpack_19 : decode cX9_unpack 19 = .ok (.invokevirtual 132, 3) := by decide +kernel
theorem dX9_unpack_22 : decode cX9_unpack 22 = .ok (.iconst 0, 1) := by decide +kernel
theorem dX9_unpack_23 : decode cX9_unpack 23 = .ok (.istore_n 1, 1) := by decide +kernel
theorem dX9_unpack_24 : decode cX9_unpack 24 = .ok (.iload_n 1, 1) := by decide +kernel
theorem dX9_unpack_25 : decode cX9_unpack 25 = .ok (.aload_n 0, 1) := by decide +kernel
theorem dX9_unpack_26 : decode cX9_unpack 26 = .ok (.getfield 67, 3) := by decide +kernel
theorem dX9_unpack_29 : decode cX9_unpack 29 = .ok (.invokevirtual 207, 3) := by decide +kernel
theorem dX9_unpack_32 : decode cX9_unpack 32 = .ok (.if_icmp .ge 27, 3) := by decide +kernel
theorem dX9_unpack_35 : decode cX9_unpack 35 = .ok (.aload_n 0, 1) := by decide +kernel
theorem dX9_unpack_36 : decode cX9_unpack 36 = .ok (.getfield 12, 3) := by decide +kernel
theorem dX9_unpack_39 : decode cX9_unpack 39 = .ok (.invokevirtual 135, 3) := by decide +kernel
theorem dX9_unpack_42 : decode cX9_unpack 42 = .ok (.aload_n 0, 1) := by decide +kernel
theorem dX9_unpack_43 : decode cX9_unpack 43 = .ok (.getfield 67, 3) := by decide +kernel
theorem dX9_unpack_46 : decode cX9_unpack 46 = .ok (.iload_n 1, 1) := by decide +kernel
theorem dX9_unpack_47 : decode cX9_unpack 47 = .ok (.invokevirtual 208, 3) := by decide +kernel
theorem dX9_unpack_50 : decode cX9_unpack 50 = .ok (.invokevirtual 211, 3) := by decide +kernel
theorem dX9_unpack_53 : decode cX9_unpack 53 = .ok (.iinc 1 1, 3) := by decide +kernel
theorem dX9_unpack_56 : decode cX9_unpack 56 = .ok (.goto (-32), 3) := by decide +kernel
theorem dX9_unpack_59 : decode cX9_unpack 59 = .ok (.aload_n 0, 1) := by decide +kernel
theorem dX9_unpack_60 : decode cX9_unpack 60 = .ok (.iconst 0, 1) := by decide +kernel
theorem dX9_unpack_61 : decode cX9_unpack 61 = .ok (.putfield 71, 3) := by decide +kernel
theorem dX9_unpack_64 : decode cX9_unpack 64 = .ok (.aload_n 0, 1) := by decide +kernel
theorem dX9_unpack_65 : decode cX9_unpack 65 = .ok (.getfield 12, 3) := by decide +kernel
theorem dX9_unpack_68 : decode cX9_unpack 68 = .ok (.invokevirtual 135, 3) := by decide +kernel
theorem dX9_unpack_71 : decode cX9_unpack 71 = .ok (.invokevirtual 105, 3) := by decide +kernel
theorem dX9_unpack_74 : decode cX9_unpack 74 = .ok (.ireturn, 1) := by decide +kernel
theorem dX9_put_0 : decode cX9_put 0 = .ok (.iload_n 2, 1) := by decide +kernel
theorem dX9_put_1 : decode cX9_put 1 = .ok (.invokestatic 214, 3) := by decide +kernel
theorem dX9_put_4 : decode cX9_put 4 = .ok (.ifCond .ne 6, 3) := by decide +kernel
theorem dX9_put_7 : decode cX9_put 7 = .ok (.bipush (-2), 2) := by decide +kernel
theorem dX9_put_9 : decode cX9_put 9 = .ok (.ireturn, 1) := by decide +kernel
theorem dX9_put_10 : decode cX9_put 10 = .ok (.aload_n 0, 1) := by decide +kernel
theorem dX9_put_11 : decode cX9_put 11 = .ok (.invokevirtual 144, 3) := by decide +kernel
theorem dX9_put_14 : decode cX9_put 14 = .ok (.aload_n 0, 1) := by decide +kernel
theorem dX9_put_15 : decode cX9_put 15 = .ok (.getfield 67, 3) := by decide +kernel
theorem dX9_put_18 : decode cX9_put 18 = .ok (.iload_n 1, 1) := by decide +kernel
theorem dX9_put_19 : decode cX9_put 19 = .ok (.invokevirtual 217, 3) := by decide +kernel
theorem dX9_put_22 : decode cX9_put 22 = .ok (.ifCond .ne 6, 3) := by decide +kernel
theorem dX9_put_25 : decode cX9_put 25 = .ok (.bipush (-5), 2) := by decide +kernel
theorem dX9_put_27 : decode cX9_put 27 = .ok (.ireturn, 1) := by decide +kernel
theorem dX9_put_28 : decode cX9_put 28 = .ok (.aload_n 0, 1) := by decide +kernel
theorem dX9_put_29 : decode cX9_put 29 = .ok (.getfield 67, 3) := by decide +kernel
theorem dX9_put_32 : decode cX9_put 32 = .ok (.iload_n 1, 1) := by decide +kernel
theorem dX9_put_33 : decode cX9_put 33 = .ok (.invokevirtual 208, 3) := by decide +kernel
theorem dX9_put_36 : decode cX9_put 36 = .ok (.istore_n 3, 1) := by decide +kernel
theorem dX9_put_37 : decode cX9_put 37 = .ok (.aload_n 0, 1) := by decide +kernel
theorem dX9_put_38 : decode cX9_put 38 = .ok (.getfield 19, 3) := by decide +kernel
theorem dX9_put_41 : decode cX9_put 41 = .ok (.aload_n 0, 1) := by decide +kernel
theorem dX9_put_42 : decode cX9_put 42 = .ok (.getfield 12, 3) := by decide +kernel
theorem dX9_put_45 : decode cX9_put 45 = .ok (.invokevirtual 128, 3) := by decide +kernel
theorem dX9_put_48 : decode cX9_put 48 = .ok (.aload_n 0, 1) := by decide +kernel
theorem dX9_put_49 : decode cX9_put 49 = .ok (.getfield 12, 3) := by decide +kernel
theorem dX9_put_52 : decode cX9_put 52 = .ok (.iload_n 1, 1) := by decide +kernel
theorem dX9_put_53 : decode cX9_put 53 = .ok (.aload_n 0, 1) := by decide +kernel
theorem dX9_put_54 : decode cX9_put 54 = .ok (.getfield 60, 3) := by decide +kernel
theorem dX9_put_57 : decode cX9_put 57 = .ok (.invokevirtual 220, 3) := by decide +kernel
theorem dX9_put_60 : decode cX9_put 60 = .ok (.istore 4, 2) := by decide +kernel
theorem dX9_put_62 : decode cX9_put 62 = .ok (.aload_n 0, 1) := by decide +kernel
theorem dX9_put_63 : decode cX9_put 63 = .ok (.getfield 12, 3) := by decide +kernel
theorem dX9_put_66 : decode cX9_put 66 = .ok (.iload_n 1, 1) := by decide +kernel
theorem dX9_put_67 : decode cX9_put 67 = .ok (.iconst 1, 1) := by decide +kernel
theorem dX9_put_68 : decode cX9_put 68 = .ok (.iadd, 1) := by decide +kernel
theorem dX9_put_69 : decode cX9_put 69 = .ok (.aload_n 0, 1) := by decide +kernel
theorem dX9_put_70 : decode cX9_put 70 = .ok (.getfield 60, 3) := by decide +kernel
theorem dX9_put_73 : decode cX9_put 73 = .ok (.invokevirtual 220, 3) := by decide +kernel
theorem dX9_put_76 : decode cX9_put 76 = .ok (.pop, 1) := by decide +kernel
theorem dX9_put_77 : decode cX9_put 77 = .ok (.aload_n 0, 1) := by decide +kernel
theorem dX9_put_78 : decode cX9_put 78 = .ok (.getfield 12, 3) := by decide +kernel
theorem dX9_put_81 : decode cX9_put 81 = .ok (.invokevirtual 135, 3) := by decide +kernel
theorem dX9_put_84 : decode cX9_put 84 = .ok (.iload 4, 2) := by decide +kernel
theorem dX9_put_86 : decode cX9_put 86 = .ok (.iload_n 2, 1) := by decide +kernel
theorem dX9_put_87 : decode cX9_put 87 = .ok (.invokevirtual 224, 3) := by decide +kernel
theorem dX9_put_90 : decode cX9_put 90 = .ok (.aload_n 0, 1) := by decide +kernel
theorem dX9_put_91 : decode cX9_put 91 = .ok (.iconst 0, 1) := by decide +kernel
theorem dX9_put_92 : decode cX9_put 92 = .ok (.putfield 71, 3) := by decide +kernel
theorem dX9_put_95 : decode cX9_put 95 = .ok (.iload_n 3, 1) := by decide +kernel
theorem dX9_put_96 : decode cX9_put 96 = .ok (.ireturn, 1) := by decide +kernel
theorem dX9_cut_0 : decode cX9_cut 0 = .ok (.iload_n 2, 1) := by decide +kernel
theorem dX9_cut_1 : decode cX9_cut 1 = .ok (.iconst 1, 1) := by decide +kernel
theorem dX9_cut_2 : decode cX9_cut 2 = .ok (.if_icmp .ge 6, 3) := by decide +kernel
theorem dX9_cut_5 : decode cX9_cut 5 = .ok (.bipush (-3), 2) := by decide +kernel
theorem dX9_cut_7 : decode cX9_cut 7 = .ok (.ireturn, 1) := by decide +kernel
theorem dX9_cut_8 : decode cX9_cut 8 = .ok (.aload_n 0, 1) := by decide +kernel
theorem dX9_cut_9 : decode cX9_cut 9 = .ok (.iload_n 1, 1) := by decide +kernel
theorem dX9_cut_10 : decode cX9_cut 10 = .ok (.iload_n 2, 1) := by decide +kernel
theorem dX9_cut_11 : decode cX9_cut 11 = .ok (.invokevirtual 227, 3) := by decide +kernel
theorem dX9_cut_14 : decode cX9_cut 14 = .ok (.ifCond .ne 6, 3) := by decide +kernel
theorem dX9_cut_17 : decode cX9_cut 17 = .ok (.bipush (-5), 2) := by decide +kernel
theorem dX9_cut_19 : decode cX9_cut 19 = .ok (.ireturn, 1) := by decide +kernel
theorem dX9_cut_20 : decode cX9_cut 20 = .ok (.aload_n 0, 1) := by decide +kernel
theorem dX9_cut_21 : decode cX9_cut 21 = .ok (.getfield 19, 3) := by decide +kernel
theorem dX9_cut_24 : decode cX9_cut 24 = .ok (.aload_n 0, 1) := by decide +kernel
theorem dX9_cut_25 : decode cX9_cut 25 = .ok (.getfield 12, 3) := by decide +kernel
theorem dX9_cut_28 : decode cX9_cut 28 = .ok (.invokevirtual 128, 3) := by decide +kernel
theorem dX9_cut_31 : decode cX9_cut 31 = .ok (.aload_n 0, 1) := by decide +kernel
theorem dX9_cut_32 : decode cX9_cut 32 = .ok (.getfield 12, 3) := by decide +kernel
theorem dX9_cut_35 : decode cX9_cut 35 = .ok (.iload_n 1, 1) := by decide +kernel
theorem dX9_cut_36 : decode cX9_cut 36 = .ok (.aload_n 0, 1) := by decide +kernel
theorem dX9_cut_37 : decode cX9_cut 37 = .ok (.getfield 60, 3) := by decide +kernel
theorem dX9_cut_40 : decode cX9_cut 40 = .ok (.invokevirtual 220, 3) := by decide +kernel
theorem dX9_cut_43 : decode cX9_cut 43 = .ok (.istore_n 3, 1) := by decide +kernel
theorem dX9_cut_44 : decode cX9_cut 44 = .ok (.aload_n 0, 1) := by decide +kernel
theorem dX9_cut_45 : decode cX9_cut 45 = .ok (.getfield 12, 3) := by decide +kernel
theorem dX9_cut_48 : decode cX9_cut 48 = .ok (.iload_n 1, 1) := by decide +kernel
theorem dX9_cut_49 : decode cX9_cut 49 = .ok (.iload_n 2, 1) := by decide +kernel
theorem dX9_cut_50 : decode cX9_cut 50 = .ok (.iadd, 1) := by decide +kernel
theorem dX9_cut_51 : decode cX9_cut 51 = .ok (.aload_n 0, 1) := by decide +kernel
theorem dX9_cut_52 : decode cX9_cut 52 = .ok (.getfield 60, 3) := by decide +kernel
theorem dX9_cut_55 : decode cX9_cut 55 = .ok (.invokevirtual 220, 3) := by decide +kernel
theorem dX9_cut_58 : decode cX9_cut 58 = .ok (.istore 4, 2) := by decide +kernel
theorem dX9_cut_60 : decode cX9_cut 60 = .ok (.aload_n 0, 1) := by decide +kernel
theorem dX9_cut_61 : decode cX9_cut 61 = .ok (.getfield 12, 3) := by decide +kernel
theorem dX9_cut_64 : decode cX9_cut 64 = .ok (.invokevirtual 135, 3) := by decide +kernel
theorem dX9_cut_67 : decode cX9_cut 67 = .ok (.iload_n 3, 1) := by decide +kernel
theorem dX9_cut_68 : decode cX9_cut 68 = .ok (.iload 4, 2) := by decide +kernel
theorem dX9_cut_70 : decode cX9_cut 70 = .ok (.iload_n 3, 1) := by decide +kernel
theorem dX9_cut_71 : decode cX9_cut 71 = .ok (.isub, 1) := by decide +kernel
theorem dX9_cut_72 : decode cX9_cut 72 = .ok (.invokevirtual 231, 3) := by decide +kernel
theorem dX9_cut_75 : decode cX9_cut 75 = .ok (.aload_n 0, 1) := by decide +kernel
theorem dX9_cut_76 : decode cX9_cut 76 = .ok (.iconst 0, 1) := by decide +kernel
theorem dX9_cut_77 : decode cX9_cut 77 = .ok (.putfield 71, 3) := by decide +kernel
theorem dX9_cut_80 : decode cX9_cut 80 = .ok (.aload_n 0, 1) := by decide +kernel
theorem dX9_cut_81 : decode cX9_cut 81 = .ok (.invokevirtual 165, 3) := by decide +kernel
theorem dX9_cut_84 : decode cX9_cut 84 = .ok (.ireturn, 1) := by decide +kernel
theorem dX9_insert_0 : decode cX9_insert 0 = .ok (.iload_n 2, 1) := by decide +kernel
theorem dX9_insert_1 : decode cX9_insert 1 = .ok (.invokestatic 214, 3) := by decide +kernel
theorem dX9_insert_4 : decode cX9_insert 4 = .ok (.ifCond .ne 6, 3) := by decide +kernel
theorem dX9_insert_7 : decode cX9_insert 7 = .ok (.bipush (-2), 2) := by decide +kernel
theorem dX9_insert_9 : decode cX9_insert 9 = .ok (.ireturn, 1) := by decide +kernel
theorem dX9_insert_10 : decode cX9_insert 10 = .ok (.aload_n 0, 1) := by decide +kernel
theorem dX9_insert_11 : decode cX9_insert 11 = .ok (.invokevirtual 144, 3) := by decide +kernel
theorem dX9_insert_14 : decode cX9_insert 14 = .ok (.iload_n 1, 1) := by decide +kernel
theorem dX9_insert_15 : decode cX9_insert 15 = .ok (.ifCond .lt 14, 3) := by decide +kernel
theorem dX9_insert_18 : decode cX9_insert 18 = .ok (.iload_n 1, 1) := by decide +kernel
theorem dX9_insert_19 : decode cX9_insert 19 = .ok (.aload_n 0, 1) := by decide +kernel
theorem dX9_insert_20 : decode cX9_insert 20 = .ok (.getfield 67, 3) := by decide +kernel
theorem dX9_insert_23 : decode cX9_insert 23 = .ok (.invokevirtual 207, 3) := by decide +kernel
theorem dX9_insert_26 : decode cX9_insert 26 = .ok (.if_icmp .le 6, 3) := by decide +kernel
theorem dX9_insert_29 : decode cX9_insert 29 = .ok (.bipush (-5), 2) := by decide +kernel
theorem dX9_insert_31 : decode cX9_insert 31 = .ok (.ireturn, 1) := by decide +kernel
theorem dX9_insert_32 : decode cX9_insert 32 = .ok (.aload_n 0, 1) := by decide +kernel
theorem dX9_insert_33 : decode cX9_insert 33 = .ok (.getfield 67, 3) := by decide +kernel
theorem dX9_insert_36 : decode cX9_insert 36 = .ok (.invokevirtual 207, 3) := by decide +kernel
theorem dX9_insert_39 : decode cX9_insert 39 = .ok (.sipush 240, 3) := by decide +kernel
theorem dX9_insert_42 : decode cX9_insert 42 = .ok (.if_icmp .ne 6, 3) := by decide +kernel
theorem dX9_insert_45 : decode cX9_insert 45 = .ok (.bipush (-4), 2) := by decide +kernel
theorem dX9_insert_47 : decode cX9_insert 47 = .ok (.ireturn, 1) := by decide +kernel
theorem dX9_insert_48 : decode cX9_insert 48 = .ok (.aload_n 0, 1) := by decide +kernel
theorem dX9_insert_49 : decode cX9_insert 49 = .ok (.getfield 19, 3) := by decide +kernel
theorem dX9_insert_52 : decode cX9_insert 52 = .ok (.aload_n 0, 1) := by decide +kernel
theorem dX9_insert_53 : decode cX9_insert 53 = .ok (.getfield 12, 3) := by decide +kernel
theorem dX9_insert_56 : decode cX9_insert 56 = .ok (.invokevirtual 128, 3) := by decide +kernel
theorem dX9_insert_59 : decode cX9_insert 59 = .ok (.aload_n 0, 1) := by decide +kernel
theorem dX9_insert_60 : decode cX9_insert 60 = .ok (.getfield 12, 3) := by decide +kernel
theorem dX9_insert_63 : decode cX9_insert 63 = .ok (.invokevirtual 135, 3) := by decide +kernel
theorem dX9_insert_66 : decode cX9_insert 66 = .ok (.aload_n 0, 1) := by decide +kernel
theorem dX9_insert_67 : decode cX9_insert 67 = .ok (.getfield 12, 3) := by decide +kernel
theorem dX9_insert_70 : decode cX9_insert 70 = .ok (.iload_n 1, 1) := by decide +kernel
theorem dX9_insert_71 : decode cX9_insert 71 = .ok (.aload_n 0, 1) := by decide +kernel
theorem dX9_insert_72 : decode cX9_insert 72 = .ok (.getfield 60, 3) := by decide +kernel
theorem dX9_insert_75 : decode cX9_insert 75 = .ok (.invokevirtual 220, 3) := by decide +kernel
theorem dX9_insert_78 : decode cX9_insert 78 = .ok (.iload_n 2, 1) := by decide +kernel
theorem dX9_insert_79 : decode cX9_insert 79 = .ok (.invokevirtual 234, 3) := by decide +kernel
theorem dX9_insert_82 : decode cX9_insert 82 = .ok (.aload_n 0, 1) := by decide +kernel
theorem dX9_insert_83 : decode cX9_insert 83 = .ok (.iconst 0, 1) := by decide +kernel
theorem dX9_insert_84 : decode cX9_insert 84 = .ok (.putfield 71, 3) := by decide +kernel
theorem dX9_insert_87 : decode cX9_insert 87 = .ok (.aload_n 0, 1) := by decide +kernel
theorem dX9_insert_88 : decode cX9_insert 88 = .ok (.invokevirtual 165, 3) := by decide +kernel
theorem dX9_insert_91 : decode cX9_insert 91 = .ok (.ireturn, 1) := by decide +kernel
theorem dX9_sign_0 : decode cX9_sign 0 = .ok (.iload_n 1, 1) := by decide +kernel
theorem dX9_sign_1 : decode cX9_sign 1 = .ok (.ifCond .ge 8, 3) := by decide +kernel
theorem dX9_sign_4 : decode cX9_sign 4 = .ok (.bipush (-3), 2) := by decide +kernel
theorem dX9_sign_6 : decode cX9_sign 6 = .ok (.goto 14, 3) := by decide +kernel
theorem dX9_sign_9 : decode cX9_sign 9 = .ok (.aload_n 0, 1) := by decide +kernel
theorem dX9_sign_10 : decode cX9_sign 10 = .ok (.getfield 12, 3) := by decide +kernel
theorem dX9_sign_13 : decode cX9_sign 13 = .ok (.invokevirtual 135, 3) := by decide +kernel
theorem dX9_sign_16 : decode cX9_sign 16 = .ok (.iload_n 1, 1) := by decide +kernel
theorem dX9_sign_17 : decode cX9_sign 17 = .ok (.invokevirtual 237, 3) := by decide +kernel
theorem dX9_sign_20 : decode cX9_sign 20 = .ok (.ireturn, 1) := by decide +kernel
theorem dX9_rule_0 : decode cX9_rule 0 = .ok (.aload_n 0, 1) := by decide +kernel
theorem dX9_rule_1 : decode cX9_rule 1 = .ok (.getfield 12, 3) := by decide +kernel
theorem dX9_rule_4 : decode cX9_rule 4 = .ok (.iload_n 1, 1) := by decide +kernel
theorem dX9_rule_5 : decode cX9_rule 5 = .ok (.invokevirtual 188, 3) := by decide +kernel
theorem dX9_rule_8 : decode cX9_rule 8 = .ok (.ifCond .ne 6, 3) := by decide +kernel
theorem dX9_rule_11 : decode cX9_rule 11 = .ok (.bipush (-2), 2) := by decide +kernel
theorem dX9_rule_13 : decode cX9_rule 13 = .ok (.ireturn, 1) := by decide +kernel
theorem dX9_rule_14 : decode cX9_rule 14 = .ok (.aload_n 0, 1) := by decide +kernel
theorem dX9_rule_15 : decode cX9_rule 15 = .ok (.invokevirtual 144, 3) := by decide +kernel
theorem dX9_rule_18 : decode cX9_rule 18 = .ok (.iload_n 2, 1) := by decide +kernel
theorem dX9_rule_19 : decode cX9_rule 19 = .ok (.tableswitch 94 0 5 #[37, 49, 58, 67, 76, 88], 37) := by decide +kernel
theorem dX9_rule_56 : decode cX9_rule 56 = .ok (.aload_n 0, 1) := by decide +kernel
theorem dX9_rule_57 : decode cX9_rule 57 = .ok (.getfield 12, 3) := by decide +kernel
theorem dX9_rule_60 : decode cX9_rule 60 = .ok (.iload_n 1, 1) := by decide +kernel
theorem dX9_rule_61 : decode cX9_rule 61 = .ok (.invokevirtual 240, 3) := by decide +kernel
theorem dX9_rule_64 : decode cX9_rule 64 = .ok (.invokevirtual 105, 3) := by decide +kernel
theorem dX9_rule_67 : decode cX9_rule 67 = .ok (.ireturn, 1) := by decide +kernel
theorem dX9_rule_68 : decode cX9_rule 68 = .ok (.aload_n 0, 1) := by decide +kernel
theorem dX9_rule_69 : decode cX9_rule 69 = .ok (.getfield 60, 3) := by decide +kernel
theorem dX9_rule_72 : decode cX9_rule 72 = .ok (.iload_n 1, 1) := by decide +kernel
theorem dX9_rule_73 : decode cX9_rule 73 = .ok (.invokevirtual 244, 3) := by decide +kernel
theorem dX9_rule_76 : decode cX9_rule 76 = .ok (.ireturn, 1) := by decide +kernel
theorem dX9_rule_77 : decode cX9_rule 77 = .ok (.aload_n 0, 1) := by decide +kernel
theorem dX9_rule_78 : decode cX9_rule 78 = .ok (.getfield 60, 3) := by decide +kernel
theorem dX9_rule_81 : decode cX9_rule 81 = .ok (.iload_n 1, 1) := by decide +kernel
theorem dX9_rule_82 : decode cX9_rule 82 = .ok (.invokevirtual 247, 3) := by decide +kernel
theorem dX9_rule_85 : decode cX9_rule 85 = .ok (.ireturn, 1) := by decide +kernel
theorem dX9_rule_86 : decode cX9_rule 86 = .ok (.aload_n 0, 1) := by decide +kernel
theorem dX9_rule_87 : decode cX9_rule 87 = .ok (.getfield 12, 3) := by decide +kernel
theorem dX9_rule_90 : decode cX9_rule 90 = .ok (.iload_n 1, 1) := by decide +kernel
theorem dX9_rule_91 : decode cX9_rule 91 = .ok (.invokevirtual 250, 3) := by decide +kernel
theorem dX9_rule_94 : decode cX9_rule 94 = .ok (.ireturn, 1) := by decide +kernel
theorem dX9_rule_95 : decode cX9_rule 95 = .ok (.aload_n 0, 1) := by decide +kernel
theorem dX9_rule_96 : decode cX9_rule 96 = .ok (.getfield 12, 3) := by decide +kernel
theorem dX9_rule_99 : decode cX9_rule 99 = .ok (.invokevirtual 135, 3) := by decide +kernel
theorem dX9_rule_102 : decode cX9_rule 102 = .ok (.iload_n 1, 1) := by decide +kernel
theorem dX9_rule_103 : decode cX9_rule 103 = .ok (.invokevirtual 253, 3) := by decide +kernel
theorem dX9_rule_106 : decode cX9_rule 106 = .ok (.ireturn, 1) := by decide +kernel
theorem dX9_rule_107 : decode cX9_rule 107 = .ok (.aload_n 0, 1) := by decide +kernel
theorem dX9_rule_108 : decode cX9_rule 108 = .ok (.iload_n 1, 1) := by decide +kernel
theorem dX9_rule_109 : decode cX9_rule 109 = .ok (.invokevirtual 256, 3) := by decide +kernel
theorem dX9_rule_112 : decode cX9_rule 112 = .ok (.ireturn, 1) := by decide +kernel
theorem dX9_rule_113 : decode cX9_rule 113 = .ok (.aload_n 0, 1) := by decide +kernel
theorem dX9_rule_114 : decode cX9_rule 114 = .ok (.iload_n 1, 1) := by decide +kernel
theorem dX9_rule_115 : decode cX9_rule 115 = .ok (.iload_n 2, 1) := by decide +kernel
theorem dX9_rule_116 : decode cX9_rule 116 = .ok (.invokevirtual 259, 3) := by decide +kernel
theorem dX9_rule_119 : decode cX9_rule 119 = .ok (.ireturn, 1) := by decide +kernel
theorem dX9_word_0 : decode cX9_word 0 = .ok (.aload_n 0, 1) := by decide +kernel
theorem dX9_word_1 : decode cX9_word 1 = .ok (.getfield 12, 3) := by decide +kernel
theorem dX9_word_4 : decode cX9_word 4 = .ok (.iload_n 1, 1) := by decide +kernel
theorem dX9_word_5 : decode cX9_word 5 = .ok (.invokevirtual 188, 3) := by decide +kernel
theorem dX9_word_8 : decode cX9_word 8 = .ok (.ifCond .ne 6, 3) := by decide +kernel
theorem dX9_word_11 : decode cX9_word 11 = .ok (.bipush (-2), 2) := by decide +kernel
theorem dX9_word_13 : decode cX9_word 13 = .ok (.ireturn, 1) := by decide +kernel
theorem dX9_word_14 : decode cX9_word 14 = .ok (.iload_n 2, 1) := by decide +kernel
theorem dX9_word_15 : decode cX9_word 15 = .ok (.ifCond .ge 6, 3) := by decide +kernel
theorem dX9_word_18 : decode cX9_word 18 = .ok (.bipush (-3), 2) := by decide +kernel
theorem dX9_word_20 : decode cX9_word 20 = .ok (.ireturn, 1) := by decide +kernel
theorem dX9_word_21 : decode cX9_word 21 = .ok (.aload_n 0, 1) := by decide +kernel
theorem dX9_word_22 : decode cX9_word 22 = .ok (.invokevirtual 144, 3) := by decide +kernel
theorem dX9_word_25 : decode cX9_word 25 = .ok (.iload_n 2, 1) := by decide +kernel
theorem dX9_word_26 : decode cX9_word 26 = .ok (.aload_n 0, 1) := by decide +kernel
theorem dX9_word_27 : decode cX9_word 27 = .ok (.getfield 60, 3) := by decide +kernel
theorem dX9_word_30 : decode cX9_word 30 = .ok (.iload_n 1, 1) := by decide +kernel
theorem dX9_word_31 : decode cX9_word 31 = .ok (.invokevirtual 244, 3) := by decide +kernel
theorem dX9_word_34 : decode cX9_word 34 = .ok (.if_icmp .lt 5, 3) := by decide +kernel
theorem dX9_word_37 : decode cX9_word 37 = .ok (.iconst (-1), 1) := by decide +kernel
theorem dX9_word_38 : decode cX9_word 38 = .ok (.ireturn, 1) := by decide +kernel
theorem dX9_word_39 : decode cX9_word 39 = .ok (.aload_n 0, 1) := by decide +kernel
theorem dX9_word_40 : decode cX9_word 40 = .ok (.getfield 60, 3) := by decide +kernel
theorem dX9_word_43 : decode cX9_word 43 = .ok (.aload_n 0, 1) := by decide +kernel
theorem dX9_word_44 : decode cX9_word 44 = .ok (.getfield 12, 3) := by decide +kernel
theorem dX9_word_47 : decode cX9_word 47 = .ok (.iload_n 1, 1) := by decide +kernel
theorem dX9_word_48 : decode cX9_word 48 = .ok (.iload_n 2, 1) := by decide +kernel
theorem dX9_word_49 : decode cX9_word 49 = .ok (.bipush 60, 2) := by decide +kernel
theorem dX9_word_51 : decode cX9_word 51 = .ok (.invokevirtual 262, 3) := by decide +kernel
theorem dX9_word_54 : decode cX9_word 54 = .ok (.aload_n 0, 1) := by decide +kernel
theorem dX9_word_55 : decode cX9_word 55 = .ok (.getfield 60, 3) := by decide +kernel
theorem dX9_word_58 : decode cX9_word 58 = .ok (.invokevirtual 266, 3) := by decide +kernel
theorem dX9_word_61 : decode cX9_word 61 = .ok (.ireturn, 1) := by decide +kernel
theorem dX9_pairs_0 : decode cX9_pairs 0 = .ok (.aload_n 0, 1) := by decide +kernel
theorem dX9_pairs_1 : decode cX9_pairs 1 = .ok (.getfield 12, 3) := by decide +kernel
theorem dX9_pairs_4 : decode cX9_pairs 4 = .ok (.iload_n 1, 1) := by decide +kernel
theorem dX9_pairs_5 : decode cX9_pairs 5 = .ok (.invokevirtual 188, 3) := by decide +kernel
theorem dX9_pairs_8 : decode cX9_pairs 8 = .ok (.ifCond .eq 14, 3) := by decide +kernel
theorem dX9_pairs_11 : decode cX9_pairs 11 = .ok (.aload_n 0, 1) := by decide +kernel
theorem dX9_pairs_12 : decode cX9_pairs 12 = .ok (.getfield 12, 3) := by decide +kernel
theorem dX9_pairs_15 : decode cX9_pairs 15 = .ok (.iload_n 2, 1) := by decide +kernel
theorem dX9_pairs_16 : decode cX9_pairs 16 = .ok (.invokevirtual 188, 3) := by decide +kernel
theorem dX9_pairs_19 : decode cX9_pairs 19 = .ok (.ifCond .ne 6, 3) := by decide +kernel
theorem dX9_pairs_22 : decode cX9_pairs 22 = .ok (.bipush (-2), 2) := by decide +kernel
theorem dX9_pairs_24 : decode cX9_pairs 24 = .ok (.ireturn, 1) := by decide +kernel
theorem dX9_pairs_25 : decode cX9_pairs 25 = .ok (.aload_n 0, 1) := by decide +kernel
theorem dX9_pairs_26 : decode cX9_pairs 26 = .ok (.getfield 84, 3) := by decide +kernel
theorem dX9_pairs_29 : decode cX9_pairs 29 = .ok (.aload_n 0, 1) := by decide +kernel
theorem dX9_pairs_30 : decode cX9_pairs 30 = .ok (.getfield 12, 3) := by decide +kernel
theorem dX9_pairs_33 : decode cX9_pairs 33 = .ok (.invokevirtual 135, 3) := by decide +kernel
theorem dX9_pairs_36 : decode cX9_pairs 36 = .ok (.invokevirtual 168, 3) := by decide +kernel
theorem dX9_pairs_39 : decode cX9_pairs 39 = .ok (.aload_n 0, 1) := by decide +kernel
theorem dX9_pairs_40 : decode cX9_pairs 40 = .ok (.getfield 84, 3) := by decide +kernel
theorem dX9_pairs_43 : decode cX9_pairs 43 = .ok (.iload_n 1, 1) := by decide +kernel
theorem dX9_pairs_44 : decode cX9_pairs 44 = .ok (.iload_n 2, 1) := by decide +kernel
theorem dX9_pairs_45 : decode cX9_pairs 45 = .ok (.invokevirtual 191, 3) := by decide +kernel
theorem dX9_pairs_48 : decode cX9_pairs 48 = .ok (.ireturn, 1) := by decide +kernel
theorem dX9_pick_0 : decode cX9_pick 0 = .ok (.iload_n 1, 1) := by decide +kernel
theorem dX9_pick_1 : decode cX9_pick 1 = .ok (.ifCond .ge 6, 3) := by decide +kernel
theorem dX9_pick_4 : decode cX9_pick 4 = .ok (.bipush (-3), 2) := by decide +kernel
theorem dX9_pick_6 : decode cX9_pick 6 = .ok (.ireturn, 1) := by decide +kernel
theorem dX9_pick_7 : decode cX9_pick 7 = .ok (.aload_n 0, 1) := by decide +kernel
theorem dX9_pick_8 : decode cX9_pick 8 = .ok (.getfield 84, 3) := by decide +kernel
theorem dX9_pick_11 : decode cX9_pick 11 = .ok (.aload_n 0, 1) := by decide +kernel
theorem dX9_pick_12 : decode cX9_pick 12 = .ok (.getfield 12, 3) := by decide +kernel
theorem dX9_pick_15 : decode cX9_pick 15 = .ok (.invokevirtual 135, 3) := by decide +kernel
theorem dX9_pick_18 : decode cX9_pick 18 = .ok (.invokevirtual 168, 3) := by decide +kernel
theorem dX9_pick_21 : decode cX9_pick 21 = .ok (.aload_n 0, 1) := by decide +kernel
theorem dX9_pick_22 : decode cX9_pick 22 = .ok (.getfield 84, 3) := by decide +kernel
theorem dX9_pick_25 : decode cX9_pick 25 = .ok (.iload_n 1, 1) := by decide +kernel
theorem dX9_pick_26 : decode cX9_pick 26 = .ok (.invokevirtual 172, 3) := by decide +kernel
theorem dX9_pick_29 : decode cX9_pick 29 = .ok (.istore_n 2, 1) := by decide +kernel
theorem dX9_pick_30 : decode cX9_pick 30 = .ok (.iload_n 2, 1) := by decide +kernel
theorem dX9_pick_31 : decode cX9_pick 31 = .ok (.iconst (-1), 1) := by decide +kernel
theorem dX9_pick_32 : decode cX9_pick 32 = .ok (.if_icmp .ne 7, 3) := by decide +kernel
theorem dX9_pick_35 : decode cX9_pick 35 = .ok (.iconst (-1), 1) := by decide +kernel
theorem dX9_pick_36 : decode cX9_pick 36 = .ok (.goto 15, 3) := by decide +kernel
theorem dX9_pick_39 : decode cX9_pick 39 = .ok (.bipush 100, 2) := by decide +kernel
theorem dX9_pick_41 : decode cX9_pick 41 = .ok (.iload_n 2, 1) := by decide +kernel
theorem dX9_pick_42 : decode cX9_pick 42 = .ok (.invokestatic 175, 3) := by decide +kernel
theorem dX9_pick_45 : decode cX9_pick 45 = .ok (.imul, 1) := by decide +kernel
theorem dX9_pick_46 : decode cX9_pick 46 = .ok (.iload_n 2, 1) := by decide +kernel
theorem dX9_pick_47 : decode cX9_pick 47 = .ok (.invokestatic 178, 3) := by decide +kernel
theorem dX9_pick_50 : decode cX9_pick 50 = .ok (.iadd, 1) := by decide +kernel
theorem dX9_pick_51 : decode cX9_pick 51 = .ok (.ireturn, 1) := by decide +kernel
theorem dX9_at_0 : decode cX9_at 0 = .ok (.iload_n 1, 1) := by decide +kernel
theorem dX9_at_1 : decode cX9_at 1 = .ok (.ifCond .ge 6, 3) := by decide +kernel
theorem dX9_at_4 : decode cX9_at 4 = .ok (.bipush (-3), 2) := by decide +kernel
theorem dX9_at_6 : decode cX9_at 6 = .ok (.ireturn, 1) := by decide +kernel
theorem dX9_at_7 : decode cX9_at 7 = .ok (.aload_n 0, 1) := by decide +kernel
theorem dX9_at_8 : decode cX9_at 8 = .ok (.invokevirtual 144, 3) := by decide +kernel
theorem dX9_at_11 : decode cX9_at 11 = .ok (.aload_n 0, 1) := by decide +kernel
theorem dX9_at_12 : decode cX9_at 12 = .ok (.getfield 67, 3) := by decide +kernel
theorem dX9_at_15 : decode cX9_at 15 = .ok (.iload_n 1, 1) := by decide +kernel
theorem dX9_at_16 : decode cX9_at 16 = .ok (.invokevirtual 208, 3) := by decide +kernel
theorem dX9_at_19 : decode cX9_at 19 = .ok (.ireturn, 1) := by decide +kernel
theorem dX9_within_0 : decode cX9_within 0 = .ok (.iload_n 2, 1) := by decide +kernel
theorem dX9_within_1 : decode cX9_within 1 = .ok (.ifCond .lt 8, 3) := by decide +kernel
theorem dX9_within_4 : decode cX9_within 4 = .ok (.iload_n 2, 1) := by decide +kernel
theorem dX9_within_5 : decode cX9_within 5 = .ok (.iconst 2, 1) := by decide +kernel
theorem dX9_within_6 : decode cX9_within 6 = .ok (.if_icmp .le 6, 3) := by decide +kernel
theorem dX9_within_9 : decode cX9_within 9 = .ok (.bipush (-2), 2) := by decide +kernel
theorem dX9_within_11 : decode cX9_within 11 = .ok (.ireturn, 1) := by decide +kernel
theorem dX9_within_12 : decode cX9_within 12 = .ok (.iload_n 1, 1) := by decide +kernel
theorem dX9_within_13 : decode cX9_within 13 = .ok (.ifCond .ge 6, 3) := by decide +kernel
theorem dX9_within_16 : decode cX9_within 16 = .ok (.bipush (-3), 2) := by decide +kernel
theorem dX9_within_18 : decode cX9_within 18 = .ok (.ireturn, 1) := by decide +kernel
theorem dX9_within_19 : decode cX9_within 19 = .ok (.aload_n 0, 1) := by decide +kernel
theorem dX9_within_20 : decode cX9_within 20 = .ok (.invokevirtual 144, 3) := by decide +kernel
theorem dX9_within_23 : decode cX9_within 23 = .ok (.iload_n 2, 1) := by decide +kernel
theorem dX9_within_24 : decode cX9_within 24 = .ok (.ifCond .ne 12, 3) := by decide +kernel
theorem dX9_within_27 : decode cX9_within 27 = .ok (.aload_n 0, 1) := by decide +kernel
theorem dX9_within_28 : decode cX9_within 28 = .ok (.getfield 67, 3) := by decide +kernel
theorem dX9_within_31 : decode cX9_within 31 = .ok (.iload_n 1, 1) := by decide +kernel
theorem dX9_within_32 : decode cX9_within 32 = .ok (.invokevirtual 269, 3) := by decide +kernel
theorem dX9_within_35 : decode cX9_within 35 = .ok (.ireturn, 1) := by decide +kernel
theorem dX9_within_36 : decode cX9_within 36 = .ok (.iload_n 2, 1) := by decide +kernel
theorem dX9_within_37 : decode cX9_within 37 = .ok (.iconst 1, 1) := by decide +kernel
theorem dX9_within_38 : decode cX9_within 38 = .ok (.if_icmp .ne 14, 3) := by decide +kernel
theorem dX9_within_41 : decode cX9_within 41 = .ok (.aload_n 0, 1) := by decide +kernel
theorem dX9_within_42 : decode cX9_within 42 = .ok (.getfield 67, 3) := by decide +kernel
theorem dX9_within_45 : decode cX9_within 45 = .ok (.iload_n 1, 1) := by decide +kernel
theorem dX9_within_46 : decode cX9_within 46 = .ok (.invokevirtual 272, 3) := by decide +kernel
theorem dX9_within_49 : decode cX9_within 49 = .ok (.goto 11, 3) := by decide +kernel
theorem dX9_within_52 : decode cX9_within 52 = .ok (.aload_n 0, 1) := by decide +kernel
theorem dX9_within_53 : decode cX9_within 53 = .ok (.getfield 67, 3) := by decide +kernel
theorem dX9_within_56 : decode cX9_within 56 = .ok (.iload_n 1, 1) := by decide +kernel
theorem dX9_within_57 : decode cX9_within 57 = .ok (.invokevirtual 275, 3) := by decide +kernel
theorem dX9_within_60 : decode cX9_within 60 = .ok (.ireturn, 1) := by decide +kernel
theorem dX9_way_0 : decode cX9_way 0 = .ok (.iload_n 1, 1) := by decide +kernel
theorem dX9_way_1 : decode cX9_way 1 = .ok (.ifCond .lt 7, 3) := by decide +kernel
theorem dX9_way_4 : decode cX9_way 4 = .ok (.iload_n 2, 1) := by decide +kernel
theorem dX9_way_5 : decode cX9_way 5 = .ok (.ifCond .ge 6, 3) := by decide +kernel
theorem dX9_way_8 : decode cX9_way 8 = .ok (.bipush (-3), 2) := by decide +kernel
theorem dX9_way_10 : decode cX9_way 10 = .ok (.ireturn, 1) := by decide +kernel
theorem dX9_way_11 : decode cX9_way 11 = .ok (.aload_n 0, 1) := by decide +kernel
theorem dX9_way_12 : decode cX9_way 12 = .ok (.invokevirtual 144, 3) := by decide +kernel
theorem dX9_way_15 : decode cX9_way 15 = .ok (.aload_n 0, 1) := by decide +kernel
theorem dX9_way_16 : decode cX9_way 16 = .ok (.getfield 67, 3) := by decide +kernel
theorem dX9_way_19 : decode cX9_way 19 = .ok (.iload_n 1, 1) := by decide +kernel
theorem dX9_way_20 : decode cX9_way 20 = .ok (.invokevirtual 217, 3) := by decide +kernel
theorem dX9_way_23 : decode cX9_way 23 = .ok (.ifCond .eq 9, 3) := by decide +kernel
theorem dX9_way_26 : decode cX9_way 26 = .ok (.iload_n 2, 1) := by decide +kernel
theorem dX9_way_27 : decode cX9_way 27 = .ok (.bipush 60, 2) := by decide +kernel
theorem dX9_way_29 : decode cX9_way 29 = .ok (.if_icmp .le 5, 3) := by decide +kernel
theorem dX9_way_32 : decode cX9_way 32 = .ok (.iconst (-1), 1) := by decide +kernel
theorem dX9_way_33 : decode cX9_way 33 = .ok (.ireturn, 1) := by decide +kernel
theorem dX9_way_34 : decode cX9_way 34 = .ok (.aload_n 0, 1) := by decide +kernel
theorem dX9_way_35 : decode cX9_way 35 = .ok (.getfield 12, 3) := by decide +kernel
theorem dX9_way_38 : decode cX9_way 38 = .ok (.invokevirtual 135, 3) := by decide +kernel
theorem dX9_way_41 : decode cX9_way 41 = .ok (.aload_n 0, 1) := by decide +kernel
theorem dX9_way_42 : decode cX9_way 42 = .ok (.getfield 67, 3) := by decide +kernel
theorem dX9_way_45 : decode cX9_way 45 = .ok (.iload_n 1, 1) := by decide +kernel
theorem dX9_way_46 : decode cX9_way 46 = .ok (.invokevirtual 269, 3) := by decide +kernel
theorem dX9_way_49 : decode cX9_way 49 = .ok (.invokevirtual 237, 3) := by decide +kernel
theorem dX9_way_52 : decode cX9_way 52 = .ok (.istore_n 3, 1) := by decide +kernel
theorem dX9_way_53 : decode cX9_way 53 = .ok (.aload_n 0, 1) := by decide +kernel
theorem dX9_way_54 : decode cX9_way 54 = .ok (.getfield 60, 3) := by decide +kernel
theorem dX9_way_57 : decode cX9_way 57 = .ok (.aload_n 0, 1) := by decide +kernel
theorem dX9_way_58 : decode cX9_way 58 = .ok (.getfield 12, 3) := by decide +kernel
theorem dX9_way_61 : decode cX9_way 61 = .ok (.iload_n 3, 1) := by decide +kernel
theorem dX9_way_62 : decode cX9_way 62 = .ok (.iload_n 1, 1) := by decide +kernel
theorem dX9_way_63 : decode cX9_way 63 = .ok (.aload_n 0, 1) := by decide +kernel
theorem dX9_way_64 : decode cX9_way 64 = .ok (.getfield 67, 3) := by decide +kernel
theorem dX9_way_67 : decode cX9_way 67 = .ok (.iload_n 1, 1) := by decide +kernel
theorem dX9_way_68 : decode cX9_way 68 = .ok (.invokevirtual 272, 3) := by decide +kernel
theorem dX9_way_71 : decode cX9_way 71 = .ok (.isub, 1) := by decide +kernel
theorem dX9_way_72 : decode cX9_way 72 = .ok (.iload_n 2, 1) := by decide +kernel
theorem dX9_way_73 : decode cX9_way 73 = .ok (.invokevirtual 262, 3) := by decide +kernel
theorem dX9_way_76 : decode cX9_way 76 = .ok (.aload_n 0, 1) := by decide +kernel
theorem dX9_way_77 : decode cX9_way 77 = .ok (.getfield 60, 3) := by decide +kernel
theorem dX9_way_80 : decode cX9_way 80 = .ok (.invokevirtual 278, 3) := by decide +kernel
theorem dX9_way_83 : decode cX9_way 83 = .ok (.iload_n 2, 1) := by decide +kernel
theorem dX9_way_84 : decode cX9_way 84 = .ok (.if_icmp .ge 7, 3) := by decide +kernel
theorem dX9_way_87 : decode cX9_way 87 = .ok (.iconst (-1), 1) := by decide +kernel
theorem dX9_way_88 : decode cX9_way 88 = .ok (.goto 10, 3) := by decide +kernel
theorem dX9_way_91 : decode cX9_way 91 = .ok (.aload_n 0, 1) := by decide +kernel
theorem dX9_way_92 : decode cX9_way 92 = .ok (.getfield 60, 3) := by decide +kernel
theorem dX9_way_95 : decode cX9_way 95 = .ok (.invokevirtual 266, 3) := by decide +kernel
theorem dX9_way_98 : decode cX9_way 98 = .ok (.ireturn, 1) := by decide +kernel
theorem dX9_ahead_0 : decode cX9_ahead 0 = .ok (.iload_n 1, 1) := by decide +kernel
theorem dX9_ahead_1 : decode cX9_ahead 1 = .ok (.invokestatic 214, 3) := by decide +kernel
theorem dX9_ahead_4 : decode cX9_ahead 4 = .ok (.ifCond .ne 6, 3) := by decide +kernel
theorem dX9_ahead_7 : decode cX9_ahead 7 = .ok (.bipush (-2), 2) := by decide +kernel
theorem dX9_ahead_9 : decode cX9_ahead 9 = .ok (.ireturn, 1) := by decide +kernel
theorem dX9_ahead_10 : decode cX9_ahead 10 = .ok (.aload_n 0, 1) := by decide +kernel
theorem dX9_ahead_11 : decode cX9_ahead 11 = .ok (.invokevirtual 144, 3) := by decide +kernel
theorem dX9_ahead_14 : decode cX9_ahead 14 = .ok (.iload_n 2, 1) := by decide +kernel
theorem dX9_ahead_15 : decode cX9_ahead 15 = .ok (.ifCond .lt 14, 3) := by decide +kernel
theorem dX9_ahead_18 : decode cX9_ahead 18 = .ok (.iload_n 2, 1) := by decide +kernel
theorem dX9_ahead_19 : decode cX9_ahead 19 = .ok (.aload_n 0, 1) := by decide +kernel
theorem dX9_ahead_20 : decode cX9_ahead 20 = .ok (.getfield 67, 3) := by decide +kernel
theorem dX9_ahead_23 : decode cX9_ahead 23 = .ok (.invokevirtual 207, 3) := by decide +kernel
theorem dX9_ahead_26 : decode cX9_ahead 26 = .ok (.if_icmp .le 6, 3) := by decide +kernel
theorem dX9_ahead_29 : decode cX9_ahead 29 = .ok (.bipush (-5), 2) := by decide +kernel
theorem dX9_ahead_31 : decode cX9_ahead 31 = .ok (.ireturn, 1) := by decide +kernel
theorem dX9_ahead_32 : decode cX9_ahead 32 = .ok (.iconst 0, 1) := by decide +kernel
theorem dX9_ahead_33 : decode cX9_ahead 33 = .ok (.istore_n 3, 1) := by decide +kernel
theorem dX9_ahead_34 : decode cX9_ahead 34 = .ok (.iconst 0, 1) := by decide +kernel
theorem dX9_ahead_35 : decode cX9_ahead 35 = .ok (.istore 4, 2) := by decide +kernel
theorem dX9_ahead_37 : decode cX9_ahead 37 = .ok (.iload 4, 2) := by decide +kernel
theorem dX9_ahead_39 : decode cX9_ahead 39 = .ok (.iload_n 2, 1) := by decide +kernel
theorem dX9_ahead_40 : decode cX9_ahead 40 = .ok (.if_icmp .ge 25, 3) := by decide +kernel
theorem dX9_ahead_43 : decode cX9_ahead 43 = .ok (.aload_n 0, 1) := by decide +kernel
theorem dX9_ahead_44 : decode cX9_ahead 44 = .ok (.getfield 67, 3) := by decide +kernel
theorem dX9_ahead_47 : decode cX9_ahead 47 = .ok (.iload 4, 2) := by decide +kernel
theorem dX9_ahead_49 : decode cX9_ahead 49 = .ok (.invokevirtual 208, 3) := by decide +kernel
theorem dX9_ahead_52 : decode cX9_ahead 52 = .ok (.iload_n 1, 1) := by decide +kernel
theorem dX9_ahead_53 : decode cX9_ahead 53 = .ok (.if_icmp .ne 6, 3) := by decide +kernel
theorem dX9_ahead_56 : decode cX9_ahead 56 = .ok (.iinc 3 1, 3) := by decide +kernel
theorem dX9_ahead_59 : decode cX9_ahead 59 = .ok (.iinc 4 1, 3) := by decide +kernel
theorem dX9_ahead_62 : decode cX9_ahead 62 = .ok (.goto (-25), 3) := by decide +kernel
theorem dX9_ahead_65 : decode cX9_ahead 65 = .ok (.iload_n 3, 1) := by decide +kernel
theorem dX9_ahead_66 : decode cX9_ahead 66 = .ok (.ireturn, 1) := by decide +kernel
theorem dX9_where_0 : decode cX9_where 0 = .ok (.iload_n 1, 1) := by decide +kernel
theorem dX9_where_1 : decode cX9_where 1 = .ok (.invokestatic 214, 3) := by decide +kernel
theorem dX9_where_4 : decode cX9_where 4 = .ok (.ifCond .ne 6, 3) := by decide +kernel
theorem dX9_where_7 : decode cX9_where 7 = .ok (.bipush (-2), 2) := by decide +kernel
theorem dX9_where_9 : decode cX9_where 9 = .ok (.ireturn, 1) := by decide +kernel
theorem dX9_where_10 : decode cX9_where 10 = .ok (.iload_n 2, 1) := by decide +kernel
theorem dX9_where_11 : decode cX9_where 11 = .ok (.ifCond .ge 6, 3) := by decide +kernel
theorem dX9_where_14 : decode cX9_where 14 = .ok (.bipush (-3), 2) := by decide +kernel
theorem dX9_where_16 : decode cX9_where 16 = .ok (.ireturn, 1) := by decide +kernel
theorem dX9_where_17 : decode cX9_where 17 = .ok (.aload_n 0, 1) := by decide +kernel
theorem dX9_where_18 : decode cX9_where 18 = .ok (.invokevirtual 144, 3) := by decide +kernel
theorem dX9_where_21 : decode cX9_where 21 = .ok (.iconst 0, 1) := by decide +kernel
theorem dX9_where_22 : decode cX9_where 22 = .ok (.istore_n 3, 1) := by decide +kernel
theorem dX9_where_23 : decode cX9_where 23 = .ok (.iconst 0, 1) := by decide +kernel
theorem dX9_where_24 : decode cX9_where 24 = .ok (.istore 4, 2) := by decide +kernel
theorem dX9_where_26 : decode cX9_where 26 = .ok (.iload 4, 2) := by decide +kernel
theorem dX9_where_28 : decode cX9_where 28 = .ok (.aload_n 0, 1) := by decide +kernel
theorem dX9_where_29 : decode cX9_where 29 = .ok (.getfield 67, 3) := by decide +kernel
theorem dX9_where_32 : decode cX9_where 32 = .ok (.invokevirtual 207, 3) := by decide +kernel
theorem dX9_where_35 : decode cX9_where 35 = .ok (.if_icmp .ge 33, 3) := by decide +kernel
theorem dX9_where_38 : decode cX9_where 38 = .ok (.aload_n 0, 1) := by decide +kernel
theorem dX9_where_39 : decode cX9_where 39 = .ok (.getfield 67, 3) := by decide +kernel
theorem dX9_where_42 : decode cX9_where 42 = .ok (.iload 4, 2) := by decide +kernel
theorem dX9_where_44 : decode cX9_where 44 = .ok (.invokevirtual 208, 3) := by decide +kernel
theorem dX9_where_47 : decode cX9_where 47 = .ok (.iload_n 1, 1) := by decide +kernel
theorem dX9_where_48 : decode cX9_where 48 = .ok (.if_icmp .ne 14, 3) := by decide +kernel
theorem dX9_where_51 : decode cX9_where 51 = .ok (.iload_n 3, 1) := by decide +kernel
theorem dX9_where_52 : decode cX9_where 52 = .ok (.iload_n 2, 1) := by decide +kernel
theorem dX9_where_53 : decode cX9_where 53 = .ok (.if_icmp .ne 6, 3) := by decide +kernel
theorem dX9_where_56 : decode cX9_where 56 = .ok (.iload 4, 2) := by decide +kernel
theorem dX9_where_58 : decode cX9_where 58 = .ok (.ireturn, 1) := by decide +kernel
theorem dX9_where_59 : decode cX9_where 59 = .ok (.iinc 3 1, 3) := by decide +kernel
theorem dX9_where_62 : decode cX9_where 62 = .ok (.iinc 4 1, 3) := by decide +kernel
theorem dX9_where_65 : decode cX9_where 65 = .ok (.goto (-39), 3) := by decide +kernel
theorem dX9_where_68 : decode cX9_where 68 = .ok (.iconst (-1), 1) := by decide +kernel
theorem dX9_where_69 : decode cX9_where 69 = .ok (.ireturn, 1) := by decide +kernel
theorem dX9_common_0 : decode cX9_common 0 = .ok (.aload_n 0, 1) := by decide +kernel
theorem dX9_common_1 : decode cX9_common 1 = .ok (.invokevirtual 144, 3) := by decide +kernel
theorem dX9_common_4 : decode cX9_common 4 = .ok (.aload_n 0, 1) := by decide +kernel
theorem dX9_common_5 : decode cX9_common 5 = .ok (.getfield 67, 3) := by decide +kernel
theorem dX9_common_8 : decode cX9_common 8 = .ok (.iload_n 1, 1) := by decide +kernel
theorem dX9_common_9 : decode cX9_common 9 = .ok (.invokevirtual 217, 3) := by decide +kernel
theorem dX9_common_12 : decode cX9_common 12 = .ok (.ifCond .eq 14, 3) := by decide +kernel
theorem dX9_common_15 : decode cX9_common 15 = .ok (.aload_n 0, 1) := by decide +kernel
theorem dX9_common_16 : decode cX9_common 16 = .ok (.getfield 67, 3) := by decide +kernel
theorem dX9_common_19 : decode cX9_common 19 = .ok (.iload_n 2, 1) := by decide +kernel
theorem dX9_common_20 : decode cX9_common 20 = .ok (.invokevirtual 217, 3) := by decide +kernel
theorem dX9_common_23 : decode cX9_common 23 = .ok (.ifCond .ne 6, 3) := by decide +kernel
theorem dX9_common_26 : decode cX9_common 26 = .ok (.bipush (-5), 2) := by decide +kernel
theorem dX9_common_28 : decode cX9_common 28 = .ok (.ireturn, 1) := by decide +kernel
theorem dX9_common_29 : decode cX9_common 29 = .ok (.aload_n 0, 1) := by decide +kernel
theorem dX9_common_30 : decode cX9_common 30 = .ok (.getfield 67, 3) := by decide +kernel
theorem dX9_common_33 : decode cX9_common 33 = .ok (.iload_n 1, 1) := by decide +kernel
theorem dX9_common_34 : decode cX9_common 34 = .ok (.iload_n 2, 1) := by decide +kernel
theorem dX9_common_35 : decode cX9_common 35 = .ok (.invokevirtual 281, 3) := by decide +kernel
theorem dX9_common_38 : decode cX9_common 38 = .ok (.ireturn, 1) := by decide +kernel
theorem dX9_compare_0 : decode cX9_compare 0 = .ok (.aload_n 0, 1) := by decide +kernel
theorem dX9_compare_1 : decode cX9_compare 1 = .ok (.invokevirtual 144, 3) := by decide +kernel
theorem dX9_compare_4 : decode cX9_compare 4 = .ok (.aload_n 0, 1) := by decide +kernel
theorem dX9_compare_5 : decode cX9_compare 5 = .ok (.getfield 67, 3) := by decide +kernel
theorem dX9_compare_8 : decode cX9_compare 8 = .ok (.iload_n 1, 1) := by decide +kernel
theorem dX9_compare_9 : decode cX9_compare 9 = .ok (.invokevirtual 217, 3) := by decide +kernel
theorem dX9_compare_12 : decode cX9_compare 12 = .ok (.ifCond .eq 14, 3) := by decide +kernel
theorem dX9_compare_15 : decode cX9_compare 15 = .ok (.aload_n 0, 1) := by decide +kernel
theorem dX9_compare_16 : decode cX9_compare 16 = .ok (.getfield 67, 3) := by decide +kernel
theorem dX9_compare_19 : decode cX9_compare 19 = .ok (.iload_n 2, 1) := by decide +kernel
theorem dX9_compare_20 : decode cX9_compare 20 = .ok (.invokevirtual 217, 3) := by decide +kernel
theorem dX9_compare_23 : decode cX9_compare 23 = .ok (.ifCond .ne 6, 3) := by decide +kernel
theorem dX9_compare_26 : decode cX9_compare 26 = .ok (.bipush (-5), 2) := by decide +kernel
theorem dX9_compare_28 : decode cX9_compare 28 = .ok (.ireturn, 1) := by decide +kernel
theorem dX9_compare_29 : decode cX9_compare 29 = .ok (.iload_n 1, 1) := by decide +kernel
theorem dX9_compare_30 : decode cX9_compare 30 = .ok (.iload_n 2, 1) := by decide +kernel
theorem dX9_compare_31 : decode cX9_compare 31 = .ok (.if_icmp .ne 5, 3) := by decide +kernel
theorem dX9_compare_34 : decode cX9_compare 34 = .ok (.iconst 0, 1) := by decide +kernel
theorem dX9_compare_35 : decode cX9_compare 35 = .ok (.ireturn, 1) := by decide +kernel
theorem dX9_compare_36 : decode cX9_compare 36 = .ok (.aload_n 0, 1) := by decide +kernel
theorem dX9_compare_37 : decode cX9_compare 37 = .ok (.getfield 67, 3) := by decide +kernel
theorem dX9_compare_40 : decode cX9_compare 40 = .ok (.iload_n 1, 1) := by decide +kernel
theorem dX9_compare_41 : decode cX9_compare 41 = .ok (.iload_n 2, 1) := by decide +kernel
theorem dX9_compare_42 : decode cX9_compare 42 = .ok (.invokevirtual 281, 3) := by decide +kernel
theorem dX9_compare_45 : decode cX9_compare 45 = .ok (.istore_n 3, 1) := by decide +kernel
theorem dX9_compare_46 : decode cX9_compare 46 = .ok (.aload_n 0, 1) := by decide +kernel
theorem dX9_compare_47 : decode cX9_compare 47 = .ok (.getfield 67, 3) := by decide +kernel
theorem dX9_compare_50 : decode cX9_compare 50 = .ok (.iload_n 1, 1) := by decide +kernel
theorem dX9_compare_51 : decode cX9_compare 51 = .ok (.iload_n 3, 1) := by decide +kernel
theorem dX9_compare_52 : decode cX9_compare 52 = .ok (.iadd, 1) := by decide +kernel
theorem dX9_compare_53 : decode cX9_compare 53 = .ok (.invokevirtual 208, 3) := by decide +kernel
theorem dX9_compare_56 : decode cX9_compare 56 = .ok (.aload_n 0, 1) := by decide +kernel
theorem dX9_compare_57 : decode cX9_compare 57 = .ok (.getfield 67, 3) := by decide +kernel
theorem dX9_compare_60 : decode cX9_compare 60 = .ok (.iload_n 2, 1) := by decide +kernel
theorem dX9_compare_61 : decode cX9_compare 61 = .ok (.iload_n 3, 1) := by decide +kernel
theorem dX9_compare_62 : decode cX9_compare 62 = .ok (.iadd, 1) := by decide +kernel
theorem dX9_compare_63 : decode cX9_compare 63 = .ok (.invokevirtual 208, 3) := by decide +kernel
theorem dX9_compare_66 : decode cX9_compare 66 = .ok (.if_icmp .ge 7, 3) := by decide +kernel
theorem dX9_compare_69 : decode cX9_compare 69 = .ok (.iconst 1, 1) := by decide +kernel
theorem dX9_compare_70 : decode cX9_compare 70 = .ok (.goto 4, 3) := by decide +kernel
theorem dX9_compare_73 : decode cX9_compare 73 = .ok (.iconst 2, 1) := by decide +kernel
theorem dX9_compare_74 : decode cX9_compare 74 = .ok (.ireturn, 1) := by decide +kernel
theorem dX9_print_0 : decode cX9_print 0 = .ok (.iload_n 2, 1) := by decide +kernel
theorem dX9_print_1 : decode cX9_print 1 = .ok (.ifCond .ge 6, 3) := by decide +kernel
theorem dX9_print_4 : decode cX9_print 4 = .ok (.bipush (-3), 2) := by decide +kernel
theorem dX9_print_6 : decode cX9_print 6 = .ok (.ireturn, 1) := by decide +kernel
theorem dX9_print_7 : decode cX9_print 7 = .ok (.aload_n 0, 1) := by decide +kernel
theorem dX9_print_8 : decode cX9_print 8 = .ok (.iload_n 1, 1) := by decide +kernel
theorem dX9_print_9 : decode cX9_print 9 = .ok (.iload_n 2, 1) := by decide +kernel
theorem dX9_print_10 : decode cX9_print 10 = .ok (.invokevirtual 227, 3) := by decide +kernel
theorem dX9_print_13 : decode cX9_print 13 = .ok (.ifCond .ne 6, 3) := by decide +kernel
theorem dX9_print_16 : decode cX9_print 16 = .ok (.bipush (-5), 2) := by decide +kernel
theorem dX9_print_18 : decode cX9_print 18 = .ok (.ireturn, 1) := by decide +kernel
theorem dX9_print_19 : decode cX9_print 19 = .ok (.iconst 0, 1) := by decide +kernel
theorem dX9_print_20 : decode cX9_print 20 = .ok (.istore_n 3, 1) := by decide +kernel
theorem dX9_print_21 : decode cX9_print 21 = .ok (.iload_n 1, 1) := by decide +kernel
theorem dX9_print_22 : decode cX9_print 22 = .ok (.istore 4, 2) := by decide +kernel
theorem dX9_print_24 : decode cX9_print 24 = .ok (.iload 4, 2) := by decide +kernel
theorem dX9_print_26 : decode cX9_print 26 = .ok (.iload_n 1, 1) := by decide +kernel
theorem dX9_print_27 : decode cX9_print 27 = .ok (.iload_n 2, 1) := by decide +kernel
theorem dX9_print_28 : decode cX9_print 28 = .ok (.iadd, 1) := by decide +kernel
theorem dX9_print_29 : decode cX9_print 29 = .ok (.if_icmp .ge 30, 3) := by decide +kernel
theorem dX9_print_32 : decode cX9_print 32 = .ok (.bipush 31, 2) := by decide +kernel
theorem dX9_print_34 : decode cX9_print 34 = .ok (.iload_n 3, 1) := by decide +kernel
theorem dX9_print_35 : decode cX9_print 35 = .ok (.imul, 1) := by decide +kernel
theorem dX9_print_36 : decode cX9_print 36 = .ok (.aload_n 0, 1) := by decide +kernel
theorem dX9_print_37 : decode cX9_print 37 = .ok (.getfield 67, 3) := by decide +kernel
theorem dX9_print_40 : decode cX9_print 40 = .ok (.iload 4, 2) := by decide +kernel
theorem dX9_print_42 : decode cX9_print 42 = .ok (.invokevirtual 208, 3) := by decide +kernel
theorem dX9_print_45 : decode cX9_print 45 = .ok (.iadd, 1) := by decide +kernel
theorem dX9_print_46 : decode cX9_print 46 = .ok (.iconst 1, 1) := by decide +kernel
theorem dX9_print_47 : decode cX9_print 47 = .ok (.iadd, 1) := by decide +kernel
theorem dX9_print_48 : decode cX9_print 48 = .ok (.ldc_w 284, 3) := by decide +kernel
theorem dX9_print_51 : decode cX9_print 51 = .ok (.irem, 1) := by decide +kernel
theorem dX9_print_52 : decode cX9_print 52 = .ok (.istore_n 3, 1) := by decide +kernel
theorem dX9_print_53 : decode cX9_print 53 = .ok (.iinc 4 1, 3) := by decide +kernel
theorem dX9_print_56 : decode cX9_print 56 = .ok (.goto (-32), 3) := by decide +kernel
theorem dX9_print_59 : decode cX9_print 59 = .ok (.iload_n 3, 1) := by decide +kernel
theorem dX9_print_60 : decode cX9_print 60 = .ok (.ireturn, 1) := by decide +kernel
theorem dX9_repeat_0 : decode cX9_repeat 0 = .ok (.aload_n 0, 1) := by decide +kernel
theorem dX9_repeat_1 : decode cX9_repeat 1 = .ok (.invokevirtual 144, 3) := by decide +kernel
theorem dX9_repeat_4 : decode cX9_repeat 4 = .ok (.aload_n 0, 1) := by decide +kernel
theorem dX9_repeat_5 : decode cX9_repeat 5 = .ok (.getfield 67, 3) := by decide +kernel
theorem dX9_repeat_8 : decode cX9_repeat 8 = .ok (.invokevirtual 285, 3) := by decide +kernel
theorem dX9_repeat_11 : decode cX9_repeat 11 = .ok (.aload_n 0, 1) := by decide +kernel
theorem dX9_repeat_12 : decode cX9_repeat 12 = .ok (.getfield 67, 3) := by decide +kernel
theorem dX9_repeat_15 : decode cX9_repeat 15 = .ok (.invokevirtual 288, 3) := by decide +kernel
theorem dX9_repeat_18 : decode cX9_repeat 18 = .ok (.ireturn, 1) := by decide +kernel
theorem dX9_repeatAt_0 : decode cX9_repeatAt 0 = .ok (.aload_n 0, 1) := by decide +kernel
theorem dX9_repeatAt_1 : decode cX9_repeatAt 1 = .ok (.invokevirtual 144, 3) := by decide +kernel
theorem dX9_repeatAt_4 : decode cX9_repeatAt 4 = .ok (.aload_n 0, 1) := by decide +kernel
theorem dX9_repeatAt_5 : decode cX9_repeatAt 5 = .ok (.getfield 67, 3) := by decide +kernel
theorem dX9_repeatAt_8 : decode cX9_repeatAt 8 = .ok (.invokevirtual 285, 3) := by decide +kernel
theorem dX9_repeatAt_11 : decode cX9_repeatAt 11 = .ok (.aload_n 0, 1) := by decide +kernel
theorem dX9_repeatAt_12 : decode cX9_repeatAt 12 = .ok (.getfield 67, 3) := by decide +kernel
theorem dX9_repeatAt_15 : decode cX9_repeatAt 15 = .ok (.invokevirtual 291, 3) := by decide +kernel
theorem dX9_repeatAt_18 : decode cX9_repeatAt 18 = .ok (.ireturn, 1) := by decide +kernel
theorem dX9_hit_0 : decode cX9_hit 0 = .ok (.iload_n 1, 1) := by decide +kernel
theorem dX9_hit_1 : decode cX9_hit 1 = .ok (.ifCond .ge 6, 3) := by decide +kernel
theorem dX9_hit_4 : decode cX9_hit 4 = .ok (.bipush (-3), 2) := by decide +kernel
theorem dX9_hit_6 : decode cX9_hit 6 = .ok (.ireturn, 1) := by decide +kernel
theorem dX9_hit_7 : decode cX9_hit 7 = .ok (.aload_n 0, 1) := by decide +kernel
theorem dX9_hit_8 : decode cX9_hit 8 = .ok (.getfield 40, 3) := by decide +kernel
theorem dX9_hit_11 : decode cX9_hit 11 = .ok (.invokevirtual 105, 3) := by decide +kernel
theorem dX9_hit_14 : decode cX9_hit 14 = .ok (.ifCond .ne 6, 3) := by decide +kernel
theorem dX9_hit_17 : decode cX9_hit 17 = .ok (.bipush (-5), 2) := by decide +kernel
theorem dX9_hit_19 : decode cX9_hit 19 = .ok (.ireturn, 1) := by decide +kernel
theorem dX9_hit_20 : decode cX9_hit 20 = .ok (.aload_n 0, 1) := by decide +kernel
theorem dX9_hit_21 : decode cX9_hit 21 = .ok (.invokevirtual 144, 3) := by decide +kernel
theorem dX9_hit_24 : decode cX9_hit 24 = .ok (.aload_n 0, 1) := by decide +kernel
theorem dX9_hit_25 : decode cX9_hit 25 = .ok (.getfield 67, 3) := by decide +kernel
theorem dX9_hit_28 : decode cX9_hit 28 = .ok (.aload_n 0, 1) := by decide +kernel
theorem dX9_hit_29 : decode cX9_hit 29 = .ok (.getfield 40, 3) := by decide +kernel
theorem dX9_hit_32 : decode cX9_hit 32 = .ok (.iload_n 1, 1) := by decide +kernel
theorem dX9_hit_33 : decode cX9_hit 33 = .ok (.invokevirtual 294, 3) := by decide +kernel
theorem dX9_hit_36 : decode cX9_hit 36 = .ok (.ireturn, 1) := by decide +kernel
theorem dX9_hits_0 : decode cX9_hits 0 = .ok (.iload_n 1, 1) := by decide +kernel
theorem dX9_hits_1 : decode cX9_hits 1 = .ok (.ifCond .lt 8, 3) := by decide +kernel
theorem dX9_hits_4 : decode cX9_hits 4 = .ok (.iload_n 1, 1) := by decide +kernel
theorem dX9_hits_5 : decode cX9_hits 5 = .ok (.iconst 2, 1) := by decide +kernel
theorem dX9_hits_6 : decode cX9_hits 6 = .ok (.if_icmp .le 6, 3) := by decide +kernel
theorem dX9_hits_9 : decode cX9_hits 9 = .ok (.bipush (-2), 2) := by decide +kernel
theorem dX9_hits_11 : decode cX9_hits 11 = .ok (.ireturn, 1) := by decide +kernel
theorem dX9_hits_12 : decode cX9_hits 12 = .ok (.iload_n 1, 1) := by decide +kernel
theorem dX9_hits_13 : decode cX9_hits 13 = .ok (.iconst 2, 1) := by decide +kernel
theorem dX9_hits_14 : decode cX9_hits 14 = .ok (.if_icmp .ne 11, 3) := by decide +kernel
theorem dX9_hits_17 : decode cX9_hits 17 = .ok (.aload_n 0, 1) := by decide +kernel
theorem dX9_hits_18 : decode cX9_hits 18 = .ok (.getfield 40, 3) := by decide +kernel
theorem dX9_hits_21 : decode cX9_hits 21 = .ok (.invokevirtual 105, 3) := by decide +kernel
theorem dX9_hits_24 : decode cX9_hits 24 = .ok (.ireturn, 1) := by decide +kernel
theorem dX9_hits_25 : decode cX9_hits 25 = .ok (.aload_n 0, 1) := by decide +kernel
theorem dX9_hits_26 : decode cX9_hits 26 = .ok (.getfield 40, 3) := by decide +kernel
theorem dX9_hits_29 : decode cX9_hits 29 = .ok (.invokevirtual 105, 3) := by decide +kernel
theorem dX9_hits_32 : decode cX9_hits 32 = .ok (.ifCond .ne 6, 3) := by decide +kernel
theorem dX9_hits_35 : decode cX9_hits 35 = .ok (.bipush (-5), 2) := by decide +kernel
theorem dX9_hits_37 : decode cX9_hits 37 = .ok (.ireturn, 1) := by decide +kernel
theorem dX9_hits_38 : decode cX9_hits 38 = .ok (.aload_n 0, 1) := by decide +kernel
theorem dX9_hits_39 : decode cX9_hits 39 = .ok (.invokevirtual 144, 3) := by decide +kernel
theorem dX9_hits_42 : decode cX9_hits 42 = .ok (.iload_n 1, 1) := by decide +kernel
theorem dX9_hits_43 : decode cX9_hits 43 = .ok (.ifCond .ne 17, 3) := by decide +kernel
theorem dX9_hits_46 : decode cX9_hits 46 = .ok (.aload_n 0, 1) := by decide +kernel
theorem dX9_hits_47 : decode cX9_hits 47 = .ok (.getfield 67, 3) := by decide +kernel
theorem dX9_hits_50 : decode cX9_hits 50 = .ok (.aload_n 0, 1) := by decide +kernel
theorem dX9_hits_51 : decode cX9_hits 51 = .ok (.getfield 40, 3) := by decide +kernel
theorem dX9_hits_54 : decode cX9_hits 54 = .ok (.invokevirtual 147, 3) := by decide +kernel
theorem dX9_hits_57 : decode cX9_hits 57 = .ok (.goto 14, 3) := by decide +kernel
theorem dX9_hits_60 : decode cX9_hits 60 = .ok (.aload_n 0, 1) := by decide +kernel
theorem dX9_hits_61 : decode cX9_hits 61 = .ok (.getfield 67, 3) := by decide +kernel
theorem dX9_hits_64 : decode cX9_hits 64 = .ok (.aload_n 0, 1) := by decide +kernel
theorem dX9_hits_65 : decode cX9_hits 65 = .ok (.getfield 40, 3) := by decide +kernel
theorem dX9_hits_68 : decode cX9_hits 68 = .ok (.invokevirtual 298, 3) := by decide +kernel
theorem dX9_hits_71 : decode cX9_hits 71 = .ok (.ireturn, 1) := by decide +kernel
theorem dX9_gain_0 : decode cX9_gain 0 = .ok (.aload_n 0, 1) := by decide +kernel
theorem dX9_gain_1 : decode cX9_gain 1 = .ok (.getfield 12, 3) := by decide +kernel
theorem dX9_gain_4 : decode cX9_gain 4 = .ok (.iload_n 1, 1) := by decide +kernel
theorem dX9_gain_5 : decode cX9_gain 5 = .ok (.invokevirtual 188, 3) := by decide +kernel
theorem dX9_gain_8 : decode cX9_gain 8 = .ok (.ifCond .eq 14, 3) := by decide +kernel
theorem dX9_gain_11 : decode cX9_gain 11 = .ok (.aload_n 0, 1) := by decide +kernel
theorem dX9_gain_12 : decode cX9_gain 12 = .ok (.getfield 12, 3) := by decide +kernel
theorem dX9_gain_15 : decode cX9_gain 15 = .ok (.iload_n 2, 1) := by decide +kernel
theorem dX9_gain_16 : decode cX9_gain 16 = .ok (.invokevirtual 188, 3) := by decide +kernel
theorem dX9_gain_19 : decode cX9_gain 19 = .ok (.ifCond .ne 6, 3) := by decide +kernel
theorem dX9_gain_22 : decode cX9_gain 22 = .ok (.bipush (-2), 2) := by decide +kernel
theorem dX9_gain_24 : decode cX9_gain 24 = .ok (.ireturn, 1) := by decide +kernel
theorem dX9_gain_25 : decode cX9_gain 25 = .ok (.aload_n 0, 1) := by decide +kernel
theorem dX9_gain_26 : decode cX9_gain 26 = .ok (.getfield 84, 3) := by decide +kernel
theorem dX9_gain_29 : decode cX9_gain 29 = .ok (.aload_n 0, 1) := by decide +kernel
theorem dX9_gain_30 : decode cX9_gain 30 = .ok (.getfield 12, 3) := by decide +kernel
theorem dX9_gain_33 : decode cX9_gain 33 = .ok (.invokevirtual 135, 3) := by decide +kernel
theorem dX9_gain_36 : decode cX9_gain 36 = .ok (.invokevirtual 168, 3) := by decide +kernel
theorem dX9_gain_39 : decode cX9_gain 39 = .ok (.aload_n 0, 1) := by decide +kernel
theorem dX9_gain_40 : decode cX9_gain 40 = .ok (.getfield 84, 3) := by decide +kernel
theorem dX9_gain_43 : decode cX9_gain 43 = .ok (.iload_n 1, 1) := by decide +kernel
theorem dX9_gain_44 : decode cX9_gain 44 = .ok (.iload_n 2, 1) := by decide +kernel
theorem dX9_gain_45 : decode cX9_gain 45 = .ok (.invokevirtual 191, 3) := by decide +kernel
theorem dX9_gain_48 : decode cX9_gain 48 = .ok (.istore_n 3, 1) := by decide +kernel
theorem dX9_gain_49 : decode cX9_gain 49 = .ok (.iload_n 3, 1) := by decide +kernel
theorem dX9_gain_50 : decode cX9_gain 50 = .ok (.ifCond .ne 6, 3) := by decide +kernel
theorem dX9_gain_53 : decode cX9_gain 53 = .ok (.bipush (-5), 2) := by decide +kernel
theorem dX9_gain_55 : decode cX9_gain 55 = .ok (.ireturn, 1) := by decide +kernel
theorem dX9_gain_56 : decode cX9_gain 56 = .ok (.aload_n 0, 1) := by decide +kernel
theorem dX9_gain_57 : decode cX9_gain 57 = .ok (.getfield 12, 3) := by decide +kernel
theorem dX9_gain_60 : decode cX9_gain 60 = .ok (.iload_n 1, 1) := by decide +kernel
theorem dX9_gain_61 : decode cX9_gain 61 = .ok (.iload_n 2, 1) := by decide +kernel
theorem dX9_gain_62 : decode cX9_gain 62 = .ok (.invokevirtual 301, 3) := by decide +kernel
theorem dX9_gain_65 : decode cX9_gain 65 = .ok (.iconst (-1), 1) := by decide +kernel
theorem dX9_gain_66 : decode cX9_gain 66 = .ok (.if_icmp .ne 9, 3) := by decide +kernel
theorem dX9_gain_69 : decode cX9_gain 69 = .ok (.iload_n 3, 1) := by decide +kernel
theorem dX9_gain_70 : decode cX9_gain 70 = .ok (.iconst 2, 1) := by decide +kernel
theorem dX9_gain_71 : decode cX9_gain 71 = .ok (.isub, 1) := by decide +kernel
theorem dX9_gain_72 : decode cX9_gain 72 = .ok (.goto 4, 3) := by decide +kernel
theorem dX9_gain_75 : decode cX9_gain 75 = .ok (.iload_n 3, 1) := by decide +kernel
theorem dX9_gain_76 : decode cX9_gain 76 = .ok (.ireturn, 1) := by decide +kernel
theorem dX9_best_0 : decode cX9_best 0 = .ok (.iload_n 1, 1) := by decide +kernel
theorem dX9_best_1 : decode cX9_best 1 = .ok (.ifCond .lt 8, 3) := by decide +kernel
theorem dX9_best_4 : decode cX9_best 4 = .ok (.iload_n 1, 1) := by decide +kernel
theorem dX9_best_5 : decode cX9_best 5 = .ok (.iconst 2, 1) := by decide +kernel
theorem dX9_best_6 : decode cX9_best 6 = .ok (.if_icmp .le 6, 3) := by decide +kernel
theorem dX9_best_9 : decode cX9_best 9 = .ok (.bipush (-3), 2) := by decide +kernel
theorem dX9_best_11 : decode cX9_best 11 = .ok (.ireturn, 1) := by decide +kernel
theorem dX9_best_12 : decode cX9_best 12 = .ok (.aload_n 0, 1) := by decide +kernel
theorem dX9_best_13 : decode cX9_best 13 = .ok (.getfield 91, 3) := by decide +kernel
theorem dX9_best_16 : decode cX9_best 16 = .ok (.aload_n 0, 1) := by decide +kernel
theorem dX9_best_17 : decode cX9_best 17 = .ok (.getfield 12, 3) := by decide +kernel
theorem dX9_best_20 : decode cX9_best 20 = .ok (.iload_n 1, 1) := by decide +kernel
theorem dX9_best_21 : decode cX9_best 21 = .ok (.invokevirtual 304, 3) := by decide +kernel
theorem dX9_best_24 : decode cX9_best 24 = .ok (.ireturn, 1) := by decide +kernel
theorem dX9_bits_0 : decode cX9_bits 0 = .ok (.iload_n 1, 1) := by decide +kernel
theorem dX9_bits_1 : decode cX9_bits 1 = .ok (.ifCond .lt 8, 3) := by decide +kernel
theorem dX9_bits_4 : decode cX9_bits 4 = .ok (.iload_n 1, 1) := by decide +kernel
theorem dX9_bits_5 : decode cX9_bits 5 = .ok (.iconst 2, 1) := by decide +kernel
theorem dX9_bits_6 : decode cX9_bits 6 = .ok (.if_icmp .le 7, 3) := by decide +kernel
theorem dX9_bits_9 : decode cX9_bits 9 = .ok (.ldc_w 308, 3) := by decide +kernel
theorem dX9_bits_12 : decode cX9_bits 12 = .ok (.ireturn, 1) := by decide +kernel
theorem dX9_bits_13 : decode cX9_bits 13 = .ok (.aload_n 0, 1) := by decide +kernel
theorem dX9_bits_14 : decode cX9_bits 14 = .ok (.invokevirtual 144, 3) := by decide +kernel
theorem dX9_bits_17 : decode cX9_bits 17 = .ok (.iload_n 1, 1) := by decide +kernel
theorem dX9_bits_18 : decode cX9_bits 18 = .ok (.ifCond .ne 18, 3) := by decide +kernel
theorem dX9_bits_21 : decode cX9_bits 21 = .ok (.aload_n 0, 1) := by decide +kernel
theorem dX9_bits_22 : decode cX9_bits 22 = .ok (.aload_n 0, 1) := by decide +kernel
theorem dX9_bits_23 : decode cX9_bits 23 = .ok (.getfield 12, 3) := by decide +kernel
theorem dX9_bits_26 : decode cX9_bits 26 = .ok (.invokevirtual 203, 3) := by decide +kernel
theorem dX9_bits_29 : decode cX9_bits 29 = .ok (.invokevirtual 309, 3) := by decide +kernel
theorem dX9_bits_32 : decode cX9_bits 32 = .ok (.invokestatic 313, 3) := by decide +kernel
theorem dX9_bits_35 : decode cX9_bits 35 = .ok (.ireturn, 1) := by decide +kernel
theorem dX9_bits_36 : decode cX9_bits 36 = .ok (.iload_n 1, 1) := by decide +kernel
theorem dX9_bits_37 : decode cX9_bits 37 = .ok (.iconst 1, 1) := by decide +kernel
theorem dX9_bits_38 : decode cX9_bits 38 = .ok (.if_icmp .ne 17, 3) := by decide +kernel
theorem dX9_bits_41 : decode cX9_bits 41 = .ok (.aload_n 0, 1) := by decide +kernel
theorem dX9_bits_42 : decode cX9_bits 42 = .ok (.aload_n 0, 1) := by decide +kernel
theorem dX9_bits_43 : decode cX9_bits 43 = .ok (.getfield 67, 3) := by decide +kernel
theorem dX9_bits_46 : decode cX9_bits 46 = .ok (.invokevirtual 317, 3) := by decide +kernel
theorem dX9_bits_49 : decode cX9_bits 49 = .ok (.invokevirtual 309, 3) := by decide +kernel
theorem dX9_bits_52 : decode cX9_bits 52 = .ok (.goto 7, 3) := by decide +kernel
theorem dX9_bits_55 : decode cX9_bits 55 = .ok (.aload_n 0, 1) := by decide +kernel
theorem dX9_bits_56 : decode cX9_bits 56 = .ok (.invokevirtual 320, 3) := by decide +kernel
theorem dX9_bits_59 : decode cX9_bits 59 = .ok (.invokestatic 313, 3) := by decide +kernel
theorem dX9_bits_62 : decode cX9_bits 62 = .ok (.ireturn, 1) := by decide +kernel
theorem dX9_form_0 : decode cX9_form 0 = .ok (.iload_n 1, 1) := by decide +kernel
theorem dX9_form_1 : decode cX9_form 1 = .ok (.ifCond .ge 6, 3) := by decide +kernel
theorem dX9_form_4 : decode cX9_form 4 = .ok (.bipush (-3), 2) := by decide +kernel
theorem dX9_form_6 : decode cX9_form 6 = .ok (.ireturn, 1) := by decide +kernel
theorem dX9_form_7 : decode cX9_form 7 = .ok (.aload_n 0, 1) := by decide +kernel
theorem dX9_form_8 : decode cX9_form 8 = .ok (.invokevirtual 324, 3) := by decide +kernel
theorem dX9_form_11 : decode cX9_form 11 = .ok (.aload_n 0, 1) := by decide +kernel
theorem dX9_form_12 : decode cX9_form 12 = .ok (.getfield 102, 3) := by decide +kernel
theorem dX9_form_15 : decode cX9_form 15 = .ok (.iload_n 1, 1) := by decide +kernel
theorem dX9_form_16 : decode cX9_form 16 = .ok (.invokevirtual 237, 3) := by decide +kernel
theorem dX9_form_19 : decode cX9_form 19 = .ok (.ireturn, 1) := by decide +kernel
theorem dX9_code_0 : decode cX9_code 0 = .ok (.aload_n 0, 1) := by decide +kernel
theorem dX9_code_1 : decode cX9_code 1 = .ok (.getfield 12, 3) := by decide +kernel
theorem dX9_code_4 : decode cX9_code 4 = .ok (.iload_n 1, 1) := by decide +kernel
theorem dX9_code_5 : decode cX9_code 5 = .ok (.invokevirtual 188, 3) := by decide +kernel
theorem dX9_code_8 : decode cX9_code 8 = .ok (.ifCond .eq 12, 3) := by decide +kernel
theorem dX9_code_11 : decode cX9_code 11 = .ok (.iload_n 2, 1) := by decide +kernel
theorem dX9_code_12 : decode cX9_code 12 = .ok (.ifCond .lt 8, 3) := by decide +kernel
theorem dX9_code_15 : decode cX9_code 15 = .ok (.iload_n 2, 1) := by decide +kernel
theorem dX9_code_16 : decode cX9_code 16 = .ok (.iconst 1, 1) := by decide +kernel
theorem dX9_code_17 : decode cX9_code 17 = .ok (.if_icmp .le 6, 3) := by decide +kernel
theorem dX9_code_20 : decode cX9_code 20 = .ok (.bipush (-2), 2) := by decide +kernel
theorem dX9_code_22 : decode cX9_code 22 = .ok (.ireturn, 1) := by decide +kernel
theorem dX9_code_23 : decode cX9_code 23 = .ok (.aload_n 0, 1) := by decide +kernel
theorem dX9_code_24 : decode cX9_code 24 = .ok (.getfield 98, 3) := by decide +kernel
theorem dX9_code_27 : decode cX9_code 27 = .ok (.aload_n 0, 1) := by decide +kernel
theorem dX9_code_28 : decode cX9_code 28 = .ok (.getfield 12, 3) := by decide +kernel
theorem dX9_code_31 : decode cX9_code 31 = .ok (.invokevirtual 135, 3) := by decide +kernel
theorem dX9_code_34 : decode cX9_code 34 = .ok (.invokevirtual 327, 3) := by decide +kernel
theorem dX9_code_37 : decode cX9_code 37 = .ok (.iload_n 2, 1) := by decide +kernel
theorem dX9_code_38 : decode cX9_code 38 = .ok (.ifCond .ne 14, 3) := by decide +kernel
theorem dX9_code_41 : decode cX9_code 41 = .ok (.aload_n 0, 1) := by decide +kernel
theorem dX9_code_42 : decode cX9_code 42 = .ok (.getfield 98, 3) := by decide +kernel
theorem dX9_code_45 : decode cX9_code 45 = .ok (.iload_n 1, 1) := by decide +kernel
theorem dX9_code_46 : decode cX9_code 46 = .ok (.invokevirtual 330, 3) := by decide +kernel
theorem dX9_code_49 : decode cX9_code 49 = .ok (.goto 11, 3) := by decide +kernel
theorem dX9_code_52 : decode cX9_code 52 = .ok (.aload_n 0, 1) := by decide +kernel
theorem dX9_code_53 : decode cX9_code 53 = .ok (.getfield 98, 3) := by decide +kernel
theorem dX9_code_56 : decode cX9_code 56 = .ok (.iload_n 1, 1) := by decide +kernel
theorem dX9_code_57 : decode cX9_code 57 = .ok (.invokevirtual 333, 3) := by decide +kernel
theorem dX9_code_60 : decode cX9_code 60 = .ok (.ireturn, 1) := by decide +kernel
theorem dX9_coded_0 : decode cX9_coded 0 = .ok (.iload_n 1, 1) := by decide +kernel
theorem dX9_coded_1 : decode cX9_coded 1 = .ok (.ifCond .ge 6, 3) := by decide +kernel
theorem dX9_coded_4 : decode cX9_coded 4 = .ok (.bipush (-3), 2) := by decide +kernel
theorem dX9_coded_6 : decode cX9_coded 6 = .ok (.ireturn, 1) := by decide +kernel
theorem dX9_coded_7 : decode cX9_coded 7 = .ok (.aload_n 0, 1) := by decide +kernel
theorem dX9_coded_8 : decode cX9_coded 8 = .ok (.getfield 98, 3) := by decide +kernel
theorem dX9_coded_11 : decode cX9_coded 11 = .ok (.aload_n 0, 1) := by decide +kernel
theorem dX9_coded_12 : decode cX9_coded 12 = .ok (.getfield 12, 3) := by decide +kernel
theorem dX9_coded_15 : decode cX9_coded 15 = .ok (.invokevirtual 135, 3) := by decide +kernel
theorem dX9_coded_18 : decode cX9_coded 18 = .ok (.invokevirtual 327, 3) := by decide +kernel
theorem dX9_coded_21 : decode cX9_coded 21 = .ok (.aload_n 0, 1) := by decide +kernel
theorem dX9_coded_22 : decode cX9_coded 22 = .ok (.getfield 98, 3) := by decide +kernel
theorem dX9_coded_25 : decode cX9_coded 25 = .ok (.iload_n 1, 1) := by decide +kernel
theorem dX9_coded_26 : decode cX9_coded 26 = .ok (.invokevirtual 336, 3) := by decide +kernel
theorem dX9_coded_29 : decode cX9_coded 29 = .ok (.ireturn, 1) := by decide +kernel
theorem dX9_undo_0 : decode cX9_undo 0 = .ok (.iload_n 1, 1) := by decide +kernel
theorem dX9_undo_1 : decode cX9_undo 1 = .ok (.iconst 1, 1) := by decide +kernel
theorem dX9_undo_2 : decode cX9_undo 2 = .ok (.if_icmp .lt 14, 3) := by decide +kernel
theorem dX9_undo_5 : decode cX9_undo 5 = .ok (.iload_n 1, 1) := by decide +kernel
theorem dX9_undo_6 : decode cX9_undo 6 = .ok (.aload_n 0, 1) := by decide +kernel
theorem dX9_undo_7 : decode cX9_undo 7 = .ok (.getfield 19, 3) := by decide +kernel
theorem dX9_undo_10 : decode cX9_undo 10 = .ok (.invokevirtual 339, 3) := by decide +kernel
theorem dX9_undo_13 : decode cX9_undo 13 = .ok (.if_icmp .le 6, 3) := by decide +kernel
theorem dX9_undo_16 : decode cX9_undo 16 = .ok (.bipush (-3), 2) := by decide +kernel
theorem dX9_undo_18 : decode cX9_undo 18 = .ok (.ireturn, 1) := by decide +kernel
theorem dX9_undo_19 : decode cX9_undo 19 = .ok (.aload_n 0, 1) := by decide +kernel
theorem dX9_undo_20 : decode cX9_undo 20 = .ok (.getfield 19, 3) := by decide +kernel
theorem dX9_undo_23 : decode cX9_undo 23 = .ok (.iload_n 1, 1) := by decide +kernel
theorem dX9_undo_24 : decode cX9_undo 24 = .ok (.aload_n 0, 1) := by decide +kernel
theorem dX9_undo_25 : decode cX9_undo 25 = .ok (.getfield 12, 3) := by decide +kernel
theorem dX9_undo_28 : decode cX9_undo 28 = .ok (.invokevirtual 340, 3) := by decide +kernel
theorem dX9_undo_31 : decode cX9_undo 31 = .ok (.aload_n 0, 1) := by decide +kernel
theorem dX9_undo_32 : decode cX9_undo 32 = .ok (.iconst 0, 1) := by decide +kernel
theorem dX9_undo_33 : decode cX9_undo 33 = .ok (.putfield 71, 3) := by decide +kernel
theorem dX9_undo_36 : decode cX9_undo 36 = .ok (.aload_n 0, 1) := by decide +kernel
theorem dX9_undo_37 : decode cX9_undo 37 = .ok (.getfield 19, 3) := by decide +kernel
theorem dX9_undo_40 : decode cX9_undo 40 = .ok (.invokevirtual 339, 3) := by decide +kernel
theorem dX9_undo_43 : decode cX9_undo 43 = .ok (.ireturn, 1) := by decide +kernel
theorem dX9_image_0 : decode cX9_image 0 = .ok (.iload_n 1, 1) := by decide +kernel
theorem dX9_image_1 : decode cX9_image 1 = .ok (.ifCond .lt 8, 3) := by decide +kernel
theorem dX9_image_4 : decode cX9_image 4 = .ok (.iload_n 1, 1) := by decide +kernel
theorem dX9_image_5 : decode cX9_image 5 = .ok (.iconst 2, 1) := by decide +kernel
theorem dX9_image_6 : decode cX9_image 6 = .ok (.if_icmp .lt 6, 3) := by decide +kernel
theorem dX9_image_9 : decode cX9_image 9 = .ok (.bipush (-2), 2) := by decide +kernel
theorem dX9_image_11 : decode cX9_image 11 = .ok (.ireturn, 1) := by decide +kernel
theorem dX9_image_12 : decode cX9_image 12 = .ok (.aload_n 0, 1) := by decide +kernel
theorem dX9_image_13 : decode cX9_image 13 = .ok (.getfield 23, 3) := by decide +kernel
theorem dX9_image_16 : decode cX9_image 16 = .ok (.iload_n 1, 1) := by decide +kernel
theorem dX9_image_17 : decode cX9_image 17 = .ok (.aaload, 1) := by decide +kernel
theorem dX9_image_18 : decode cX9_image 18 = .ok (.aload_n 0, 1) := by decide +kernel
theorem dX9_image_19 : decode cX9_image 19 = .ok (.getfield 12, 3) := by decide +kernel
theorem dX9_image_22 : decode cX9_image 22 = .ok (.invokevirtual 162, 3) := by decide +kernel
theorem dX9_image_25 : decode cX9_image 25 = .ok (.aload_n 0, 1) := by decide +kernel
theorem dX9_image_26 : decode cX9_image 26 = .ok (.getfield 27, 3) := by decide +kernel
theorem dX9_image_29 : decode cX9_image 29 = .ok (.iload_n 1, 1) := by decide +kernel
theorem dX9_image_30 : decode cX9_image 30 = .ok (.iconst 1, 1) := by decide +kernel
theorem dX9_image_31 : decode cX9_image 31 = .ok (.bastore, 1) := by decide +kernel
theorem dX9_image_32 : decode cX9_image 32 = .ok (.iconst 0, 1) := by decide +kernel
theorem dX9_image_33 : decode cX9_image 33 = .ok (.ireturn, 1) := by decide +kernel
theorem dX9_restore_0 : decode cX9_restore 0 = .ok (.iload_n 1, 1) := by decide +kernel
theorem dX9_restore_1 : decode cX9_restore 1 = .ok (.ifCond .lt 8, 3) := by decide +kernel
theorem dX9_restore_4 : decode cX9_restore 4 = .ok (.iload_n 1, 1) := by decide +kernel
theorem dX9_restore_5 : decode cX9_restore 5 = .ok (.iconst 2, 1) := by decide +kernel
theorem dX9_restore_6 : decode cX9_restore 6 = .ok (.if_icmp .lt 6, 3) := by decide +kernel
theorem dX9_restore_9 : decode cX9_restore 9 = .ok (.bipush (-2), 2) := by decide +kernel
theorem dX9_restore_11 : decode cX9_restore 11 = .ok (.ireturn, 1) := by decide +kernel
theorem dX9_restore_12 : decode cX9_restore 12 = .ok (.aload_n 0, 1) := by decide +kernel
theorem dX9_restore_13 : decode cX9_restore 13 = .ok (.getfield 27, 3) := by decide +kernel
theorem dX9_restore_16 : decode cX9_restore 16 = .ok (.iload_n 1, 1) := by decide +kernel
theorem dX9_restore_17 : decode cX9_restore 17 = .ok (.baload, 1) := by decide +kernel
theorem dX9_restore_18 : decode cX9_restore 18 = .ok (.ifCond .ne 6, 3) := by decide +kernel
theorem dX9_restore_21 : decode cX9_restore 21 = .ok (.bipush (-6), 2) := by decide +kernel
theorem dX9_restore_23 : decode cX9_restore 23 = .ok (.ireturn, 1) := by decide +kernel
theorem dX9_restore_24 : decode cX9_restore 24 = .ok (.aload_n 0, 1) := by decide +kernel
theorem dX9_restore_25 : decode cX9_restore 25 = .ok (.getfield 12, 3) := by decide +kernel
theorem dX9_restore_28 : decode cX9_restore 28 = .ok (.aload_n 0, 1) := by decide +kernel
theorem dX9_restore_29 : decode cX9_restore 29 = .ok (.getfield 23, 3) := by decide +kernel
theorem dX9_restore_32 : decode cX9_restore 32 = .ok (.iload_n 1, 1) := by decide +kernel
theorem dX9_restore_33 : decode cX9_restore 33 = .ok (.aaload, 1) := by decide +kernel
theorem dX9_restore_34 : decode cX9_restore 34 = .ok (.invokevirtual 162, 3) := by decide +kernel
theorem dX9_restore_37 : decode cX9_restore 37 = .ok (.aload_n 0, 1) := by decide +kernel
theorem dX9_restore_38 : decode cX9_restore 38 = .ok (.getfield 19, 3) := by decide +kernel
theorem dX9_restore_41 : decode cX9_restore 41 = .ok (.invokevirtual 344, 3) := by decide +kernel
theorem dX9_restore_44 : decode cX9_restore 44 = .ok (.aload_n 0, 1) := by decide +kernel
theorem dX9_restore_45 : decode cX9_restore 45 = .ok (.iconst 0, 1) := by decide +kernel
theorem dX9_restore_46 : decode cX9_restore 46 = .ok (.putfield 71, 3) := by decide +kernel
theorem dX9_restore_49 : decode cX9_restore 49 = .ok (.iconst 0, 1) := by decide +kernel
theorem dX9_restore_50 : decode cX9_restore 50 = .ok (.ireturn, 1) := by decide +kernel
theorem dX9_count_0 : decode cX9_count 0 = .ok (.aload_n 0, 1) := by decide +kernel
theorem dX9_count_1 : decode cX9_count 1 = .ok (.invokevirtual 144, 3) := by decide +kernel
theorem dX9_count_4 : decode cX9_count 4 = .ok (.iload_n 1, 1) := by decide +kernel
theorem dX9_count_5 : decode cX9_count 5 = .ok (.tableswitch 179 0 10 #[59, 67, 78, 86, 94, 99, 107, 115, 137, 145, 157], 59) := by decide +kernel
theorem dX9_count_64 : decode cX9_count 64 = .ok (.aload_n 0, 1) := by decide +kernel
theorem dX9_count_65 : decode cX9_count 65 = .ok (.getfield 67, 3) := by decide +kernel
theorem dX9_count_68 : decode cX9_count 68 = .ok (.invokevirtual 207, 3) := by decide +kernel
theorem dX9_count_71 : decode cX9_count 71 = .ok (.ireturn, 1) := by decide +kernel
theorem dX9_count_72 : decode cX9_count 72 = .ok (.aload_n 0, 1) := by decide +kernel
theorem dX9_count_73 : decode cX9_count 73 = .ok (.getfield 12, 3) := by decide +kernel
theorem dX9_count_76 : decode cX9_count 76 = .ok (.invokevirtual 135, 3) := by decide +kernel
theorem dX9_count_79 : decode cX9_count 79 = .ok (.invokevirtual 105, 3) := by decide +kernel
theorem dX9_count_82 : decode cX9_count 82 = .ok (.ireturn, 1) := by decide +kernel
theorem dX9_count_83 : decode cX9_count 83 = .ok (.aload_n 0, 1) := by decide +kernel
theorem dX9_count_84 : decode cX9_count 84 = .ok (.getfield 12, 3) := by decide +kernel
theorem dX9_count_87 : decode cX9_count 87 = .ok (.invokevirtual 347, 3) := by decide +kernel
theorem dX9_count_90 : decode cX9_count 90 = .ok (.ireturn, 1) := by decide +kernel
theorem dX9_count_91 : decode cX9_count 91 = .ok (.aload_n 0, 1) := by decide +kernel
theorem dX9_count_92 : decode cX9_count 92 = .ok (.getfield 12, 3) := by decide +kernel
theorem dX9_count_95 : decode cX9_count 95 = .ok (.invokevirtual 203, 3) := by decide +kernel
theorem dX9_count_98 : decode cX9_count 98 = .ok (.ireturn, 1) := by decide +kernel
theorem dX9_count_99 : decode cX9_count 99 = .ok (.aload_n 0, 1) := by decide +kernel
theorem dX9_count_100 : decode cX9_count 100 = .ok (.invokevirtual 350, 3) := by decide +kernel
theorem dX9_count_103 : decode cX9_count 103 = .ok (.ireturn, 1) := by decide +kernel
theorem dX9_count_104 : decode cX9_count 104 = .ok (.aload_n 0, 1) := by decide +kernel
theorem dX9_count_105 : decode cX9_count 105 = .ok (.getfield 36, 3) := by decide +kernel
theorem dX9_count_108 : decode cX9_count 108 = .ok (.invokevirtual 105, 3) := by decide +kernel
theorem dX9_count_111 : decode cX9_count 111 = .ok (.ireturn, 1) := by decide +kernel
theorem dX9_count_112 : decode cX9_count 112 = .ok (.aload_n 0, 1) := by decide +kernel
theorem dX9_count_113 : decode cX9_count 113 = .ok (.getfield 19, 3) := by decide +kernel
theorem dX9_count_116 : decode cX9_count 116 = .ok (.invokevirtual 339, 3) := by decide +kernel
theorem dX9_count_119 : decode cX9_count 119 = .ok (.ireturn, 1) := by decide +kernel
theorem dX9_count_120 : decode cX9_count 120 = .ok (.aload_n 0, 1) := by decide +kernel
theorem dX9_count_121 : decode cX9_count 121 = .ok (.getfield 84, 3) := by decide +kernel
theorem dX9_count_124 : decode cX9_count 124 = .ok (.aload_n 0, 1) := by decide +kernel
theorem dX9_count_125 : decode cX9_count 125 = .ok (.getfield 12, 3) := by decide +kernel
theorem dX9_count_128 : decode cX9_count 128 = .ok (.invokevirtual 135, 3) := by decide +kernel
theorem dX9_count_131 : decode cX9_count 131 = .ok (.invokevirtual 168, 3) := by decide +kernel
theorem dX9_count_134 : decode cX9_count 134 = .ok (.aload_n 0, 1) := by decide +kernel
theorem dX9_count_135 : decode cX9_count 135 = .ok (.getfield 84, 3) := by decide +kernel
theorem dX9_count_138 : decode cX9_count 138 = .ok (.invokevirtual 353, 3) := by decide +kernel
theorem dX9_count_141 : decode cX9_count 141 = .ok (.ireturn, 1) := by decide +kernel
theorem dX9_count_142 : decode cX9_count 142 = .ok (.aload_n 0, 1) := by decide +kernel
theorem dX9_count_143 : decode cX9_count 143 = .ok (.getfield 12, 3) := by decide +kernel
theorem dX9_count_146 : decode cX9_count 146 = .ok (.invokevirtual 356, 3) := by decide +kernel
theorem dX9_count_149 : decode cX9_count 149 = .ok (.ireturn, 1) := by decide +kernel
theorem dX9_count_150 : decode cX9_count 150 = .ok (.aload_n 0, 1) := by decide +kernel
theorem dX9_count_151 : decode cX9_count 151 = .ok (.invokevirtual 324, 3) := by decide +kernel
theorem dX9_count_154 : decode cX9_count 154 = .ok (.aload_n 0, 1) := by decide +kernel
theorem dX9_count_155 : decode cX9_count 155 = .ok (.getfield 102, 3) := by decide +kernel
theorem dX9_count_158 : decode cX9_count 158 = .ok (.invokevirtual 105, 3) := by decide +kernel
theorem dX9_count_161 : decode cX9_count 161 = .ok (.ireturn, 1) := by decide +kernel
theorem dX9_count_162 : decode cX9_count 162 = .ok (.aload_n 0, 1) := by decide +kernel
theorem dX9_count_163 : decode cX9_count 163 = .ok (.getfield 98, 3) := by decide +kernel
theorem dX9_count_166 : decode cX9_count 166 = .ok (.aload_n 0, 1) := by decide +kernel
theorem dX9_count_167 : decode cX9_count 167 = .ok (.getfield 12, 3) := by decide +kernel
theorem dX9_count_170 : decode cX9_count 170 = .ok (.invokevirtual 135, 3) := by decide +kernel
theorem dX9_count_173 : decode cX9_count 173 = .ok (.invokevirtual 327, 3) := by decide +kernel
theorem dX9_count_176 : decode cX9_count 176 = .ok (.aload_n 0, 1) := by decide +kernel
theorem dX9_count_177 : decode cX9_count 177 = .ok (.getfield 98, 3) := by decide +kernel
theorem dX9_count_180 : decode cX9_count 180 = .ok (.invokevirtual 359, 3) := by decide +kernel
theorem dX9_count_183 : decode cX9_count 183 = .ok (.ireturn, 1) := by decide +kernel
theorem dX9_count_184 : decode cX9_count 184 = .ok (.iconst (-1), 1) := by decide +kernel
theorem dX9_count_185 : decode cX9_count 185 = .ok (.ireturn, 1) := by decide +kernel
theorem dX9_isLetter_0 : decode cX9_isLetter 0 = .ok (.iload_n 0, 1) := by decide +kernel
theorem dX9_isLetter_1 : decode cX9_isLetter 1 = .ok (.ifCond .lt 13, 3) := by decide +kernel
theorem dX9_isLetter_4 : decode cX9_isLetter 4 = .ok (.iload_n 0, 1) := by decide +kernel
theorem dX9_isLetter_5 : decode cX9_isLetter 5 = .ok (.bipush 26, 2) := by decide +kernel
theorem dX9_isLetter_7 : decode cX9_isLetter 7 = .ok (.if_icmp .ge 7, 3) := by decide +kernel
theorem dX9_isLetter_10 : decode cX9_isLetter 10 = .ok (.iconst 1, 1) := by decide +kernel
theorem dX9_isLetter_11 : decode cX9_isLetter 11 = .ok (.goto 4, 3) := by decide +kernel
theorem dX9_isLetter_14 : decode cX9_isLetter 14 = .ok (.iconst 0, 1) := by decide +kernel
theorem dX9_isLetter_15 : decode cX9_isLetter 15 = .ok (.ireturn, 1) := by decide +kernel
theorem dX9_read_0 : decode cX9_read 0 = .ok (.aload_n 0, 1) := by decide +kernel
theorem dX9_read_1 : decode cX9_read 1 = .ok (.getfield 71, 3) := by decide +kernel
theorem dX9_read_4 : decode cX9_read 4 = .ok (.ifCond .eq 4, 3) := by decide +kernel
theorem dX9_read_7 : decode cX9_read 7 = .ok (.return_, 1) := by decide +kernel
theorem dX9_read_8 : decode cX9_read 8 = .ok (.aload_n 0, 1) := by decide +kernel
theorem dX9_read_9 : decode cX9_read 9 = .ok (.getfield 60, 3) := by decide +kernel
theorem dX9_read_12 : decode cX9_read 12 = .ok (.aload_n 0, 1) := by decide +kernel
theorem dX9_read_13 : decode cX9_read 13 = .ok (.getfield 12, 3) := by decide +kernel
theorem dX9_read_16 : decode cX9_read 16 = .ok (.invokevirtual 362, 3) := by decide +kernel
theorem dX9_read_19 : decode cX9_read 19 = .ok (.aload_n 0, 1) := by decide +kernel
theorem dX9_read_20 : decode cX9_read 20 = .ok (.getfield 67, 3) := by decide +kernel
theorem dX9_read_23 : decode cX9_read 23 = .ok (.aload_n 0, 1) := by decide +kernel
theorem dX9_read_24 : decode cX9_read 24 = .ok (.getfield 12, 3) := by decide +kernel
theorem dX9_read_27 : decode cX9_read 27 = .ok (.invokevirtual 135, 3) := by decide +kernel
theorem dX9_read_30 : decode cX9_read 30 = .ok (.aload_n 0, 1) := by decide +kernel
theorem dX9_read_31 : decode cX9_read 31 = .ok (.getfield 12, 3) := by decide +kernel
theorem dX9_read_34 : decode cX9_read 34 = .ok (.aload_n 0, 1) := by decide +kernel
theorem dX9_read_35 : decode cX9_read 35 = .ok (.getfield 60, 3) := by decide +kernel
theorem dX9_read_38 : decode cX9_read 38 = .ok (.invokevirtual 365, 3) := by decide +kernel
theorem dX9_read_41 : decode cX9_read 41 = .ok (.aload_n 0, 1) := by decide +kernel
theorem dX9_read_42 : decode cX9_read 42 = .ok (.iconst 1, 1) := by decide +kernel
theorem dX9_read_43 : decode cX9_read 43 = .ok (.putfield 71, 3) := by decide +kernel
theorem dX9_read_46 : decode cX9_read 46 = .ok (.return_, 1) := by decide +kernel
theorem dX9_letterCount_0 : decode cX9_letterCount 0 = .ok (.aload_n 0, 1) := by decide +kernel
theorem dX9_letterCount_1 : decode cX9_letterCount 1 = .ok (.invokevirtual 144, 3) := by decide +kernel
theorem dX9_letterCount_4 : decode cX9_letterCount 4 = .ok (.aload_n 0, 1) := by decide +kernel
theorem dX9_letterCount_5 : decode cX9_letterCount 5 = .ok (.getfield 67, 3) := by decide +kernel
theorem dX9_letterCount_8 : decode cX9_letterCount 8 = .ok (.invokevirtual 207, 3) := by decide +kernel
theorem dX9_letterCount_11 : decode cX9_letterCount 11 = .ok (.ireturn, 1) := by decide +kernel
theorem dX9_isStretch_0 : decode cX9_isStretch 0 = .ok (.aload_n 0, 1) := by decide +kernel
theorem dX9_isStretch_1 : decode cX9_isStretch 1 = .ok (.invokevirtual 144, 3) := by decide +kernel
theorem dX9_isStretch_4 : decode cX9_isStretch 4 = .ok (.iload_n 1, 1) := by decide +kernel
theorem dX9_isStretch_5 : decode cX9_isStretch 5 = .ok (.ifCond .lt 31, 3) := by decide +kernel
theorem dX9_isStretch_8 : decode cX9_isStretch 8 = .ok (.iload_n 1, 1) := by decide +kernel
theorem dX9_isStretch_9 : decode cX9_isStretch 9 = .ok (.aload_n 0, 1) := by decide +kernel
theorem dX9_isStretch_10 : decode cX9_isStretch 10 = .ok (.getfield 67, 3) := by decide +kernel
theorem dX9_isStretch_13 : decode cX9_isStretch 13 = .ok (.invokevirtual 207, 3) := by decide +kernel
theorem dX9_isStretch_16 : decode cX9_isStretch 16 = .ok (.if_icmp .gt 20, 3) := by decide +kernel
theorem dX9_isStretch_19 : decode cX9_isStretch 19 = .ok (.iload_n 2, 1) := by decide +kernel
theorem dX9_isStretch_20 : decode cX9_isStretch 20 = .ok (.aload_n 0, 1) := by decide +kernel
theorem dX9_isStretch_21 : decode cX9_isStretch 21 = .ok (.getfield 67, 3) := by decide +kernel
theorem dX9_isStretch_24 : decode cX9_isStretch 24 = .ok (.invokevirtual 207, 3) := by decide +kernel
theorem dX9_isStretch_27 : decode cX9_isStretch 27 = .ok (.iload_n 1, 1) := by decide +kernel
theorem dX9_isStretch_28 : decode cX9_isStretch 28 = .ok (.isub, 1) := by decide +kernel
theorem dX9_isStretch_29 : decode cX9_isStretch 29 = .ok (.if_icmp .gt 7, 3) := by decide +kernel
theorem dX9_isStretch_32 : decode cX9_isStretch 32 = .ok (.iconst 1, 1) := by decide +kernel
theorem dX9_isStretch_33 : decode cX9_isStretch 33 = .ok (.goto 4, 3) := by decide +kernel
theorem dX9_isStretch_36 : decode cX9_isStretch 36 = .ok (.iconst 0, 1) := by decide +kernel
theorem dX9_isStretch_37 : decode cX9_isStretch 37 = .ok (.ireturn, 1) := by decide +kernel
theorem dX9_feedOne_0 : decode cX9_feedOne 0 = .ok (.bipush 24, 2) := by decide +kernel
theorem dX9_feedOne_2 : decode cX9_feedOne 2 = .ok (.istore_n 2, 1) := by decide +kernel
theorem dX9_feedOne_3 : decode cX9_feedOne 3 = .ok (.iload_n 2, 1) := by decide +kernel
theorem dX9_feedOne_4 : decode cX9_feedOne 4 = .ok (.ifCond .lt 23, 3) := by decide +kernel
theorem dX9_feedOne_7 : decode cX9_feedOne 7 = .ok (.aload_n 0, 1) := by decide +kernel
theorem dX9_feedOne_8 : decode cX9_feedOne 8 = .ok (.getfield 36, 3) := by decide +kernel
theorem dX9_feedOne_11 : decode cX9_feedOne 11 = .ok (.iload_n 1, 1) := by decide +kernel
theorem dX9_feedOne_12 : decode cX9_feedOne 12 = .ok (.iload_n 2, 1) := by decide +kernel
theorem dX9_feedOne_13 : decode cX9_feedOne 13 = .ok (.iushr, 1) := by decide +kernel
theorem dX9_feedOne_14 : decode cX9_feedOne 14 = .ok (.sipush 255, 3) := by decide +kernel
theorem dX9_feedOne_17 : decode cX9_feedOne 17 = .ok (.iand, 1) := by decide +kernel
theorem dX9_feedOne_18 : decode cX9_feedOne 18 = .ok (.invokevirtual 211, 3) := by decide +kernel
theorem dX9_feedOne_21 : decode cX9_feedOne 21 = .ok (.iinc 2 (-8), 3) := by decide +kernel
theorem dX9_feedOne_24 : decode cX9_feedOne 24 = .ok (.goto (-21), 3) := by decide +kernel
theorem dX9_feedOne_27 : decode cX9_feedOne 27 = .ok (.return_, 1) := by decide +kernel
theorem dX9_isOnTape_0 : decode cX9_isOnTape 0 = .ok (.iload_n 1, 1) := by decide +kernel
theorem dX9_isOnTape_1 : decode cX9_isOnTape 1 = .ok (.ifCond .lt 18, 3) := by decide +kernel
theorem dX9_isOnTape_4 : decode cX9_isOnTape 4 = .ok (.iload_n 1, 1) := by decide +kernel
theorem dX9_isOnTape_5 : decode cX9_isOnTape 5 = .ok (.aload_n 0, 1) := by decide +kernel
theorem dX9_isOnTape_6 : decode cX9_isOnTape 6 = .ok (.getfield 36, 3) := by decide +kernel
theorem dX9_isOnTape_9 : decode cX9_isOnTape 9 = .ok (.invokevirtual 105, 3) := by decide +kernel
theorem dX9_isOnTape_12 : decode cX9_isOnTape 12 = .ok (.if_icmp .gt 7, 3) := by decide +kernel
theorem dX9_isOnTape_15 : decode cX9_isOnTape 15 = .ok (.iconst 1, 1) := by decide +kernel
theorem dX9_isOnTape_16 : decode cX9_isOnTape 16 = .ok (.goto 4, 3) := by decide +kernel
theorem dX9_isOnTape_19 : decode cX9_isOnTape 19 = .ok (.iconst 0, 1) := by decide +kernel
theorem dX9_isOnTape_20 : decode cX9_isOnTape 20 = .ok (.ireturn, 1) := by decide +kernel
theorem dX9_firstNoLetter_0 : decode cX9_firstNoLetter 0 = .ok (.iconst 0, 1) := by decide +kernel
theorem dX9_firstNoLetter_1 : decode cX9_firstNoLetter 1 = .ok (.istore_n 2, 1) := by decide +kernel
theorem dX9_firstNoLetter_2 : decode cX9_firstNoLetter 2 = .ok (.iload_n 2, 1) := by decide +kernel
theorem dX9_firstNoLetter_3 : decode cX9_firstNoLetter 3 = .ok (.iload_n 1, 1) := by decide +kernel
theorem dX9_firstNoLetter_4 : decode cX9_firstNoLetter 4 = .ok (.if_icmp .ge 28, 3) := by decide +kernel
theorem dX9_firstNoLetter_7 : decode cX9_firstNoLetter 7 = .ok (.aload_n 0, 1) := by decide +kernel
theorem dX9_firstNoLetter_8 : decode cX9_firstNoLetter 8 = .ok (.getfield 36, 3) := by decide +kernel
theorem dX9_firstNoLetter_11 : decode cX9_firstNoLetter 11 = .ok (.iload_n 2, 1) := by decide +kernel
theorem dX9_firstNoLetter_12 : decode cX9_firstNoLetter 12 = .ok (.invokevirtual 237, 3) := by decide +kernel
theorem dX9_firstNoLetter_15 : decode cX9_firstNoLetter 15 = .ok (.bipush 97, 2) := by decide +kernel
theorem dX9_firstNoLetter_17 : decode cX9_firstNoLetter 17 = .ok (.isub, 1) := by decide +kernel
theorem dX9_firstNoLetter_18 : decode cX9_firstNoLetter 18 = .ok (.invokestatic 214, 3) := by decide +kernel
theorem dX9_firstNoLetter_21 : decode cX9_firstNoLetter 21 = .ok (.ifCond .ne 5, 3) := by decide +kernel
theorem dX9_firstNoLetter_24 : decode cX9_firstNoLetter 24 = .ok (.iload_n 2, 1) := by decide +kernel
theorem dX9_firstNoLetter_25 : decode cX9_firstNoLetter 25 = .ok (.ireturn, 1) := by decide +kernel
theorem dX9_firstNoLetter_26 : decode cX9_firstNoLetter 26 = .ok (.iinc 2 1, 3) := by decide +kernel
theorem dX9_firstNoLetter_29 : decode cX9_firstNoLetter 29 = .ok (.goto (-27), 3) := by decide +kernel
theorem dX9_firstNoLetter_32 : decode cX9_firstNoLetter 32 = .ok (.iconst (-1), 1) := by decide +kernel
theorem dX9_firstNoLetter_33 : decode cX9_firstNoLetter 33 = .ok (.ireturn, 1) := by decide +kernel
theorem dX9_takeLetters_0 : decode cX9_takeLetters 0 = .ok (.iconst 0, 1) := by decide +kernel
theorem dX9_takeLetters_1 : decode cX9_takeLetters 1 = .ok (.istore_n 3, 1) := by decide +kernel
theorem dX9_takeLetters_2 : decode cX9_takeLetters 2 = .ok (.iload_n 3, 1) := by decide +kernel
theorem dX9_takeLetters_3 : decode cX9_takeLetters 3 = .ok (.iload_n 1, 1) := by decide +kernel
theorem dX9_takeLetters_4 : decode cX9_takeLetters 4 = .ok (.if_icmp .ge 24, 3) := by decide +kernel
theorem dX9_takeLetters_7 : decode cX9_takeLetters 7 = .ok (.aload_n 2, 1) := by decide +kernel
theorem dX9_takeLetters_8 : decode cX9_takeLetters 8 = .ok (.aload_n 0, 1) := by decide +kernel
theorem dX9_takeLetters_9 : decode cX9_takeLetters 9 = .ok (.getfield 36, 3) := by decide +kernel
theorem dX9_takeLetters_12 : decode cX9_takeLetters 12 = .ok (.iload_n 3, 1) := by decide +kernel
theorem dX9_takeLetters_13 : decode cX9_takeLetters 13 = .ok (.invokevirtual 237, 3) := by decide +kernel
theorem dX9_takeLetters_16 : decode cX9_takeLetters 16 = .ok (.bipush 97, 2) := by decide +kernel
theorem dX9_takeLetters_18 : decode cX9_takeLetters 18 = .ok (.isub, 1) := by decide +kernel
theorem dX9_takeLetters_19 : decode cX9_takeLetters 19 = .ok (.invokevirtual 211, 3) := by decide +kernel
theorem dX9_takeLetters_22 : decode cX9_takeLetters 22 = .ok (.iinc 3 1, 3) := by decide +kernel
theorem dX9_takeLetters_25 : decode cX9_takeLetters 25 = .ok (.goto (-23), 3) := by decide +kernel
theorem dX9_takeLetters_28 : decode cX9_takeLetters 28 = .ok (.return_, 1) := by decide +kernel
theorem dX9_endTape_0 : decode cX9_endTape 0 = .ok (.aload_n 0, 1) := by decide +kernel
theorem dX9_endTape_1 : decode cX9_endTape 1 = .ok (.getfield 36, 3) := by decide +kernel
theorem dX9_endTape_4 : decode cX9_endTape 4 = .ok (.invokevirtual 143, 3) := by decide +kernel
theorem dX9_endTape_7 : decode cX9_endTape 7 = .ok (.aload_n 0, 1) := by decide +kernel
theorem dX9_endTape_8 : decode cX9_endTape 8 = .ok (.iload_n 1, 1) := by decide +kernel
theorem dX9_endTape_9 : decode cX9_endTape 9 = .ok (.putfield 50, 3) := by decide +kernel
theorem dX9_endTape_12 : decode cX9_endTape 12 = .ok (.aload_n 0, 1) := by decide +kernel
theorem dX9_endTape_13 : decode cX9_endTape 13 = .ok (.iload_n 2, 1) := by decide +kernel
theorem dX9_endTape_14 : decode cX9_endTape 14 = .ok (.putfield 54, 3) := by decide +kernel
theorem dX9_endTape_17 : decode cX9_endTape 17 = .ok (.return_, 1) := by decide +kernel
theorem dX9_refuseTape_0 : decode cX9_refuseTape 0 = .ok (.aload_n 0, 1) := by decide +kernel
theorem dX9_refuseTape_1 : decode cX9_refuseTape 1 = .ok (.iload_n 1, 1) := by decide +kernel
theorem dX9_refuseTape_2 : decode cX9_refuseTape 2 = .ok (.iload_n 2, 1) := by decide +kernel
theorem dX9_refuseTape_3 : decode cX9_refuseTape 3 = .ok (.invokevirtual 116, 3) := by decide +kernel
theorem dX9_refuseTape_6 : decode cX9_refuseTape 6 = .ok (.bipush (-30), 2) := by decide +kernel
theorem dX9_refuseTape_8 : decode cX9_refuseTape 8 = .ok (.iload_n 1, 1) := by decide +kernel
theorem dX9_refuseTape_9 : decode cX9_refuseTape 9 = .ok (.isub, 1) := by decide +kernel
theorem dX9_refuseTape_10 : decode cX9_refuseTape 10 = .ok (.ireturn, 1) := by decide +kernel
theorem dX9_join_0 : decode cX9_join 0 = .ok (.aload_n 0, 1) := by decide +kernel
theorem dX9_join_1 : decode cX9_join 1 = .ok (.getfield 12, 3) := by decide +kernel
theorem dX9_join_4 : decode cX9_join 4 = .ok (.iload_n 1, 1) := by decide +kernel
theorem dX9_join_5 : decode cX9_join 5 = .ok (.iload_n 2, 1) := by decide +kernel
theorem dX9_join_6 : decode cX9_join 6 = .ok (.invokevirtual 369, 3) := by decide +kernel
theorem dX9_join_9 : decode cX9_join 9 = .ok (.iconst (-1), 1) := by decide +kernel
theorem dX9_join_10 : decode cX9_join 10 = .ok (.if_icmp .ne 6, 3) := by decide +kernel
theorem dX9_join_13 : decode cX9_join 13 = .ok (.bipush (-4), 2) := by decide +kernel
theorem dX9_join_15 : decode cX9_join 15 = .ok (.ireturn, 1) := by decide +kernel
theorem dX9_join_16 : decode cX9_join 16 = .ok (.aload_n 0, 1) := by decide +kernel
theorem dX9_join_17 : decode cX9_join 17 = .ok (.getfield 19, 3) := by decide +kernel
theorem dX9_join_20 : decode cX9_join 20 = .ok (.aload_n 0, 1) := by decide +kernel
theorem dX9_join_21 : decode cX9_join 21 = .ok (.getfield 12, 3) := by decide +kernel
theorem dX9_join_24 : decode cX9_join 24 = .ok (.invokevirtual 128, 3) := by decide +kernel
theorem dX9_join_27 : decode cX9_join 27 = .ok (.aload_n 0, 1) := by decide +kernel
theorem dX9_join_28 : decode cX9_join 28 = .ok (.iconst 0, 1) := by decide +kernel
theorem dX9_join_29 : decode cX9_join 29 = .ok (.putfield 71, 3) := by decide +kernel
theorem dX9_join_32 : decode cX9_join 32 = .ok (.aload_n 0, 1) := by decide +kernel
theorem dX9_join_33 : decode cX9_join 33 = .ok (.getfield 12, 3) := by decide +kernel
theorem dX9_join_36 : decode cX9_join 36 = .ok (.iload_n 1, 1) := by decide +kernel
theorem dX9_join_37 : decode cX9_join 37 = .ok (.iload_n 2, 1) := by decide +kernel
theorem dX9_join_38 : decode cX9_join 38 = .ok (.invokevirtual 372, 3) := by decide +kernel
theorem dX9_join_41 : decode cX9_join 41 = .ok (.ireturn, 1) := by decide +kernel
theorem dX9_packBest_0 : decode cX9_packBest 0 = .ok (.aload_n 0, 1) := by decide +kernel
theorem dX9_packBest_1 : decode cX9_packBest 1 = .ok (.getfield 84, 3) := by decide +kernel
theorem dX9_packBest_4 : decode cX9_packBest 4 = .ok (.aload_n 0, 1) := by decide +kernel
theorem dX9_packBest_5 : decode cX9_packBest 5 = .ok (.getfield 12, 3) := by decide +kernel
theorem dX9_packBest_8 : decode cX9_packBest 8 = .ok (.invokevirtual 135, 3) := by decide +kernel
theorem dX9_packBest_11 : decode cX9_packBest 11 = .ok (.invokevirtual 168, 3) := by decide +kernel
theorem dX9_packBest_14 : decode cX9_packBest 14 = .ok (.aload_n 0, 1) := by decide +kernel
theorem dX9_packBest_15 : decode cX9_packBest 15 = .ok (.getfield 84, 3) := by decide +kernel
theorem dX9_packBest_18 : decode cX9_packBest 18 = .ok (.iconst 0, 1) := by decide +kernel
theorem dX9_packBest_19 : decode cX9_packBest 19 = .ok (.invokevirtual 172, 3) := by decide +kernel
theorem dX9_packBest_22 : decode cX9_packBest 22 = .ok (.istore_n 1, 1) := by decide +kernel
theorem dX9_packBest_23 : decode cX9_packBest 23 = .ok (.iload_n 1, 1) := by decide +kernel
theorem dX9_packBest_24 : decode cX9_packBest 24 = .ok (.iconst (-1), 1) := by decide +kernel
theorem dX9_packBest_25 : decode cX9_packBest 25 = .ok (.if_icmp .eq 26, 3) := by decide +kernel
theorem dX9_packBest_28 : decode cX9_packBest 28 = .ok (.aload_n 0, 1) := by decide +kernel
theorem dX9_packBest_29 : decode cX9_packBest 29 = .ok (.getfield 12, 3) := by decide +kernel
theorem dX9_packBest_32 : decode cX9_packBest 32 = .ok (.iload_n 1, 1) := by decide +kernel
theorem dX9_packBest_33 : decode cX9_packBest 33 = .ok (.invokestatic 175, 3) := by decide +kernel
theorem dX9_packBest_36 : decode cX9_packBest 36 = .ok (.iload_n 1, 1) := by decide +kernel
theorem dX9_packBest_37 : decode cX9_packBest 37 = .ok (.invokestatic 178, 3) := by decide +kernel
theorem dX9_packBest_40 : decode cX9_packBest 40 = .ok (.invokevirtual 372, 3) := by decide +kernel
theorem dX9_packBest_43 : decode cX9_packBest 43 = .ok (.iconst (-1), 1) := by decide +kernel
theorem dX9_packBest_44 : decode cX9_packBest 44 = .ok (.if_icmp .eq 7, 3) := by decide +kernel
theorem dX9_packBest_47 : decode cX9_packBest 47 = .ok (.iconst 1, 1) := by decide +kernel
theorem dX9_packBest_48 : decode cX9_packBest 48 = .ok (.goto 4, 3) := by decide +kernel
theorem dX9_packBest_51 : decode cX9_packBest 51 = .ok (.iconst 0, 1) := by decide +kernel
theorem dX9_packBest_52 : decode cX9_packBest 52 = .ok (.ireturn, 1) := by decide +kernel
theorem dX9_rowSign_0 : decode cX9_rowSign 0 = .ok (.iload_n 2, 1) := by decide +kernel
theorem dX9_rowSign_1 : decode cX9_rowSign 1 = .ok (.bipush 10, 2) := by decide +kernel
theorem dX9_rowSign_3 : decode cX9_rowSign 3 = .ok (.if_icmp .lt 9, 3) := by decide +kernel
theorem dX9_rowSign_6 : decode cX9_rowSign 6 = .ok (.iload_n 2, 1) := by decide +kernel
theorem dX9_rowSign_7 : decode cX9_rowSign 7 = .ok (.bipush 22, 2) := by decide +kernel
theorem dX9_rowSign_9 : decode cX9_rowSign 9 = .ok (.if_icmp .lt 6, 3) := by decide +kernel
theorem dX9_rowSign_12 : decode cX9_rowSign 12 = .ok (.bipush (-2), 2) := by decide +kernel
theorem dX9_rowSign_14 : decode cX9_rowSign 14 = .ok (.ireturn, 1) := by decide +kernel
theorem dX9_rowSign_15 : decode cX9_rowSign 15 = .ok (.aload_n 0, 1) := by decide +kernel
theorem dX9_rowSign_16 : decode cX9_rowSign 16 = .ok (.getfield 12, 3) := by decide +kernel
theorem dX9_rowSign_19 : decode cX9_rowSign 19 = .ok (.iload_n 1, 1) := by decide +kernel
theorem dX9_rowSign_20 : decode cX9_rowSign 20 = .ok (.invokevirtual 240, 3) := by decide +kernel
theorem dX9_rowSign_23 : decode cX9_rowSign 23 = .ok (.iload_n 2, 1) := by decide +kernel
theorem dX9_rowSign_24 : decode cX9_rowSign 24 = .ok (.bipush 10, 2) := by decide +kernel
theorem dX9_rowSign_26 : decode cX9_rowSign 26 = .ok (.isub, 1) := by decide +kernel
theorem dX9_rowSign_27 : decode cX9_rowSign 27 = .ok (.invokevirtual 237, 3) := by decide +kernel
theorem dX9_rowSign_30 : decode cX9_rowSign 30 = .ok (.ireturn, 1) := by decide +kernel
theorem dX9_hitsWithin_0 : decode cX9_hitsWithin 0 = .ok (.aload_n 0, 1) := by decide +kernel
theorem dX9_hitsWithin_1 : decode cX9_hitsWithin 1 = .ok (.getfield 75, 3) := by decide +kernel
theorem dX9_hitsWithin_4 : decode cX9_hitsWithin 4 = .ok (.invokevirtual 143, 3) := by decide +kernel
theorem dX9_hitsWithin_7 : decode cX9_hitsWithin 7 = .ok (.aload_n 0, 1) := by decide +kernel
theorem dX9_hitsWithin_8 : decode cX9_hitsWithin 8 = .ok (.getfield 75, 3) := by decide +kernel
theorem dX9_hitsWithin_11 : decode cX9_hitsWithin 11 = .ok (.iload_n 1, 1) := by decide +kernel
theorem dX9_hitsWithin_12 : decode cX9_hitsWithin 12 = .ok (.invokevirtual 211, 3) := by decide +kernel
theorem dX9_hitsWithin_15 : decode cX9_hitsWithin 15 = .ok (.aload_n 0, 1) := by decide +kernel
theorem dX9_hitsWithin_16 : decode cX9_hitsWithin 16 = .ok (.getfield 78, 3) := by decide +kernel
theorem dX9_hitsWithin_19 : decode cX9_hitsWithin 19 = .ok (.aload_n 0, 1) := by decide +kernel
theorem dX9_hitsWithin_20 : decode cX9_hitsWithin 20 = .ok (.getfield 75, 3) := by decide +kernel
theorem dX9_hitsWithin_23 : decode cX9_hitsWithin 23 = .ok (.aload_n 0, 1) := by decide +kernel
theorem dX9_hitsWithin_24 : decode cX9_hitsWithin 24 = .ok (.getfield 12, 3) := by decide +kernel
theorem dX9_hitsWithin_27 : decode cX9_hitsWithin 27 = .ok (.aload_n 0, 1) := by decide +kernel
theorem dX9_hitsWithin_28 : decode cX9_hitsWithin 28 = .ok (.getfield 60, 3) := by decide +kernel
theorem dX9_hitsWithin_31 : decode cX9_hitsWithin 31 = .ok (.invokevirtual 365, 3) := by decide +kernel
theorem dX9_hitsWithin_34 : decode cX9_hitsWithin 34 = .ok (.aload_n 0, 1) := by decide +kernel
theorem dX9_hitsWithin_35 : decode cX9_hitsWithin 35 = .ok (.getfield 78, 3) := by decide +kernel
theorem dX9_hitsWithin_38 : decode cX9_hitsWithin 38 = .ok (.aload_n 0, 1) := by decide +kernel
theorem dX9_hitsWithin_39 : decode cX9_hitsWithin 39 = .ok (.getfield 40, 3) := by decide +kernel
theorem dX9_hitsWithin_42 : decode cX9_hitsWithin 42 = .ok (.invokevirtual 147, 3) := by decide +kernel
theorem dX9_hitsWithin_45 : decode cX9_hitsWithin 45 = .ok (.ireturn, 1) := by decide +kernel
theorem dX9_greatestDepth_0 : decode cX9_greatestDepth 0 = .ok (.iconst 0, 1) := by decide +kernel
theorem dX9_greatestDepth_1 : decode cX9_greatestDepth 1 = .ok (.istore_n 1, 1) := by decide +kernel
theorem dX9_greatestDepth_2 : decode cX9_greatestDepth 2 = .ok (.iconst 0, 1) := by decide +kernel
theorem dX9_greatestDepth_3 : decode cX9_greatestDepth 3 = .ok (.istore_n 2, 1) := by decide +kernel
theorem dX9_greatestDepth_4 : decode cX9_greatestDepth 4 = .ok (.iload_n 2, 1) := by decide +kernel
theorem dX9_greatestDepth_5 : decode cX9_greatestDepth 5 = .ok (.aload_n 0, 1) := by decide +kernel
theorem dX9_greatestDepth_6 : decode cX9_greatestDepth 6 = .ok (.getfield 12, 3) := by decide +kernel
theorem dX9_greatestDepth_9 : decode cX9_greatestDepth 9 = .ok (.invokevirtual 135, 3) := by decide +kernel
theorem dX9_greatestDepth_12 : decode cX9_greatestDepth 12 = .ok (.invokevirtual 105, 3) := by decide +kernel
theorem dX9_greatestDepth_15 : decode cX9_greatestDepth 15 = .ok (.if_icmp .ge 32, 3) := by decide +kernel
theorem dX9_greatestDepth_18 : decode cX9_greatestDepth 18 = .ok (.iload_n 1, 1) := by decide +kernel
theorem dX9_greatestDepth_19 : decode cX9_greatestDepth 19 = .ok (.aload_n 0, 1) := by decide +kernel
theorem dX9_greatestDepth_20 : decode cX9_greatestDepth 20 = .ok (.getfield 60, 3) := by decide +kernel
theorem dX9_greatestDepth_23 : decode cX9_greatestDepth 23 = .ok (.aload_n 0, 1) := by decide +kernel
theorem dX9_greatestDepth_24 : decode cX9_greatestDepth 24 = .ok (.getfield 12, 3) := by decide +kernel
theorem dX9_greatestDepth_27 : decode cX9_greatestDepth 27 = .ok (.invokevirtual 135, 3) := by decide +kernel
theorem dX9_greatestDepth_30 : decode cX9_greatestDepth 30 = .ok (.iload_n 2, 1) := by decide +kernel
theorem dX9_greatestDepth_31 : decode cX9_greatestDepth 31 = .ok (.invokevirtual 237, 3) := by decide +kernel
theorem dX9_greatestDepth_34 : decode cX9_greatestDepth 34 = .ok (.invokevirtual 247, 3) := by decide +kernel
theorem dX9_greatestDepth_37 : decode cX9_greatestDepth 37 = .ok (.invokestatic 375, 3) := by decide +kernel
theorem dX9_greatestDepth_40 : decode cX9_greatestDepth 40 = .ok (.istore_n 1, 1) := by decide +kernel
theorem dX9_greatestDepth_41 : decode cX9_greatestDepth 41 = .ok (.iinc 2 1, 3) := by decide +kernel
theorem dX9_greatestDepth_44 : decode cX9_greatestDepth 44 = .ok (.goto (-40), 3) := by decide +kernel
theorem dX9_greatestDepth_47 : decode cX9_greatestDepth 47 = .ok (.iload_n 1, 1) := by decide +kernel
theorem dX9_greatestDepth_48 : decode cX9_greatestDepth 48 = .ok (.ireturn, 1) := by decide +kernel
theorem dX9_perLetter_0 : decode cX9_perLetter 0 = .ok (.aload_n 0, 1) := by decide +kernel
theorem dX9_perLetter_1 : decode cX9_perLetter 1 = .ok (.getfield 67, 3) := by decide +kernel
theorem dX9_perLetter_4 : decode cX9_perLetter 4 = .ok (.invokevirtual 207, 3) := by decide +kernel
theorem dX9_perLetter_7 : decode cX9_perLetter 7 = .ok (.ifCond .ne 7, 3) := by decide +kernel
theorem dX9_perLetter_10 : decode cX9_perLetter 10 = .ok (.fconst 0, 1) := by decide +kernel
theorem dX9_perLetter_11 : decode cX9_perLetter 11 = .ok (.goto 14, 3) := by decide +kernel
theorem dX9_perLetter_14 : decode cX9_perLetter 14 = .ok (.iload_n 1, 1) := by decide +kernel
theorem dX9_perLetter_15 : decode cX9_perLetter 15 = .ok (.i2f, 1) := by decide +kernel
theorem dX9_perLetter_16 : decode cX9_perLetter 16 = .ok (.aload_n 0, 1) := by decide +kernel
theorem dX9_perLetter_17 : decode cX9_perLetter 17 = .ok (.getfield 67, 3) := by decide +kernel
theorem dX9_perLetter_20 : decode cX9_perLetter 20 = .ok (.invokevirtual 207, 3) := by decide +kernel
theorem dX9_perLetter_23 : decode cX9_perLetter 23 = .ok (.i2f, 1) := by decide +kernel
theorem dX9_perLetter_24 : decode cX9_perLetter 24 = .ok (.fdiv, 1) := by decide +kernel
theorem dX9_perLetter_25 : decode cX9_perLetter 25 = .ok (.freturn, 1) := by decide +kernel
theorem dX9_foldedLengths_0 : decode cX9_foldedLengths 0 = .ok (.fconst 0, 1) := by decide +kernel
theorem dX9_foldedLengths_1 : decode cX9_foldedLengths 1 = .ok (.fstore_n 1, 1) := by decide +kernel
theorem dX9_foldedLengths_2 : decode cX9_foldedLengths 2 = .ok (.iconst 0, 1) := by decide +kernel
theorem dX9_foldedLengths_3 : decode cX9_foldedLengths 3 = .ok (.istore_n 2, 1) := by decide +kernel
theorem dX9_foldedLengths_4 : decode cX9_foldedLengths 4 = .ok (.iload_n 2, 1) := by decide +kernel
theorem dX9_foldedLengths_5 : decode cX9_foldedLengths 5 = .ok (.aload_n 0, 1) := by decide +kernel
theorem dX9_foldedLengths_6 : decode cX9_foldedLengths 6 = .ok (.getfield 12, 3) := by decide +kernel
theorem dX9_foldedLengths_9 : decode cX9_foldedLengths 9 = .ok (.invokevirtual 135, 3) := by decide +kernel
theorem dX9_foldedLengths_12 : decode cX9_foldedLengths 12 = .ok (.invokevirtual 105, 3) := by decide +kernel
theorem dX9_foldedLengths_15 : decode cX9_foldedLengths 15 = .ok (.if_icmp .ge 41, 3) := by decide +kernel
theorem dX9_foldedLengths_18 : decode cX9_foldedLengths 18 = .ok (.aload_n 0, 1) := by decide +kernel
theorem dX9_foldedLengths_19 : decode cX9_foldedLengths 19 = .ok (.getfield 60, 3) := by decide +kernel
theorem dX9_foldedLengths_22 : decode cX9_foldedLengths 22 = .ok (.aload_n 0, 1) := by decide +kernel
theorem dX9_foldedLengths_23 : decode cX9_foldedLengths 23 = .ok (.getfield 12, 3) := by decide +kernel
theorem dX9_foldedLengths_26 : decode cX9_foldedLengths 26 = .ok (.invokevirtual 135, 3) := by decide +kernel
theorem dX9_foldedLengths_29 : decode cX9_foldedLengths 29 = .ok (.iload_n 2, 1) := by decide +kernel
theorem dX9_foldedLengths_30 : decode cX9_foldedLengths 30 = .ok (.invokevirtual 237, 3) := by decide +kernel
theorem dX9_foldedLengths_33 : decode cX9_foldedLengths 33 = .ok (.invokevirtual 244, 3) := by decide +kernel
theorem dX9_foldedLengths_36 : decode cX9_foldedLengths 36 = .ok (.i2f, 1) := by decide +kernel
theorem dX9_foldedLengths_37 : decode cX9_foldedLengths 37 = .ok (.fstore_n 3, 1) := by decide +kernel
theorem dX9_foldedLengths_38 : decode cX9_foldedLengths 38 = .ok (.fload_n 1, 1) := by decide +kernel
theorem dX9_foldedLengths_39 : decode cX9_foldedLengths 39 = .ok (.ldc_w 380, 3) := by decide +kernel
theorem dX9_foldedLengths_42 : decode cX9_foldedLengths 42 = .ok (.fmul, 1) := by decide +kernel
theorem dX9_foldedLengths_43 : decode cX9_foldedLengths 43 = .ok (.fload_n 3, 1) := by decide +kernel
theorem dX9_foldedLengths_44 : decode cX9_foldedLengths 44 = .ok (.fadd, 1) := by decide +kernel
theorem dX9_foldedLengths_45 : decode cX9_foldedLengths 45 = .ok (.ldc_w 381, 3) := by decide +kernel
theorem dX9_foldedLengths_48 : decode cX9_foldedLengths 48 = .ok (.fmul, 1) := by decide +kernel
theorem dX9_foldedLengths_49 : decode cX9_foldedLengths 49 = .ok (.fstore_n 1, 1) := by decide +kernel
theorem dX9_foldedLengths_50 : decode cX9_foldedLengths 50 = .ok (.iinc 2 1, 3) := by decide +kernel
theorem dX9_foldedLengths_53 : decode cX9_foldedLengths 53 = .ok (.goto (-49), 3) := by decide +kernel
theorem dX9_foldedLengths_56 : decode cX9_foldedLengths 56 = .ok (.fload_n 1, 1) := by decide +kernel
theorem dX9_foldedLengths_57 : decode cX9_foldedLengths 57 = .ok (.freturn, 1) := by decide +kernel
theorem dX9_bitsOf_0 : decode cX9_bitsOf 0 = .ok (.fload_n 0, 1) := by decide +kernel
theorem dX9_bitsOf_1 : decode cX9_bitsOf 1 = .ok (.fconst 0, 1) := by decide +kernel
theorem dX9_bitsOf_2 : decode cX9_bitsOf 2 = .ok (.fcmp .g, 1) := by decide +kernel
theorem dX9_bitsOf_3 : decode cX9_bitsOf 3 = .ok (.ifCond .gt 5, 3) := by decide +kernel
theorem dX9_bitsOf_6 : decode cX9_bitsOf 6 = .ok (.iconst 0, 1) := by decide +kernel
theorem dX9_bitsOf_7 : decode cX9_bitsOf 7 = .ok (.ireturn, 1) := by decide +kernel
theorem dX9_bitsOf_8 : decode cX9_bitsOf 8 = .ok (.fload_n 0, 1) := by decide +kernel
theorem dX9_bitsOf_9 : decode cX9_bitsOf 9 = .ok (.fstore_n 1, 1) := by decide +kernel
theorem dX9_bitsOf_10 : decode cX9_bitsOf 10 = .ok (.bipush 127, 2) := by decide +kernel
theorem dX9_bitsOf_12 : decode cX9_bitsOf 12 = .ok (.istore_n 2, 1) := by decide +kernel
theorem dX9_bitsOf_13 : decode cX9_bitsOf 13 = .ok (.fload_n 1, 1) := by decide +kernel
theorem dX9_bitsOf_14 : decode cX9_bitsOf 14 = .ok (.fconst 2, 1) := by decide +kernel
theorem dX9_bitsOf_15 : decode cX9_bitsOf 15 = .ok (.fcmp .l, 1) := by decide +kernel
theorem dX9_bitsOf_16 : decode cX9_bitsOf 16 = .ok (.ifCond .lt 22, 3) := by decide +kernel
theorem dX9_bitsOf_19 : decode cX9_bitsOf 19 = .ok (.iload_n 2, 1) := by decide +kernel
theorem dX9_bitsOf_20 : decode cX9_bitsOf 20 = .ok (.sipush 254, 3) := by decide +kernel
theorem dX9_bitsOf_23 : decode cX9_bitsOf 23 = .ok (.if_icmp .ge 15, 3) := by decide +kernel
theorem dX9_bitsOf_26 : decode cX9_bitsOf 26 = .ok (.fload_n 1, 1) := by decide +kernel
theorem dX9_bitsOf_27 : decode cX9_bitsOf 27 = .ok (.ldc_w 380, 3) := by decide +kernel
theorem dX9_bitsOf_30 : decode cX9_bitsOf 30 = .ok (.fmul, 1) := by decide +kernel
theorem dX9_bitsOf_31 : decode cX9_bitsOf 31 = .ok (.fstore_n 1, 1) := by decide +kernel
theorem dX9_bitsOf_32 : decode cX9_bitsOf 32 = .ok (.iinc 2 1, 3) := by decide +kernel
theorem dX9_bitsOf_35 : decode cX9_bitsOf 35 = .ok (.goto (-22), 3) := by decide +kernel
theorem dX9_bitsOf_38 : decode cX9_bitsOf 38 = .ok (.fload_n 1, 1) := by decide +kernel
theorem dX9_bitsOf_39 : decode cX9_bitsOf 39 = .ok (.fconst 1, 1) := by decide +kernel
theorem dX9_bitsOf_40 : decode cX9_bitsOf 40 = .ok (.fcmp .g, 1) := by decide +kernel
theorem dX9_bitsOf_41 : decode cX9_bitsOf 41 = .ok (.ifCond .ge 18, 3) := by decide +kernel
theorem dX9_bitsOf_44 : decode cX9_bitsOf 44 = .ok (.iload_n 2, 1) := by decide +kernel
theorem dX9_bitsOf_45 : decode cX9_bitsOf 45 = .ok (.iconst 1, 1) := by decide +kernel
theorem dX9_bitsOf_46 : decode cX9_bitsOf 46 = .ok (.if_icmp .le 13, 3) := by decide +kernel
theorem dX9_bitsOf_49 : decode cX9_bitsOf 49 = .ok (.fload_n 1, 1) := by decide +kernel
theorem dX9_bitsOf_50 : decode cX9_bitsOf 50 = .ok (.fconst 2, 1) := by decide +kernel
theorem dX9_bitsOf_51 : decode cX9_bitsOf 51 = .ok (.fmul, 1) := by decide +kernel
theorem dX9_bitsOf_52 : decode cX9_bitsOf 52 = .ok (.fstore_n 1, 1) := by decide +kernel
theorem dX9_bitsOf_53 : decode cX9_bitsOf 53 = .ok (.iinc 2 (-1), 3) := by decide +kernel
theorem dX9_bitsOf_56 : decode cX9_bitsOf 56 = .ok (.goto (-18), 3) := by decide +kernel
theorem dX9_bitsOf_59 : decode cX9_bitsOf 59 = .ok (.iload_n 2, 1) := by decide +kernel
theorem dX9_bitsOf_60 : decode cX9_bitsOf 60 = .ok (.bipush 23, 2) := by decide +kernel
theorem dX9_bitsOf_62 : decode cX9_bitsOf 62 = .ok (.ishl, 1) := by decide +kernel
theorem dX9_bitsOf_63 : decode cX9_bitsOf 63 = .ok (.fload_n 1, 1) := by decide +kernel
theorem dX9_bitsOf_64 : decode cX9_bitsOf 64 = .ok (.fconst 1, 1) := by decide +kernel
theorem dX9_bitsOf_65 : decode cX9_bitsOf 65 = .ok (.fsub, 1) := by decide +kernel
theorem dX9_bitsOf_66 : decode cX9_bitsOf 66 = .ok (.ldc_w 382, 3) := by decide +kernel
theorem dX9_bitsOf_69 : decode cX9_bitsOf 69 = .ok (.fmul, 1) := by decide +kernel
theorem dX9_bitsOf_70 : decode cX9_bitsOf 70 = .ok (.f2i, 1) := by decide +kernel
theorem dX9_bitsOf_71 : decode cX9_bitsOf 71 = .ok (.iadd, 1) := by decide +kernel
theorem dX9_bitsOf_72 : decode cX9_bitsOf 72 = .ok (.ireturn, 1) := by decide +kernel
theorem dX9_writeForm_0 : decode cX9_writeForm 0 = .ok (.aload_n 0, 1) := by decide +kernel
theorem dX9_writeForm_1 : decode cX9_writeForm 1 = .ok (.invokevirtual 144, 3) := by decide +kernel
theorem dX9_writeForm_4 : decode cX9_writeForm 4 = .ok (.aload_n 0, 1) := by decide +kernel
theorem dX9_writeForm_5 : decode cX9_writeForm 5 = .ok (.getfield 102, 3) := by decide +kernel
theorem dX9_writeForm_8 : decode cX9_writeForm 8 = .ok (.invokevirtual 143, 3) := by decide +kernel
theorem dX9_writeForm_11 : decode cX9_writeForm 11 = .ok (.aload_n 0, 1) := by decide +kernel
theorem dX9_writeForm_12 : decode cX9_writeForm 12 = .ok (.getfield 102, 3) := by decide +kernel
theorem dX9_writeForm_15 : decode cX9_writeForm 15 = .ok (.aload_n 0, 1) := by decide +kernel
theorem dX9_writeForm_16 : decode cX9_writeForm 16 = .ok (.getfield 60, 3) := by decide +kernel
theorem dX9_writeForm_19 : decode cX9_writeForm 19 = .ok (.invokevirtual 383, 3) := by decide +kernel
theorem dX9_writeForm_22 : decode cX9_writeForm 22 = .ok (.invokevirtual 211, 3) := by decide +kernel
theorem dX9_writeForm_25 : decode cX9_writeForm 25 = .ok (.iconst 0, 1) := by decide +kernel
theorem dX9_writeForm_26 : decode cX9_writeForm 26 = .ok (.istore_n 1, 1) := by decide +kernel
theorem dX9_writeForm_27 : decode cX9_writeForm 27 = .ok (.iload_n 1, 1) := by decide +kernel
theorem dX9_writeForm_28 : decode cX9_writeForm 28 = .ok (.aload_n 0, 1) := by decide +kernel
theorem dX9_writeForm_29 : decode cX9_writeForm 29 = .ok (.getfield 60, 3) := by decide +kernel
theorem dX9_writeForm_32 : decode cX9_writeForm 32 = .ok (.invokevirtual 383, 3) := by decide +kernel
theorem dX9_writeForm_35 : decode cX9_writeForm 35 = .ok (.if_icmp .ge 38, 3) := by decide +kernel
theorem dX9_writeForm_38 : decode cX9_writeForm 38 = .ok (.aload_n 0, 1) := by decide +kernel
theorem dX9_writeForm_39 : decode cX9_writeForm 39 = .ok (.getfield 60, 3) := by decide +kernel
theorem dX9_writeForm_42 : decode cX9_writeForm 42 = .ok (.iload_n 1, 1) := by decide +kernel
theorem dX9_writeForm_43 : decode cX9_writeForm 43 = .ok (.invokevirtual 386, 3) := by decide +kernel
theorem dX9_writeForm_46 : decode cX9_writeForm 46 = .ok (.istore_n 2, 1) := by decide +kernel
theorem dX9_writeForm_47 : decode cX9_writeForm 47 = .ok (.aload_n 0, 1) := by decide +kernel
theorem dX9_writeForm_48 : decode cX9_writeForm 48 = .ok (.getfield 102, 3) := by decide +kernel
theorem dX9_writeForm_51 : decode cX9_writeForm 51 = .ok (.iload_n 2, 1) := by decide +kernel
theorem dX9_writeForm_52 : decode cX9_writeForm 52 = .ok (.invokevirtual 211, 3) := by decide +kernel
theorem dX9_writeForm_55 : decode cX9_writeForm 55 = .ok (.aload_n 0, 1) := by decide +kernel
theorem dX9_writeForm_56 : decode cX9_writeForm 56 = .ok (.aload_n 0, 1) := by decide +kernel
theorem dX9_writeForm_57 : decode cX9_writeForm 57 = .ok (.getfield 12, 3) := by decide +kernel
theorem dX9_writeForm_60 : decode cX9_writeForm 60 = .ok (.iload_n 2, 1) := by decide +kernel
theorem dX9_writeForm_61 : decode cX9_writeForm 61 = .ok (.invokevirtual 240, 3) := by decide +kernel
theorem dX9_writeForm_64 : decode cX9_writeForm 64 = .ok (.invokevirtual 389, 3) := by decide +kernel
theorem dX9_writeForm_67 : decode cX9_writeForm 67 = .ok (.iinc 1 1, 3) := by decide +kernel
theorem dX9_writeForm_70 : decode cX9_writeForm 70 = .ok (.goto (-43), 3) := by decide +kernel
theorem dX9_writeForm_73 : decode cX9_writeForm 73 = .ok (.aload_n 0, 1) := by decide +kernel
theorem dX9_writeForm_74 : decode cX9_writeForm 74 = .ok (.aload_n 0, 1) := by decide +kernel
theorem dX9_writeForm_75 : decode cX9_writeForm 75 = .ok (.getfield 12, 3) := by decide +kernel
theorem dX9_writeForm_78 : decode cX9_writeForm 78 = .ok (.invokevirtual 135, 3) := by decide +kernel
theorem dX9_writeForm_81 : decode cX9_writeForm 81 = .ok (.invokevirtual 389, 3) := by decide +kernel
theorem dX9_writeForm_84 : decode cX9_writeForm 84 = .ok (.return_, 1) := by decide +kernel
theorem dX9_writeRow_0 : decode cX9_writeRow 0 = .ok (.aload_n 0, 1) := by decide +kernel
theorem dX9_writeRow_1 : decode cX9_writeRow 1 = .ok (.getfield 102, 3) := by decide +kernel
theorem dX9_writeRow_4 : decode cX9_writeRow 4 = .ok (.aload_n 1, 1) := by decide +kernel
theorem dX9_writeRow_5 : decode cX9_writeRow 5 = .ok (.invokevirtual 105, 3) := by decide +kernel
theorem dX9_writeRow_8 : decode cX9_writeRow 8 = .ok (.invokevirtual 211, 3) := by decide +kernel
theorem dX9_writeRow_11 : decode cX9_writeRow 11 = .ok (.iconst 0, 1) := by decide +kernel
theorem dX9_writeRow_12 : decode cX9_writeRow 12 = .ok (.istore_n 2, 1) := by decide +kernel
theorem dX9_writeRow_13 : decode cX9_writeRow 13 = .ok (.iload_n 2, 1) := by decide +kernel
theorem dX9_writeRow_14 : decode cX9_writeRow 14 = .ok (.aload_n 1, 1) := by decide +kernel
theorem dX9_writeRow_15 : decode cX9_writeRow 15 = .ok (.invokevirtual 105, 3) := by decide +kernel
theorem dX9_writeRow_18 : decode cX9_writeRow 18 = .ok (.if_icmp .ge 21, 3) := by decide +kernel
theorem dX9_writeRow_21 : decode cX9_writeRow 21 = .ok (.aload_n 0, 1) := by decide +kernel
theorem dX9_writeRow_22 : decode cX9_writeRow 22 = .ok (.getfield 102, 3) := by decide +kernel
theorem dX9_writeRow_25 : decode cX9_writeRow 25 = .ok (.aload_n 1, 1) := by decide +kernel
theorem dX9_writeRow_26 : decode cX9_writeRow 26 = .ok (.iload_n 2, 1) := by decide +kernel
theorem dX9_writeRow_27 : decode cX9_writeRow 27 = .ok (.invokevirtual 237, 3) := by decide +kernel
theorem dX9_writeRow_30 : decode cX9_writeRow 30 = .ok (.invokevirtual 211, 3) := by decide +kernel
theorem dX9_writeRow_33 : decode cX9_writeRow 33 = .ok (.iinc 2 1, 3) := by decide +kernel
theorem dX9_writeRow_36 : decode cX9_writeRow 36 = .ok (.goto (-23), 3) := by decide +kernel
theorem dX9_writeRow_39 : decode cX9_writeRow 39 = .ok (.return_, 1) := by decide +kernel
theorem dX10_isIn_0 : decode cX10_isIn 0 = .ok (.lload_n 0, 1) := by decide +kernel
theorem dX10_isIn_1 : decode cX10_isIn 1 = .ok (.lload_n 2, 1) := by decide +kernel
theorem dX10_isIn_2 : decode cX10_isIn 2 = .ok (.lcmp, 1) := by decide +kernel
theorem dX10_isIn_3 : decode cX10_isIn 3 = .ok (.ifCond .lt 14, 3) := by decide +kernel
theorem dX10_isIn_6 : decode cX10_isIn 6 = .ok (.lload_n 0, 1) := by decide +kernel
theorem dX10_isIn_7 : decode cX10_isIn 7 = .ok (.lload 4, 2) := by decide +kernel
theorem dX10_isIn_9 : decode cX10_isIn 9 = .ok (.lcmp, 1) := by decide +kernel
theorem dX10_isIn_10 : decode cX10_isIn 10 = .ok (.ifCond .gt 7, 3) := by decide +kernel
theorem dX10_isIn_13 : decode cX10_isIn 13 = .ok (.iconst 1, 1) := by decide +kernel
theorem dX10_isIn_14 : decode cX10_isIn 14 = .ok (.goto 4, 3) := by decide +kernel
theorem dX10_isIn_17 : decode cX10_isIn 17 = .ok (.iconst 0, 1) := by decide +kernel
theorem dX10_isIn_18 : decode cX10_isIn 18 = .ok (.ireturn, 1) := by decide +kernel
theorem dX10_greater_0 : decode cX10_greater 0 = .ok (.iload_n 0, 1) := by decide +kernel
theorem dX10_greater_1 : decode cX10_greater 1 = .ok (.iload_n 1, 1) := by decide +kernel
theorem dX10_greater_2 : decode cX10_greater 2 = .ok (.if_icmp .le 7, 3) := by decide +kernel
theorem dX10_greater_5 : decode cX10_greater 5 = .ok (.iload_n 0, 1) := by decide +kernel
theorem dX10_greater_6 : decode cX10_greater 6 = .ok (.goto 4, 3) := by decide +kernel
theorem dX10_greater_9 : decode cX10_greater 9 = .ok (.iload_n 1, 1) := by decide +kernel
theorem dX10_greater_10 : decode cX10_greater 10 = .ok (.ireturn, 1) := by decide +kernel
theorem dX10_lesser_0 : decode cX10_lesser 0 = .ok (.iload_n 0, 1) := by decide +kernel
theorem dX10_lesser_1 : decode cX10_lesser 1 = .ok (.iload_n 1, 1) := by decide +kernel
theorem dX10_lesser_2 : decode cX10_lesser 2 = .ok (.if_icmp .ge 7, 3) := by decide +kernel
theorem dX10_lesser_5 : decode cX10_lesser 5 = .ok (.iload_n 0, 1) := by decide +kernel
theorem dX10_lesser_6 : decode cX10_lesser 6 = .ok (.goto 4, 3) := by decide +kernel
theorem dX10_lesser_9 : decode cX10_lesser 9 = .ok (.iload_n 1, 1) := by decide +kernel
theorem dX10_lesser_10 : decode cX10_lesser 10 = .ok (.ireturn, 1) := by decide +kernel
theorem dX10_init_0 : decode cX10_init 0 = .ok (.aload_n 0, 1) := by decide +kernel
theorem dX10_init_1 : decode cX10_init 1 = .ok (.invokespecial 7, 3) := by decide +kernel
theorem dX10_init_4 : decode cX10_init 4 = .ok (.aload_n 0, 1) := by decide +kernel
theorem dX10_init_5 : decode cX10_init 5 = .ok (.sipush 3063, 3) := by decide +kernel
theorem dX10_init_8 : decode cX10_init 8 = .ok (.newarray .int, 2) := by decide +kernel
theorem dX10_init_10 : decode cX10_init 10 = .ok (.putfield 13, 3) := by decide +kernel
theorem dX10_init_13 : decode cX10_init 13 = .ok (.aload_n 0, 1) := by decide +kernel
theorem dX10_init_14 : decode cX10_init 14 = .ok (.sipush 10210, 3) := by decide +kernel
theorem dX10_init_17 : decode cX10_init 17 = .ok (.newarray .int, 2) := by decide +kernel
theorem dX10_init_19 : decode cX10_init 19 = .ok (.putfield 17, 3) := by decide +kernel
theorem dX10_init_22 : decode cX10_init 22 = .ok (.aload_n 0, 1) := by decide +kernel
theorem dX10_init_23 : decode cX10_init 23 = .ok (.sipush 1021, 3) := by decide +kernel
theorem dX10_init_26 : decode cX10_init 26 = .ok (.newarray .int, 2) := by decide +kernel
theorem dX10_init_28 : decode cX10_init 28 = .ok (.putfield 20, 3) := by decide +kernel
theorem dX10_init_31 : decode cX10_init 31 = .ok (.aload_n 0, 1) := by decide +kernel
theorem dX10_init_32 : decode cX10_init 32 = .ok (.sipush 3063, 3) := by decide +kernel
theorem dX10_init_35 : decode cX10_init 35 = .ok (.newarray .int, 2) := by decide +kernel
theorem dX10_init_37 : decode cX10_init 37 = .ok (.putfield 23, 3) := by decide +kernel
theorem dX10_init_40 : decode cX10_init 40 = .ok (.aload_n 0, 1) := by decide +kernel
theorem dX10_init_41 : decode cX10_init 41 = .ok (.iconst 2, 1) := by decide +kernel
theorem dX10_init_42 : decode cX10_init 42 = .ok (.newarray .boolean, 2) := by decide +kernel
theorem dX10_init_44 : decode cX10_init 44 = .ok (.putfield 26, 3) := by decide +kernel
theorem dX10_init_47 : decode cX10_init 47 = .ok (.aload_n 0, 1) := by decide +kernel
theorem dX10_init_48 : decode cX10_init 48 = .ok (.bipush 86, 2) := by decide +kernel
theorem dX10_init_50 : decode cX10_init 50 = .ok (.newarray .int, 2) := by decide +kernel
theorem dX10_init_52 : decode cX10_init 52 = .ok (.putfield 30, 3) := by decide +kernel
theorem dX10_init_55 : decode cX10_init 55 = .ok (.aload_n 0, 1) := by decide +kernel
theorem dX10_init_56 : decode cX10_init 56 = .ok (.bipush 86, 2) := by decide +kernel
theorem dX10_init_58 : decode cX10_init 58 = .ok (.newarray .int, 2) := by decide +kernel
theorem dX10_init_60 : decode cX10_init 60 = .ok (.putfield 33, 3) := by decide +kernel
theorem dX10_init_63 : decode cX10_init 63 = .ok (.aload_n 0, 1) := by decide +kernel
theorem dX10_init_64 : decode cX10_init 64 = .ok (.sipush 240, 3) := by decide +kernel
theorem dX10_init_67 : decode cX10_init 67 = .ok (.newarray .int, 2) := by decide +kernel
theorem dX10_init_69 : decode cX10_init 69 = .ok (.putfield 36, 3) := by decide +kernel
theorem dX10_init_72 : decode cX10_init 72 = .ok (.aload_n 0, 1) := by decide +kernel
theorem dX10_init_73 : decode cX10_init 73 = .ok (.sipush 240, 3) := by decide +kernel
theorem dX10_init_76 : decode cX10_init 76 = .ok (.newarray .int, 2) := by decide +kernel
theorem dX10_init_78 : decode cX10_init 78 = .ok (.putfield 39, 3) := by decide +kernel
theorem dX10_init_81 : decode cX10_init 81 = .ok (.aload_n 0, 1) := by decide +kernel
theorem dX10_init_82 : decode cX10_init 82 = .ok (.sipush 260, 3) := by decide +kernel
theorem dX10_init_85 : decode cX10_init 85 = .ok (.newarray .byte, 2) := by decide +kernel
theorem dX10_init_87 : decode cX10_init 87 = .ok (.putfield 42, 3) := by decide +kernel
theorem dX10_init_90 : decode cX10_init 90 = .ok (.aload_n 0, 1) := by decide +kernel
theorem dX10_init_91 : decode cX10_init 91 = .ok (.iconst (-1), 1) := by decide +kernel
theorem dX10_init_92 : decode cX10_init 92 = .ok (.putfield 46, 3) := by decide +kernel
theorem dX10_init_95 : decode cX10_init 95 = .ok (.aload_n 0, 1) := by decide +kernel
theorem dX10_init_96 : decode cX10_init 96 = .ok (.bipush 20, 2) := by decide +kernel
theorem dX10_init_98 : decode cX10_init 98 = .ok (.newarray .int, 2) := by decide +kernel
theorem dX10_init_100 : decode cX10_init 100 = .ok (.putfield 49, 3) := by decide +kernel
theorem dX10_init_103 : decode cX10_init 103 = .ok (.aload_n 0, 1) := by decide +kernel
theorem dX10_init_104 : decode cX10_init 104 = .ok (.sipush 1021, 3) := by decide +kernel
theorem dX10_init_107 : decode cX10_init 107 = .ok (.newarray .int, 2) := by decide +kernel
theorem dX10_init_109 : decode cX10_init 109 = .ok (.putfield 52, 3) := by decide +kernel
theorem dX10_init_112 : decode cX10_init 112 = .ok (.aload_n 0, 1) := by decide +kernel
theorem dX10_init_113 : decode cX10_init 113 = .ok (.sipush 1090, 3) := by decide +kernel
theorem dX10_init_116 : decode cX10_init 116 = .ok (.newarray .int, 2) := by decide +kernel
theorem dX10_init_118 : decode cX10_init 118 = .ok (.putfield 55, 3) := by decide +kernel
theorem dX10_init_121 : decode cX10_init 121 = .ok (.aload_n 0, 1) := by decide +kernel
theorem dX10_init_122 : decode cX10_init 122 = .ok (.bipush 86, 2) := by decide +kernel
theorem dX10_init_124 : decode cX10_init 124 = .ok (.newarray .boolean, 2) := by decide +kernel
theorem dX10_init_126 : decode cX10_init 126 = .ok (.putfield 58, 3) := by decide +kernel
theorem dX10_init_129 : decode cX10_init 129 = .ok (.aload_n 0, 1) := by decide +kernel
theorem dX10_init_130 : decode cX10_init 130 = .ok (.bipush 86, 2) := by decide +kernel
theorem dX10_init_132 : decode cX10_init 132 = .ok (.newarray .int, 2) := by decide +kernel
theorem dX10_init_134 : decode cX10_init 134 = .ok (.putfield 61, 3) := by decide +kernel
theorem dX10_init_137 : decode cX10_init 137 = .ok (.aload_n 0, 1) := by decide +kernel
theorem dX10_init_138 : decode cX10_init 138 = .ok (.bipush 86, 2) := by decide +kernel
theorem dX10_init_140 : decode cX10_init 140 = .ok (.newarray .int, 2) := by decide +kernel
theorem dX10_init_142 : decode cX10_init 142 = .ok (.putfield 64, 3) := by decide +kernel
theorem dX10_init_145 : decode cX10_init 145 = .ok (.aload_n 0, 1) := by decide +kernel
theorem dX10_init_146 : decode cX10_init 146 = .ok (.bipush 86, 2) := by decide +kernel
theorem dX10_init_148 : decode cX10_init 148 = .ok (.newarray .int, 2) := by decide +kernel
theorem dX10_init_150 : decode cX10_init 150 = .ok (.putfield 67, 3) := by decide +kernel
theorem dX10_init_153 : decode cX10_init 153 = .ok (.aload_n 0, 1) := by decide +kernel
theorem dX10_init_154 : decode cX10_init 154 = .ok (.bipush 86, 2) := by decide +kernel
theorem dX10_init_156 : decode cX10_init 156 = .ok (.newarray .int, 2) := by decide +kernel
theorem dX10_init_158 : decode cX10_init 158 = .ok (.putfield 70, 3) := by decide +kernel
theorem dX10_init_161 : decode cX10_init 161 = .ok (.aload_n 0, 1) := by decide +kernel
theorem dX10_init_162 : decode cX10_init 162 = .ok (.bipush 86, 2) := by decide +kernel
theorem dX10_init_164 : decode cX10_init 164 = .ok (.newarray .int, 2) := by decide +kernel
theorem dX10_init_166 : decode cX10_init 166 = .ok (.putfield 73, 3) := by decide +kernel
theorem dX10_init_169 : decode cX10_init 169 = .ok (.aload_n 0, 1) := by decide +kernel
theorem dX10_init_170 : decode cX10_init 170 = .ok (.sipush 7396, 3) := by decide +kernel
theorem dX10_init_173 : decode cX10_init 173 = .ok (.newarray .int, 2) := by decide +kernel
theorem dX10_init_175 : decode cX10_init 175 = .ok (.putfield 76, 3) := by decide +kernel
theorem dX10_init_178 : decode cX10_init 178 = .ok (.aload_n 0, 1) := by decide +kernel
theorem dX10_init_179 : decode cX10_init 179 = .ok (.sipush 7396, 3) := by decide +kernel
theorem dX10_init_182 : decode cX10_init 182 = .ok (.newarray .int, 2) := by decide +kernel
theorem dX10_init_184 : decode cX10_init 184 = .ok (.putfield 79, 3) := by decide +kernel
theorem dX10_init_187 : decode cX10_init 187 = .ok (.aload_n 0, 1) := by decide +kernel
theorem dX10_init_188 : decode cX10_init 188 = .ok (.sipush 240, 3) := by decide +kernel
theorem dX10_init_191 : decode cX10_init 191 = .ok (.newarray .int, 2) := by decide +kernel
theorem dX10_init_193 : decode cX10_init 193 = .ok (.putfield 82, 3) := by decide +kernel
theorem dX10_init_196 : decode cX10_init 196 = .ok (.return_, 1) := by decide +kernel
theorem dX10_copies_0 : decode cX10_copies 0 = .ok (.iconst 0, 1) := by decide +kernel
theorem dX10_copies_1 : decode cX10_copies 1 = .ok (.istore 5, 2) := by decide +kernel
theorem dX10_copies_3 : decode cX10_copies 3 = .ok (.iload 5, 2) := by decide +kernel
theorem dX10_copies_5 : decode cX10_copies 5 = .ok (.iload 4, 2) := by decide +kernel
theorem dX10_copies_7 : decode cX10_copies 7 = .ok (.if_icmp .ge 21, 3) := by decide +kernel
theorem dX10_copies_10 : decode cX10_copies 10 = .ok (.aload_n 2, 1) := by decide +kernel
theorem dX10_copies_11 : decode cX10_copies 11 = .ok (.iload_n 3, 1) := by decide +kernel
theorem dX10_copies_12 : decode cX10_copies 12 = .ok (.iload 5, 2) := by decide +kernel
theorem dX10_copies_14 : decode cX10_copies 14 = .ok (.iadd, 1) := by decide +kernel
theorem dX10_copies_15 : decode cX10_copies 15 = .ok (.aload_n 0, 1) := by decide +kernel
theorem dX10_copies_16 : decode cX10_copies 16 = .ok (.iload_n 1, 1) := by decide +kernel
theorem dX10_copies_17 : decode cX10_copies 17 = .ok (.iload 5, 2) := by decide +kernel
theorem dX10_copies_19 : decode cX10_copies 19 = .ok (.iadd, 1) := by decide +kernel
theorem dX10_copies_20 : decode cX10_copies 20 = .ok (.iaload, 1) := by decide +kernel
theorem dX10_copies_21 : decode cX10_copies 21 = .ok (.iastore, 1) := by decide +kernel
theorem dX10_copies_22 : decode cX10_copies 22 = .ok (.iinc 5 1, 3) := by decide +kernel
theorem dX10_copies_25 : decode cX10_copies 25 = .ok (.goto (-22), 3) := by decide +kernel
theorem dX10_copies_28 : decode cX10_copies 28 = .ok (.return_, 1) := by decide +kernel
theorem dX10_notes_0 : decode cX10_notes 0 = .ok (.aload_n 0, 1) := by decide +kernel
theorem dX10_notes_1 : decode cX10_notes 1 = .ok (.getfield 85, 3) := by decide +kernel
theorem dX10_notes_4 : decode cX10_notes 4 = .ok (.bipush 10, 2) := by decide +kernel
theorem dX10_notes_6 : decode cX10_notes 6 = .ok (.if_icmp .ne 31, 3) := by decide +kernel
theorem dX10_notes_9 : decode cX10_notes 9 = .ok (.aload_n 0, 1) := by decide +kernel
theorem dX10_notes_10 : decode cX10_notes 10 = .ok (.getfield 17, 3) := by decide +kernel
theorem dX10_notes_13 : decode cX10_notes 13 = .ok (.sipush 1021, 3) := by decide +kernel
theorem dX10_notes_16 : decode cX10_notes 16 = .ok (.aload_n 0, 1) := by decide +kernel
theorem dX10_notes_17 : decode cX10_notes 17 = .ok (.getfield 17, 3) := by decide +kernel
theorem dX10_notes_20 : decode cX10_notes 20 = .ok (.iconst 0, 1) := by decide +kernel
theorem dX10_notes_21 : decode cX10_notes 21 = .ok (.sipush 9189, 3) := by decide +kernel
theorem dX10_notes_24 : decode cX10_notes 24 = .ok (.invokestatic 88, 3) := by decide +kernel
theorem dX10_notes_27 : decode cX10_notes 27 = .ok (.aload_n 0, 1) := by decide +kernel
theorem dX10_notes_28 : decode cX10_notes 28 = .ok (.dup, 1) := by decide +kernel
theorem dX10_notes_29 : decode cX10_notes 29 = .ok (.getfield 85, 3) := by decide +kernel
theorem dX10_notes_32 : decode cX10_notes 32 = .ok (.iconst 1, 1) := by decide +kernel
theorem dX10_notes_33 : decode cX10_notes 33 = .ok (.isub, 1) := by decide +kernel
theorem dX10_notes_34 : decode cX10_notes 34 = .ok (.putfield 85, 3) := by decide +kernel
theorem dX10_notes_37 : decode cX10_notes 37 = .ok (.aload_n 0, 1) := by decide +kernel
theorem dX10_notes_38 : decode cX10_notes 38 = .ok (.getfield 13, 3) := by decide +kernel
theorem dX10_notes_41 : decode cX10_notes 41 = .ok (.iconst 0, 1) := by decide +kernel
theorem dX10_notes_42 : decode cX10_notes 42 = .ok (.aload_n 0, 1) := by decide +kernel
theorem dX10_notes_43 : decode cX10_notes 43 = .ok (.getfield 17, 3) := by decide +kernel
theorem dX10_notes_46 : decode cX10_notes 46 = .ok (.sipush 1021, 3) := by decide +kernel
theorem dX10_notes_49 : decode cX10_notes 49 = .ok (.aload_n 0, 1) := by decide +kernel
theorem dX10_notes_50 : decode cX10_notes 50 = .ok (.getfield 85, 3) := by decide +kernel
theorem dX10_notes_53 : decode cX10_notes 53 = .ok (.imul, 1) := by decide +kernel
theorem dX10_notes_54 : decode cX10_notes 54 = .ok (.sipush 1021, 3) := by decide +kernel
theorem dX10_notes_57 : decode cX10_notes 57 = .ok (.invokestatic 88, 3) := by decide +kernel
theorem dX10_notes_60 : decode cX10_notes 60 = .ok (.aload_n 0, 1) := by decide +kernel
theorem dX10_notes_61 : decode cX10_notes 61 = .ok (.dup, 1) := by decide +kernel
theorem dX10_notes_62 : decode cX10_notes 62 = .ok (.getfield 85, 3) := by decide +kernel
end
section
theorem dX10_notes_65 : decode cX10_notes 65 = .ok (.iconst 1, 1) := by decide +kernel
theorem dX10_notes_66 : decode cX10_notes 66 = .ok (.iadd, 1) := by decide +kernel
theorem dX10_notes_67 : decode cX10_notes 67 = .ok (.putfield 85, 3) := by decide +kernel
theorem dX10_notes_70 : decode cX10_notes 70 = .ok (.return_, 1) := by decide +kernel
theorem dX10_rowAt_0 : decode cX10_rowAt 0 = .ok (.sipush 241, 3) := by decide +kernel
theorem dX10_rowAt_3 : decode cX10_rowAt 3 = .ok (.bipush 13, 2) := by decide +kernel
theorem dX10_rowAt_5 : decode cX10_rowAt 5 = .ok (.iload_n 0, 1) := by decide +kernel
theorem dX10_rowAt_6 : decode cX10_rowAt 6 = .ok (.bipush 26, 2) := by decide +kernel
theorem dX10_rowAt_8 : decode cX10_rowAt 8 = .ok (.isub, 1) := by decide +kernel
theorem dX10_rowAt_9 : decode cX10_rowAt 9 = .ok (.imul, 1) := by decide +kernel
theorem dX10_rowAt_10 : decode cX10_rowAt 10 = .ok (.iadd, 1) := by decide +kernel
theorem dX10_rowAt_11 : decode cX10_rowAt 11 = .ok (.ireturn, 1) := by decide +kernel
theorem dX10_rowLong_0 : decode cX10_rowLong 0 = .ok (.iload_n 1, 1) := by decide +kernel
theorem dX10_rowLong_1 : decode cX10_rowLong 1 = .ok (.bipush 26, 2) := by decide +kernel
theorem dX10_rowLong_3 : decode cX10_rowLong 3 = .ok (.if_icmp .ge 7, 3) := by decide +kernel
theorem dX10_rowLong_6 : decode cX10_rowLong 6 = .ok (.iconst 0, 1) := by decide +kernel
theorem dX10_rowLong_7 : decode cX10_rowLong 7 = .ok (.goto 12, 3) := by decide +kernel
theorem dX10_rowLong_10 : decode cX10_rowLong 10 = .ok (.aload_n 0, 1) := by decide +kernel
theorem dX10_rowLong_11 : decode cX10_rowLong 11 = .ok (.getfield 13, 3) := by decide +kernel
theorem dX10_rowLong_14 : decode cX10_rowLong 14 = .ok (.iload_n 1, 1) := by decide +kernel
theorem dX10_rowLong_15 : decode cX10_rowLong 15 = .ok (.invokestatic 92, 3) := by decide +kernel
theorem dX10_rowLong_18 : decode cX10_rowLong 18 = .ok (.iaload, 1) := by decide +kernel
theorem dX10_rowLong_19 : decode cX10_rowLong 19 = .ok (.ireturn, 1) := by decide +kernel
theorem dX10_inRow_0 : decode cX10_inRow 0 = .ok (.aload_n 0, 1) := by decide +kernel
theorem dX10_inRow_1 : decode cX10_inRow 1 = .ok (.getfield 13, 3) := by decide +kernel
theorem dX10_inRow_4 : decode cX10_inRow 4 = .ok (.iload_n 1, 1) := by decide +kernel
theorem dX10_inRow_5 : decode cX10_inRow 5 = .ok (.invokestatic 92, 3) := by decide +kernel
theorem dX10_inRow_8 : decode cX10_inRow 8 = .ok (.iconst 1, 1) := by decide +kernel
theorem dX10_inRow_9 : decode cX10_inRow 9 = .ok (.iadd, 1) := by decide +kernel
theorem dX10_inRow_10 : decode cX10_inRow 10 = .ok (.iload_n 2, 1) := by decide +kernel
theorem dX10_inRow_11 : decode cX10_inRow 11 = .ok (.iadd, 1) := by decide +kernel
theorem dX10_inRow_12 : decode cX10_inRow 12 = .ok (.iaload, 1) := by decide +kernel
theorem dX10_inRow_13 : decode cX10_inRow 13 = .ok (.ireturn, 1) := by decide +kernel
theorem dX10_isSign_0 : decode cX10_isSign 0 = .ok (.iload_n 1, 1) := by decide +kernel
theorem dX10_isSign_1 : decode cX10_isSign 1 = .ok (.i2l, 1) := by decide +kernel
theorem dX10_isSign_2 : decode cX10_isSign 2 = .ok (.lconst 0, 1) := by decide +kernel
theorem dX10_isSign_3 : decode cX10_isSign 3 = .ok (.ldc2_w 96, 3) := by decide +kernel
theorem dX10_isSign_6 : decode cX10_isSign 6 = .ok (.invokestatic 98, 3) := by decide +kernel
theorem dX10_isSign_9 : decode cX10_isSign 9 = .ok (.ifCond .ne 25, 3) := by decide +kernel
theorem dX10_isSign_12 : decode cX10_isSign 12 = .ok (.iload_n 1, 1) := by decide +kernel
theorem dX10_isSign_13 : decode cX10_isSign 13 = .ok (.i2l, 1) := by decide +kernel
theorem dX10_isSign_14 : decode cX10_isSign 14 = .ok (.ldc2_w 102, 3) := by decide +kernel
theorem dX10_isSign_17 : decode cX10_isSign 17 = .ok (.ldc2_w 104, 3) := by decide +kernel
theorem dX10_isSign_20 : decode cX10_isSign 20 = .ok (.invokestatic 98, 3) := by decide +kernel
theorem dX10_isSign_23 : decode cX10_isSign 23 = .ok (.ifCond .eq 15, 3) := by decide +kernel
theorem dX10_isSign_26 : decode cX10_isSign 26 = .ok (.aload_n 0, 1) := by decide +kernel
theorem dX10_isSign_27 : decode cX10_isSign 27 = .ok (.iload_n 1, 1) := by decide +kernel
theorem dX10_isSign_28 : decode cX10_isSign 28 = .ok (.invokevirtual 106, 3) := by decide +kernel
theorem dX10_isSign_31 : decode cX10_isSign 31 = .ok (.ifCond .le 7, 3) := by decide +kernel
theorem dX10_isSign_34 : decode cX10_isSign 34 = .ok (.iconst 1, 1) := by decide +kernel
theorem dX10_isSign_35 : decode cX10_isSign 35 = .ok (.goto 4, 3) := by decide +kernel
theorem dX10_isSign_38 : decode cX10_isSign 38 = .ok (.iconst 0, 1) := by decide +kernel
theorem dX10_isSign_39 : decode cX10_isSign 39 = .ok (.ireturn, 1) := by decide +kernel
theorem dX10_many_0 : decode cX10_many 0 = .ok (.aload_n 0, 1) := by decide +kernel
theorem dX10_many_1 : decode cX10_many 1 = .ok (.getfield 13, 3) := by decide +kernel
theorem dX10_many_4 : decode cX10_many 4 = .ok (.iconst 0, 1) := by decide +kernel
theorem dX10_many_5 : decode cX10_many 5 = .ok (.iaload, 1) := by decide +kernel
theorem dX10_many_6 : decode cX10_many 6 = .ok (.ireturn, 1) := by decide +kernel
theorem dX10_signAt_0 : decode cX10_signAt 0 = .ok (.aload_n 0, 1) := by decide +kernel
theorem dX10_signAt_1 : decode cX10_signAt 1 = .ok (.getfield 13, 3) := by decide +kernel
theorem dX10_signAt_4 : decode cX10_signAt 4 = .ok (.iconst 1, 1) := by decide +kernel
theorem dX10_signAt_5 : decode cX10_signAt 5 = .ok (.iload_n 1, 1) := by decide +kernel
theorem dX10_signAt_6 : decode cX10_signAt 6 = .ok (.iadd, 1) := by decide +kernel
theorem dX10_signAt_7 : decode cX10_signAt 7 = .ok (.iaload, 1) := by decide +kernel
theorem dX10_signAt_8 : decode cX10_signAt 8 = .ok (.ireturn, 1) := by decide +kernel
theorem dX10_laysWords_0 : decode cX10_laysWords 0 = .ok (.iconst 0, 1) := by decide +kernel
theorem dX10_laysWords_1 : decode cX10_laysWords 1 = .ok (.istore_n 1, 1) := by decide +kernel
theorem dX10_laysWords_2 : decode cX10_laysWords 2 = .ok (.iload_n 1, 1) := by decide +kernel
theorem dX10_laysWords_3 : decode cX10_laysWords 3 = .ok (.bipush 86, 2) := by decide +kernel
theorem dX10_laysWords_5 : decode cX10_laysWords 5 = .ok (.if_icmp .ge 33, 3) := by decide +kernel
theorem dX10_laysWords_8 : decode cX10_laysWords 8 = .ok (.aload_n 0, 1) := by decide +kernel
theorem dX10_laysWords_9 : decode cX10_laysWords 9 = .ok (.getfield 30, 3) := by decide +kernel
theorem dX10_laysWords_12 : decode cX10_laysWords 12 = .ok (.iload_n 1, 1) := by decide +kernel
theorem dX10_laysWords_13 : decode cX10_laysWords 13 = .ok (.iload_n 1, 1) := by decide +kernel
theorem dX10_laysWords_14 : decode cX10_laysWords 14 = .ok (.bipush 26, 2) := by decide +kernel
theorem dX10_laysWords_16 : decode cX10_laysWords 16 = .ok (.if_icmp .ge 7, 3) := by decide +kernel
theorem dX10_laysWords_19 : decode cX10_laysWords 19 = .ok (.iconst 1, 1) := by decide +kernel
theorem dX10_laysWords_20 : decode cX10_laysWords 20 = .ok (.goto 4, 3) := by decide +kernel
theorem dX10_laysWords_23 : decode cX10_laysWords 23 = .ok (.iconst 0, 1) := by decide +kernel
theorem dX10_laysWords_24 : decode cX10_laysWords 24 = .ok (.iastore, 1) := by decide +kernel
theorem dX10_laysWords_25 : decode cX10_laysWords 25 = .ok (.aload_n 0, 1) := by decide +kernel
theorem dX10_laysWords_26 : decode cX10_laysWords 26 = .ok (.getfield 33, 3) := by decide +kernel
theorem dX10_laysWords_29 : decode cX10_laysWords 29 = .ok (.iload_n 1, 1) := by decide +kernel
theorem dX10_laysWords_30 : decode cX10_laysWords 30 = .ok (.iconst 0, 1) := by decide +kernel
theorem dX10_laysWords_31 : decode cX10_laysWords 31 = .ok (.iastore, 1) := by decide +kernel
theorem dX10_laysWords_32 : decode cX10_laysWords 32 = .ok (.iinc 1 1, 3) := by decide +kernel
theorem dX10_laysWords_35 : decode cX10_laysWords 35 = .ok (.goto (-33), 3) := by decide +kernel
theorem dX10_laysWords_38 : decode cX10_laysWords 38 = .ok (.bipush 26, 2) := by decide +kernel
theorem dX10_laysWords_40 : decode cX10_laysWords 40 = .ok (.istore_n 1, 1) := by decide +kernel
theorem dX10_laysWords_41 : decode cX10_laysWords 41 = .ok (.iload_n 1, 1) := by decide +kernel
theorem dX10_laysWords_42 : decode cX10_laysWords 42 = .ok (.bipush 86, 2) := by decide +kernel
theorem dX10_laysWords_44 : decode cX10_laysWords 44 = .ok (.if_icmp .ge 22, 3) := by decide +kernel
theorem dX10_laysWords_47 : decode cX10_laysWords 47 = .ok (.aload_n 0, 1) := by decide +kernel
theorem dX10_laysWords_48 : decode cX10_laysWords 48 = .ok (.iload_n 1, 1) := by decide +kernel
theorem dX10_laysWords_49 : decode cX10_laysWords 49 = .ok (.invokevirtual 106, 3) := by decide +kernel
theorem dX10_laysWords_52 : decode cX10_laysWords 52 = .ok (.ifCond .le 8, 3) := by decide +kernel
theorem dX10_laysWords_55 : decode cX10_laysWords 55 = .ok (.aload_n 0, 1) := by decide +kernel
theorem dX10_laysWords_56 : decode cX10_laysWords 56 = .ok (.iload_n 1, 1) := by decide +kernel
theorem dX10_laysWords_57 : decode cX10_laysWords 57 = .ok (.invokevirtual 109, 3) := by decide +kernel
theorem dX10_laysWords_60 : decode cX10_laysWords 60 = .ok (.iinc 1 1, 3) := by decide +kernel
theorem dX10_laysWords_63 : decode cX10_laysWords 63 = .ok (.goto (-22), 3) := by decide +kernel
theorem dX10_laysWords_66 : decode cX10_laysWords 66 = .ok (.return_, 1) := by decide +kernel
theorem dX10_laysWord_0 : decode cX10_laysWord 0 = .ok (.aload_n 0, 1) := by decide +kernel
theorem dX10_laysWord_1 : decode cX10_laysWord 1 = .ok (.getfield 30, 3) := by decide +kernel
theorem dX10_laysWord_4 : decode cX10_laysWord 4 = .ok (.iload_n 1, 1) := by decide +kernel
theorem dX10_laysWord_5 : decode cX10_laysWord 5 = .ok (.iaload, 1) := by decide +kernel
theorem dX10_laysWord_6 : decode cX10_laysWord 6 = .ok (.ifCond .le 4, 3) := by decide +kernel
theorem dX10_laysWord_9 : decode cX10_laysWord 9 = .ok (.return_, 1) := by decide +kernel
theorem dX10_laysWord_10 : decode cX10_laysWord 10 = .ok (.iconst 0, 1) := by decide +kernel
theorem dX10_laysWord_11 : decode cX10_laysWord 11 = .ok (.istore_n 2, 1) := by decide +kernel
theorem dX10_laysWord_12 : decode cX10_laysWord 12 = .ok (.iconst 0, 1) := by decide +kernel
theorem dX10_laysWord_13 : decode cX10_laysWord 13 = .ok (.istore_n 3, 1) := by decide +kernel
theorem dX10_laysWord_14 : decode cX10_laysWord 14 = .ok (.iconst 0, 1) := by decide +kernel
theorem dX10_laysWord_15 : decode cX10_laysWord 15 = .ok (.istore 4, 2) := by decide +kernel
theorem dX10_laysWord_17 : decode cX10_laysWord 17 = .ok (.iload 4, 2) := by decide +kernel
theorem dX10_laysWord_19 : decode cX10_laysWord 19 = .ok (.aload_n 0, 1) := by decide +kernel
theorem dX10_laysWord_20 : decode cX10_laysWord 20 = .ok (.iload_n 1, 1) := by decide +kernel
theorem dX10_laysWord_21 : decode cX10_laysWord 21 = .ok (.invokevirtual 106, 3) := by decide +kernel
theorem dX10_laysWord_24 : decode cX10_laysWord 24 = .ok (.if_icmp .ge 52, 3) := by decide +kernel
theorem dX10_laysWord_27 : decode cX10_laysWord 27 = .ok (.aload_n 0, 1) := by decide +kernel
theorem dX10_laysWord_28 : decode cX10_laysWord 28 = .ok (.aload_n 0, 1) := by decide +kernel
theorem dX10_laysWord_29 : decode cX10_laysWord 29 = .ok (.iload_n 1, 1) := by decide +kernel
theorem dX10_laysWord_30 : decode cX10_laysWord 30 = .ok (.iload 4, 2) := by decide +kernel
theorem dX10_laysWord_32 : decode cX10_laysWord 32 = .ok (.invokevirtual 113, 3) := by decide +kernel
theorem dX10_laysWord_35 : decode cX10_laysWord 35 = .ok (.invokevirtual 109, 3) := by decide +kernel
theorem dX10_laysWord_38 : decode cX10_laysWord 38 = .ok (.iload_n 2, 1) := by decide +kernel
theorem dX10_laysWord_39 : decode cX10_laysWord 39 = .ok (.aload_n 0, 1) := by decide +kernel
theorem dX10_laysWord_40 : decode cX10_laysWord 40 = .ok (.getfield 30, 3) := by decide +kernel
theorem dX10_laysWord_43 : decode cX10_laysWord 43 = .ok (.aload_n 0, 1) := by decide +kernel
theorem dX10_laysWord_44 : decode cX10_laysWord 44 = .ok (.iload_n 1, 1) := by decide +kernel
theorem dX10_laysWord_45 : decode cX10_laysWord 45 = .ok (.iload 4, 2) := by decide +kernel
theorem dX10_laysWord_47 : decode cX10_laysWord 47 = .ok (.invokevirtual 113, 3) := by decide +kernel
theorem dX10_laysWord_50 : decode cX10_laysWord 50 = .ok (.iaload, 1) := by decide +kernel
theorem dX10_laysWord_51 : decode cX10_laysWord 51 = .ok (.iadd, 1) := by decide +kernel
theorem dX10_laysWord_52 : decode cX10_laysWord 52 = .ok (.istore_n 2, 1) := by decide +kernel
theorem dX10_laysWord_53 : decode cX10_laysWord 53 = .ok (.iload_n 3, 1) := by decide +kernel
theorem dX10_laysWord_54 : decode cX10_laysWord 54 = .ok (.aload_n 0, 1) := by decide +kernel
theorem dX10_laysWord_55 : decode cX10_laysWord 55 = .ok (.getfield 33, 3) := by decide +kernel
theorem dX10_laysWord_58 : decode cX10_laysWord 58 = .ok (.aload_n 0, 1) := by decide +kernel
theorem dX10_laysWord_59 : decode cX10_laysWord 59 = .ok (.iload_n 1, 1) := by decide +kernel
theorem dX10_laysWord_60 : decode cX10_laysWord 60 = .ok (.iload 4, 2) := by decide +kernel
theorem dX10_laysWord_62 : decode cX10_laysWord 62 = .ok (.invokevirtual 113, 3) := by decide +kernel
theorem dX10_laysWord_65 : decode cX10_laysWord 65 = .ok (.iaload, 1) := by decide +kernel
theorem dX10_laysWord_66 : decode cX10_laysWord 66 = .ok (.invokestatic 117, 3) := by decide +kernel
theorem dX10_laysWord_69 : decode cX10_laysWord 69 = .ok (.istore_n 3, 1) := by decide +kernel
theorem dX10_laysWord_70 : decode cX10_laysWord 70 = .ok (.iinc 4 1, 3) := by decide +kernel
theorem dX10_laysWord_73 : decode cX10_laysWord 73 = .ok (.goto (-56), 3) := by decide +kernel
theorem dX10_laysWord_76 : decode cX10_laysWord 76 = .ok (.aload_n 0, 1) := by decide +kernel
theorem dX10_laysWord_77 : decode cX10_laysWord 77 = .ok (.getfield 30, 3) := by decide +kernel
theorem dX10_laysWord_80 : decode cX10_laysWord 80 = .ok (.iload_n 1, 1) := by decide +kernel
theorem dX10_laysWord_81 : decode cX10_laysWord 81 = .ok (.iload_n 2, 1) := by decide +kernel
theorem dX10_laysWord_82 : decode cX10_laysWord 82 = .ok (.iastore, 1) := by decide +kernel
theorem dX10_laysWord_83 : decode cX10_laysWord 83 = .ok (.aload_n 0, 1) := by decide +kernel
theorem dX10_laysWord_84 : decode cX10_laysWord 84 = .ok (.getfield 33, 3) := by decide +kernel
theorem dX10_laysWord_87 : decode cX10_laysWord 87 = .ok (.iload_n 1, 1) := by decide +kernel
theorem dX10_laysWord_88 : decode cX10_laysWord 88 = .ok (.iload_n 3, 1) := by decide +kernel
theorem dX10_laysWord_89 : decode cX10_laysWord 89 = .ok (.iconst 1, 1) := by decide +kernel
theorem dX10_laysWord_90 : decode cX10_laysWord 90 = .ok (.iadd, 1) := by decide +kernel
theorem dX10_laysWord_91 : decode cX10_laysWord 91 = .ok (.iastore, 1) := by decide +kernel
theorem dX10_laysWord_92 : decode cX10_laysWord 92 = .ok (.return_, 1) := by decide +kernel
theorem dX10_laysText_0 : decode cX10_laysText 0 = .ok (.aload_n 0, 1) := by decide +kernel
theorem dX10_laysText_1 : decode cX10_laysText 1 = .ok (.iconst 0, 1) := by decide +kernel
theorem dX10_laysText_2 : decode cX10_laysText 2 = .ok (.putfield 120, 3) := by decide +kernel
theorem dX10_laysText_5 : decode cX10_laysText 5 = .ok (.iconst 0, 1) := by decide +kernel
theorem dX10_laysText_6 : decode cX10_laysText 6 = .ok (.istore_n 1, 1) := by decide +kernel
theorem dX10_laysText_7 : decode cX10_laysText 7 = .ok (.iload_n 1, 1) := by decide +kernel
theorem dX10_laysText_8 : decode cX10_laysText 8 = .ok (.aload_n 0, 1) := by decide +kernel
theorem dX10_laysText_9 : decode cX10_laysText 9 = .ok (.invokevirtual 123, 3) := by decide +kernel
theorem dX10_laysText_12 : decode cX10_laysText 12 = .ok (.if_icmp .ge 19, 3) := by decide +kernel
theorem dX10_laysText_15 : decode cX10_laysText 15 = .ok (.aload_n 0, 1) := by decide +kernel
theorem dX10_laysText_16 : decode cX10_laysText 16 = .ok (.aload_n 0, 1) := by decide +kernel
theorem dX10_laysText_17 : decode cX10_laysText 17 = .ok (.iload_n 1, 1) := by decide +kernel
theorem dX10_laysText_18 : decode cX10_laysText 18 = .ok (.invokevirtual 127, 3) := by decide +kernel
theorem dX10_laysText_21 : decode cX10_laysText 21 = .ok (.iconst 0, 1) := by decide +kernel
theorem dX10_laysText_22 : decode cX10_laysText 22 = .ok (.invokevirtual 130, 3) := by decide +kernel
theorem dX10_laysText_25 : decode cX10_laysText 25 = .ok (.iinc 1 1, 3) := by decide +kernel
theorem dX10_laysText_28 : decode cX10_laysText 28 = .ok (.goto (-21), 3) := by decide +kernel
theorem dX10_laysText_31 : decode cX10_laysText 31 = .ok (.return_, 1) := by decide +kernel
theorem dX10_laysOut_0 : decode cX10_laysOut 0 = .ok (.iload_n 1, 1) := by decide +kernel
theorem dX10_laysOut_1 : decode cX10_laysOut 1 = .ok (.bipush 26, 2) := by decide +kernel
theorem dX10_laysOut_3 : decode cX10_laysOut 3 = .ok (.if_icmp .ge 34, 3) := by decide +kernel
theorem dX10_laysOut_6 : decode cX10_laysOut 6 = .ok (.aload_n 0, 1) := by decide +kernel
theorem dX10_laysOut_7 : decode cX10_laysOut 7 = .ok (.getfield 36, 3) := by decide +kernel
theorem dX10_laysOut_10 : decode cX10_laysOut 10 = .ok (.aload_n 0, 1) := by decide +kernel
theorem dX10_laysOut_11 : decode cX10_laysOut 11 = .ok (.getfield 120, 3) := by decide +kernel
theorem dX10_laysOut_14 : decode cX10_laysOut 14 = .ok (.iload_n 1, 1) := by decide +kernel
theorem dX10_laysOut_15 : decode cX10_laysOut 15 = .ok (.iastore, 1) := by decide +kernel
theorem dX10_laysOut_16 : decode cX10_laysOut 16 = .ok (.aload_n 0, 1) := by decide +kernel
theorem dX10_laysOut_17 : decode cX10_laysOut 17 = .ok (.getfield 39, 3) := by decide +kernel
theorem dX10_laysOut_20 : decode cX10_laysOut 20 = .ok (.aload_n 0, 1) := by decide +kernel
theorem dX10_laysOut_21 : decode cX10_laysOut 21 = .ok (.getfield 120, 3) := by decide +kernel
theorem dX10_laysOut_24 : decode cX10_laysOut 24 = .ok (.iload_n 2, 1) := by decide +kernel
theorem dX10_laysOut_25 : decode cX10_laysOut 25 = .ok (.iastore, 1) := by decide +kernel
theorem dX10_laysOut_26 : decode cX10_laysOut 26 = .ok (.aload_n 0, 1) := by decide +kernel
theorem dX10_laysOut_27 : decode cX10_laysOut 27 = .ok (.dup, 1) := by decide +kernel
theorem dX10_laysOut_28 : decode cX10_laysOut 28 = .ok (.getfield 120, 3) := by decide +kernel
theorem dX10_laysOut_31 : decode cX10_laysOut 31 = .ok (.iconst 1, 1) := by decide +kernel
theorem dX10_laysOut_32 : decode cX10_laysOut 32 = .ok (.iadd, 1) := by decide +kernel
theorem dX10_laysOut_33 : decode cX10_laysOut 33 = .ok (.putfield 120, 3) := by decide +kernel
theorem dX10_laysOut_36 : decode cX10_laysOut 36 = .ok (.return_, 1) := by decide +kernel
theorem dX10_laysOut_37 : decode cX10_laysOut 37 = .ok (.iconst 0, 1) := by decide +kernel
theorem dX10_laysOut_38 : decode cX10_laysOut 38 = .ok (.istore_n 3, 1) := by decide +kernel
theorem dX10_laysOut_39 : decode cX10_laysOut 39 = .ok (.iload_n 3, 1) := by decide +kernel
theorem dX10_laysOut_40 : decode cX10_laysOut 40 = .ok (.aload_n 0, 1) := by decide +kernel
theorem dX10_laysOut_41 : decode cX10_laysOut 41 = .ok (.iload_n 1, 1) := by decide +kernel
theorem dX10_laysOut_42 : decode cX10_laysOut 42 = .ok (.invokevirtual 106, 3) := by decide +kernel
theorem dX10_laysOut_45 : decode cX10_laysOut 45 = .ok (.if_icmp .ge 22, 3) := by decide +kernel
theorem dX10_laysOut_48 : decode cX10_laysOut 48 = .ok (.aload_n 0, 1) := by decide +kernel
theorem dX10_laysOut_49 : decode cX10_laysOut 49 = .ok (.aload_n 0, 1) := by decide +kernel
theorem dX10_laysOut_50 : decode cX10_laysOut 50 = .ok (.iload_n 1, 1) := by decide +kernel
theorem dX10_laysOut_51 : decode cX10_laysOut 51 = .ok (.iload_n 3, 1) := by decide +kernel
theorem dX10_laysOut_52 : decode cX10_laysOut 52 = .ok (.invokevirtual 113, 3) := by decide +kernel
theorem dX10_laysOut_55 : decode cX10_laysOut 55 = .ok (.iload_n 2, 1) := by decide +kernel
theorem dX10_laysOut_56 : decode cX10_laysOut 56 = .ok (.iconst 1, 1) := by decide +kernel
theorem dX10_laysOut_57 : decode cX10_laysOut 57 = .ok (.iadd, 1) := by decide +kernel
theorem dX10_laysOut_58 : decode cX10_laysOut 58 = .ok (.invokevirtual 130, 3) := by decide +kernel
theorem dX10_laysOut_61 : decode cX10_laysOut 61 = .ok (.iinc 3 1, 3) := by decide +kernel
theorem dX10_laysOut_64 : decode cX10_laysOut 64 = .ok (.goto (-25), 3) := by decide +kernel
theorem dX10_laysOut_67 : decode cX10_laysOut 67 = .ok (.return_, 1) := by decide +kernel
theorem dX10_lettersMany_0 : decode cX10_lettersMany 0 = .ok (.aload_n 0, 1) := by decide +kernel
theorem dX10_lettersMany_1 : decode cX10_lettersMany 1 = .ok (.invokevirtual 134, 3) := by decide +kernel
theorem dX10_lettersMany_4 : decode cX10_lettersMany 4 = .ok (.iconst 0, 1) := by decide +kernel
theorem dX10_lettersMany_5 : decode cX10_lettersMany 5 = .ok (.istore_n 1, 1) := by decide +kernel
theorem dX10_lettersMany_6 : decode cX10_lettersMany 6 = .ok (.iconst 0, 1) := by decide +kernel
theorem dX10_lettersMany_7 : decode cX10_lettersMany 7 = .ok (.istore_n 2, 1) := by decide +kernel
theorem dX10_lettersMany_8 : decode cX10_lettersMany 8 = .ok (.iload_n 2, 1) := by decide +kernel
theorem dX10_lettersMany_9 : decode cX10_lettersMany 9 = .ok (.aload_n 0, 1) := by decide +kernel
theorem dX10_lettersMany_10 : decode cX10_lettersMany 10 = .ok (.invokevirtual 123, 3) := by decide +kernel
theorem dX10_lettersMany_13 : decode cX10_lettersMany 13 = .ok (.if_icmp .ge 22, 3) := by decide +kernel
theorem dX10_lettersMany_16 : decode cX10_lettersMany 16 = .ok (.iload_n 1, 1) := by decide +kernel
theorem dX10_lettersMany_17 : decode cX10_lettersMany 17 = .ok (.aload_n 0, 1) := by decide +kernel
theorem dX10_lettersMany_18 : decode cX10_lettersMany 18 = .ok (.getfield 30, 3) := by decide +kernel
theorem dX10_lettersMany_21 : decode cX10_lettersMany 21 = .ok (.aload_n 0, 1) := by decide +kernel
theorem dX10_lettersMany_22 : decode cX10_lettersMany 22 = .ok (.iload_n 2, 1) := by decide +kernel
theorem dX10_lettersMany_23 : decode cX10_lettersMany 23 = .ok (.invokevirtual 127, 3) := by decide +kernel
theorem dX10_lettersMany_26 : decode cX10_lettersMany 26 = .ok (.iaload, 1) := by decide +kernel
theorem dX10_lettersMany_27 : decode cX10_lettersMany 27 = .ok (.iadd, 1) := by decide +kernel
theorem dX10_lettersMany_28 : decode cX10_lettersMany 28 = .ok (.istore_n 1, 1) := by decide +kernel
theorem dX10_lettersMany_29 : decode cX10_lettersMany 29 = .ok (.iinc 2 1, 3) := by decide +kernel
theorem dX10_lettersMany_32 : decode cX10_lettersMany 32 = .ok (.goto (-24), 3) := by decide +kernel
theorem dX10_lettersMany_35 : decode cX10_lettersMany 35 = .ok (.iload_n 1, 1) := by decide +kernel
theorem dX10_lettersMany_36 : decode cX10_lettersMany 36 = .ok (.ireturn, 1) := by decide +kernel
theorem dX10_feed_0 : decode cX10_feed 0 = .ok (.aload_n 0, 1) := by decide +kernel
theorem dX10_feed_1 : decode cX10_feed 1 = .ok (.iconst 0, 1) := by decide +kernel
theorem dX10_feed_2 : decode cX10_feed 2 = .ok (.putfield 1, 3) := by decide +kernel
theorem dX10_feed_5 : decode cX10_feed 5 = .ok (.aload_n 0, 1) := by decide +kernel
theorem dX10_feed_6 : decode cX10_feed 6 = .ok (.getfield 137, 3) := by decide +kernel
theorem dX10_feed_9 : decode cX10_feed 9 = .ok (.bipush 20, 2) := by decide +kernel
theorem dX10_feed_11 : decode cX10_feed 11 = .ok (.iadd, 1) := by decide +kernel
theorem dX10_feed_12 : decode cX10_feed 12 = .ok (.sipush 260, 3) := by decide +kernel
theorem dX10_feed_15 : decode cX10_feed 15 = .ok (.if_icmp .le 6, 3) := by decide +kernel
theorem dX10_feed_18 : decode cX10_feed 18 = .ok (.bipush (-4), 2) := by decide +kernel
theorem dX10_feed_20 : decode cX10_feed 20 = .ok (.ireturn, 1) := by decide +kernel
theorem dX10_feed_21 : decode cX10_feed 21 = .ok (.iconst 0, 1) := by decide +kernel
theorem dX10_feed_22 : decode cX10_feed 22 = .ok (.istore 6, 2) := by decide +kernel
theorem dX10_feed_24 : decode cX10_feed 24 = .ok (.iload 6, 2) := by decide +kernel
theorem dX10_feed_26 : decode cX10_feed 26 = .ok (.bipush 20, 2) := by decide +kernel
theorem dX10_feed_28 : decode cX10_feed 28 = .ok (.if_icmp .ge 90, 3) := by decide +kernel
theorem dX10_feed_31 : decode cX10_feed 31 = .ok (.iload 6, 2) := by decide +kernel
theorem dX10_feed_33 : decode cX10_feed 33 = .ok (.iconst 4, 1) := by decide +kernel
theorem dX10_feed_34 : decode cX10_feed 34 = .ok (.if_icmp .ge 7, 3) := by decide +kernel
theorem dX10_feed_37 : decode cX10_feed 37 = .ok (.iload_n 1, 1) := by decide +kernel
theorem dX10_feed_38 : decode cX10_feed 38 = .ok (.goto 39, 3) := by decide +kernel
theorem dX10_feed_41 : decode cX10_feed 41 = .ok (.iload 6, 2) := by decide +kernel
theorem dX10_feed_43 : decode cX10_feed 43 = .ok (.bipush 8, 2) := by decide +kernel
theorem dX10_feed_45 : decode cX10_feed 45 = .ok (.if_icmp .ge 7, 3) := by decide +kernel
theorem dX10_feed_48 : decode cX10_feed 48 = .ok (.iload_n 2, 1) := by decide +kernel
theorem dX10_feed_49 : decode cX10_feed 49 = .ok (.goto 28, 3) := by decide +kernel
theorem dX10_feed_52 : decode cX10_feed 52 = .ok (.iload 6, 2) := by decide +kernel
theorem dX10_feed_54 : decode cX10_feed 54 = .ok (.bipush 12, 2) := by decide +kernel
theorem dX10_feed_56 : decode cX10_feed 56 = .ok (.if_icmp .ge 7, 3) := by decide +kernel
theorem dX10_feed_59 : decode cX10_feed 59 = .ok (.iload_n 3, 1) := by decide +kernel
theorem dX10_feed_60 : decode cX10_feed 60 = .ok (.goto 17, 3) := by decide +kernel
theorem dX10_feed_63 : decode cX10_feed 63 = .ok (.iload 6, 2) := by decide +kernel
theorem dX10_feed_65 : decode cX10_feed 65 = .ok (.bipush 16, 2) := by decide +kernel
theorem dX10_feed_67 : decode cX10_feed 67 = .ok (.if_icmp .ge 8, 3) := by decide +kernel
theorem dX10_feed_70 : decode cX10_feed 70 = .ok (.iload 4, 2) := by decide +kernel
theorem dX10_feed_72 : decode cX10_feed 72 = .ok (.goto 5, 3) := by decide +kernel
theorem dX10_feed_75 : decode cX10_feed 75 = .ok (.iload 5, 2) := by decide +kernel
theorem dX10_feed_77 : decode cX10_feed 77 = .ok (.istore 7, 2) := by decide +kernel
theorem dX10_feed_79 : decode cX10_feed 79 = .ok (.aload_n 0, 1) := by decide +kernel
theorem dX10_feed_80 : decode cX10_feed 80 = .ok (.getfield 42, 3) := by decide +kernel
theorem dX10_feed_83 : decode cX10_feed 83 = .ok (.aload_n 0, 1) := by decide +kernel
theorem dX10_feed_84 : decode cX10_feed 84 = .ok (.getfield 137, 3) := by decide +kernel
theorem dX10_feed_87 : decode cX10_feed 87 = .ok (.iload 7, 2) := by decide +kernel
theorem dX10_feed_89 : decode cX10_feed 89 = .ok (.bipush 24, 2) := by decide +kernel
theorem dX10_feed_91 : decode cX10_feed 91 = .ok (.bipush 8, 2) := by decide +kernel
theorem dX10_feed_93 : decode cX10_feed 93 = .ok (.iload 6, 2) := by decide +kernel
theorem dX10_feed_95 : decode cX10_feed 95 = .ok (.iconst 4, 1) := by decide +kernel
theorem dX10_feed_96 : decode cX10_feed 96 = .ok (.irem, 1) := by decide +kernel
theorem dX10_feed_97 : decode cX10_feed 97 = .ok (.imul, 1) := by decide +kernel
theorem dX10_feed_98 : decode cX10_feed 98 = .ok (.isub, 1) := by decide +kernel
theorem dX10_feed_99 : decode cX10_feed 99 = .ok (.ishr, 1) := by decide +kernel
theorem dX10_feed_100 : decode cX10_feed 100 = .ok (.i2b, 1) := by decide +kernel
theorem dX10_feed_101 : decode cX10_feed 101 = .ok (.bastore, 1) := by decide +kernel
theorem dX10_feed_102 : decode cX10_feed 102 = .ok (.aload_n 0, 1) := by decide +kernel
theorem dX10_feed_103 : decode cX10_feed 103 = .ok (.dup, 1) := by decide +kernel
theorem dX10_feed_104 : decode cX10_feed 104 = .ok (.getfield 137, 3) := by decide +kernel
theorem dX10_feed_107 : decode cX10_feed 107 = .ok (.iconst 1, 1) := by decide +kernel
theorem dX10_feed_108 : decode cX10_feed 108 = .ok (.iadd, 1) := by decide +kernel
theorem dX10_feed_109 : decode cX10_feed 109 = .ok (.putfield 137, 3) := by decide +kernel
theorem dX10_feed_112 : decode cX10_feed 112 = .ok (.iinc 6 1, 3) := by decide +kernel
theorem dX10_feed_115 : decode cX10_feed 115 = .ok (.goto (-91), 3) := by decide +kernel
theorem dX10_feed_118 : decode cX10_feed 118 = .ok (.aload_n 0, 1) := by decide +kernel
theorem dX10_feed_119 : decode cX10_feed 119 = .ok (.getfield 137, 3) := by decide +kernel
theorem dX10_feed_122 : decode cX10_feed 122 = .ok (.ireturn, 1) := by decide +kernel
theorem dX10_takes_0 : decode cX10_takes 0 = .ok (.iload_n 1, 1) := by decide +kernel
theorem dX10_takes_1 : decode cX10_takes 1 = .ok (.i2l, 1) := by decide +kernel
theorem dX10_takes_2 : decode cX10_takes 2 = .ok (.lconst 0, 1) := by decide +kernel
theorem dX10_takes_3 : decode cX10_takes 3 = .ok (.aload_n 0, 1) := by decide +kernel
theorem dX10_takes_4 : decode cX10_takes 4 = .ok (.getfield 137, 3) := by decide +kernel
theorem dX10_takes_7 : decode cX10_takes 7 = .ok (.i2l, 1) := by decide +kernel
theorem dX10_takes_8 : decode cX10_takes 8 = .ok (.invokestatic 98, 3) := by decide +kernel
theorem dX10_takes_11 : decode cX10_takes 11 = .ok (.ifCond .ne 6, 3) := by decide +kernel
theorem dX10_takes_14 : decode cX10_takes 14 = .ok (.bipush (-3), 2) := by decide +kernel
theorem dX10_takes_16 : decode cX10_takes 16 = .ok (.ireturn, 1) := by decide +kernel
theorem dX10_takes_17 : decode cX10_takes 17 = .ok (.aload_n 0, 1) := by decide +kernel
theorem dX10_takes_18 : decode cX10_takes 18 = .ok (.iconst 0, 1) := by decide +kernel
theorem dX10_takes_19 : decode cX10_takes 19 = .ok (.putfield 137, 3) := by decide +kernel
theorem dX10_takes_22 : decode cX10_takes 22 = .ok (.aload_n 0, 1) := by decide +kernel
theorem dX10_takes_23 : decode cX10_takes 23 = .ok (.iconst 0, 1) := by decide +kernel
theorem dX10_takes_24 : decode cX10_takes 24 = .ok (.putfield 140, 3) := by decide +kernel
theorem dX10_takes_27 : decode cX10_takes 27 = .ok (.aload_n 0, 1) := by decide +kernel
theorem dX10_takes_28 : decode cX10_takes 28 = .ok (.iconst (-1), 1) := by decide +kernel
theorem dX10_takes_29 : decode cX10_takes 29 = .ok (.putfield 46, 3) := by decide +kernel
theorem dX10_takes_32 : decode cX10_takes 32 = .ok (.iload_n 1, 1) := by decide +kernel
theorem dX10_takes_33 : decode cX10_takes 33 = .ok (.i2l, 1) := by decide +kernel
theorem dX10_takes_34 : decode cX10_takes 34 = .ok (.iload_n 2, 1) := by decide +kernel
theorem dX10_takes_35 : decode cX10_takes 35 = .ok (.i2l, 1) := by decide +kernel
theorem dX10_takes_36 : decode cX10_takes 36 = .ok (.iload_n 3, 1) := by decide +kernel
theorem dX10_takes_37 : decode cX10_takes 37 = .ok (.i2l, 1) := by decide +kernel
theorem dX10_takes_38 : decode cX10_takes 38 = .ok (.invokestatic 98, 3) := by decide +kernel
theorem dX10_takes_41 : decode cX10_takes 41 = .ok (.ifCond .ne 6, 3) := by decide +kernel
theorem dX10_takes_44 : decode cX10_takes 44 = .ok (.bipush (-4), 2) := by decide +kernel
theorem dX10_takes_46 : decode cX10_takes 46 = .ok (.ireturn, 1) := by decide +kernel
theorem dX10_takes_47 : decode cX10_takes 47 = .ok (.iload_n 1, 1) := by decide +kernel
theorem dX10_takes_48 : decode cX10_takes 48 = .ok (.iconst 1, 1) := by decide +kernel
theorem dX10_takes_49 : decode cX10_takes 49 = .ok (.isub, 1) := by decide +kernel
theorem dX10_takes_50 : decode cX10_takes 50 = .ok (.istore 4, 2) := by decide +kernel
theorem dX10_takes_52 : decode cX10_takes 52 = .ok (.iload 4, 2) := by decide +kernel
theorem dX10_takes_54 : decode cX10_takes 54 = .ok (.ifCond .lt 35, 3) := by decide +kernel
theorem dX10_takes_57 : decode cX10_takes 57 = .ok (.aload_n 0, 1) := by decide +kernel
theorem dX10_takes_58 : decode cX10_takes 58 = .ok (.getfield 42, 3) := by decide +kernel
theorem dX10_takes_61 : decode cX10_takes 61 = .ok (.iload 4, 2) := by decide +kernel
theorem dX10_takes_63 : decode cX10_takes 63 = .ok (.baload, 1) := by decide +kernel
theorem dX10_takes_64 : decode cX10_takes 64 = .ok (.i2l, 1) := by decide +kernel
theorem dX10_takes_65 : decode cX10_takes 65 = .ok (.ldc2_w 143, 3) := by decide +kernel
theorem dX10_takes_68 : decode cX10_takes 68 = .ok (.ldc2_w 145, 3) := by decide +kernel
theorem dX10_takes_71 : decode cX10_takes 71 = .ok (.invokestatic 98, 3) := by decide +kernel
theorem dX10_takes_74 : decode cX10_takes 74 = .ok (.ifCond .ne 9, 3) := by decide +kernel
theorem dX10_takes_77 : decode cX10_takes 77 = .ok (.aload_n 0, 1) := by decide +kernel
theorem dX10_takes_78 : decode cX10_takes 78 = .ok (.iload 4, 2) := by decide +kernel
theorem dX10_takes_80 : decode cX10_takes 80 = .ok (.putfield 46, 3) := by decide +kernel
theorem dX10_takes_83 : decode cX10_takes 83 = .ok (.iinc 4 (-1), 3) := by decide +kernel
theorem dX10_takes_86 : decode cX10_takes 86 = .ok (.goto (-34), 3) := by decide +kernel
theorem dX10_takes_89 : decode cX10_takes 89 = .ok (.aload_n 0, 1) := by decide +kernel
theorem dX10_takes_90 : decode cX10_takes 90 = .ok (.getfield 46, 3) := by decide +kernel
theorem dX10_takes_93 : decode cX10_takes 93 = .ok (.iconst (-1), 1) := by decide +kernel
theorem dX10_takes_94 : decode cX10_takes 94 = .ok (.if_icmp .ne 5, 3) := by decide +kernel
theorem dX10_takes_97 : decode cX10_takes 97 = .ok (.iconst 0, 1) := by decide +kernel
theorem dX10_takes_98 : decode cX10_takes 98 = .ok (.ireturn, 1) := by decide +kernel
theorem dX10_takes_99 : decode cX10_takes 99 = .ok (.aload_n 0, 1) := by decide +kernel
theorem dX10_takes_100 : decode cX10_takes 100 = .ok (.iconst 1, 1) := by decide +kernel
theorem dX10_takes_101 : decode cX10_takes 101 = .ok (.putfield 140, 3) := by decide +kernel
theorem dX10_takes_104 : decode cX10_takes 104 = .ok (.bipush (-31), 2) := by decide +kernel
theorem dX10_takes_106 : decode cX10_takes 106 = .ok (.ireturn, 1) := by decide +kernel
theorem dX10_fails_0 : decode cX10_fails 0 = .ok (.aload_n 0, 1) := by decide +kernel
theorem dX10_fails_1 : decode cX10_fails 1 = .ok (.iload_n 1, 1) := by decide +kernel
theorem dX10_fails_2 : decode cX10_fails 2 = .ok (.putfield 140, 3) := by decide +kernel
theorem dX10_fails_5 : decode cX10_fails 5 = .ok (.aload_n 0, 1) := by decide +kernel
theorem dX10_fails_6 : decode cX10_fails 6 = .ok (.iload_n 2, 1) := by decide +kernel
theorem dX10_fails_7 : decode cX10_fails 7 = .ok (.putfield 46, 3) := by decide +kernel
theorem dX10_fails_10 : decode cX10_fails 10 = .ok (.bipush (-30), 2) := by decide +kernel
theorem dX10_fails_12 : decode cX10_fails 12 = .ok (.iload_n 1, 1) := by decide +kernel
theorem dX10_fails_13 : decode cX10_fails 13 = .ok (.isub, 1) := by decide +kernel
theorem dX10_fails_14 : decode cX10_fails 14 = .ok (.ireturn, 1) := by decide +kernel
theorem dX10_nextByte_0 : decode cX10_nextByte 0 = .ok (.aload_n 0, 1) := by decide +kernel
theorem dX10_nextByte_1 : decode cX10_nextByte 1 = .ok (.getfield 147, 3) := by decide +kernel
theorem dX10_nextByte_4 : decode cX10_nextByte 4 = .ok (.aload_n 0, 1) := by decide +kernel
theorem dX10_nextByte_5 : decode cX10_nextByte 5 = .ok (.getfield 150, 3) := by decide +kernel
theorem dX10_nextByte_8 : decode cX10_nextByte 8 = .ok (.if_icmp .ne 13, 3) := by decide +kernel
theorem dX10_nextByte_11 : decode cX10_nextByte 11 = .ok (.aload_n 0, 1) := by decide +kernel
theorem dX10_nextByte_12 : decode cX10_nextByte 12 = .ok (.iconst 1, 1) := by decide +kernel
theorem dX10_nextByte_13 : decode cX10_nextByte 13 = .ok (.aload_n 0, 1) := by decide +kernel
theorem dX10_nextByte_14 : decode cX10_nextByte 14 = .ok (.getfield 147, 3) := by decide +kernel
theorem dX10_nextByte_17 : decode cX10_nextByte 17 = .ok (.invokevirtual 153, 3) := by decide +kernel
theorem dX10_nextByte_20 : decode cX10_nextByte 20 = .ok (.ireturn, 1) := by decide +kernel
theorem dX10_nextByte_21 : decode cX10_nextByte 21 = .ok (.aload_n 0, 1) := by decide +kernel
theorem dX10_nextByte_22 : decode cX10_nextByte 22 = .ok (.getfield 42, 3) := by decide +kernel
theorem dX10_nextByte_25 : decode cX10_nextByte 25 = .ok (.aload_n 0, 1) := by decide +kernel
theorem dX10_nextByte_26 : decode cX10_nextByte 26 = .ok (.getfield 147, 3) := by decide +kernel
theorem dX10_nextByte_29 : decode cX10_nextByte 29 = .ok (.baload, 1) := by decide +kernel
theorem dX10_nextByte_30 : decode cX10_nextByte 30 = .ok (.sipush 255, 3) := by decide +kernel
theorem dX10_nextByte_33 : decode cX10_nextByte 33 = .ok (.iand, 1) := by decide +kernel
theorem dX10_nextByte_34 : decode cX10_nextByte 34 = .ok (.istore_n 3, 1) := by decide +kernel
theorem dX10_nextByte_35 : decode cX10_nextByte 35 = .ok (.iload_n 3, 1) := by decide +kernel
theorem dX10_nextByte_36 : decode cX10_nextByte 36 = .ok (.i2l, 1) := by decide +kernel
theorem dX10_nextByte_37 : decode cX10_nextByte 37 = .ok (.iload_n 1, 1) := by decide +kernel
theorem dX10_nextByte_38 : decode cX10_nextByte 38 = .ok (.i2l, 1) := by decide +kernel
theorem dX10_nextByte_39 : decode cX10_nextByte 39 = .ok (.iload_n 2, 1) := by decide +kernel
theorem dX10_nextByte_40 : decode cX10_nextByte 40 = .ok (.i2l, 1) := by decide +kernel
theorem dX10_nextByte_41 : decode cX10_nextByte 41 = .ok (.invokestatic 98, 3) := by decide +kernel
theorem dX10_nextByte_44 : decode cX10_nextByte 44 = .ok (.ifCond .ne 13, 3) := by decide +kernel
theorem dX10_nextByte_47 : decode cX10_nextByte 47 = .ok (.aload_n 0, 1) := by decide +kernel
theorem dX10_nextByte_48 : decode cX10_nextByte 48 = .ok (.iconst 2, 1) := by decide +kernel
theorem dX10_nextByte_49 : decode cX10_nextByte 49 = .ok (.aload_n 0, 1) := by decide +kernel
theorem dX10_nextByte_50 : decode cX10_nextByte 50 = .ok (.getfield 147, 3) := by decide +kernel
theorem dX10_nextByte_53 : decode cX10_nextByte 53 = .ok (.invokevirtual 153, 3) := by decide +kernel
theorem dX10_nextByte_56 : decode cX10_nextByte 56 = .ok (.ireturn, 1) := by decide +kernel
theorem dX10_nextByte_57 : decode cX10_nextByte 57 = .ok (.aload_n 0, 1) := by decide +kernel
theorem dX10_nextByte_58 : decode cX10_nextByte 58 = .ok (.dup, 1) := by decide +kernel
theorem dX10_nextByte_59 : decode cX10_nextByte 59 = .ok (.getfield 147, 3) := by decide +kernel
theorem dX10_nextByte_62 : decode cX10_nextByte 62 = .ok (.iconst 1, 1) := by decide +kernel
theorem dX10_nextByte_63 : decode cX10_nextByte 63 = .ok (.iadd, 1) := by decide +kernel
theorem dX10_nextByte_64 : decode cX10_nextByte 64 = .ok (.putfield 147, 3) := by decide +kernel
theorem dX10_nextByte_67 : decode cX10_nextByte 67 = .ok (.iload_n 3, 1) := by decide +kernel
theorem dX10_nextByte_68 : decode cX10_nextByte 68 = .ok (.ireturn, 1) := by decide +kernel
theorem dX10_nextSigns_0 : decode cX10_nextSigns 0 = .ok (.iconst 0, 1) := by decide +kernel
theorem dX10_nextSigns_1 : decode cX10_nextSigns 1 = .ok (.istore_n 3, 1) := by decide +kernel
theorem dX10_nextSigns_2 : decode cX10_nextSigns 2 = .ok (.iconst 0, 1) := by decide +kernel
theorem dX10_nextSigns_3 : decode cX10_nextSigns 3 = .ok (.istore 4, 2) := by decide +kernel
theorem dX10_nextSigns_5 : decode cX10_nextSigns 5 = .ok (.iload 4, 2) := by decide +kernel
theorem dX10_nextSigns_7 : decode cX10_nextSigns 7 = .ok (.iload_n 2, 1) := by decide +kernel
theorem dX10_nextSigns_8 : decode cX10_nextSigns 8 = .ok (.if_icmp .ge 127, 3) := by decide +kernel
theorem dX10_nextSigns_11 : decode cX10_nextSigns 11 = .ok (.aload_n 0, 1) := by decide +kernel
theorem dX10_nextSigns_12 : decode cX10_nextSigns 12 = .ok (.getfield 147, 3) := by decide +kernel
theorem dX10_nextSigns_15 : decode cX10_nextSigns 15 = .ok (.aload_n 0, 1) := by decide +kernel
theorem dX10_nextSigns_16 : decode cX10_nextSigns 16 = .ok (.getfield 150, 3) := by decide +kernel
theorem dX10_nextSigns_19 : decode cX10_nextSigns 19 = .ok (.if_icmp .ne 13, 3) := by decide +kernel
theorem dX10_nextSigns_22 : decode cX10_nextSigns 22 = .ok (.aload_n 0, 1) := by decide +kernel
theorem dX10_nextSigns_23 : decode cX10_nextSigns 23 = .ok (.iconst 1, 1) := by decide +kernel
theorem dX10_nextSigns_24 : decode cX10_nextSigns 24 = .ok (.aload_n 0, 1) := by decide +kernel
theorem dX10_nextSigns_25 : decode cX10_nextSigns 25 = .ok (.getfield 147, 3) := by decide +kernel
theorem dX10_nextSigns_28 : decode cX10_nextSigns 28 = .ok (.invokevirtual 153, 3) := by decide +kernel
theorem dX10_nextSigns_31 : decode cX10_nextSigns 31 = .ok (.ireturn, 1) := by decide +kernel
theorem dX10_nextSigns_32 : decode cX10_nextSigns 32 = .ok (.aload_n 0, 1) := by decide +kernel
theorem dX10_nextSigns_33 : decode cX10_nextSigns 33 = .ok (.getfield 42, 3) := by decide +kernel
theorem dX10_nextSigns_36 : decode cX10_nextSigns 36 = .ok (.aload_n 0, 1) := by decide +kernel
theorem dX10_nextSigns_37 : decode cX10_nextSigns 37 = .ok (.getfield 147, 3) := by decide +kernel
theorem dX10_nextSigns_40 : decode cX10_nextSigns 40 = .ok (.baload, 1) := by decide +kernel
theorem dX10_nextSigns_41 : decode cX10_nextSigns 41 = .ok (.sipush 255, 3) := by decide +kernel
theorem dX10_nextSigns_44 : decode cX10_nextSigns 44 = .ok (.iand, 1) := by decide +kernel
theorem dX10_nextSigns_45 : decode cX10_nextSigns 45 = .ok (.istore 5, 2) := by decide +kernel
theorem dX10_nextSigns_47 : decode cX10_nextSigns 47 = .ok (.iload 5, 2) := by decide +kernel
theorem dX10_nextSigns_49 : decode cX10_nextSigns 49 = .ok (.bipush 86, 2) := by decide +kernel
theorem dX10_nextSigns_51 : decode cX10_nextSigns 51 = .ok (.if_icmp .ge 20, 3) := by decide +kernel
theorem dX10_nextSigns_54 : decode cX10_nextSigns 54 = .ok (.iload 5, 2) := by decide +kernel
theorem dX10_nextSigns_56 : decode cX10_nextSigns 56 = .ok (.bipush 26, 2) := by decide +kernel
theorem dX10_nextSigns_58 : decode cX10_nextSigns 58 = .ok (.if_icmp .lt 23, 3) := by decide +kernel
theorem dX10_nextSigns_61 : decode cX10_nextSigns 61 = .ok (.aload_n 0, 1) := by decide +kernel
theorem dX10_nextSigns_62 : decode cX10_nextSigns 62 = .ok (.getfield 30, 3) := by decide +kernel
theorem dX10_nextSigns_65 : decode cX10_nextSigns 65 = .ok (.iload 5, 2) := by decide +kernel
theorem dX10_nextSigns_67 : decode cX10_nextSigns 67 = .ok (.iaload, 1) := by decide +kernel
theorem dX10_nextSigns_68 : decode cX10_nextSigns 68 = .ok (.ifCond .ne 13, 3) := by decide +kernel
theorem dX10_nextSigns_71 : decode cX10_nextSigns 71 = .ok (.aload_n 0, 1) := by decide +kernel
theorem dX10_nextSigns_72 : decode cX10_nextSigns 72 = .ok (.iconst 3, 1) := by decide +kernel
theorem dX10_nextSigns_73 : decode cX10_nextSigns 73 = .ok (.aload_n 0, 1) := by decide +kernel
theorem dX10_nextSigns_74 : decode cX10_nextSigns 74 = .ok (.getfield 147, 3) := by decide +kernel
theorem dX10_nextSigns_77 : decode cX10_nextSigns 77 = .ok (.invokevirtual 153, 3) := by decide +kernel
theorem dX10_nextSigns_80 : decode cX10_nextSigns 80 = .ok (.ireturn, 1) := by decide +kernel
theorem dX10_nextSigns_81 : decode cX10_nextSigns 81 = .ok (.iload_n 3, 1) := by decide +kernel
theorem dX10_nextSigns_82 : decode cX10_nextSigns 82 = .ok (.aload_n 0, 1) := by decide +kernel
theorem dX10_nextSigns_83 : decode cX10_nextSigns 83 = .ok (.getfield 30, 3) := by decide +kernel
theorem dX10_nextSigns_86 : decode cX10_nextSigns 86 = .ok (.iload 5, 2) := by decide +kernel
theorem dX10_nextSigns_88 : decode cX10_nextSigns 88 = .ok (.iaload, 1) := by decide +kernel
theorem dX10_nextSigns_89 : decode cX10_nextSigns 89 = .ok (.iadd, 1) := by decide +kernel
theorem dX10_nextSigns_90 : decode cX10_nextSigns 90 = .ok (.istore_n 3, 1) := by decide +kernel
theorem dX10_nextSigns_91 : decode cX10_nextSigns 91 = .ok (.iload_n 3, 1) := by decide +kernel
theorem dX10_nextSigns_92 : decode cX10_nextSigns 92 = .ok (.sipush 240, 3) := by decide +kernel
theorem dX10_nextSigns_95 : decode cX10_nextSigns 95 = .ok (.if_icmp .le 13, 3) := by decide +kernel
theorem dX10_nextSigns_98 : decode cX10_nextSigns 98 = .ok (.aload_n 0, 1) := by decide +kernel
theorem dX10_nextSigns_99 : decode cX10_nextSigns 99 = .ok (.iconst 4, 1) := by decide +kernel
theorem dX10_nextSigns_100 : decode cX10_nextSigns 100 = .ok (.aload_n 0, 1) := by decide +kernel
theorem dX10_nextSigns_101 : decode cX10_nextSigns 101 = .ok (.getfield 147, 3) := by decide +kernel
theorem dX10_nextSigns_104 : decode cX10_nextSigns 104 = .ok (.invokevirtual 153, 3) := by decide +kernel
theorem dX10_nextSigns_107 : decode cX10_nextSigns 107 = .ok (.ireturn, 1) := by decide +kernel
theorem dX10_nextSigns_108 : decode cX10_nextSigns 108 = .ok (.aload_n 0, 1) := by decide +kernel
theorem dX10_nextSigns_109 : decode cX10_nextSigns 109 = .ok (.getfield 52, 3) := by decide +kernel
theorem dX10_nextSigns_112 : decode cX10_nextSigns 112 = .ok (.iload_n 1, 1) := by decide +kernel
theorem dX10_nextSigns_113 : decode cX10_nextSigns 113 = .ok (.iload 4, 2) := by decide +kernel
theorem dX10_nextSigns_115 : decode cX10_nextSigns 115 = .ok (.iadd, 1) := by decide +kernel
theorem dX10_nextSigns_116 : decode cX10_nextSigns 116 = .ok (.iload 5, 2) := by decide +kernel
theorem dX10_nextSigns_118 : decode cX10_nextSigns 118 = .ok (.iastore, 1) := by decide +kernel
theorem dX10_nextSigns_119 : decode cX10_nextSigns 119 = .ok (.aload_n 0, 1) := by decide +kernel
theorem dX10_nextSigns_120 : decode cX10_nextSigns 120 = .ok (.dup, 1) := by decide +kernel
theorem dX10_nextSigns_121 : decode cX10_nextSigns 121 = .ok (.getfield 147, 3) := by decide +kernel
theorem dX10_nextSigns_124 : decode cX10_nextSigns 124 = .ok (.iconst 1, 1) := by decide +kernel
theorem dX10_nextSigns_125 : decode cX10_nextSigns 125 = .ok (.iadd, 1) := by decide +kernel
theorem dX10_nextSigns_126 : decode cX10_nextSigns 126 = .ok (.putfield 147, 3) := by decide +kernel
theorem dX10_nextSigns_129 : decode cX10_nextSigns 129 = .ok (.iinc 4 1, 3) := by decide +kernel
theorem dX10_nextSigns_132 : decode cX10_nextSigns 132 = .ok (.goto (-127), 3) := by decide +kernel
theorem dX10_nextSigns_135 : decode cX10_nextSigns 135 = .ok (.aload_n 0, 1) := by decide +kernel
theorem dX10_nextSigns_136 : decode cX10_nextSigns 136 = .ok (.iload_n 3, 1) := by decide +kernel
theorem dX10_nextSigns_137 : decode cX10_nextSigns 137 = .ok (.putfield 156, 3) := by decide +kernel
theorem dX10_nextSigns_140 : decode cX10_nextSigns 140 = .ok (.iconst 0, 1) := by decide +kernel
theorem dX10_nextSigns_141 : decode cX10_nextSigns 141 = .ok (.ireturn, 1) := by decide +kernel
theorem dX10_nextRule_0 : decode cX10_nextRule 0 = .ok (.aload_n 0, 1) := by decide +kernel
theorem dX10_nextRule_1 : decode cX10_nextRule 1 = .ok (.getfield 147, 3) := by decide +kernel
theorem dX10_nextRule_4 : decode cX10_nextRule 4 = .ok (.aload_n 0, 1) := by decide +kernel
theorem dX10_nextRule_5 : decode cX10_nextRule 5 = .ok (.getfield 150, 3) := by decide +kernel
theorem dX10_nextRule_8 : decode cX10_nextRule 8 = .ok (.if_icmp .ne 13, 3) := by decide +kernel
theorem dX10_nextRule_11 : decode cX10_nextRule 11 = .ok (.aload_n 0, 1) := by decide +kernel
theorem dX10_nextRule_12 : decode cX10_nextRule 12 = .ok (.iconst 1, 1) := by decide +kernel
theorem dX10_nextRule_13 : decode cX10_nextRule 13 = .ok (.aload_n 0, 1) := by decide +kernel
theorem dX10_nextRule_14 : decode cX10_nextRule 14 = .ok (.getfield 147, 3) := by decide +kernel
theorem dX10_nextRule_17 : decode cX10_nextRule 17 = .ok (.invokevirtual 153, 3) := by decide +kernel
theorem dX10_nextRule_20 : decode cX10_nextRule 20 = .ok (.ireturn, 1) := by decide +kernel
theorem dX10_nextRule_21 : decode cX10_nextRule 21 = .ok (.aload_n 0, 1) := by decide +kernel
theorem dX10_nextRule_22 : decode cX10_nextRule 22 = .ok (.getfield 42, 3) := by decide +kernel
theorem dX10_nextRule_25 : decode cX10_nextRule 25 = .ok (.aload_n 0, 1) := by decide +kernel
theorem dX10_nextRule_26 : decode cX10_nextRule 26 = .ok (.getfield 147, 3) := by decide +kernel
theorem dX10_nextRule_29 : decode cX10_nextRule 29 = .ok (.baload, 1) := by decide +kernel
theorem dX10_nextRule_30 : decode cX10_nextRule 30 = .ok (.sipush 255, 3) := by decide +kernel
theorem dX10_nextRule_33 : decode cX10_nextRule 33 = .ok (.iand, 1) := by decide +kernel
theorem dX10_nextRule_34 : decode cX10_nextRule 34 = .ok (.istore_n 1, 1) := by decide +kernel
theorem dX10_nextRule_35 : decode cX10_nextRule 35 = .ok (.iload_n 1, 1) := by decide +kernel
theorem dX10_nextRule_36 : decode cX10_nextRule 36 = .ok (.i2l, 1) := by decide +kernel
theorem dX10_nextRule_37 : decode cX10_nextRule 37 = .ok (.ldc2_w 102, 3) := by decide +kernel
theorem dX10_nextRule_40 : decode cX10_nextRule 40 = .ok (.ldc2_w 104, 3) := by decide +kernel
theorem dX10_nextRule_43 : decode cX10_nextRule 43 = .ok (.invokestatic 98, 3) := by decide +kernel
theorem dX10_nextRule_46 : decode cX10_nextRule 46 = .ok (.ifCond .ne 13, 3) := by decide +kernel
theorem dX10_nextRule_49 : decode cX10_nextRule 49 = .ok (.aload_n 0, 1) := by decide +kernel
theorem dX10_nextRule_50 : decode cX10_nextRule 50 = .ok (.iconst 2, 1) := by decide +kernel
theorem dX10_nextRule_51 : decode cX10_nextRule 51 = .ok (.aload_n 0, 1) := by decide +kernel
theorem dX10_nextRule_52 : decode cX10_nextRule 52 = .ok (.getfield 147, 3) := by decide +kernel
theorem dX10_nextRule_55 : decode cX10_nextRule 55 = .ok (.invokevirtual 153, 3) := by decide +kernel
theorem dX10_nextRule_58 : decode cX10_nextRule 58 = .ok (.ireturn, 1) := by decide +kernel
theorem dX10_nextRule_59 : decode cX10_nextRule 59 = .ok (.aload_n 0, 1) := by decide +kernel
theorem dX10_nextRule_60 : decode cX10_nextRule 60 = .ok (.getfield 30, 3) := by decide +kernel
theorem dX10_nextRule_63 : decode cX10_nextRule 63 = .ok (.iload_n 1, 1) := by decide +kernel
theorem dX10_nextRule_64 : decode cX10_nextRule 64 = .ok (.iaload, 1) := by decide +kernel
theorem dX10_nextRule_65 : decode cX10_nextRule 65 = .ok (.ifCond .le 13, 3) := by decide +kernel
theorem dX10_nextRule_68 : decode cX10_nextRule 68 = .ok (.aload_n 0, 1) := by decide +kernel
theorem dX10_nextRule_69 : decode cX10_nextRule 69 = .ok (.iconst 3, 1) := by decide +kernel
theorem dX10_nextRule_70 : decode cX10_nextRule 70 = .ok (.aload_n 0, 1) := by decide +kernel
theorem dX10_nextRule_71 : decode cX10_nextRule 71 = .ok (.getfield 147, 3) := by decide +kernel
theorem dX10_nextRule_74 : decode cX10_nextRule 74 = .ok (.invokevirtual 153, 3) := by decide +kernel
theorem dX10_nextRule_77 : decode cX10_nextRule 77 = .ok (.ireturn, 1) := by decide +kernel
theorem dX10_nextRule_78 : decode cX10_nextRule 78 = .ok (.aload_n 0, 1) := by decide +kernel
theorem dX10_nextRule_79 : decode cX10_nextRule 79 = .ok (.dup, 1) := by decide +kernel
theorem dX10_nextRule_80 : decode cX10_nextRule 80 = .ok (.getfield 147, 3) := by decide +kernel
theorem dX10_nextRule_83 : decode cX10_nextRule 83 = .ok (.iconst 1, 1) := by decide +kernel
theorem dX10_nextRule_84 : decode cX10_nextRule 84 = .ok (.iadd, 1) := by decide +kernel
theorem dX10_nextRule_85 : decode cX10_nextRule 85 = .ok (.putfield 147, 3) := by decide +kernel
theorem dX10_nextRule_88 : decode cX10_nextRule 88 = .ok (.aload_n 0, 1) := by decide +kernel
theorem dX10_nextRule_89 : decode cX10_nextRule 89 = .ok (.iconst 2, 1) := by decide +kernel
theorem dX10_nextRule_90 : decode cX10_nextRule 90 = .ok (.bipush 12, 2) := by decide +kernel
theorem dX10_nextRule_92 : decode cX10_nextRule 92 = .ok (.invokevirtual 159, 3) := by decide +kernel
theorem dX10_nextRule_95 : decode cX10_nextRule 95 = .ok (.istore_n 2, 1) := by decide +kernel
theorem dX10_nextRule_96 : decode cX10_nextRule 96 = .ok (.iload_n 2, 1) := by decide +kernel
theorem dX10_nextRule_97 : decode cX10_nextRule 97 = .ok (.ifCond .ge 5, 3) := by decide +kernel
theorem dX10_nextRule_100 : decode cX10_nextRule 100 = .ok (.iload_n 2, 1) := by decide +kernel
theorem dX10_nextRule_101 : decode cX10_nextRule 101 = .ok (.ireturn, 1) := by decide +kernel
theorem dX10_nextRule_102 : decode cX10_nextRule 102 = .ok (.aload_n 0, 1) := by decide +kernel
theorem dX10_nextRule_103 : decode cX10_nextRule 103 = .ok (.iload_n 1, 1) := by decide +kernel
theorem dX10_nextRule_104 : decode cX10_nextRule 104 = .ok (.invokestatic 92, 3) := by decide +kernel
theorem dX10_nextRule_107 : decode cX10_nextRule 107 = .ok (.iconst 1, 1) := by decide +kernel
theorem dX10_nextRule_108 : decode cX10_nextRule 108 = .ok (.iadd, 1) := by decide +kernel
theorem dX10_nextRule_109 : decode cX10_nextRule 109 = .ok (.iload_n 2, 1) := by decide +kernel
theorem dX10_nextRule_110 : decode cX10_nextRule 110 = .ok (.invokevirtual 162, 3) := by decide +kernel
theorem dX10_nextRule_113 : decode cX10_nextRule 113 = .ok (.istore_n 3, 1) := by decide +kernel
theorem dX10_nextRule_114 : decode cX10_nextRule 114 = .ok (.iload_n 3, 1) := by decide +kernel
theorem dX10_nextRule_115 : decode cX10_nextRule 115 = .ok (.ifCond .ge 5, 3) := by decide +kernel
theorem dX10_nextRule_118 : decode cX10_nextRule 118 = .ok (.iload_n 3, 1) := by decide +kernel
theorem dX10_nextRule_119 : decode cX10_nextRule 119 = .ok (.ireturn, 1) := by decide +kernel
theorem dX10_nextRule_120 : decode cX10_nextRule 120 = .ok (.aload_n 0, 1) := by decide +kernel
theorem dX10_nextRule_121 : decode cX10_nextRule 121 = .ok (.getfield 52, 3) := by decide +kernel
theorem dX10_nextRule_124 : decode cX10_nextRule 124 = .ok (.iload_n 1, 1) := by decide +kernel
theorem dX10_nextRule_125 : decode cX10_nextRule 125 = .ok (.invokestatic 92, 3) := by decide +kernel
theorem dX10_nextRule_128 : decode cX10_nextRule 128 = .ok (.iload_n 2, 1) := by decide +kernel
theorem dX10_nextRule_129 : decode cX10_nextRule 129 = .ok (.iastore, 1) := by decide +kernel
theorem dX10_nextRule_130 : decode cX10_nextRule 130 = .ok (.aload_n 0, 1) := by decide +kernel
theorem dX10_nextRule_131 : decode cX10_nextRule 131 = .ok (.getfield 30, 3) := by decide +kernel
theorem dX10_nextRule_134 : decode cX10_nextRule 134 = .ok (.iload_n 1, 1) := by decide +kernel
theorem dX10_nextRule_135 : decode cX10_nextRule 135 = .ok (.aload_n 0, 1) := by decide +kernel
theorem dX10_nextRule_136 : decode cX10_nextRule 136 = .ok (.getfield 156, 3) := by decide +kernel
theorem dX10_nextRule_139 : decode cX10_nextRule 139 = .ok (.iastore, 1) := by decide +kernel
theorem dX10_nextRule_140 : decode cX10_nextRule 140 = .ok (.iconst 0, 1) := by decide +kernel
theorem dX10_nextRule_141 : decode cX10_nextRule 141 = .ok (.ireturn, 1) := by decide +kernel
theorem dX10_readsForm_0 : decode cX10_readsForm 0 = .ok (.iconst 0, 1) := by decide +kernel
theorem dX10_readsForm_1 : decode cX10_readsForm 1 = .ok (.istore_n 1, 1) := by decide +kernel
theorem dX10_readsForm_2 : decode cX10_readsForm 2 = .ok (.iload_n 1, 1) := by decide +kernel
theorem dX10_readsForm_3 : decode cX10_readsForm 3 = .ok (.sipush 1021, 3) := by decide +kernel
theorem dX10_readsForm_6 : decode cX10_readsForm 6 = .ok (.if_icmp .ge 16, 3) := by decide +kernel
theorem dX10_readsForm_9 : decode cX10_readsForm 9 = .ok (.aload_n 0, 1) := by decide +kernel
theorem dX10_readsForm_10 : decode cX10_readsForm 10 = .ok (.getfield 52, 3) := by decide +kernel
theorem dX10_readsForm_13 : decode cX10_readsForm 13 = .ok (.iload_n 1, 1) := by decide +kernel
theorem dX10_readsForm_14 : decode cX10_readsForm 14 = .ok (.iconst 0, 1) := by decide +kernel
theorem dX10_readsForm_15 : decode cX10_readsForm 15 = .ok (.iastore, 1) := by decide +kernel
theorem dX10_readsForm_16 : decode cX10_readsForm 16 = .ok (.iinc 1 1, 3) := by decide +kernel
theorem dX10_readsForm_19 : decode cX10_readsForm 19 = .ok (.goto (-17), 3) := by decide +kernel
theorem dX10_readsForm_22 : decode cX10_readsForm 22 = .ok (.iconst 0, 1) := by decide +kernel
theorem dX10_readsForm_23 : decode cX10_readsForm 23 = .ok (.istore_n 1, 1) := by decide +kernel
theorem dX10_readsForm_24 : decode cX10_readsForm 24 = .ok (.iload_n 1, 1) := by decide +kernel
theorem dX10_readsForm_25 : decode cX10_readsForm 25 = .ok (.bipush 86, 2) := by decide +kernel
theorem dX10_readsForm_27 : decode cX10_readsForm 27 = .ok (.if_icmp .ge 26, 3) := by decide +kernel
theorem dX10_readsForm_30 : decode cX10_readsForm 30 = .ok (.aload_n 0, 1) := by decide +kernel
theorem dX10_readsForm_31 : decode cX10_readsForm 31 = .ok (.getfield 30, 3) := by decide +kernel
theorem dX10_readsForm_34 : decode cX10_readsForm 34 = .ok (.iload_n 1, 1) := by decide +kernel
theorem dX10_readsForm_35 : decode cX10_readsForm 35 = .ok (.iload_n 1, 1) := by decide +kernel
theorem dX10_readsForm_36 : decode cX10_readsForm 36 = .ok (.bipush 26, 2) := by decide +kernel
theorem dX10_readsForm_38 : decode cX10_readsForm 38 = .ok (.if_icmp .ge 7, 3) := by decide +kernel
theorem dX10_readsForm_41 : decode cX10_readsForm 41 = .ok (.iconst 1, 1) := by decide +kernel
theorem dX10_readsForm_42 : decode cX10_readsForm 42 = .ok (.goto 4, 3) := by decide +kernel
theorem dX10_readsForm_45 : decode cX10_readsForm 45 = .ok (.iconst 0, 1) := by decide +kernel
theorem dX10_readsForm_46 : decode cX10_readsForm 46 = .ok (.iastore, 1) := by decide +kernel
theorem dX10_readsForm_47 : decode cX10_readsForm 47 = .ok (.iinc 1 1, 3) := by decide +kernel
theorem dX10_readsForm_50 : decode cX10_readsForm 50 = .ok (.goto (-26), 3) := by decide +kernel
theorem dX10_readsForm_53 : decode cX10_readsForm 53 = .ok (.aload_n 0, 1) := by decide +kernel
theorem dX10_readsForm_54 : decode cX10_readsForm 54 = .ok (.iconst 0, 1) := by decide +kernel
theorem dX10_readsForm_55 : decode cX10_readsForm 55 = .ok (.putfield 147, 3) := by decide +kernel
theorem dX10_readsForm_58 : decode cX10_readsForm 58 = .ok (.aload_n 0, 1) := by decide +kernel
theorem dX10_readsForm_59 : decode cX10_readsForm 59 = .ok (.iconst 0, 1) := by decide +kernel
theorem dX10_readsForm_60 : decode cX10_readsForm 60 = .ok (.bipush 60, 2) := by decide +kernel
theorem dX10_readsForm_62 : decode cX10_readsForm 62 = .ok (.invokevirtual 159, 3) := by decide +kernel
theorem dX10_readsForm_65 : decode cX10_readsForm 65 = .ok (.istore_n 1, 1) := by decide +kernel
theorem dX10_readsForm_66 : decode cX10_readsForm 66 = .ok (.iload_n 1, 1) := by decide +kernel
theorem dX10_readsForm_67 : decode cX10_readsForm 67 = .ok (.ifCond .ge 5, 3) := by decide +kernel
theorem dX10_readsForm_70 : decode cX10_readsForm 70 = .ok (.iload_n 1, 1) := by decide +kernel
theorem dX10_readsForm_71 : decode cX10_readsForm 71 = .ok (.ireturn, 1) := by decide +kernel
theorem dX10_readsForm_72 : decode cX10_readsForm 72 = .ok (.iconst 0, 1) := by decide +kernel
theorem dX10_readsForm_73 : decode cX10_readsForm 73 = .ok (.istore_n 2, 1) := by decide +kernel
theorem dX10_readsForm_74 : decode cX10_readsForm 74 = .ok (.iload_n 2, 1) := by decide +kernel
theorem dX10_readsForm_75 : decode cX10_readsForm 75 = .ok (.iload_n 1, 1) := by decide +kernel
theorem dX10_readsForm_76 : decode cX10_readsForm 76 = .ok (.if_icmp .ge 20, 3) := by decide +kernel
theorem dX10_readsForm_79 : decode cX10_readsForm 79 = .ok (.aload_n 0, 1) := by decide +kernel
theorem dX10_readsForm_80 : decode cX10_readsForm 80 = .ok (.invokevirtual 165, 3) := by decide +kernel
theorem dX10_readsForm_83 : decode cX10_readsForm 83 = .ok (.istore_n 3, 1) := by decide +kernel
theorem dX10_readsForm_84 : decode cX10_readsForm 84 = .ok (.iload_n 3, 1) := by decide +kernel
theorem dX10_readsForm_85 : decode cX10_readsForm 85 = .ok (.ifCond .ge 5, 3) := by decide +kernel
theorem dX10_readsForm_88 : decode cX10_readsForm 88 = .ok (.iload_n 3, 1) := by decide +kernel
theorem dX10_readsForm_89 : decode cX10_readsForm 89 = .ok (.ireturn, 1) := by decide +kernel
theorem dX10_readsForm_90 : decode cX10_readsForm 90 = .ok (.iinc 2 1, 3) := by decide +kernel
theorem dX10_readsForm_93 : decode cX10_readsForm 93 = .ok (.goto (-19), 3) := by decide +kernel
theorem dX10_readsForm_96 : decode cX10_readsForm 96 = .ok (.aload_n 0, 1) := by decide +kernel
theorem dX10_readsForm_97 : decode cX10_readsForm 97 = .ok (.iconst 0, 1) := by decide +kernel
theorem dX10_readsForm_98 : decode cX10_readsForm 98 = .ok (.sipush 240, 3) := by decide +kernel
theorem dX10_readsForm_101 : decode cX10_readsForm 101 = .ok (.invokevirtual 159, 3) := by decide +kernel
theorem dX10_readsForm_104 : decode cX10_readsForm 104 = .ok (.istore_n 2, 1) := by decide +kernel
theorem dX10_readsForm_105 : decode cX10_readsForm 105 = .ok (.iload_n 2, 1) := by decide +kernel
theorem dX10_readsForm_106 : decode cX10_readsForm 106 = .ok (.ifCond .ge 5, 3) := by decide +kernel
theorem dX10_readsForm_109 : decode cX10_readsForm 109 = .ok (.iload_n 2, 1) := by decide +kernel
theorem dX10_readsForm_110 : decode cX10_readsForm 110 = .ok (.ireturn, 1) := by decide +kernel
theorem dX10_readsForm_111 : decode cX10_readsForm 111 = .ok (.aload_n 0, 1) := by decide +kernel
theorem dX10_readsForm_112 : decode cX10_readsForm 112 = .ok (.iconst 1, 1) := by decide +kernel
theorem dX10_readsForm_113 : decode cX10_readsForm 113 = .ok (.iload_n 2, 1) := by decide +kernel
theorem dX10_readsForm_114 : decode cX10_readsForm 114 = .ok (.invokevirtual 162, 3) := by decide +kernel
theorem dX10_readsForm_117 : decode cX10_readsForm 117 = .ok (.istore_n 3, 1) := by decide +kernel
theorem dX10_readsForm_118 : decode cX10_readsForm 118 = .ok (.iload_n 3, 1) := by decide +kernel
theorem dX10_readsForm_119 : decode cX10_readsForm 119 = .ok (.ifCond .ge 5, 3) := by decide +kernel
theorem dX10_readsForm_122 : decode cX10_readsForm 122 = .ok (.iload_n 3, 1) := by decide +kernel
theorem dX10_readsForm_123 : decode cX10_readsForm 123 = .ok (.ireturn, 1) := by decide +kernel
theorem dX10_readsForm_124 : decode cX10_readsForm 124 = .ok (.aload_n 0, 1) := by decide +kernel
theorem dX10_readsForm_125 : decode cX10_readsForm 125 = .ok (.getfield 52, 3) := by decide +kernel
theorem dX10_readsForm_128 : decode cX10_readsForm 128 = .ok (.iconst 0, 1) := by decide +kernel
theorem dX10_readsForm_129 : decode cX10_readsForm 129 = .ok (.iload_n 2, 1) := by decide +kernel
theorem dX10_readsForm_130 : decode cX10_readsForm 130 = .ok (.iastore, 1) := by decide +kernel
theorem dX10_readsForm_131 : decode cX10_readsForm 131 = .ok (.aload_n 0, 1) := by decide +kernel
theorem dX10_readsForm_132 : decode cX10_readsForm 132 = .ok (.getfield 147, 3) := by decide +kernel
theorem dX10_readsForm_135 : decode cX10_readsForm 135 = .ok (.aload_n 0, 1) := by decide +kernel
theorem dX10_readsForm_136 : decode cX10_readsForm 136 = .ok (.getfield 150, 3) := by decide +kernel
theorem dX10_readsForm_139 : decode cX10_readsForm 139 = .ok (.if_icmp .ge 15, 3) := by decide +kernel
theorem dX10_readsForm_142 : decode cX10_readsForm 142 = .ok (.aload_n 0, 1) := by decide +kernel
theorem dX10_readsForm_143 : decode cX10_readsForm 143 = .ok (.iconst 1, 1) := by decide +kernel
theorem dX10_readsForm_144 : decode cX10_readsForm 144 = .ok (.aload_n 0, 1) := by decide +kernel
theorem dX10_readsForm_145 : decode cX10_readsForm 145 = .ok (.getfield 147, 3) := by decide +kernel
theorem dX10_readsForm_148 : decode cX10_readsForm 148 = .ok (.invokevirtual 153, 3) := by decide +kernel
theorem dX10_readsForm_151 : decode cX10_readsForm 151 = .ok (.goto 4, 3) := by decide +kernel
theorem dX10_readsForm_154 : decode cX10_readsForm 154 = .ok (.iconst 0, 1) := by decide +kernel
theorem dX10_readsForm_155 : decode cX10_readsForm 155 = .ok (.ireturn, 1) := by decide +kernel
theorem dX10_load_0 : decode cX10_load 0 = .ok (.aload_n 0, 1) := by decide +kernel
theorem dX10_load_1 : decode cX10_load 1 = .ok (.iconst 0, 1) := by decide +kernel
theorem dX10_load_2 : decode cX10_load 2 = .ok (.putfield 1, 3) := by decide +kernel
theorem dX10_load_5 : decode cX10_load 5 = .ok (.iload_n 1, 1) := by decide +kernel
theorem dX10_load_6 : decode cX10_load 6 = .ok (.i2l, 1) := by decide +kernel
theorem dX10_load_7 : decode cX10_load 7 = .ok (.lconst 0, 1) := by decide +kernel
theorem dX10_load_8 : decode cX10_load 8 = .ok (.aload_n 0, 1) := by decide +kernel
theorem dX10_load_9 : decode cX10_load 9 = .ok (.getfield 137, 3) := by decide +kernel
theorem dX10_load_12 : decode cX10_load 12 = .ok (.i2l, 1) := by decide +kernel
theorem dX10_load_13 : decode cX10_load 13 = .ok (.invokestatic 98, 3) := by decide +kernel
theorem dX10_load_16 : decode cX10_load 16 = .ok (.ifCond .ne 6, 3) := by decide +kernel
theorem dX10_load_19 : decode cX10_load 19 = .ok (.bipush (-3), 2) := by decide +kernel
theorem dX10_load_21 : decode cX10_load 21 = .ok (.ireturn, 1) := by decide +kernel
theorem dX10_load_22 : decode cX10_load 22 = .ok (.aload_n 0, 1) := by decide +kernel
theorem dX10_load_23 : decode cX10_load 23 = .ok (.iconst 0, 1) := by decide +kernel
theorem dX10_load_24 : decode cX10_load 24 = .ok (.putfield 137, 3) := by decide +kernel
theorem dX10_load_27 : decode cX10_load 27 = .ok (.aload_n 0, 1) := by decide +kernel
theorem dX10_load_28 : decode cX10_load 28 = .ok (.iconst 0, 1) := by decide +kernel
theorem dX10_load_29 : decode cX10_load 29 = .ok (.putfield 140, 3) := by decide +kernel
theorem dX10_load_32 : decode cX10_load 32 = .ok (.aload_n 0, 1) := by decide +kernel
theorem dX10_load_33 : decode cX10_load 33 = .ok (.iconst (-1), 1) := by decide +kernel
theorem dX10_load_34 : decode cX10_load 34 = .ok (.putfield 46, 3) := by decide +kernel
theorem dX10_load_37 : decode cX10_load 37 = .ok (.aload_n 0, 1) := by decide +kernel
theorem dX10_load_38 : decode cX10_load 38 = .ok (.iload_n 1, 1) := by decide +kernel
theorem dX10_load_39 : decode cX10_load 39 = .ok (.putfield 150, 3) := by decide +kernel
theorem dX10_load_42 : decode cX10_load 42 = .ok (.aload_n 0, 1) := by decide +kernel
theorem dX10_load_43 : decode cX10_load 43 = .ok (.invokevirtual 168, 3) := by decide +kernel
theorem dX10_load_46 : decode cX10_load 46 = .ok (.istore_n 2, 1) := by decide +kernel
theorem dX10_load_47 : decode cX10_load 47 = .ok (.iload_n 2, 1) := by decide +kernel
theorem dX10_load_48 : decode cX10_load 48 = .ok (.ifCond .ge 5, 3) := by decide +kernel
theorem dX10_load_51 : decode cX10_load 51 = .ok (.iload_n 2, 1) := by decide +kernel
theorem dX10_load_52 : decode cX10_load 52 = .ok (.ireturn, 1) := by decide +kernel
theorem dX10_load_53 : decode cX10_load 53 = .ok (.aload_n 0, 1) := by decide +kernel
theorem dX10_load_54 : decode cX10_load 54 = .ok (.invokevirtual 171, 3) := by decide +kernel
theorem dX10_load_57 : decode cX10_load 57 = .ok (.aload_n 0, 1) := by decide +kernel
theorem dX10_load_58 : decode cX10_load 58 = .ok (.getfield 52, 3) := by decide +kernel
theorem dX10_load_61 : decode cX10_load 61 = .ok (.iconst 0, 1) := by decide +kernel
theorem dX10_load_62 : decode cX10_load 62 = .ok (.aload_n 0, 1) := by decide +kernel
theorem dX10_load_63 : decode cX10_load 63 = .ok (.getfield 13, 3) := by decide +kernel
theorem dX10_load_66 : decode cX10_load 66 = .ok (.iconst 0, 1) := by decide +kernel
theorem dX10_load_67 : decode cX10_load 67 = .ok (.sipush 1021, 3) := by decide +kernel
theorem dX10_load_70 : decode cX10_load 70 = .ok (.invokestatic 88, 3) := by decide +kernel
theorem dX10_load_73 : decode cX10_load 73 = .ok (.aload_n 0, 1) := by decide +kernel
theorem dX10_load_74 : decode cX10_load 74 = .ok (.invokevirtual 174, 3) := by decide +kernel
theorem dX10_load_77 : decode cX10_load 77 = .ok (.ireturn, 1) := by decide +kernel
theorem dX10_tells_0 : decode cX10_tells 0 = .ok (.aload_n 0, 1) := by decide +kernel
theorem dX10_tells_1 : decode cX10_tells 1 = .ok (.getfield 55, 3) := by decide +kernel
theorem dX10_tells_4 : decode cX10_tells 4 = .ok (.aload_n 0, 1) := by decide +kernel
theorem dX10_tells_5 : decode cX10_tells 5 = .ok (.getfield 177, 3) := by decide +kernel
theorem dX10_tells_8 : decode cX10_tells 8 = .ok (.iload_n 1, 1) := by decide +kernel
theorem dX10_tells_9 : decode cX10_tells 9 = .ok (.iastore, 1) := by decide +kernel
theorem dX10_tells_10 : decode cX10_tells 10 = .ok (.aload_n 0, 1) := by decide +kernel
theorem dX10_tells_11 : decode cX10_tells 11 = .ok (.dup, 1) := by decide +kernel
theorem dX10_tells_12 : decode cX10_tells 12 = .ok (.getfield 177, 3) := by decide +kernel
theorem dX10_tells_15 : decode cX10_tells 15 = .ok (.iconst 1, 1) := by decide +kernel
theorem dX10_tells_16 : decode cX10_tells 16 = .ok (.iadd, 1) := by decide +kernel
theorem dX10_tells_17 : decode cX10_tells 17 = .ok (.putfield 177, 3) := by decide +kernel
theorem dX10_tells_20 : decode cX10_tells 20 = .ok (.return_, 1) := by decide +kernel
theorem dX10_nextTold_0 : decode cX10_nextTold 0 = .ok (.bipush 26, 2) := by decide +kernel
theorem dX10_nextTold_2 : decode cX10_nextTold 2 = .ok (.istore_n 1, 1) := by decide +kernel
theorem dX10_nextTold_3 : decode cX10_nextTold 3 = .ok (.iload_n 1, 1) := by decide +kernel
theorem dX10_nextTold_4 : decode cX10_nextTold 4 = .ok (.bipush 86, 2) := by decide +kernel
theorem dX10_nextTold_6 : decode cX10_nextTold 6 = .ok (.if_icmp .ge 71, 3) := by decide +kernel
theorem dX10_nextTold_9 : decode cX10_nextTold 9 = .ok (.aload_n 0, 1) := by decide +kernel
theorem dX10_nextTold_10 : decode cX10_nextTold 10 = .ok (.iload_n 1, 1) := by decide +kernel
theorem dX10_nextTold_11 : decode cX10_nextTold 11 = .ok (.invokevirtual 106, 3) := by decide +kernel
theorem dX10_nextTold_14 : decode cX10_nextTold 14 = .ok (.ifCond .le 16, 3) := by decide +kernel
theorem dX10_nextTold_17 : decode cX10_nextTold 17 = .ok (.aload_n 0, 1) := by decide +kernel
theorem dX10_nextTold_18 : decode cX10_nextTold 18 = .ok (.getfield 58, 3) := by decide +kernel
theorem dX10_nextTold_21 : decode cX10_nextTold 21 = .ok (.iload_n 1, 1) := by decide +kernel
theorem dX10_nextTold_22 : decode cX10_nextTold 22 = .ok (.baload, 1) := by decide +kernel
theorem dX10_nextTold_23 : decode cX10_nextTold 23 = .ok (.ifCond .ne 7, 3) := by decide +kernel
theorem dX10_nextTold_26 : decode cX10_nextTold 26 = .ok (.iconst 1, 1) := by decide +kernel
theorem dX10_nextTold_27 : decode cX10_nextTold 27 = .ok (.goto 4, 3) := by decide +kernel
theorem dX10_nextTold_30 : decode cX10_nextTold 30 = .ok (.iconst 0, 1) := by decide +kernel
theorem dX10_nextTold_31 : decode cX10_nextTold 31 = .ok (.istore_n 2, 1) := by decide +kernel
theorem dX10_nextTold_32 : decode cX10_nextTold 32 = .ok (.iconst 0, 1) := by decide +kernel
theorem dX10_nextTold_33 : decode cX10_nextTold 33 = .ok (.istore_n 3, 1) := by decide +kernel
theorem dX10_nextTold_34 : decode cX10_nextTold 34 = .ok (.iload_n 3, 1) := by decide +kernel
theorem dX10_nextTold_35 : decode cX10_nextTold 35 = .ok (.aload_n 0, 1) := by decide +kernel
theorem dX10_nextTold_36 : decode cX10_nextTold 36 = .ok (.iload_n 1, 1) := by decide +kernel
theorem dX10_nextTold_37 : decode cX10_nextTold 37 = .ok (.invokevirtual 106, 3) := by decide +kernel
theorem dX10_nextTold_40 : decode cX10_nextTold 40 = .ok (.if_icmp .ge 25, 3) := by decide +kernel
theorem dX10_nextTold_43 : decode cX10_nextTold 43 = .ok (.iload_n 2, 1) := by decide +kernel
theorem dX10_nextTold_44 : decode cX10_nextTold 44 = .ok (.ifCond .eq 21, 3) := by decide +kernel
theorem dX10_nextTold_47 : decode cX10_nextTold 47 = .ok (.aload_n 0, 1) := by decide +kernel
theorem dX10_nextTold_48 : decode cX10_nextTold 48 = .ok (.getfield 58, 3) := by decide +kernel
theorem dX10_nextTold_51 : decode cX10_nextTold 51 = .ok (.aload_n 0, 1) := by decide +kernel
theorem dX10_nextTold_52 : decode cX10_nextTold 52 = .ok (.iload_n 1, 1) := by decide +kernel
theorem dX10_nextTold_53 : decode cX10_nextTold 53 = .ok (.iload_n 3, 1) := by decide +kernel
theorem dX10_nextTold_54 : decode cX10_nextTold 54 = .ok (.invokevirtual 113, 3) := by decide +kernel
theorem dX10_nextTold_57 : decode cX10_nextTold 57 = .ok (.baload, 1) := by decide +kernel
theorem dX10_nextTold_58 : decode cX10_nextTold 58 = .ok (.istore_n 2, 1) := by decide +kernel
theorem dX10_nextTold_59 : decode cX10_nextTold 59 = .ok (.iinc 3 1, 3) := by decide +kernel
theorem dX10_nextTold_62 : decode cX10_nextTold 62 = .ok (.goto (-28), 3) := by decide +kernel
theorem dX10_nextTold_65 : decode cX10_nextTold 65 = .ok (.iload_n 2, 1) := by decide +kernel
theorem dX10_nextTold_66 : decode cX10_nextTold 66 = .ok (.ifCond .eq 5, 3) := by decide +kernel
theorem dX10_nextTold_69 : decode cX10_nextTold 69 = .ok (.iload_n 1, 1) := by decide +kernel
theorem dX10_nextTold_70 : decode cX10_nextTold 70 = .ok (.ireturn, 1) := by decide +kernel
theorem dX10_nextTold_71 : decode cX10_nextTold 71 = .ok (.iinc 1 1, 3) := by decide +kernel
theorem dX10_nextTold_74 : decode cX10_nextTold 74 = .ok (.goto (-71), 3) := by decide +kernel
theorem dX10_nextTold_77 : decode cX10_nextTold 77 = .ok (.iconst (-1), 1) := by decide +kernel
theorem dX10_nextTold_78 : decode cX10_nextTold 78 = .ok (.ireturn, 1) := by decide +kernel
theorem dX10_laysForm_0 : decode cX10_laysForm 0 = .ok (.aload_n 0, 1) := by decide +kernel
theorem dX10_laysForm_1 : decode cX10_laysForm 1 = .ok (.iconst 0, 1) := by decide +kernel
theorem dX10_laysForm_2 : decode cX10_laysForm 2 = .ok (.putfield 177, 3) := by decide +kernel
theorem dX10_laysForm_5 : decode cX10_laysForm 5 = .ok (.iconst 0, 1) := by decide +kernel
theorem dX10_laysForm_6 : decode cX10_laysForm 6 = .ok (.istore_n 1, 1) := by decide +kernel
theorem dX10_laysForm_7 : decode cX10_laysForm 7 = .ok (.iload_n 1, 1) := by decide +kernel
theorem dX10_laysForm_8 : decode cX10_laysForm 8 = .ok (.bipush 86, 2) := by decide +kernel
theorem dX10_laysForm_10 : decode cX10_laysForm 10 = .ok (.if_icmp .ge 26, 3) := by decide +kernel
theorem dX10_laysForm_13 : decode cX10_laysForm 13 = .ok (.aload_n 0, 1) := by decide +kernel
theorem dX10_laysForm_14 : decode cX10_laysForm 14 = .ok (.getfield 58, 3) := by decide +kernel
theorem dX10_laysForm_17 : decode cX10_laysForm 17 = .ok (.iload_n 1, 1) := by decide +kernel
theorem dX10_laysForm_18 : decode cX10_laysForm 18 = .ok (.iload_n 1, 1) := by decide +kernel
theorem dX10_laysForm_19 : decode cX10_laysForm 19 = .ok (.bipush 26, 2) := by decide +kernel
theorem dX10_laysForm_21 : decode cX10_laysForm 21 = .ok (.if_icmp .ge 7, 3) := by decide +kernel
theorem dX10_laysForm_24 : decode cX10_laysForm 24 = .ok (.iconst 1, 1) := by decide +kernel
theorem dX10_laysForm_25 : decode cX10_laysForm 25 = .ok (.goto 4, 3) := by decide +kernel
theorem dX10_laysForm_28 : decode cX10_laysForm 28 = .ok (.iconst 0, 1) := by decide +kernel
theorem dX10_laysForm_29 : decode cX10_laysForm 29 = .ok (.bastore, 1) := by decide +kernel
theorem dX10_laysForm_30 : decode cX10_laysForm 30 = .ok (.iinc 1 1, 3) := by decide +kernel
theorem dX10_laysForm_33 : decode cX10_laysForm 33 = .ok (.goto (-26), 3) := by decide +kernel
theorem dX10_laysForm_36 : decode cX10_laysForm 36 = .ok (.aload_n 0, 1) := by decide +kernel
theorem dX10_laysForm_37 : decode cX10_laysForm 37 = .ok (.aload_n 0, 1) := by decide +kernel
theorem dX10_laysForm_38 : decode cX10_laysForm 38 = .ok (.invokevirtual 180, 3) := by decide +kernel
theorem dX10_laysForm_41 : decode cX10_laysForm 41 = .ok (.invokevirtual 183, 3) := by decide +kernel
theorem dX10_laysForm_44 : decode cX10_laysForm 44 = .ok (.aload_n 0, 1) := by decide +kernel
theorem dX10_laysForm_45 : decode cX10_laysForm 45 = .ok (.invokevirtual 186, 3) := by decide +kernel
theorem dX10_laysForm_48 : decode cX10_laysForm 48 = .ok (.istore_n 1, 1) := by decide +kernel
theorem dX10_laysForm_49 : decode cX10_laysForm 49 = .ok (.iload_n 1, 1) := by decide +kernel
theorem dX10_laysForm_50 : decode cX10_laysForm 50 = .ok (.iconst (-1), 1) := by decide +kernel
theorem dX10_laysForm_51 : decode cX10_laysForm 51 = .ok (.if_icmp .eq 59, 3) := by decide +kernel
theorem dX10_laysForm_54 : decode cX10_laysForm 54 = .ok (.aload_n 0, 1) := by decide +kernel
theorem dX10_laysForm_55 : decode cX10_laysForm 55 = .ok (.iload_n 1, 1) := by decide +kernel
theorem dX10_laysForm_56 : decode cX10_laysForm 56 = .ok (.invokevirtual 183, 3) := by decide +kernel
theorem dX10_laysForm_59 : decode cX10_laysForm 59 = .ok (.aload_n 0, 1) := by decide +kernel
theorem dX10_laysForm_60 : decode cX10_laysForm 60 = .ok (.aload_n 0, 1) := by decide +kernel
theorem dX10_laysForm_61 : decode cX10_laysForm 61 = .ok (.iload_n 1, 1) := by decide +kernel
theorem dX10_laysForm_62 : decode cX10_laysForm 62 = .ok (.invokevirtual 106, 3) := by decide +kernel
theorem dX10_laysForm_65 : decode cX10_laysForm 65 = .ok (.invokevirtual 183, 3) := by decide +kernel
theorem dX10_laysForm_68 : decode cX10_laysForm 68 = .ok (.iconst 0, 1) := by decide +kernel
theorem dX10_laysForm_69 : decode cX10_laysForm 69 = .ok (.istore_n 2, 1) := by decide +kernel
theorem dX10_laysForm_70 : decode cX10_laysForm 70 = .ok (.iload_n 2, 1) := by decide +kernel
theorem dX10_laysForm_71 : decode cX10_laysForm 71 = .ok (.aload_n 0, 1) := by decide +kernel
theorem dX10_laysForm_72 : decode cX10_laysForm 72 = .ok (.iload_n 1, 1) := by decide +kernel
theorem dX10_laysForm_73 : decode cX10_laysForm 73 = .ok (.invokevirtual 106, 3) := by decide +kernel
theorem dX10_laysForm_76 : decode cX10_laysForm 76 = .ok (.if_icmp .ge 19, 3) := by decide +kernel
theorem dX10_laysForm_79 : decode cX10_laysForm 79 = .ok (.aload_n 0, 1) := by decide +kernel
theorem dX10_laysForm_80 : decode cX10_laysForm 80 = .ok (.aload_n 0, 1) := by decide +kernel
theorem dX10_laysForm_81 : decode cX10_laysForm 81 = .ok (.iload_n 1, 1) := by decide +kernel
theorem dX10_laysForm_82 : decode cX10_laysForm 82 = .ok (.iload_n 2, 1) := by decide +kernel
theorem dX10_laysForm_83 : decode cX10_laysForm 83 = .ok (.invokevirtual 113, 3) := by decide +kernel
theorem dX10_laysForm_86 : decode cX10_laysForm 86 = .ok (.invokevirtual 183, 3) := by decide +kernel
theorem dX10_laysForm_89 : decode cX10_laysForm 89 = .ok (.iinc 2 1, 3) := by decide +kernel
theorem dX10_laysForm_92 : decode cX10_laysForm 92 = .ok (.goto (-22), 3) := by decide +kernel
theorem dX10_laysForm_95 : decode cX10_laysForm 95 = .ok (.aload_n 0, 1) := by decide +kernel
theorem dX10_laysForm_96 : decode cX10_laysForm 96 = .ok (.getfield 58, 3) := by decide +kernel
theorem dX10_laysForm_99 : decode cX10_laysForm 99 = .ok (.iload_n 1, 1) := by decide +kernel
theorem dX10_laysForm_100 : decode cX10_laysForm 100 = .ok (.iconst 1, 1) := by decide +kernel
theorem dX10_laysForm_101 : decode cX10_laysForm 101 = .ok (.bastore, 1) := by decide +kernel
theorem dX10_laysForm_102 : decode cX10_laysForm 102 = .ok (.aload_n 0, 1) := by decide +kernel
theorem dX10_laysForm_103 : decode cX10_laysForm 103 = .ok (.invokevirtual 186, 3) := by decide +kernel
theorem dX10_laysForm_106 : decode cX10_laysForm 106 = .ok (.istore_n 1, 1) := by decide +kernel
theorem dX10_laysForm_107 : decode cX10_laysForm 107 = .ok (.goto (-58), 3) := by decide +kernel
theorem dX10_laysForm_110 : decode cX10_laysForm 110 = .ok (.aload_n 0, 1) := by decide +kernel
theorem dX10_laysForm_111 : decode cX10_laysForm 111 = .ok (.aload_n 0, 1) := by decide +kernel
theorem dX10_laysForm_112 : decode cX10_laysForm 112 = .ok (.invokevirtual 123, 3) := by decide +kernel
theorem dX10_laysForm_115 : decode cX10_laysForm 115 = .ok (.invokevirtual 183, 3) := by decide +kernel
theorem dX10_laysForm_118 : decode cX10_laysForm 118 = .ok (.iconst 0, 1) := by decide +kernel
theorem dX10_laysForm_119 : decode cX10_laysForm 119 = .ok (.istore_n 1, 1) := by decide +kernel
theorem dX10_laysForm_120 : decode cX10_laysForm 120 = .ok (.iload_n 1, 1) := by decide +kernel
theorem dX10_laysForm_121 : decode cX10_laysForm 121 = .ok (.aload_n 0, 1) := by decide +kernel
theorem dX10_laysForm_122 : decode cX10_laysForm 122 = .ok (.invokevirtual 123, 3) := by decide +kernel
theorem dX10_laysForm_125 : decode cX10_laysForm 125 = .ok (.if_icmp .ge 18, 3) := by decide +kernel
theorem dX10_laysForm_128 : decode cX10_laysForm 128 = .ok (.aload_n 0, 1) := by decide +kernel
theorem dX10_laysForm_129 : decode cX10_laysForm 129 = .ok (.aload_n 0, 1) := by decide +kernel
theorem dX10_laysForm_130 : decode cX10_laysForm 130 = .ok (.iload_n 1, 1) := by decide +kernel
theorem dX10_laysForm_131 : decode cX10_laysForm 131 = .ok (.invokevirtual 127, 3) := by decide +kernel
theorem dX10_laysForm_134 : decode cX10_laysForm 134 = .ok (.invokevirtual 183, 3) := by decide +kernel
theorem dX10_laysForm_137 : decode cX10_laysForm 137 = .ok (.iinc 1 1, 3) := by decide +kernel
theorem dX10_laysForm_140 : decode cX10_laysForm 140 = .ok (.goto (-20), 3) := by decide +kernel
theorem dX10_laysForm_143 : decode cX10_laysForm 143 = .ok (.return_, 1) := by decide +kernel
theorem dX10_form_0 : decode cX10_form 0 = .ok (.aload_n 0, 1) := by decide +kernel
theorem dX10_form_1 : decode cX10_form 1 = .ok (.iconst 0, 1) := by decide +kernel
theorem dX10_form_2 : decode cX10_form 2 = .ok (.putfield 1, 3) := by decide +kernel
theorem dX10_form_5 : decode cX10_form 5 = .ok (.iload_n 1, 1) := by decide +kernel
theorem dX10_form_6 : decode cX10_form 6 = .ok (.ifCond .ge 6, 3) := by decide +kernel
theorem dX10_form_9 : decode cX10_form 9 = .ok (.bipush (-3), 2) := by decide +kernel
theorem dX10_form_11 : decode cX10_form 11 = .ok (.ireturn, 1) := by decide +kernel
theorem dX10_form_12 : decode cX10_form 12 = .ok (.aload_n 0, 1) := by decide +kernel
theorem dX10_form_13 : decode cX10_form 13 = .ok (.invokevirtual 189, 3) := by decide +kernel
theorem dX10_form_16 : decode cX10_form 16 = .ok (.iload_n 1, 1) := by decide +kernel
theorem dX10_form_17 : decode cX10_form 17 = .ok (.aload_n 0, 1) := by decide +kernel
theorem dX10_form_18 : decode cX10_form 18 = .ok (.getfield 177, 3) := by decide +kernel
theorem dX10_form_21 : decode cX10_form 21 = .ok (.if_icmp .ge 12, 3) := by decide +kernel
theorem dX10_form_24 : decode cX10_form 24 = .ok (.aload_n 0, 1) := by decide +kernel
theorem dX10_form_25 : decode cX10_form 25 = .ok (.getfield 55, 3) := by decide +kernel
theorem dX10_form_28 : decode cX10_form 28 = .ok (.iload_n 1, 1) := by decide +kernel
theorem dX10_form_29 : decode cX10_form 29 = .ok (.iaload, 1) := by decide +kernel
theorem dX10_form_30 : decode cX10_form 30 = .ok (.goto 4, 3) := by decide +kernel
theorem dX10_form_33 : decode cX10_form 33 = .ok (.iconst (-1), 1) := by decide +kernel
theorem dX10_form_34 : decode cX10_form 34 = .ok (.ireturn, 1) := by decide +kernel
theorem dX10_lightest_0 : decode cX10_lightest 0 = .ok (.iconst (-1), 1) := by decide +kernel
theorem dX10_lightest_1 : decode cX10_lightest 1 = .ok (.istore_n 2, 1) := by decide +kernel
theorem dX10_lightest_2 : decode cX10_lightest 2 = .ok (.iconst 0, 1) := by decide +kernel
theorem dX10_lightest_3 : decode cX10_lightest 3 = .ok (.istore_n 3, 1) := by decide +kernel
theorem dX10_lightest_4 : decode cX10_lightest 4 = .ok (.iload_n 3, 1) := by decide +kernel
theorem dX10_lightest_5 : decode cX10_lightest 5 = .ok (.bipush 86, 2) := by decide +kernel
theorem dX10_lightest_7 : decode cX10_lightest 7 = .ok (.if_icmp .ge 46, 3) := by decide +kernel
theorem dX10_lightest_10 : decode cX10_lightest 10 = .ok (.aload_n 0, 1) := by decide +kernel
theorem dX10_lightest_11 : decode cX10_lightest 11 = .ok (.getfield 64, 3) := by decide +kernel
theorem dX10_lightest_14 : decode cX10_lightest 14 = .ok (.iload_n 3, 1) := by decide +kernel
theorem dX10_lightest_15 : decode cX10_lightest 15 = .ok (.iaload, 1) := by decide +kernel
theorem dX10_lightest_16 : decode cX10_lightest 16 = .ok (.iload_n 3, 1) := by decide +kernel
theorem dX10_lightest_17 : decode cX10_lightest 17 = .ok (.if_icmp .ne 30, 3) := by decide +kernel
theorem dX10_lightest_20 : decode cX10_lightest 20 = .ok (.iload_n 3, 1) := by decide +kernel
theorem dX10_lightest_21 : decode cX10_lightest 21 = .ok (.iload_n 1, 1) := by decide +kernel
theorem dX10_lightest_22 : decode cX10_lightest 22 = .ok (.if_icmp .eq 25, 3) := by decide +kernel
theorem dX10_lightest_25 : decode cX10_lightest 25 = .ok (.iload_n 2, 1) := by decide +kernel
theorem dX10_lightest_26 : decode cX10_lightest 26 = .ok (.iconst (-1), 1) := by decide +kernel
theorem dX10_lightest_27 : decode cX10_lightest 27 = .ok (.if_icmp .eq 18, 3) := by decide +kernel
theorem dX10_lightest_30 : decode cX10_lightest 30 = .ok (.aload_n 0, 1) := by decide +kernel
theorem dX10_lightest_31 : decode cX10_lightest 31 = .ok (.getfield 61, 3) := by decide +kernel
theorem dX10_lightest_34 : decode cX10_lightest 34 = .ok (.iload_n 3, 1) := by decide +kernel
theorem dX10_lightest_35 : decode cX10_lightest 35 = .ok (.iaload, 1) := by decide +kernel
theorem dX10_lightest_36 : decode cX10_lightest 36 = .ok (.aload_n 0, 1) := by decide +kernel
theorem dX10_lightest_37 : decode cX10_lightest 37 = .ok (.getfield 61, 3) := by decide +kernel
theorem dX10_lightest_40 : decode cX10_lightest 40 = .ok (.iload_n 2, 1) := by decide +kernel
theorem dX10_lightest_41 : decode cX10_lightest 41 = .ok (.iaload, 1) := by decide +kernel
theorem dX10_lightest_42 : decode cX10_lightest 42 = .ok (.if_icmp .ge 5, 3) := by decide +kernel
theorem dX10_lightest_45 : decode cX10_lightest 45 = .ok (.iload_n 3, 1) := by decide +kernel
theorem dX10_lightest_46 : decode cX10_lightest 46 = .ok (.istore_n 2, 1) := by decide +kernel
theorem dX10_lightest_47 : decode cX10_lightest 47 = .ok (.iinc 3 1, 3) := by decide +kernel
theorem dX10_lightest_50 : decode cX10_lightest 50 = .ok (.goto (-46), 3) := by decide +kernel
theorem dX10_lightest_53 : decode cX10_lightest 53 = .ok (.iload_n 2, 1) := by decide +kernel
theorem dX10_lightest_54 : decode cX10_lightest 54 = .ok (.ireturn, 1) := by decide +kernel
theorem dX10_laysCodes_0 : decode cX10_laysCodes 0 = .ok (.iconst 0, 1) := by decide +kernel
theorem dX10_laysCodes_1 : decode cX10_laysCodes 1 = .ok (.istore_n 1, 1) := by decide +kernel
theorem dX10_laysCodes_2 : decode cX10_laysCodes 2 = .ok (.iload_n 1, 1) := by decide +kernel
theorem dX10_laysCodes_3 : decode cX10_laysCodes 3 = .ok (.bipush 86, 2) := by decide +kernel
theorem dX10_laysCodes_5 : decode cX10_laysCodes 5 = .ok (.if_icmp .ge 47, 3) := by decide +kernel
theorem dX10_laysCodes_8 : decode cX10_laysCodes 8 = .ok (.aload_n 0, 1) := by decide +kernel
theorem dX10_laysCodes_9 : decode cX10_laysCodes 9 = .ok (.getfield 61, 3) := by decide +kernel
theorem dX10_laysCodes_12 : decode cX10_laysCodes 12 = .ok (.iload_n 1, 1) := by decide +kernel
theorem dX10_laysCodes_13 : decode cX10_laysCodes 13 = .ok (.aload_n 0, 1) := by decide +kernel
theorem dX10_laysCodes_14 : decode cX10_laysCodes 14 = .ok (.iload_n 1, 1) := by decide +kernel
theorem dX10_laysCodes_15 : decode cX10_laysCodes 15 = .ok (.invokevirtual 192, 3) := by decide +kernel
theorem dX10_laysCodes_18 : decode cX10_laysCodes 18 = .ok (.iastore, 1) := by decide +kernel
theorem dX10_laysCodes_19 : decode cX10_laysCodes 19 = .ok (.aload_n 0, 1) := by decide +kernel
theorem dX10_laysCodes_20 : decode cX10_laysCodes 20 = .ok (.getfield 64, 3) := by decide +kernel
theorem dX10_laysCodes_23 : decode cX10_laysCodes 23 = .ok (.iload_n 1, 1) := by decide +kernel
theorem dX10_laysCodes_24 : decode cX10_laysCodes 24 = .ok (.aload_n 0, 1) := by decide +kernel
theorem dX10_laysCodes_25 : decode cX10_laysCodes 25 = .ok (.getfield 61, 3) := by decide +kernel
theorem dX10_laysCodes_28 : decode cX10_laysCodes 28 = .ok (.iload_n 1, 1) := by decide +kernel
theorem dX10_laysCodes_29 : decode cX10_laysCodes 29 = .ok (.iaload, 1) := by decide +kernel
theorem dX10_laysCodes_30 : decode cX10_laysCodes 30 = .ok (.ifCond .le 7, 3) := by decide +kernel
theorem dX10_laysCodes_33 : decode cX10_laysCodes 33 = .ok (.iload_n 1, 1) := by decide +kernel
theorem dX10_laysCodes_34 : decode cX10_laysCodes 34 = .ok (.goto 4, 3) := by decide +kernel
theorem dX10_laysCodes_37 : decode cX10_laysCodes 37 = .ok (.iconst (-1), 1) := by decide +kernel
theorem dX10_laysCodes_38 : decode cX10_laysCodes 38 = .ok (.iastore, 1) := by decide +kernel
theorem dX10_laysCodes_39 : decode cX10_laysCodes 39 = .ok (.aload_n 0, 1) := by decide +kernel
theorem dX10_laysCodes_40 : decode cX10_laysCodes 40 = .ok (.getfield 67, 3) := by decide +kernel
theorem dX10_laysCodes_43 : decode cX10_laysCodes 43 = .ok (.iload_n 1, 1) := by decide +kernel
theorem dX10_laysCodes_44 : decode cX10_laysCodes 44 = .ok (.iconst 0, 1) := by decide +kernel
theorem dX10_laysCodes_45 : decode cX10_laysCodes 45 = .ok (.iastore, 1) := by decide +kernel
theorem dX10_laysCodes_46 : decode cX10_laysCodes 46 = .ok (.iinc 1 1, 3) := by decide +kernel
theorem dX10_laysCodes_49 : decode cX10_laysCodes 49 = .ok (.goto (-47), 3) := by decide +kernel
theorem dX10_laysCodes_52 : decode cX10_laysCodes 52 = .ok (.aload_n 0, 1) := by decide +kernel
theorem dX10_laysCodes_53 : decode cX10_laysCodes 53 = .ok (.iconst (-1), 1) := by decide +kernel
theorem dX10_laysCodes_54 : decode cX10_laysCodes 54 = .ok (.invokevirtual 195, 3) := by decide +kernel
theorem dX10_laysCodes_57 : decode cX10_laysCodes 57 = .ok (.istore_n 1, 1) := by decide +kernel
theorem dX10_laysCodes_58 : decode cX10_laysCodes 58 = .ok (.iload_n 1, 1) := by decide +kernel
theorem dX10_laysCodes_59 : decode cX10_laysCodes 59 = .ok (.iconst (-1), 1) := by decide +kernel
theorem dX10_laysCodes_60 : decode cX10_laysCodes 60 = .ok (.if_icmp .ne 7, 3) := by decide +kernel
theorem dX10_laysCodes_63 : decode cX10_laysCodes 63 = .ok (.iconst (-1), 1) := by decide +kernel
theorem dX10_laysCodes_64 : decode cX10_laysCodes 64 = .ok (.goto 8, 3) := by decide +kernel
theorem dX10_laysCodes_67 : decode cX10_laysCodes 67 = .ok (.aload_n 0, 1) := by decide +kernel
theorem dX10_laysCodes_68 : decode cX10_laysCodes 68 = .ok (.iload_n 1, 1) := by decide +kernel
theorem dX10_laysCodes_69 : decode cX10_laysCodes 69 = .ok (.invokevirtual 195, 3) := by decide +kernel
theorem dX10_laysCodes_72 : decode cX10_laysCodes 72 = .ok (.istore_n 2, 1) := by decide +kernel
theorem dX10_laysCodes_73 : decode cX10_laysCodes 73 = .ok (.iload_n 1, 1) := by decide +kernel
theorem dX10_laysCodes_74 : decode cX10_laysCodes 74 = .ok (.iconst (-1), 1) := by decide +kernel
theorem dX10_laysCodes_75 : decode cX10_laysCodes 75 = .ok (.if_icmp .eq 15, 3) := by decide +kernel
theorem dX10_laysCodes_78 : decode cX10_laysCodes 78 = .ok (.iload_n 2, 1) := by decide +kernel
theorem dX10_laysCodes_79 : decode cX10_laysCodes 79 = .ok (.iconst (-1), 1) := by decide +kernel
theorem dX10_laysCodes_80 : decode cX10_laysCodes 80 = .ok (.if_icmp .ne 10, 3) := by decide +kernel
theorem dX10_laysCodes_83 : decode cX10_laysCodes 83 = .ok (.aload_n 0, 1) := by decide +kernel
theorem dX10_laysCodes_84 : decode cX10_laysCodes 84 = .ok (.getfield 67, 3) := by decide +kernel
theorem dX10_laysCodes_87 : decode cX10_laysCodes 87 = .ok (.iload_n 1, 1) := by decide +kernel
theorem dX10_laysCodes_88 : decode cX10_laysCodes 88 = .ok (.iconst 1, 1) := by decide +kernel
theorem dX10_laysCodes_89 : decode cX10_laysCodes 89 = .ok (.iastore, 1) := by decide +kernel
theorem dX10_laysCodes_90 : decode cX10_laysCodes 90 = .ok (.iload_n 2, 1) := by decide +kernel
theorem dX10_laysCodes_91 : decode cX10_laysCodes 91 = .ok (.iconst (-1), 1) := by decide +kernel
theorem dX10_laysCodes_92 : decode cX10_laysCodes 92 = .ok (.if_icmp .eq 24, 3) := by decide +kernel
theorem dX10_laysCodes_95 : decode cX10_laysCodes 95 = .ok (.aload_n 0, 1) := by decide +kernel
theorem dX10_laysCodes_96 : decode cX10_laysCodes 96 = .ok (.iload_n 1, 1) := by decide +kernel
theorem dX10_laysCodes_97 : decode cX10_laysCodes 97 = .ok (.iload_n 2, 1) := by decide +kernel
theorem dX10_laysCodes_98 : decode cX10_laysCodes 98 = .ok (.invokevirtual 198, 3) := by decide +kernel
theorem dX10_laysCodes_101 : decode cX10_laysCodes 101 = .ok (.aload_n 0, 1) := by decide +kernel
theorem dX10_laysCodes_102 : decode cX10_laysCodes 102 = .ok (.iconst (-1), 1) := by decide +kernel
theorem dX10_laysCodes_103 : decode cX10_laysCodes 103 = .ok (.invokevirtual 195, 3) := by decide +kernel
theorem dX10_laysCodes_106 : decode cX10_laysCodes 106 = .ok (.istore_n 1, 1) := by decide +kernel
theorem dX10_laysCodes_107 : decode cX10_laysCodes 107 = .ok (.aload_n 0, 1) := by decide +kernel
theorem dX10_laysCodes_108 : decode cX10_laysCodes 108 = .ok (.iload_n 1, 1) := by decide +kernel
theorem dX10_laysCodes_109 : decode cX10_laysCodes 109 = .ok (.invokevirtual 195, 3) := by decide +kernel
theorem dX10_laysCodes_112 : decode cX10_laysCodes 112 = .ok (.istore_n 2, 1) := by decide +kernel
theorem dX10_laysCodes_113 : decode cX10_laysCodes 113 = .ok (.goto (-23), 3) := by decide +kernel
theorem dX10_laysCodes_116 : decode cX10_laysCodes 116 = .ok (.aload_n 0, 1) := by decide +kernel
theorem dX10_laysCodes_117 : decode cX10_laysCodes 117 = .ok (.invokevirtual 201, 3) := by decide +kernel
theorem dX10_laysCodes_120 : decode cX10_laysCodes 120 = .ok (.return_, 1) := by decide +kernel
theorem dX10_joins_0 : decode cX10_joins 0 = .ok (.iload_n 1, 1) := by decide +kernel
theorem dX10_joins_1 : decode cX10_joins 1 = .ok (.iload_n 2, 1) := by decide +kernel
theorem dX10_joins_2 : decode cX10_joins 2 = .ok (.invokestatic 204, 3) := by decide +kernel
theorem dX10_joins_5 : decode cX10_joins 5 = .ok (.istore_n 3, 1) := by decide +kernel
theorem dX10_joins_6 : decode cX10_joins 6 = .ok (.aload_n 0, 1) := by decide +kernel
theorem dX10_joins_7 : decode cX10_joins 7 = .ok (.getfield 61, 3) := by decide +kernel
theorem dX10_joins_10 : decode cX10_joins 10 = .ok (.iload_n 1, 1) := by decide +kernel
theorem dX10_joins_11 : decode cX10_joins 11 = .ok (.iaload, 1) := by decide +kernel
theorem dX10_joins_12 : decode cX10_joins 12 = .ok (.aload_n 0, 1) := by decide +kernel
theorem dX10_joins_13 : decode cX10_joins 13 = .ok (.getfield 61, 3) := by decide +kernel
theorem dX10_joins_16 : decode cX10_joins 16 = .ok (.iload_n 2, 1) := by decide +kernel
theorem dX10_joins_17 : decode cX10_joins 17 = .ok (.iaload, 1) := by decide +kernel
theorem dX10_joins_18 : decode cX10_joins 18 = .ok (.iadd, 1) := by decide +kernel
theorem dX10_joins_19 : decode cX10_joins 19 = .ok (.istore 4, 2) := by decide +kernel
theorem dX10_joins_21 : decode cX10_joins 21 = .ok (.iconst 0, 1) := by decide +kernel
theorem dX10_joins_22 : decode cX10_joins 22 = .ok (.istore 5, 2) := by decide +kernel
theorem dX10_joins_24 : decode cX10_joins 24 = .ok (.iload 5, 2) := by decide +kernel
theorem dX10_joins_26 : decode cX10_joins 26 = .ok (.bipush 86, 2) := by decide +kernel
theorem dX10_joins_28 : decode cX10_joins 28 = .ok (.if_icmp .ge 64, 3) := by decide +kernel
theorem dX10_joins_31 : decode cX10_joins 31 = .ok (.aload_n 0, 1) := by decide +kernel
theorem dX10_joins_32 : decode cX10_joins 32 = .ok (.getfield 64, 3) := by decide +kernel
theorem dX10_joins_35 : decode cX10_joins 35 = .ok (.iload 5, 2) := by decide +kernel
theorem dX10_joins_37 : decode cX10_joins 37 = .ok (.iaload, 1) := by decide +kernel
theorem dX10_joins_38 : decode cX10_joins 38 = .ok (.iconst (-1), 1) := by decide +kernel
theorem dX10_joins_39 : decode cX10_joins 39 = .ok (.if_icmp .eq 47, 3) := by decide +kernel
theorem dX10_joins_42 : decode cX10_joins 42 = .ok (.aload_n 0, 1) := by decide +kernel
theorem dX10_joins_43 : decode cX10_joins 43 = .ok (.getfield 64, 3) := by decide +kernel
theorem dX10_joins_46 : decode cX10_joins 46 = .ok (.iload 5, 2) := by decide +kernel
theorem dX10_joins_48 : decode cX10_joins 48 = .ok (.iaload, 1) := by decide +kernel
theorem dX10_joins_49 : decode cX10_joins 49 = .ok (.iload_n 1, 1) := by decide +kernel
theorem dX10_joins_50 : decode cX10_joins 50 = .ok (.if_icmp .eq 17, 3) := by decide +kernel
theorem dX10_joins_53 : decode cX10_joins 53 = .ok (.aload_n 0, 1) := by decide +kernel
theorem dX10_joins_54 : decode cX10_joins 54 = .ok (.getfield 64, 3) := by decide +kernel
theorem dX10_joins_57 : decode cX10_joins 57 = .ok (.iload 5, 2) := by decide +kernel
theorem dX10_joins_59 : decode cX10_joins 59 = .ok (.iaload, 1) := by decide +kernel
theorem dX10_joins_60 : decode cX10_joins 60 = .ok (.iload_n 2, 1) := by decide +kernel
theorem dX10_joins_61 : decode cX10_joins 61 = .ok (.if_icmp .eq 6, 3) := by decide +kernel
theorem dX10_joins_64 : decode cX10_joins 64 = .ok (.goto 22, 3) := by decide +kernel
theorem dX10_joins_67 : decode cX10_joins 67 = .ok (.aload_n 0, 1) := by decide +kernel
theorem dX10_joins_68 : decode cX10_joins 68 = .ok (.getfield 64, 3) := by decide +kernel
theorem dX10_joins_71 : decode cX10_joins 71 = .ok (.iload 5, 2) := by decide +kernel
theorem dX10_joins_73 : decode cX10_joins 73 = .ok (.iload_n 3, 1) := by decide +kernel
theorem dX10_joins_74 : decode cX10_joins 74 = .ok (.iastore, 1) := by decide +kernel
theorem dX10_joins_75 : decode cX10_joins 75 = .ok (.aload_n 0, 1) := by decide +kernel
theorem dX10_joins_76 : decode cX10_joins 76 = .ok (.getfield 67, 3) := by decide +kernel
theorem dX10_joins_79 : decode cX10_joins 79 = .ok (.iload 5, 2) := by decide +kernel
theorem dX10_joins_81 : decode cX10_joins 81 = .ok (.dup2, 1) := by decide +kernel
theorem dX10_joins_82 : decode cX10_joins 82 = .ok (.iaload, 1) := by decide +kernel
theorem dX10_joins_83 : decode cX10_joins 83 = .ok (.iconst 1, 1) := by decide +kernel
theorem dX10_joins_84 : decode cX10_joins 84 = .ok (.iadd, 1) := by decide +kernel
theorem dX10_joins_85 : decode cX10_joins 85 = .ok (.iastore, 1) := by decide +kernel
theorem dX10_joins_86 : decode cX10_joins 86 = .ok (.iinc 5 1, 3) := by decide +kernel
theorem dX10_joins_89 : decode cX10_joins 89 = .ok (.goto (-65), 3) := by decide +kernel
theorem dX10_joins_92 : decode cX10_joins 92 = .ok (.aload_n 0, 1) := by decide +kernel
theorem dX10_joins_93 : decode cX10_joins 93 = .ok (.getfield 61, 3) := by decide +kernel
theorem dX10_joins_96 : decode cX10_joins 96 = .ok (.iload_n 3, 1) := by decide +kernel
theorem dX10_joins_97 : decode cX10_joins 97 = .ok (.iload 4, 2) := by decide +kernel
theorem dX10_joins_99 : decode cX10_joins 99 = .ok (.iastore, 1) := by decide +kernel
theorem dX10_joins_100 : decode cX10_joins 100 = .ok (.return_, 1) := by decide +kernel
theorem dX10_ranksCodes_0 : decode cX10_ranksCodes 0 = .ok (.aload_n 0, 1) := by decide +kernel
theorem dX10_ranksCodes_1 : decode cX10_ranksCodes 1 = .ok (.iconst 0, 1) := by decide +kernel
theorem dX10_ranksCodes_2 : decode cX10_ranksCodes 2 = .ok (.putfield 207, 3) := by decide +kernel
theorem dX10_ranksCodes_5 : decode cX10_ranksCodes 5 = .ok (.iconst 1, 1) := by decide +kernel
theorem dX10_ranksCodes_6 : decode cX10_ranksCodes 6 = .ok (.istore_n 1, 1) := by decide +kernel
theorem dX10_ranksCodes_7 : decode cX10_ranksCodes 7 = .ok (.iload_n 1, 1) := by decide +kernel
theorem dX10_ranksCodes_8 : decode cX10_ranksCodes 8 = .ok (.bipush 86, 2) := by decide +kernel
theorem dX10_ranksCodes_10 : decode cX10_ranksCodes 10 = .ok (.if_icmp .ge 111, 3) := by decide +kernel
theorem dX10_ranksCodes_13 : decode cX10_ranksCodes 13 = .ok (.iconst 0, 1) := by decide +kernel
theorem dX10_ranksCodes_14 : decode cX10_ranksCodes 14 = .ok (.istore_n 2, 1) := by decide +kernel
theorem dX10_ranksCodes_15 : decode cX10_ranksCodes 15 = .ok (.iload_n 2, 1) := by decide +kernel
theorem dX10_ranksCodes_16 : decode cX10_ranksCodes 16 = .ok (.bipush 86, 2) := by decide +kernel
theorem dX10_ranksCodes_18 : decode cX10_ranksCodes 18 = .ok (.if_icmp .ge 97, 3) := by decide +kernel
theorem dX10_ranksCodes_21 : decode cX10_ranksCodes 21 = .ok (.aload_n 0, 1) := by decide +kernel
theorem dX10_ranksCodes_22 : decode cX10_ranksCodes 22 = .ok (.getfield 67, 3) := by decide +kernel
theorem dX10_ranksCodes_25 : decode cX10_ranksCodes 25 = .ok (.iload_n 2, 1) := by decide +kernel
theorem dX10_ranksCodes_26 : decode cX10_ranksCodes 26 = .ok (.iaload, 1) := by decide +kernel
theorem dX10_ranksCodes_27 : decode cX10_ranksCodes 27 = .ok (.iload_n 1, 1) := by decide +kernel
theorem dX10_ranksCodes_28 : decode cX10_ranksCodes 28 = .ok (.if_icmp .eq 6, 3) := by decide +kernel
theorem dX10_ranksCodes_31 : decode cX10_ranksCodes 31 = .ok (.goto 78, 3) := by decide +kernel
theorem dX10_ranksCodes_34 : decode cX10_ranksCodes 34 = .ok (.aload_n 0, 1) := by decide +kernel
theorem dX10_ranksCodes_35 : decode cX10_ranksCodes 35 = .ok (.getfield 207, 3) := by decide +kernel
theorem dX10_ranksCodes_38 : decode cX10_ranksCodes 38 = .ok (.ifCond .ne 7, 3) := by decide +kernel
theorem dX10_ranksCodes_41 : decode cX10_ranksCodes 41 = .ok (.iconst (-1), 1) := by decide +kernel
theorem dX10_ranksCodes_42 : decode cX10_ranksCodes 42 = .ok (.goto 14, 3) := by decide +kernel
theorem dX10_ranksCodes_45 : decode cX10_ranksCodes 45 = .ok (.aload_n 0, 1) := by decide +kernel
theorem dX10_ranksCodes_46 : decode cX10_ranksCodes 46 = .ok (.getfield 70, 3) := by decide +kernel
theorem dX10_ranksCodes_49 : decode cX10_ranksCodes 49 = .ok (.aload_n 0, 1) := by decide +kernel
theorem dX10_ranksCodes_50 : decode cX10_ranksCodes 50 = .ok (.getfield 207, 3) := by decide +kernel
theorem dX10_ranksCodes_53 : decode cX10_ranksCodes 53 = .ok (.iconst 1, 1) := by decide +kernel
theorem dX10_ranksCodes_54 : decode cX10_ranksCodes 54 = .ok (.isub, 1) := by decide +kernel
theorem dX10_ranksCodes_55 : decode cX10_ranksCodes 55 = .ok (.iaload, 1) := by decide +kernel
theorem dX10_ranksCodes_56 : decode cX10_ranksCodes 56 = .ok (.istore_n 3, 1) := by decide +kernel
theorem dX10_ranksCodes_57 : decode cX10_ranksCodes 57 = .ok (.aload_n 0, 1) := by decide +kernel
theorem dX10_ranksCodes_58 : decode cX10_ranksCodes 58 = .ok (.getfield 73, 3) := by decide +kernel
theorem dX10_ranksCodes_61 : decode cX10_ranksCodes 61 = .ok (.iload_n 2, 1) := by decide +kernel
theorem dX10_ranksCodes_62 : decode cX10_ranksCodes 62 = .ok (.iload_n 3, 1) := by decide +kernel
theorem dX10_ranksCodes_63 : decode cX10_ranksCodes 63 = .ok (.iconst (-1), 1) := by decide +kernel
theorem dX10_ranksCodes_64 : decode cX10_ranksCodes 64 = .ok (.if_icmp .ne 7, 3) := by decide +kernel
theorem dX10_ranksCodes_67 : decode cX10_ranksCodes 67 = .ok (.iconst 0, 1) := by decide +kernel
theorem dX10_ranksCodes_68 : decode cX10_ranksCodes 68 = .ok (.goto 20, 3) := by decide +kernel
theorem dX10_ranksCodes_71 : decode cX10_ranksCodes 71 = .ok (.aload_n 0, 1) := by decide +kernel
theorem dX10_ranksCodes_72 : decode cX10_ranksCodes 72 = .ok (.getfield 73, 3) := by decide +kernel
theorem dX10_ranksCodes_75 : decode cX10_ranksCodes 75 = .ok (.iload_n 3, 1) := by decide +kernel
theorem dX10_ranksCodes_76 : decode cX10_ranksCodes 76 = .ok (.iaload, 1) := by decide +kernel
theorem dX10_ranksCodes_77 : decode cX10_ranksCodes 77 = .ok (.iconst 1, 1) := by decide +kernel
theorem dX10_ranksCodes_78 : decode cX10_ranksCodes 78 = .ok (.iadd, 1) := by decide +kernel
theorem dX10_ranksCodes_79 : decode cX10_ranksCodes 79 = .ok (.iload_n 1, 1) := by decide +kernel
theorem dX10_ranksCodes_80 : decode cX10_ranksCodes 80 = .ok (.aload_n 0, 1) := by decide +kernel
theorem dX10_ranksCodes_81 : decode cX10_ranksCodes 81 = .ok (.getfield 67, 3) := by decide +kernel
theorem dX10_ranksCodes_84 : decode cX10_ranksCodes 84 = .ok (.iload_n 3, 1) := by decide +kernel
theorem dX10_ranksCodes_85 : decode cX10_ranksCodes 85 = .ok (.iaload, 1) := by decide +kernel
theorem dX10_ranksCodes_86 : decode cX10_ranksCodes 86 = .ok (.isub, 1) := by decide +kernel
theorem dX10_ranksCodes_87 : decode cX10_ranksCodes 87 = .ok (.ishl, 1) := by decide +kernel
theorem dX10_ranksCodes_88 : decode cX10_ranksCodes 88 = .ok (.iastore, 1) := by decide +kernel
theorem dX10_ranksCodes_89 : decode cX10_ranksCodes 89 = .ok (.aload_n 0, 1) := by decide +kernel
theorem dX10_ranksCodes_90 : decode cX10_ranksCodes 90 = .ok (.getfield 70, 3) := by decide +kernel
theorem dX10_ranksCodes_93 : decode cX10_ranksCodes 93 = .ok (.aload_n 0, 1) := by decide +kernel
theorem dX10_ranksCodes_94 : decode cX10_ranksCodes 94 = .ok (.getfield 207, 3) := by decide +kernel
theorem dX10_ranksCodes_97 : decode cX10_ranksCodes 97 = .ok (.iload_n 2, 1) := by decide +kernel
theorem dX10_ranksCodes_98 : decode cX10_ranksCodes 98 = .ok (.iastore, 1) := by decide +kernel
theorem dX10_ranksCodes_99 : decode cX10_ranksCodes 99 = .ok (.aload_n 0, 1) := by decide +kernel
theorem dX10_ranksCodes_100 : decode cX10_ranksCodes 100 = .ok (.dup, 1) := by decide +kernel
theorem dX10_ranksCodes_101 : decode cX10_ranksCodes 101 = .ok (.getfield 207, 3) := by decide +kernel
theorem dX10_ranksCodes_104 : decode cX10_ranksCodes 104 = .ok (.iconst 1, 1) := by decide +kernel
theorem dX10_ranksCodes_105 : decode cX10_ranksCodes 105 = .ok (.iadd, 1) := by decide +kernel
theorem dX10_ranksCodes_106 : decode cX10_ranksCodes 106 = .ok (.putfield 207, 3) := by decide +kernel
theorem dX10_ranksCodes_109 : decode cX10_ranksCodes 109 = .ok (.iinc 2 1, 3) := by decide +kernel
theorem dX10_ranksCodes_112 : decode cX10_ranksCodes 112 = .ok (.goto (-97), 3) := by decide +kernel
theorem dX10_ranksCodes_115 : decode cX10_ranksCodes 115 = .ok (.iinc 1 1, 3) := by decide +kernel
theorem dX10_ranksCodes_118 : decode cX10_ranksCodes 118 = .ok (.goto (-111), 3) := by decide +kernel
theorem dX10_ranksCodes_121 : decode cX10_ranksCodes 121 = .ok (.return_, 1) := by decide +kernel
theorem dX10_code_0 : decode cX10_code 0 = .ok (.aload_n 0, 1) := by decide +kernel
theorem dX10_code_1 : decode cX10_code 1 = .ok (.iconst 0, 1) := by decide +kernel
theorem dX10_code_2 : decode cX10_code 2 = .ok (.putfield 1, 3) := by decide +kernel
theorem dX10_code_5 : decode cX10_code 5 = .ok (.aload_n 0, 1) := by decide +kernel
theorem dX10_code_6 : decode cX10_code 6 = .ok (.iload_n 1, 1) := by decide +kernel
theorem dX10_code_7 : decode cX10_code 7 = .ok (.invokevirtual 210, 3) := by decide +kernel
theorem dX10_code_10 : decode cX10_code 10 = .ok (.ifCond .eq 13, 3) := by decide +kernel
theorem dX10_code_13 : decode cX10_code 13 = .ok (.iload_n 2, 1) := by decide +kernel
theorem dX10_code_14 : decode cX10_code 14 = .ok (.i2l, 1) := by decide +kernel
theorem dX10_code_15 : decode cX10_code 15 = .ok (.lconst 0, 1) := by decide +kernel
theorem dX10_code_16 : decode cX10_code 16 = .ok (.lconst 1, 1) := by decide +kernel
theorem dX10_code_17 : decode cX10_code 17 = .ok (.invokestatic 98, 3) := by decide +kernel
theorem dX10_code_20 : decode cX10_code 20 = .ok (.ifCond .ne 6, 3) := by decide +kernel
theorem dX10_code_23 : decode cX10_code 23 = .ok (.bipush (-2), 2) := by decide +kernel
theorem dX10_code_25 : decode cX10_code 25 = .ok (.ireturn, 1) := by decide +kernel
theorem dX10_code_26 : decode cX10_code 26 = .ok (.aload_n 0, 1) := by decide +kernel
theorem dX10_code_27 : decode cX10_code 27 = .ok (.invokevirtual 214, 3) := by decide +kernel
theorem dX10_code_30 : decode cX10_code 30 = .ok (.iload_n 2, 1) := by decide +kernel
theorem dX10_code_31 : decode cX10_code 31 = .ok (.ifCond .ne 12, 3) := by decide +kernel
theorem dX10_code_34 : decode cX10_code 34 = .ok (.aload_n 0, 1) := by decide +kernel
theorem dX10_code_35 : decode cX10_code 35 = .ok (.getfield 67, 3) := by decide +kernel
theorem dX10_code_38 : decode cX10_code 38 = .ok (.iload_n 1, 1) := by decide +kernel
theorem dX10_code_39 : decode cX10_code 39 = .ok (.iaload, 1) := by decide +kernel
theorem dX10_code_40 : decode cX10_code 40 = .ok (.goto 22, 3) := by decide +kernel
theorem dX10_code_43 : decode cX10_code 43 = .ok (.aload_n 0, 1) := by decide +kernel
theorem dX10_code_44 : decode cX10_code 44 = .ok (.getfield 67, 3) := by decide +kernel
theorem dX10_code_47 : decode cX10_code 47 = .ok (.iload_n 1, 1) := by decide +kernel
theorem dX10_code_48 : decode cX10_code 48 = .ok (.iaload, 1) := by decide +kernel
theorem dX10_code_49 : decode cX10_code 49 = .ok (.ifCond .ne 7, 3) := by decide +kernel
theorem dX10_code_52 : decode cX10_code 52 = .ok (.iconst (-1), 1) := by decide +kernel
theorem dX10_code_53 : decode cX10_code 53 = .ok (.goto 9, 3) := by decide +kernel
theorem dX10_code_56 : decode cX10_code 56 = .ok (.aload_n 0, 1) := by decide +kernel
theorem dX10_code_57 : decode cX10_code 57 = .ok (.getfield 73, 3) := by decide +kernel
theorem dX10_code_60 : decode cX10_code 60 = .ok (.iload_n 1, 1) := by decide +kernel
theorem dX10_code_61 : decode cX10_code 61 = .ok (.iaload, 1) := by decide +kernel
theorem dX10_code_62 : decode cX10_code 62 = .ok (.ireturn, 1) := by decide +kernel
theorem dX10_coded_0 : decode cX10_coded 0 = .ok (.aload_n 0, 1) := by decide +kernel
theorem dX10_coded_1 : decode cX10_coded 1 = .ok (.iconst 0, 1) := by decide +kernel
theorem dX10_coded_2 : decode cX10_coded 2 = .ok (.putfield 1, 3) := by decide +kernel
theorem dX10_coded_5 : decode cX10_coded 5 = .ok (.iload_n 1, 1) := by decide +kernel
theorem dX10_coded_6 : decode cX10_coded 6 = .ok (.ifCond .ge 6, 3) := by decide +kernel
theorem dX10_coded_9 : decode cX10_coded 9 = .ok (.bipush (-3), 2) := by decide +kernel
theorem dX10_coded_11 : decode cX10_coded 11 = .ok (.ireturn, 1) := by decide +kernel
theorem dX10_coded_12 : decode cX10_coded 12 = .ok (.aload_n 0, 1) := by decide +kernel
theorem dX10_coded_13 : decode cX10_coded 13 = .ok (.invokevirtual 214, 3) := by decide +kernel
theorem dX10_coded_16 : decode cX10_coded 16 = .ok (.iload_n 1, 1) := by decide +kernel
theorem dX10_coded_17 : decode cX10_coded 17 = .ok (.aload_n 0, 1) := by decide +kernel
theorem dX10_coded_18 : decode cX10_coded 18 = .ok (.getfield 207, 3) := by decide +kernel
theorem dX10_coded_21 : decode cX10_coded 21 = .ok (.if_icmp .ge 12, 3) := by decide +kernel
theorem dX10_coded_24 : decode cX10_coded 24 = .ok (.aload_n 0, 1) := by decide +kernel
theorem dX10_coded_25 : decode cX10_coded 25 = .ok (.getfield 70, 3) := by decide +kernel
theorem dX10_coded_28 : decode cX10_coded 28 = .ok (.iload_n 1, 1) := by decide +kernel
theorem dX10_coded_29 : decode cX10_coded 29 = .ok (.iaload, 1) := by decide +kernel
theorem dX10_coded_30 : decode cX10_coded 30 = .ok (.goto 4, 3) := by decide +kernel
theorem dX10_coded_33 : decode cX10_coded 33 = .ok (.iconst (-1), 1) := by decide +kernel
theorem dX10_coded_34 : decode cX10_coded 34 = .ok (.ireturn, 1) := by decide +kernel
theorem dX10_bitsAll_0 : decode cX10_bitsAll 0 = .ok (.aload_n 0, 1) := by decide +kernel
theorem dX10_bitsAll_1 : decode cX10_bitsAll 1 = .ok (.invokevirtual 214, 3) := by decide +kernel
theorem dX10_bitsAll_4 : decode cX10_bitsAll 4 = .ok (.iconst 0, 1) := by decide +kernel
theorem dX10_bitsAll_5 : decode cX10_bitsAll 5 = .ok (.istore_n 1, 1) := by decide +kernel
theorem dX10_bitsAll_6 : decode cX10_bitsAll 6 = .ok (.iconst 0, 1) := by decide +kernel
theorem dX10_bitsAll_7 : decode cX10_bitsAll 7 = .ok (.istore_n 2, 1) := by decide +kernel
theorem dX10_bitsAll_8 : decode cX10_bitsAll 8 = .ok (.iload_n 2, 1) := by decide +kernel
theorem dX10_bitsAll_9 : decode cX10_bitsAll 9 = .ok (.aload_n 0, 1) := by decide +kernel
theorem dX10_bitsAll_10 : decode cX10_bitsAll 10 = .ok (.invokevirtual 123, 3) := by decide +kernel
theorem dX10_bitsAll_13 : decode cX10_bitsAll 13 = .ok (.if_icmp .ge 22, 3) := by decide +kernel
theorem dX10_bitsAll_16 : decode cX10_bitsAll 16 = .ok (.iload_n 1, 1) := by decide +kernel
theorem dX10_bitsAll_17 : decode cX10_bitsAll 17 = .ok (.aload_n 0, 1) := by decide +kernel
theorem dX10_bitsAll_18 : decode cX10_bitsAll 18 = .ok (.getfield 67, 3) := by decide +kernel
theorem dX10_bitsAll_21 : decode cX10_bitsAll 21 = .ok (.aload_n 0, 1) := by decide +kernel
theorem dX10_bitsAll_22 : decode cX10_bitsAll 22 = .ok (.iload_n 2, 1) := by decide +kernel
theorem dX10_bitsAll_23 : decode cX10_bitsAll 23 = .ok (.invokevirtual 127, 3) := by decide +kernel
theorem dX10_bitsAll_26 : decode cX10_bitsAll 26 = .ok (.iaload, 1) := by decide +kernel
theorem dX10_bitsAll_27 : decode cX10_bitsAll 27 = .ok (.iadd, 1) := by decide +kernel
theorem dX10_bitsAll_28 : decode cX10_bitsAll 28 = .ok (.istore_n 1, 1) := by decide +kernel
theorem dX10_bitsAll_29 : decode cX10_bitsAll 29 = .ok (.iinc 2 1, 3) := by decide +kernel
theorem dX10_bitsAll_32 : decode cX10_bitsAll 32 = .ok (.goto (-24), 3) := by decide +kernel
theorem dX10_bitsAll_35 : decode cX10_bitsAll 35 = .ok (.iload_n 1, 1) := by decide +kernel
theorem dX10_bitsAll_36 : decode cX10_bitsAll 36 = .ok (.ireturn, 1) := by decide +kernel
theorem dX10_text_0 : decode cX10_text 0 = .ok (.aload_n 0, 1) := by decide +kernel
theorem dX10_text_1 : decode cX10_text 1 = .ok (.iconst 0, 1) := by decide +kernel
theorem dX10_text_2 : decode cX10_text 2 = .ok (.putfield 1, 3) := by decide +kernel
theorem dX10_text_5 : decode cX10_text 5 = .ok (.aload_n 0, 1) := by decide +kernel
theorem dX10_text_6 : decode cX10_text 6 = .ok (.iload_n 1, 1) := by decide +kernel
theorem dX10_text_7 : decode cX10_text 7 = .ok (.iconst 0, 1) := by decide +kernel
theorem dX10_text_8 : decode cX10_text 8 = .ok (.sipush 240, 3) := by decide +kernel
theorem dX10_text_11 : decode cX10_text 11 = .ok (.invokevirtual 217, 3) := by decide +kernel
theorem dX10_text_14 : decode cX10_text 14 = .ok (.istore_n 2, 1) := by decide +kernel
theorem dX10_text_15 : decode cX10_text 15 = .ok (.iload_n 2, 1) := by decide +kernel
theorem dX10_text_16 : decode cX10_text 16 = .ok (.ifCond .eq 5, 3) := by decide +kernel
theorem dX10_text_19 : decode cX10_text 19 = .ok (.iload_n 2, 1) := by decide +kernel
theorem dX10_text_20 : decode cX10_text 20 = .ok (.ireturn, 1) := by decide +kernel
theorem dX10_text_21 : decode cX10_text 21 = .ok (.aload_n 0, 1) := by decide +kernel
theorem dX10_text_22 : decode cX10_text 22 = .ok (.invokevirtual 171, 3) := by decide +kernel
theorem dX10_text_25 : decode cX10_text 25 = .ok (.iconst 0, 1) := by decide +kernel
theorem dX10_text_26 : decode cX10_text 26 = .ok (.istore_n 3, 1) := by decide +kernel
theorem dX10_text_27 : decode cX10_text 27 = .ok (.iload_n 3, 1) := by decide +kernel
theorem dX10_text_28 : decode cX10_text 28 = .ok (.sipush 1021, 3) := by decide +kernel
theorem dX10_text_31 : decode cX10_text 31 = .ok (.if_icmp .ge 16, 3) := by decide +kernel
theorem dX10_text_34 : decode cX10_text 34 = .ok (.aload_n 0, 1) := by decide +kernel
theorem dX10_text_35 : decode cX10_text 35 = .ok (.getfield 13, 3) := by decide +kernel
theorem dX10_text_38 : decode cX10_text 38 = .ok (.iload_n 3, 1) := by decide +kernel
theorem dX10_text_39 : decode cX10_text 39 = .ok (.iconst 0, 1) := by decide +kernel
theorem dX10_text_40 : decode cX10_text 40 = .ok (.iastore, 1) := by decide +kernel
theorem dX10_text_41 : decode cX10_text 41 = .ok (.iinc 3 1, 3) := by decide +kernel
theorem dX10_text_44 : decode cX10_text 44 = .ok (.goto (-17), 3) := by decide +kernel
theorem dX10_text_47 : decode cX10_text 47 = .ok (.iconst 0, 1) := by decide +kernel
theorem dX10_text_48 : decode cX10_text 48 = .ok (.istore_n 3, 1) := by decide +kernel
theorem dX10_text_49 : decode cX10_text 49 = .ok (.iload_n 3, 1) := by decide +kernel
theorem dX10_text_50 : decode cX10_text 50 = .ok (.iload_n 1, 1) := by decide +kernel
theorem dX10_text_51 : decode cX10_text 51 = .ok (.if_icmp .ge 26, 3) := by decide +kernel
theorem dX10_text_54 : decode cX10_text 54 = .ok (.aload_n 0, 1) := by decide +kernel
theorem dX10_text_55 : decode cX10_text 55 = .ok (.getfield 13, 3) := by decide +kernel
theorem dX10_text_58 : decode cX10_text 58 = .ok (.iconst 1, 1) := by decide +kernel
theorem dX10_text_59 : decode cX10_text 59 = .ok (.iload_n 3, 1) := by decide +kernel
theorem dX10_text_60 : decode cX10_text 60 = .ok (.iadd, 1) := by decide +kernel
theorem dX10_text_61 : decode cX10_text 61 = .ok (.aload_n 0, 1) := by decide +kernel
theorem dX10_text_62 : decode cX10_text 62 = .ok (.getfield 42, 3) := by decide +kernel
theorem dX10_text_65 : decode cX10_text 65 = .ok (.iload_n 3, 1) := by decide +kernel
theorem dX10_text_66 : decode cX10_text 66 = .ok (.baload, 1) := by decide +kernel
theorem dX10_text_67 : decode cX10_text 67 = .ok (.bipush 97, 2) := by decide +kernel
theorem dX10_text_69 : decode cX10_text 69 = .ok (.isub, 1) := by decide +kernel
theorem dX10_text_70 : decode cX10_text 70 = .ok (.iastore, 1) := by decide +kernel
theorem dX10_text_71 : decode cX10_text 71 = .ok (.iinc 3 1, 3) := by decide +kernel
theorem dX10_text_74 : decode cX10_text 74 = .ok (.goto (-25), 3) := by decide +kernel
theorem dX10_text_77 : decode cX10_text 77 = .ok (.aload_n 0, 1) := by decide +kernel
theorem dX10_text_78 : decode cX10_text 78 = .ok (.getfield 13, 3) := by decide +kernel
theorem dX10_text_81 : decode cX10_text 81 = .ok (.iconst 0, 1) := by decide +kernel
theorem dX10_text_82 : decode cX10_text 82 = .ok (.iload_n 1, 1) := by decide +kernel
theorem dX10_text_83 : decode cX10_text 83 = .ok (.iastore, 1) := by decide +kernel
theorem dX10_text_84 : decode cX10_text 84 = .ok (.iload_n 1, 1) := by decide +kernel
theorem dX10_text_85 : decode cX10_text 85 = .ok (.ireturn, 1) := by decide +kernel
theorem dX10_phrase_0 : decode cX10_phrase 0 = .ok (.aload_n 0, 1) := by decide +kernel
theorem dX10_phrase_1 : decode cX10_phrase 1 = .ok (.iconst 0, 1) := by decide +kernel
theorem dX10_phrase_2 : decode cX10_phrase 2 = .ok (.putfield 1, 3) := by decide +kernel
theorem dX10_phrase_5 : decode cX10_phrase 5 = .ok (.aload_n 0, 1) := by decide +kernel
theorem dX10_phrase_6 : decode cX10_phrase 6 = .ok (.iload_n 1, 1) := by decide +kernel
theorem dX10_phrase_7 : decode cX10_phrase 7 = .ok (.iconst 1, 1) := by decide +kernel
theorem dX10_phrase_8 : decode cX10_phrase 8 = .ok (.bipush 20, 2) := by decide +kernel
theorem dX10_phrase_10 : decode cX10_phrase 10 = .ok (.invokevirtual 217, 3) := by decide +kernel
theorem dX10_phrase_13 : decode cX10_phrase 13 = .ok (.istore_n 2, 1) := by decide +kernel
theorem dX10_phrase_14 : decode cX10_phrase 14 = .ok (.iload_n 2, 1) := by decide +kernel
theorem dX10_phrase_15 : decode cX10_phrase 15 = .ok (.ifCond .eq 5, 3) := by decide +kernel
theorem dX10_phrase_18 : decode cX10_phrase 18 = .ok (.iload_n 2, 1) := by decide +kernel
theorem dX10_phrase_19 : decode cX10_phrase 19 = .ok (.ireturn, 1) := by decide +kernel
theorem dX10_phrase_20 : decode cX10_phrase 20 = .ok (.iconst 0, 1) := by decide +kernel
theorem dX10_phrase_21 : decode cX10_phrase 21 = .ok (.istore_n 3, 1) := by decide +kernel
theorem dX10_phrase_22 : decode cX10_phrase 22 = .ok (.iload_n 3, 1) := by decide +kernel
theorem dX10_phrase_23 : decode cX10_phrase 23 = .ok (.iload_n 1, 1) := by decide +kernel
theorem dX10_phrase_24 : decode cX10_phrase 24 = .ok (.if_icmp .ge 24, 3) := by decide +kernel
theorem dX10_phrase_27 : decode cX10_phrase 27 = .ok (.aload_n 0, 1) := by decide +kernel
theorem dX10_phrase_28 : decode cX10_phrase 28 = .ok (.getfield 49, 3) := by decide +kernel
theorem dX10_phrase_31 : decode cX10_phrase 31 = .ok (.iload_n 3, 1) := by decide +kernel
theorem dX10_phrase_32 : decode cX10_phrase 32 = .ok (.aload_n 0, 1) := by decide +kernel
theorem dX10_phrase_33 : decode cX10_phrase 33 = .ok (.getfield 42, 3) := by decide +kernel
theorem dX10_phrase_36 : decode cX10_phrase 36 = .ok (.iload_n 3, 1) := by decide +kernel
theorem dX10_phrase_37 : decode cX10_phrase 37 = .ok (.baload, 1) := by decide +kernel
theorem dX10_phrase_38 : decode cX10_phrase 38 = .ok (.bipush 97, 2) := by decide +kernel
theorem dX10_phrase_40 : decode cX10_phrase 40 = .ok (.isub, 1) := by decide +kernel
theorem dX10_phrase_41 : decode cX10_phrase 41 = .ok (.iastore, 1) := by decide +kernel
theorem dX10_phrase_42 : decode cX10_phrase 42 = .ok (.iinc 3 1, 3) := by decide +kernel
theorem dX10_phrase_45 : decode cX10_phrase 45 = .ok (.goto (-23), 3) := by decide +kernel
theorem dX10_phrase_48 : decode cX10_phrase 48 = .ok (.aload_n 0, 1) := by decide +kernel
theorem dX10_phrase_49 : decode cX10_phrase 49 = .ok (.iload_n 1, 1) := by decide +kernel
theorem dX10_phrase_50 : decode cX10_phrase 50 = .ok (.putfield 221, 3) := by decide +kernel
theorem dX10_phrase_53 : decode cX10_phrase 53 = .ok (.aload_n 0, 1) := by decide +kernel
theorem dX10_phrase_54 : decode cX10_phrase 54 = .ok (.invokevirtual 224, 3) := by decide +kernel
theorem dX10_phrase_57 : decode cX10_phrase 57 = .ok (.aload_n 0, 1) := by decide +kernel
theorem dX10_phrase_58 : decode cX10_phrase 58 = .ok (.invokevirtual 227, 3) := by decide +kernel
theorem dX10_phrase_61 : decode cX10_phrase 61 = .ok (.ireturn, 1) := by decide +kernel
theorem dX10_fault_0 : decode cX10_fault 0 = .ok (.aload_n 0, 1) := by decide +kernel
theorem dX10_fault_1 : decode cX10_fault 1 = .ok (.iconst 0, 1) := by decide +kernel
theorem dX10_fault_2 : decode cX10_fault 2 = .ok (.putfield 1, 3) := by decide +kernel
theorem dX10_fault_5 : decode cX10_fault 5 = .ok (.iload_n 1, 1) := by decide +kernel
theorem dX10_fault_6 : decode cX10_fault 6 = .ok (.ifCond .ne 10, 3) := by decide +kernel
theorem dX10_fault_9 : decode cX10_fault 9 = .ok (.aload_n 0, 1) := by decide +kernel
theorem dX10_fault_10 : decode cX10_fault 10 = .ok (.getfield 140, 3) := by decide +kernel
theorem dX10_fault_13 : decode cX10_fault 13 = .ok (.goto 16, 3) := by decide +kernel
theorem dX10_fault_16 : decode cX10_fault 16 = .ok (.iload_n 1, 1) := by decide +kernel
theorem dX10_fault_17 : decode cX10_fault 17 = .ok (.iconst 1, 1) := by decide +kernel
theorem dX10_fault_18 : decode cX10_fault 18 = .ok (.if_icmp .ne 10, 3) := by decide +kernel
theorem dX10_fault_21 : decode cX10_fault 21 = .ok (.aload_n 0, 1) := by decide +kernel
theorem dX10_fault_22 : decode cX10_fault 22 = .ok (.getfield 46, 3) := by decide +kernel
theorem dX10_fault_25 : decode cX10_fault 25 = .ok (.goto 4, 3) := by decide +kernel
theorem dX10_fault_28 : decode cX10_fault 28 = .ok (.iconst (-1), 1) := by decide +kernel
theorem dX10_fault_29 : decode cX10_fault 29 = .ok (.ireturn, 1) := by decide +kernel
theorem dX10_countOf_0 : decode cX10_countOf 0 = .ok (.iconst 0, 1) := by decide +kernel
theorem dX10_countOf_1 : decode cX10_countOf 1 = .ok (.istore_n 3, 1) := by decide +kernel
theorem dX10_countOf_2 : decode cX10_countOf 2 = .ok (.iconst 0, 1) := by decide +kernel
theorem dX10_countOf_3 : decode cX10_countOf 3 = .ok (.istore 4, 2) := by decide +kernel
theorem dX10_countOf_5 : decode cX10_countOf 5 = .ok (.iload 4, 2) := by decide +kernel
theorem dX10_countOf_7 : decode cX10_countOf 7 = .ok (.iconst 1, 1) := by decide +kernel
theorem dX10_countOf_8 : decode cX10_countOf 8 = .ok (.iadd, 1) := by decide +kernel
theorem dX10_countOf_9 : decode cX10_countOf 9 = .ok (.aload_n 0, 1) := by decide +kernel
theorem dX10_countOf_10 : decode cX10_countOf 10 = .ok (.invokevirtual 123, 3) := by decide +kernel
theorem dX10_countOf_13 : decode cX10_countOf 13 = .ok (.if_icmp .ge 63, 3) := by decide +kernel
theorem dX10_countOf_16 : decode cX10_countOf 16 = .ok (.aload_n 0, 1) := by decide +kernel
theorem dX10_countOf_17 : decode cX10_countOf 17 = .ok (.iload 4, 2) := by decide +kernel
theorem dX10_countOf_19 : decode cX10_countOf 19 = .ok (.invokevirtual 127, 3) := by decide +kernel
theorem dX10_countOf_22 : decode cX10_countOf 22 = .ok (.iload_n 1, 1) := by decide +kernel
theorem dX10_countOf_23 : decode cX10_countOf 23 = .ok (.if_icmp .ne 19, 3) := by decide +kernel
theorem dX10_countOf_26 : decode cX10_countOf 26 = .ok (.aload_n 0, 1) := by decide +kernel
theorem dX10_countOf_27 : decode cX10_countOf 27 = .ok (.iload 4, 2) := by decide +kernel
theorem dX10_countOf_29 : decode cX10_countOf 29 = .ok (.iconst 1, 1) := by decide +kernel
theorem dX10_countOf_30 : decode cX10_countOf 30 = .ok (.iadd, 1) := by decide +kernel
theorem dX10_countOf_31 : decode cX10_countOf 31 = .ok (.invokevirtual 127, 3) := by decide +kernel
theorem dX10_countOf_34 : decode cX10_countOf 34 = .ok (.iload_n 2, 1) := by decide +kernel
theorem dX10_countOf_35 : decode cX10_countOf 35 = .ok (.if_icmp .ne 7, 3) := by decide +kernel
theorem dX10_countOf_38 : decode cX10_countOf 38 = .ok (.iconst 1, 1) := by decide +kernel
theorem dX10_countOf_39 : decode cX10_countOf 39 = .ok (.goto 4, 3) := by decide +kernel
theorem dX10_countOf_42 : decode cX10_countOf 42 = .ok (.iconst 0, 1) := by decide +kernel
theorem dX10_countOf_43 : decode cX10_countOf 43 = .ok (.istore 5, 2) := by decide +kernel
theorem dX10_countOf_45 : decode cX10_countOf 45 = .ok (.iload_n 3, 1) := by decide +kernel
theorem dX10_countOf_46 : decode cX10_countOf 46 = .ok (.iload 5, 2) := by decide +kernel
theorem dX10_countOf_48 : decode cX10_countOf 48 = .ok (.ifCond .eq 7, 3) := by decide +kernel
theorem dX10_countOf_51 : decode cX10_countOf 51 = .ok (.iconst 1, 1) := by decide +kernel
theorem dX10_countOf_52 : decode cX10_countOf 52 = .ok (.goto 4, 3) := by decide +kernel
theorem dX10_countOf_55 : decode cX10_countOf 55 = .ok (.iconst 0, 1) := by decide +kernel
theorem dX10_countOf_56 : decode cX10_countOf 56 = .ok (.iadd, 1) := by decide +kernel
theorem dX10_countOf_57 : decode cX10_countOf 57 = .ok (.istore_n 3, 1) := by decide +kernel
theorem dX10_countOf_58 : decode cX10_countOf 58 = .ok (.iload 4, 2) := by decide +kernel
theorem dX10_countOf_60 : decode cX10_countOf 60 = .ok (.iload 5, 2) := by decide +kernel
theorem dX10_countOf_62 : decode cX10_countOf 62 = .ok (.ifCond .eq 7, 3) := by decide +kernel
theorem dX10_countOf_65 : decode cX10_countOf 65 = .ok (.iconst 2, 1) := by decide +kernel
theorem dX10_countOf_66 : decode cX10_countOf 66 = .ok (.goto 4, 3) := by decide +kernel
theorem dX10_countOf_69 : decode cX10_countOf 69 = .ok (.iconst 1, 1) := by decide +kernel
theorem dX10_countOf_70 : decode cX10_countOf 70 = .ok (.iadd, 1) := by decide +kernel
theorem dX10_countOf_71 : decode cX10_countOf 71 = .ok (.istore 4, 2) := by decide +kernel
theorem dX10_countOf_73 : decode cX10_countOf 73 = .ok (.goto (-68), 3) := by decide +kernel
theorem dX10_countOf_76 : decode cX10_countOf 76 = .ok (.iload_n 3, 1) := by decide +kernel
theorem dX10_countOf_77 : decode cX10_countOf 77 = .ok (.ireturn, 1) := by decide +kernel
theorem dX10_ruleOf_0 : decode cX10_ruleOf 0 = .ok (.bipush 26, 2) := by decide +kernel
theorem dX10_ruleOf_2 : decode cX10_ruleOf 2 = .ok (.istore_n 3, 1) := by decide +kernel
theorem dX10_ruleOf_3 : decode cX10_ruleOf 3 = .ok (.iload_n 3, 1) := by decide +kernel
theorem dX10_ruleOf_4 : decode cX10_ruleOf 4 = .ok (.bipush 86, 2) := by decide +kernel
theorem dX10_ruleOf_6 : decode cX10_ruleOf 6 = .ok (.if_icmp .ge 40, 3) := by decide +kernel
theorem dX10_ruleOf_9 : decode cX10_ruleOf 9 = .ok (.aload_n 0, 1) := by decide +kernel
theorem dX10_ruleOf_10 : decode cX10_ruleOf 10 = .ok (.iload_n 3, 1) := by decide +kernel
theorem dX10_ruleOf_11 : decode cX10_ruleOf 11 = .ok (.invokevirtual 106, 3) := by decide +kernel
theorem dX10_ruleOf_14 : decode cX10_ruleOf 14 = .ok (.iconst 2, 1) := by decide +kernel
theorem dX10_ruleOf_15 : decode cX10_ruleOf 15 = .ok (.if_icmp .ne 25, 3) := by decide +kernel
theorem dX10_ruleOf_18 : decode cX10_ruleOf 18 = .ok (.aload_n 0, 1) := by decide +kernel
theorem dX10_ruleOf_19 : decode cX10_ruleOf 19 = .ok (.iload_n 3, 1) := by decide +kernel
theorem dX10_ruleOf_20 : decode cX10_ruleOf 20 = .ok (.iconst 0, 1) := by decide +kernel
theorem dX10_ruleOf_21 : decode cX10_ruleOf 21 = .ok (.invokevirtual 113, 3) := by decide +kernel
theorem dX10_ruleOf_24 : decode cX10_ruleOf 24 = .ok (.iload_n 1, 1) := by decide +kernel
theorem dX10_ruleOf_25 : decode cX10_ruleOf 25 = .ok (.if_icmp .ne 15, 3) := by decide +kernel
theorem dX10_ruleOf_28 : decode cX10_ruleOf 28 = .ok (.aload_n 0, 1) := by decide +kernel
theorem dX10_ruleOf_29 : decode cX10_ruleOf 29 = .ok (.iload_n 3, 1) := by decide +kernel
theorem dX10_ruleOf_30 : decode cX10_ruleOf 30 = .ok (.iconst 1, 1) := by decide +kernel
theorem dX10_ruleOf_31 : decode cX10_ruleOf 31 = .ok (.invokevirtual 113, 3) := by decide +kernel
theorem dX10_ruleOf_34 : decode cX10_ruleOf 34 = .ok (.iload_n 2, 1) := by decide +kernel
theorem dX10_ruleOf_35 : decode cX10_ruleOf 35 = .ok (.if_icmp .ne 5, 3) := by decide +kernel
theorem dX10_ruleOf_38 : decode cX10_ruleOf 38 = .ok (.iload_n 3, 1) := by decide +kernel
theorem dX10_ruleOf_39 : decode cX10_ruleOf 39 = .ok (.ireturn, 1) := by decide +kernel
theorem dX10_ruleOf_40 : decode cX10_ruleOf 40 = .ok (.iinc 3 1, 3) := by decide +kernel
theorem dX10_ruleOf_43 : decode cX10_ruleOf 43 = .ok (.goto (-40), 3) := by decide +kernel
theorem dX10_ruleOf_46 : decode cX10_ruleOf 46 = .ok (.iconst (-1), 1) := by decide +kernel
theorem dX10_ruleOf_47 : decode cX10_ruleOf 47 = .ok (.ireturn, 1) := by decide +kernel
theorem dX10_freeSign_0 : decode cX10_freeSign 0 = .ok (.bipush 26, 2) := by decide +kernel
theorem dX10_freeSign_2 : decode cX10_freeSign 2 = .ok (.istore_n 1, 1) := by decide +kernel
theorem dX10_freeSign_3 : decode cX10_freeSign 3 = .ok (.iload_n 1, 1) := by decide +kernel
theorem dX10_freeSign_4 : decode cX10_freeSign 4 = .ok (.bipush 86, 2) := by decide +kernel
theorem dX10_freeSign_6 : decode cX10_freeSign 6 = .ok (.if_icmp .ge 19, 3) := by decide +kernel
theorem dX10_freeSign_9 : decode cX10_freeSign 9 = .ok (.aload_n 0, 1) := by decide +kernel
theorem dX10_freeSign_10 : decode cX10_freeSign 10 = .ok (.iload_n 1, 1) := by decide +kernel
theorem dX10_freeSign_11 : decode cX10_freeSign 11 = .ok (.invokevirtual 106, 3) := by decide +kernel
theorem dX10_freeSign_14 : decode cX10_freeSign 14 = .ok (.ifCond .ne 5, 3) := by decide +kernel
theorem dX10_freeSign_17 : decode cX10_freeSign 17 = .ok (.iload_n 1, 1) := by decide +kernel
theorem dX10_freeSign_18 : decode cX10_freeSign 18 = .ok (.ireturn, 1) := by decide +kernel
theorem dX10_freeSign_19 : decode cX10_freeSign 19 = .ok (.iinc 1 1, 3) := by decide +kernel
theorem dX10_freeSign_22 : decode cX10_freeSign 22 = .ok (.goto (-19), 3) := by decide +kernel
theorem dX10_freeSign_25 : decode cX10_freeSign 25 = .ok (.iconst (-1), 1) := by decide +kernel
theorem dX10_freeSign_26 : decode cX10_freeSign 26 = .ok (.ireturn, 1) := by decide +kernel
theorem dX10_canReplace_0 : decode cX10_canReplace 0 = .ok (.aload_n 0, 1) := by decide +kernel
theorem dX10_canReplace_1 : decode cX10_canReplace 1 = .ok (.iload_n 1, 1) := by decide +kernel
theorem dX10_canReplace_2 : decode cX10_canReplace 2 = .ok (.iload_n 2, 1) := by decide +kernel
theorem dX10_canReplace_3 : decode cX10_canReplace 3 = .ok (.invokevirtual 230, 3) := by decide +kernel
theorem dX10_canReplace_6 : decode cX10_canReplace 6 = .ok (.iconst (-1), 1) := by decide +kernel
theorem dX10_canReplace_7 : decode cX10_canReplace 7 = .ok (.if_icmp .ne 11, 3) := by decide +kernel
theorem dX10_canReplace_10 : decode cX10_canReplace 10 = .ok (.aload_n 0, 1) := by decide +kernel
theorem dX10_canReplace_11 : decode cX10_canReplace 11 = .ok (.invokevirtual 233, 3) := by decide +kernel
theorem dX10_canReplace_14 : decode cX10_canReplace 14 = .ok (.iconst (-1), 1) := by decide +kernel
theorem dX10_canReplace_15 : decode cX10_canReplace 15 = .ok (.if_icmp .eq 7, 3) := by decide +kernel
theorem dX10_canReplace_18 : decode cX10_canReplace 18 = .ok (.iconst 1, 1) := by decide +kernel
theorem dX10_canReplace_19 : decode cX10_canReplace 19 = .ok (.goto 4, 3) := by decide +kernel
theorem dX10_canReplace_22 : decode cX10_canReplace 22 = .ok (.iconst 0, 1) := by decide +kernel
theorem dX10_canReplace_23 : decode cX10_canReplace 23 = .ok (.ireturn, 1) := by decide +kernel
theorem dX10_replaces_0 : decode cX10_replaces 0 = .ok (.aload_n 0, 1) := by decide +kernel
theorem dX10_replaces_1 : decode cX10_replaces 1 = .ok (.iload_n 1, 1) := by decide +kernel
theorem dX10_replaces_2 : decode cX10_replaces 2 = .ok (.iload_n 2, 1) := by decide +kernel
theorem dX10_replaces_3 : decode cX10_replaces 3 = .ok (.invokevirtual 230, 3) := by decide +kernel
theorem dX10_replaces_6 : decode cX10_replaces 6 = .ok (.istore_n 3, 1) := by decide +kernel
theorem dX10_replaces_7 : decode cX10_replaces 7 = .ok (.iload_n 3, 1) := by decide +kernel
theorem dX10_replaces_8 : decode cX10_replaces 8 = .ok (.iconst (-1), 1) := by decide +kernel
theorem dX10_replaces_9 : decode cX10_replaces 9 = .ok (.if_icmp .ne 42, 3) := by decide +kernel
theorem dX10_replaces_12 : decode cX10_replaces 12 = .ok (.aload_n 0, 1) := by decide +kernel
theorem dX10_replaces_13 : decode cX10_replaces 13 = .ok (.invokevirtual 233, 3) := by decide +kernel
theorem dX10_replaces_16 : decode cX10_replaces 16 = .ok (.istore_n 3, 1) := by decide +kernel
theorem dX10_replaces_17 : decode cX10_replaces 17 = .ok (.aload_n 0, 1) := by decide +kernel
theorem dX10_replaces_18 : decode cX10_replaces 18 = .ok (.getfield 13, 3) := by decide +kernel
theorem dX10_replaces_21 : decode cX10_replaces 21 = .ok (.iload_n 3, 1) := by decide +kernel
theorem dX10_replaces_22 : decode cX10_replaces 22 = .ok (.invokestatic 92, 3) := by decide +kernel
theorem dX10_replaces_25 : decode cX10_replaces 25 = .ok (.iconst 2, 1) := by decide +kernel
theorem dX10_replaces_26 : decode cX10_replaces 26 = .ok (.iastore, 1) := by decide +kernel
theorem dX10_replaces_27 : decode cX10_replaces 27 = .ok (.aload_n 0, 1) := by decide +kernel
theorem dX10_replaces_28 : decode cX10_replaces 28 = .ok (.getfield 13, 3) := by decide +kernel
theorem dX10_replaces_31 : decode cX10_replaces 31 = .ok (.iload_n 3, 1) := by decide +kernel
theorem dX10_replaces_32 : decode cX10_replaces 32 = .ok (.invokestatic 92, 3) := by decide +kernel
theorem dX10_replaces_35 : decode cX10_replaces 35 = .ok (.iconst 1, 1) := by decide +kernel
theorem dX10_replaces_36 : decode cX10_replaces 36 = .ok (.iadd, 1) := by decide +kernel
theorem dX10_replaces_37 : decode cX10_replaces 37 = .ok (.iload_n 1, 1) := by decide +kernel
theorem dX10_replaces_38 : decode cX10_replaces 38 = .ok (.iastore, 1) := by decide +kernel
theorem dX10_replaces_39 : decode cX10_replaces 39 = .ok (.aload_n 0, 1) := by decide +kernel
theorem dX10_replaces_40 : decode cX10_replaces 40 = .ok (.getfield 13, 3) := by decide +kernel
theorem dX10_replaces_43 : decode cX10_replaces 43 = .ok (.iload_n 3, 1) := by decide +kernel
theorem dX10_replaces_44 : decode cX10_replaces 44 = .ok (.invokestatic 92, 3) := by decide +kernel
theorem dX10_replaces_47 : decode cX10_replaces 47 = .ok (.iconst 2, 1) := by decide +kernel
theorem dX10_replaces_48 : decode cX10_replaces 48 = .ok (.iadd, 1) := by decide +kernel
theorem dX10_replaces_49 : decode cX10_replaces 49 = .ok (.iload_n 2, 1) := by decide +kernel
theorem dX10_replaces_50 : decode cX10_replaces 50 = .ok (.iastore, 1) := by decide +kernel
theorem dX10_replaces_51 : decode cX10_replaces 51 = .ok (.iconst 0, 1) := by decide +kernel
theorem dX10_replaces_52 : decode cX10_replaces 52 = .ok (.istore 4, 2) := by decide +kernel
theorem dX10_replaces_54 : decode cX10_replaces 54 = .ok (.iconst 0, 1) := by decide +kernel
theorem dX10_replaces_55 : decode cX10_replaces 55 = .ok (.istore 5, 2) := by decide +kernel
theorem dX10_replaces_57 : decode cX10_replaces 57 = .ok (.iload 5, 2) := by decide +kernel
theorem dX10_replaces_59 : decode cX10_replaces 59 = .ok (.aload_n 0, 1) := by decide +kernel
theorem dX10_replaces_60 : decode cX10_replaces 60 = .ok (.invokevirtual 123, 3) := by decide +kernel
theorem dX10_replaces_63 : decode cX10_replaces 63 = .ok (.if_icmp .ge 88, 3) := by decide +kernel
theorem dX10_replaces_66 : decode cX10_replaces 66 = .ok (.iload 5, 2) := by decide +kernel
theorem dX10_replaces_68 : decode cX10_replaces 68 = .ok (.iconst 1, 1) := by decide +kernel
theorem dX10_replaces_69 : decode cX10_replaces 69 = .ok (.iadd, 1) := by decide +kernel
theorem dX10_replaces_70 : decode cX10_replaces 70 = .ok (.aload_n 0, 1) := by decide +kernel
theorem dX10_replaces_71 : decode cX10_replaces 71 = .ok (.invokevirtual 123, 3) := by decide +kernel
theorem dX10_replaces_74 : decode cX10_replaces 74 = .ok (.if_icmp .ge 29, 3) := by decide +kernel
theorem dX10_replaces_77 : decode cX10_replaces 77 = .ok (.aload_n 0, 1) := by decide +kernel
theorem dX10_replaces_78 : decode cX10_replaces 78 = .ok (.iload 5, 2) := by decide +kernel
theorem dX10_replaces_80 : decode cX10_replaces 80 = .ok (.invokevirtual 127, 3) := by decide +kernel
theorem dX10_replaces_83 : decode cX10_replaces 83 = .ok (.iload_n 1, 1) := by decide +kernel
theorem dX10_replaces_84 : decode cX10_replaces 84 = .ok (.if_icmp .ne 19, 3) := by decide +kernel
theorem dX10_replaces_87 : decode cX10_replaces 87 = .ok (.aload_n 0, 1) := by decide +kernel
theorem dX10_replaces_88 : decode cX10_replaces 88 = .ok (.iload 5, 2) := by decide +kernel
theorem dX10_replaces_90 : decode cX10_replaces 90 = .ok (.iconst 1, 1) := by decide +kernel
theorem dX10_replaces_91 : decode cX10_replaces 91 = .ok (.iadd, 1) := by decide +kernel
theorem dX10_replaces_92 : decode cX10_replaces 92 = .ok (.invokevirtual 127, 3) := by decide +kernel
theorem dX10_replaces_95 : decode cX10_replaces 95 = .ok (.iload_n 2, 1) := by decide +kernel
theorem dX10_replaces_96 : decode cX10_replaces 96 = .ok (.if_icmp .ne 7, 3) := by decide +kernel
theorem dX10_replaces_99 : decode cX10_replaces 99 = .ok (.iconst 1, 1) := by decide +kernel
theorem dX10_replaces_100 : decode cX10_replaces 100 = .ok (.goto 4, 3) := by decide +kernel
theorem dX10_replaces_103 : decode cX10_replaces 103 = .ok (.iconst 0, 1) := by decide +kernel
theorem dX10_replaces_104 : decode cX10_replaces 104 = .ok (.istore 6, 2) := by decide +kernel
theorem dX10_replaces_106 : decode cX10_replaces 106 = .ok (.aload_n 0, 1) := by decide +kernel
theorem dX10_replaces_107 : decode cX10_replaces 107 = .ok (.getfield 13, 3) := by decide +kernel
theorem dX10_replaces_110 : decode cX10_replaces 110 = .ok (.iconst 1, 1) := by decide +kernel
theorem dX10_replaces_111 : decode cX10_replaces 111 = .ok (.iload 4, 2) := by decide +kernel
theorem dX10_replaces_113 : decode cX10_replaces 113 = .ok (.iadd, 1) := by decide +kernel
theorem dX10_replaces_114 : decode cX10_replaces 114 = .ok (.iload 6, 2) := by decide +kernel
theorem dX10_replaces_116 : decode cX10_replaces 116 = .ok (.ifCond .eq 7, 3) := by decide +kernel
theorem dX10_replaces_119 : decode cX10_replaces 119 = .ok (.iload_n 3, 1) := by decide +kernel
theorem dX10_replaces_120 : decode cX10_replaces 120 = .ok (.goto 9, 3) := by decide +kernel
theorem dX10_replaces_123 : decode cX10_replaces 123 = .ok (.aload_n 0, 1) := by decide +kernel
theorem dX10_replaces_124 : decode cX10_replaces 124 = .ok (.iload 5, 2) := by decide +kernel
theorem dX10_replaces_126 : decode cX10_replaces 126 = .ok (.invokevirtual 127, 3) := by decide +kernel
theorem dX10_replaces_129 : decode cX10_replaces 129 = .ok (.iastore, 1) := by decide +kernel
theorem dX10_replaces_130 : decode cX10_replaces 130 = .ok (.iinc 4 1, 3) := by decide +kernel
theorem dX10_replaces_133 : decode cX10_replaces 133 = .ok (.iload 5, 2) := by decide +kernel
theorem dX10_replaces_135 : decode cX10_replaces 135 = .ok (.iload 6, 2) := by decide +kernel
theorem dX10_replaces_137 : decode cX10_replaces 137 = .ok (.ifCond .eq 7, 3) := by decide +kernel
theorem dX10_replaces_140 : decode cX10_replaces 140 = .ok (.iconst 2, 1) := by decide +kernel
theorem dX10_replaces_141 : decode cX10_replaces 141 = .ok (.goto 4, 3) := by decide +kernel
theorem dX10_replaces_144 : decode cX10_replaces 144 = .ok (.iconst 1, 1) := by decide +kernel
theorem dX10_replaces_145 : decode cX10_replaces 145 = .ok (.iadd, 1) := by decide +kernel
theorem dX10_replaces_146 : decode cX10_replaces 146 = .ok (.istore 5, 2) := by decide +kernel
theorem dX10_replaces_148 : decode cX10_replaces 148 = .ok (.goto (-91), 3) := by decide +kernel
theorem dX10_replaces_151 : decode cX10_replaces 151 = .ok (.aload_n 0, 1) := by decide +kernel
theorem dX10_replaces_152 : decode cX10_replaces 152 = .ok (.getfield 13, 3) := by decide +kernel
theorem dX10_replaces_155 : decode cX10_replaces 155 = .ok (.iconst 0, 1) := by decide +kernel
theorem dX10_replaces_156 : decode cX10_replaces 156 = .ok (.iload 4, 2) := by decide +kernel
theorem dX10_replaces_158 : decode cX10_replaces 158 = .ok (.iastore, 1) := by decide +kernel
theorem dX10_replaces_159 : decode cX10_replaces 159 = .ok (.iload_n 3, 1) := by decide +kernel
theorem dX10_replaces_160 : decode cX10_replaces 160 = .ok (.ireturn, 1) := by decide +kernel
theorem dX10_laysCounts_0 : decode cX10_laysCounts 0 = .ok (.iconst 0, 1) := by decide +kernel
theorem dX10_laysCounts_1 : decode cX10_laysCounts 1 = .ok (.istore_n 1, 1) := by decide +kernel
theorem dX10_laysCounts_2 : decode cX10_laysCounts 2 = .ok (.iload_n 1, 1) := by decide +kernel
theorem dX10_laysCounts_3 : decode cX10_laysCounts 3 = .ok (.sipush 7396, 3) := by decide +kernel
theorem dX10_laysCounts_6 : decode cX10_laysCounts 6 = .ok (.if_icmp .ge 24, 3) := by decide +kernel
theorem dX10_laysCounts_9 : decode cX10_laysCounts 9 = .ok (.aload_n 0, 1) := by decide +kernel
theorem dX10_laysCounts_10 : decode cX10_laysCounts 10 = .ok (.getfield 76, 3) := by decide +kernel
theorem dX10_laysCounts_13 : decode cX10_laysCounts 13 = .ok (.iload_n 1, 1) := by decide +kernel
theorem dX10_laysCounts_14 : decode cX10_laysCounts 14 = .ok (.iconst 0, 1) := by decide +kernel
theorem dX10_laysCounts_15 : decode cX10_laysCounts 15 = .ok (.iastore, 1) := by decide +kernel
theorem dX10_laysCounts_16 : decode cX10_laysCounts 16 = .ok (.aload_n 0, 1) := by decide +kernel
theorem dX10_laysCounts_17 : decode cX10_laysCounts 17 = .ok (.getfield 79, 3) := by decide +kernel
theorem dX10_laysCounts_20 : decode cX10_laysCounts 20 = .ok (.iload_n 1, 1) := by decide +kernel
theorem dX10_laysCounts_21 : decode cX10_laysCounts 21 = .ok (.bipush (-2), 2) := by decide +kernel
theorem dX10_laysCounts_23 : decode cX10_laysCounts 23 = .ok (.iastore, 1) := by decide +kernel
theorem dX10_laysCounts_24 : decode cX10_laysCounts 24 = .ok (.iinc 1 1, 3) := by decide +kernel
theorem dX10_laysCounts_27 : decode cX10_laysCounts 27 = .ok (.goto (-25), 3) := by decide +kernel
theorem dX10_laysCounts_30 : decode cX10_laysCounts 30 = .ok (.iconst 0, 1) := by decide +kernel
theorem dX10_laysCounts_31 : decode cX10_laysCounts 31 = .ok (.istore_n 1, 1) := by decide +kernel
theorem dX10_laysCounts_32 : decode cX10_laysCounts 32 = .ok (.iconst 0, 1) := by decide +kernel
theorem dX10_laysCounts_33 : decode cX10_laysCounts 33 = .ok (.istore_n 2, 1) := by decide +kernel
theorem dX10_laysCounts_34 : decode cX10_laysCounts 34 = .ok (.iload_n 2, 1) := by decide +kernel
theorem dX10_laysCounts_35 : decode cX10_laysCounts 35 = .ok (.iconst 1, 1) := by decide +kernel
theorem dX10_laysCounts_36 : decode cX10_laysCounts 36 = .ok (.iadd, 1) := by decide +kernel
theorem dX10_laysCounts_37 : decode cX10_laysCounts 37 = .ok (.aload_n 0, 1) := by decide +kernel
theorem dX10_laysCounts_38 : decode cX10_laysCounts 38 = .ok (.invokevirtual 123, 3) := by decide +kernel
theorem dX10_laysCounts_41 : decode cX10_laysCounts 41 = .ok (.if_icmp .ge 75, 3) := by decide +kernel
theorem dX10_laysCounts_44 : decode cX10_laysCounts 44 = .ok (.bipush 86, 2) := by decide +kernel
theorem dX10_laysCounts_46 : decode cX10_laysCounts 46 = .ok (.aload_n 0, 1) := by decide +kernel
theorem dX10_laysCounts_47 : decode cX10_laysCounts 47 = .ok (.iload_n 2, 1) := by decide +kernel
theorem dX10_laysCounts_48 : decode cX10_laysCounts 48 = .ok (.invokevirtual 127, 3) := by decide +kernel
theorem dX10_laysCounts_51 : decode cX10_laysCounts 51 = .ok (.imul, 1) := by decide +kernel
theorem dX10_laysCounts_52 : decode cX10_laysCounts 52 = .ok (.aload_n 0, 1) := by decide +kernel
theorem dX10_laysCounts_53 : decode cX10_laysCounts 53 = .ok (.iload_n 2, 1) := by decide +kernel
theorem dX10_laysCounts_54 : decode cX10_laysCounts 54 = .ok (.iconst 1, 1) := by decide +kernel
theorem dX10_laysCounts_55 : decode cX10_laysCounts 55 = .ok (.iadd, 1) := by decide +kernel
theorem dX10_laysCounts_56 : decode cX10_laysCounts 56 = .ok (.invokevirtual 127, 3) := by decide +kernel
theorem dX10_laysCounts_59 : decode cX10_laysCounts 59 = .ok (.iadd, 1) := by decide +kernel
theorem dX10_laysCounts_60 : decode cX10_laysCounts 60 = .ok (.istore_n 3, 1) := by decide +kernel
theorem dX10_laysCounts_61 : decode cX10_laysCounts 61 = .ok (.aload_n 0, 1) := by decide +kernel
theorem dX10_laysCounts_62 : decode cX10_laysCounts 62 = .ok (.getfield 79, 3) := by decide +kernel
theorem dX10_laysCounts_65 : decode cX10_laysCounts 65 = .ok (.iload_n 3, 1) := by decide +kernel
theorem dX10_laysCounts_66 : decode cX10_laysCounts 66 = .ok (.iaload, 1) := by decide +kernel
theorem dX10_laysCounts_67 : decode cX10_laysCounts 67 = .ok (.iload_n 2, 1) := by decide +kernel
theorem dX10_laysCounts_68 : decode cX10_laysCounts 68 = .ok (.iconst 1, 1) := by decide +kernel
theorem dX10_laysCounts_69 : decode cX10_laysCounts 69 = .ok (.isub, 1) := by decide +kernel
theorem dX10_laysCounts_70 : decode cX10_laysCounts 70 = .ok (.if_icmp .ne 6, 3) := by decide +kernel
theorem dX10_laysCounts_73 : decode cX10_laysCounts 73 = .ok (.goto 37, 3) := by decide +kernel
theorem dX10_laysCounts_76 : decode cX10_laysCounts 76 = .ok (.aload_n 0, 1) := by decide +kernel
theorem dX10_laysCounts_77 : decode cX10_laysCounts 77 = .ok (.getfield 79, 3) := by decide +kernel
theorem dX10_laysCounts_80 : decode cX10_laysCounts 80 = .ok (.iload_n 3, 1) := by decide +kernel
theorem dX10_laysCounts_81 : decode cX10_laysCounts 81 = .ok (.iload_n 2, 1) := by decide +kernel
theorem dX10_laysCounts_82 : decode cX10_laysCounts 82 = .ok (.iastore, 1) := by decide +kernel
theorem dX10_laysCounts_83 : decode cX10_laysCounts 83 = .ok (.iload_n 1, 1) := by decide +kernel
theorem dX10_laysCounts_84 : decode cX10_laysCounts 84 = .ok (.aload_n 0, 1) := by decide +kernel
theorem dX10_laysCounts_85 : decode cX10_laysCounts 85 = .ok (.getfield 76, 3) := by decide +kernel
theorem dX10_laysCounts_88 : decode cX10_laysCounts 88 = .ok (.iload_n 3, 1) := by decide +kernel
theorem dX10_laysCounts_89 : decode cX10_laysCounts 89 = .ok (.iaload, 1) := by decide +kernel
theorem dX10_laysCounts_90 : decode cX10_laysCounts 90 = .ok (.ifCond .ne 7, 3) := by decide +kernel
theorem dX10_laysCounts_93 : decode cX10_laysCounts 93 = .ok (.iconst 1, 1) := by decide +kernel
theorem dX10_laysCounts_94 : decode cX10_laysCounts 94 = .ok (.goto 4, 3) := by decide +kernel
theorem dX10_laysCounts_97 : decode cX10_laysCounts 97 = .ok (.iconst 0, 1) := by decide +kernel
theorem dX10_laysCounts_98 : decode cX10_laysCounts 98 = .ok (.iadd, 1) := by decide +kernel
theorem dX10_laysCounts_99 : decode cX10_laysCounts 99 = .ok (.istore_n 1, 1) := by decide +kernel
theorem dX10_laysCounts_100 : decode cX10_laysCounts 100 = .ok (.aload_n 0, 1) := by decide +kernel
theorem dX10_laysCounts_101 : decode cX10_laysCounts 101 = .ok (.getfield 76, 3) := by decide +kernel
theorem dX10_laysCounts_104 : decode cX10_laysCounts 104 = .ok (.iload_n 3, 1) := by decide +kernel
theorem dX10_laysCounts_105 : decode cX10_laysCounts 105 = .ok (.dup2, 1) := by decide +kernel
theorem dX10_laysCounts_106 : decode cX10_laysCounts 106 = .ok (.iaload, 1) := by decide +kernel
theorem dX10_laysCounts_107 : decode cX10_laysCounts 107 = .ok (.iconst 1, 1) := by decide +kernel
theorem dX10_laysCounts_108 : decode cX10_laysCounts 108 = .ok (.iadd, 1) := by decide +kernel
theorem dX10_laysCounts_109 : decode cX10_laysCounts 109 = .ok (.iastore, 1) := by decide +kernel
theorem dX10_laysCounts_110 : decode cX10_laysCounts 110 = .ok (.iinc 2 1, 3) := by decide +kernel
theorem dX10_laysCounts_113 : decode cX10_laysCounts 113 = .ok (.goto (-79), 3) := by decide +kernel
theorem dX10_laysCounts_116 : decode cX10_laysCounts 116 = .ok (.iload_n 1, 1) := by decide +kernel
theorem dX10_laysCounts_117 : decode cX10_laysCounts 117 = .ok (.ireturn, 1) := by decide +kernel
theorem dX10_picked_0 : decode cX10_picked 0 = .ok (.aload_n 0, 1) := by decide +kernel
theorem dX10_picked_1 : decode cX10_picked 1 = .ok (.invokevirtual 236, 3) := by decide +kernel
theorem dX10_picked_4 : decode cX10_picked 4 = .ok (.istore_n 1, 1) := by decide +kernel
theorem dX10_picked_5 : decode cX10_picked 5 = .ok (.iconst (-1), 1) := by decide +kernel
theorem dX10_picked_6 : decode cX10_picked 6 = .ok (.istore_n 2, 1) := by decide +kernel
theorem dX10_picked_7 : decode cX10_picked 7 = .ok (.iconst 0, 1) := by decide +kernel
theorem dX10_picked_8 : decode cX10_picked 8 = .ok (.istore_n 3, 1) := by decide +kernel
theorem dX10_picked_9 : decode cX10_picked 9 = .ok (.iload_n 3, 1) := by decide +kernel
theorem dX10_picked_10 : decode cX10_picked 10 = .ok (.sipush 7396, 3) := by decide +kernel
theorem dX10_picked_13 : decode cX10_picked 13 = .ok (.if_icmp .ge 41, 3) := by decide +kernel
theorem dX10_picked_16 : decode cX10_picked 16 = .ok (.aload_n 0, 1) := by decide +kernel
theorem dX10_picked_17 : decode cX10_picked 17 = .ok (.getfield 76, 3) := by decide +kernel
theorem dX10_picked_20 : decode cX10_picked 20 = .ok (.iload_n 3, 1) := by decide +kernel
theorem dX10_picked_21 : decode cX10_picked 21 = .ok (.iaload, 1) := by decide +kernel
theorem dX10_picked_22 : decode cX10_picked 22 = .ok (.iconst 1, 1) := by decide +kernel
theorem dX10_picked_23 : decode cX10_picked 23 = .ok (.if_icmp .le 25, 3) := by decide +kernel
theorem dX10_picked_26 : decode cX10_picked 26 = .ok (.iload_n 2, 1) := by decide +kernel
theorem dX10_picked_27 : decode cX10_picked 27 = .ok (.iconst (-1), 1) := by decide +kernel
theorem dX10_picked_28 : decode cX10_picked 28 = .ok (.if_icmp .eq 18, 3) := by decide +kernel
theorem dX10_picked_31 : decode cX10_picked 31 = .ok (.aload_n 0, 1) := by decide +kernel
theorem dX10_picked_32 : decode cX10_picked 32 = .ok (.getfield 76, 3) := by decide +kernel
theorem dX10_picked_35 : decode cX10_picked 35 = .ok (.iload_n 3, 1) := by decide +kernel
theorem dX10_picked_36 : decode cX10_picked 36 = .ok (.iaload, 1) := by decide +kernel
theorem dX10_picked_37 : decode cX10_picked 37 = .ok (.aload_n 0, 1) := by decide +kernel
theorem dX10_picked_38 : decode cX10_picked 38 = .ok (.getfield 76, 3) := by decide +kernel
theorem dX10_picked_41 : decode cX10_picked 41 = .ok (.iload_n 2, 1) := by decide +kernel
theorem dX10_picked_42 : decode cX10_picked 42 = .ok (.iaload, 1) := by decide +kernel
theorem dX10_picked_43 : decode cX10_picked 43 = .ok (.if_icmp .le 5, 3) := by decide +kernel
theorem dX10_picked_46 : decode cX10_picked 46 = .ok (.iload_n 3, 1) := by decide +kernel
theorem dX10_picked_47 : decode cX10_picked 47 = .ok (.istore_n 2, 1) := by decide +kernel
theorem dX10_picked_48 : decode cX10_picked 48 = .ok (.iinc 3 1, 3) := by decide +kernel
theorem dX10_picked_51 : decode cX10_picked 51 = .ok (.goto (-42), 3) := by decide +kernel
theorem dX10_picked_54 : decode cX10_picked 54 = .ok (.iload_n 2, 1) := by decide +kernel
theorem dX10_picked_55 : decode cX10_picked 55 = .ok (.ireturn, 1) := by decide +kernel
theorem dX10_step_0 : decode cX10_step 0 = .ok (.aload_n 0, 1) := by decide +kernel
theorem dX10_step_1 : decode cX10_step 1 = .ok (.iconst 0, 1) := by decide +kernel
theorem dX10_step_2 : decode cX10_step 2 = .ok (.putfield 1, 3) := by decide +kernel
theorem dX10_step_5 : decode cX10_step 5 = .ok (.aload_n 0, 1) := by decide +kernel
theorem dX10_step_6 : decode cX10_step 6 = .ok (.invokevirtual 239, 3) := by decide +kernel
theorem dX10_step_9 : decode cX10_step 9 = .ok (.istore_n 1, 1) := by decide +kernel
theorem dX10_step_10 : decode cX10_step 10 = .ok (.iload_n 1, 1) := by decide +kernel
theorem dX10_step_11 : decode cX10_step 11 = .ok (.iconst (-1), 1) := by decide +kernel
theorem dX10_step_12 : decode cX10_step 12 = .ok (.if_icmp .ne 5, 3) := by decide +kernel
theorem dX10_step_15 : decode cX10_step 15 = .ok (.iconst (-1), 1) := by decide +kernel
theorem dX10_step_16 : decode cX10_step 16 = .ok (.ireturn, 1) := by decide +kernel
theorem dX10_step_17 : decode cX10_step 17 = .ok (.aload_n 0, 1) := by decide +kernel
theorem dX10_step_18 : decode cX10_step 18 = .ok (.iload_n 1, 1) := by decide +kernel
theorem dX10_step_19 : decode cX10_step 19 = .ok (.bipush 86, 2) := by decide +kernel
theorem dX10_step_21 : decode cX10_step 21 = .ok (.idiv, 1) := by decide +kernel
theorem dX10_step_22 : decode cX10_step 22 = .ok (.iload_n 1, 1) := by decide +kernel
theorem dX10_step_23 : decode cX10_step 23 = .ok (.bipush 86, 2) := by decide +kernel
theorem dX10_step_25 : decode cX10_step 25 = .ok (.irem, 1) := by decide +kernel
theorem dX10_step_26 : decode cX10_step 26 = .ok (.invokevirtual 242, 3) := by decide +kernel
theorem dX10_step_29 : decode cX10_step 29 = .ok (.ifCond .ne 6, 3) := by decide +kernel
theorem dX10_step_32 : decode cX10_step 32 = .ok (.bipush (-4), 2) := by decide +kernel
theorem dX10_step_34 : decode cX10_step 34 = .ok (.ireturn, 1) := by decide +kernel
theorem dX10_step_35 : decode cX10_step 35 = .ok (.aload_n 0, 1) := by decide +kernel
theorem dX10_step_36 : decode cX10_step 36 = .ok (.invokevirtual 171, 3) := by decide +kernel
theorem dX10_step_39 : decode cX10_step 39 = .ok (.aload_n 0, 1) := by decide +kernel
theorem dX10_step_40 : decode cX10_step 40 = .ok (.iload_n 1, 1) := by decide +kernel
theorem dX10_step_41 : decode cX10_step 41 = .ok (.bipush 86, 2) := by decide +kernel
theorem dX10_step_43 : decode cX10_step 43 = .ok (.idiv, 1) := by decide +kernel
theorem dX10_step_44 : decode cX10_step 44 = .ok (.iload_n 1, 1) := by decide +kernel
theorem dX10_step_45 : decode cX10_step 45 = .ok (.bipush 86, 2) := by decide +kernel
theorem dX10_step_47 : decode cX10_step 47 = .ok (.irem, 1) := by decide +kernel
theorem dX10_step_48 : decode cX10_step 48 = .ok (.invokevirtual 246, 3) := by decide +kernel
theorem dX10_step_51 : decode cX10_step 51 = .ok (.ireturn, 1) := by decide +kernel
theorem dX10_pack_0 : decode cX10_pack 0 = .ok (.aload_n 0, 1) := by decide +kernel
theorem dX10_pack_1 : decode cX10_pack 1 = .ok (.iconst 0, 1) := by decide +kernel
theorem dX10_pack_2 : decode cX10_pack 2 = .ok (.putfield 1, 3) := by decide +kernel
theorem dX10_pack_5 : decode cX10_pack 5 = .ok (.aload_n 0, 1) := by decide +kernel
theorem dX10_pack_6 : decode cX10_pack 6 = .ok (.invokevirtual 171, 3) := by decide +kernel
theorem dX10_pack_9 : decode cX10_pack 9 = .ok (.iconst 0, 1) := by decide +kernel
theorem dX10_pack_10 : decode cX10_pack 10 = .ok (.istore_n 1, 1) := by decide +kernel
theorem dX10_pack_11 : decode cX10_pack 11 = .ok (.aload_n 0, 1) := by decide +kernel
theorem dX10_pack_12 : decode cX10_pack 12 = .ok (.invokevirtual 239, 3) := by decide +kernel
theorem dX10_pack_15 : decode cX10_pack 15 = .ok (.istore_n 2, 1) := by decide +kernel
theorem dX10_pack_16 : decode cX10_pack 16 = .ok (.iload_n 2, 1) := by decide +kernel
theorem dX10_pack_17 : decode cX10_pack 17 = .ok (.iconst (-1), 1) := by decide +kernel
theorem dX10_pack_18 : decode cX10_pack 18 = .ok (.if_icmp .eq 42, 3) := by decide +kernel
theorem dX10_pack_21 : decode cX10_pack 21 = .ok (.aload_n 0, 1) := by decide +kernel
theorem dX10_pack_22 : decode cX10_pack 22 = .ok (.iload_n 2, 1) := by decide +kernel
theorem dX10_pack_23 : decode cX10_pack 23 = .ok (.bipush 86, 2) := by decide +kernel
theorem dX10_pack_25 : decode cX10_pack 25 = .ok (.idiv, 1) := by decide +kernel
theorem dX10_pack_26 : decode cX10_pack 26 = .ok (.iload_n 2, 1) := by decide +kernel
theorem dX10_pack_27 : decode cX10_pack 27 = .ok (.bipush 86, 2) := by decide +kernel
theorem dX10_pack_29 : decode cX10_pack 29 = .ok (.irem, 1) := by decide +kernel
theorem dX10_pack_30 : decode cX10_pack 30 = .ok (.invokevirtual 242, 3) := by decide +kernel
theorem dX10_pack_33 : decode cX10_pack 33 = .ok (.ifCond .eq 27, 3) := by decide +kernel
theorem dX10_pack_36 : decode cX10_pack 36 = .ok (.aload_n 0, 1) := by decide +kernel
theorem dX10_pack_37 : decode cX10_pack 37 = .ok (.iload_n 2, 1) := by decide +kernel
theorem dX10_pack_38 : decode cX10_pack 38 = .ok (.bipush 86, 2) := by decide +kernel
theorem dX10_pack_40 : decode cX10_pack 40 = .ok (.idiv, 1) := by decide +kernel
theorem dX10_pack_41 : decode cX10_pack 41 = .ok (.iload_n 2, 1) := by decide +kernel
theorem dX10_pack_42 : decode cX10_pack 42 = .ok (.bipush 86, 2) := by decide +kernel
theorem dX10_pack_44 : decode cX10_pack 44 = .ok (.irem, 1) := by decide +kernel
theorem dX10_pack_45 : decode cX10_pack 45 = .ok (.invokevirtual 246, 3) := by decide +kernel
theorem dX10_pack_48 : decode cX10_pack 48 = .ok (.istore_n 3, 1) := by decide +kernel
theorem dX10_pack_49 : decode cX10_pack 49 = .ok (.iinc 1 1, 3) := by decide +kernel
theorem dX10_pack_52 : decode cX10_pack 52 = .ok (.aload_n 0, 1) := by decide +kernel
theorem dX10_pack_53 : decode cX10_pack 53 = .ok (.invokevirtual 239, 3) := by decide +kernel
theorem dX10_pack_56 : decode cX10_pack 56 = .ok (.istore_n 2, 1) := by decide +kernel
theorem dX10_pack_57 : decode cX10_pack 57 = .ok (.goto (-41), 3) := by decide +kernel
theorem dX10_pack_60 : decode cX10_pack 60 = .ok (.iload_n 1, 1) := by decide +kernel
theorem dX10_pack_61 : decode cX10_pack 61 = .ok (.ireturn, 1) := by decide +kernel
theorem dX10_replace_0 : decode cX10_replace 0 = .ok (.aload_n 0, 1) := by decide +kernel
theorem dX10_replace_1 : decode cX10_replace 1 = .ok (.iconst 0, 1) := by decide +kernel
theorem dX10_replace_2 : decode cX10_replace 2 = .ok (.putfield 1, 3) := by decide +kernel
theorem dX10_replace_5 : decode cX10_replace 5 = .ok (.aload_n 0, 1) := by decide +kernel
theorem dX10_replace_6 : decode cX10_replace 6 = .ok (.iload_n 1, 1) := by decide +kernel
theorem dX10_replace_7 : decode cX10_replace 7 = .ok (.invokevirtual 210, 3) := by decide +kernel
theorem dX10_replace_10 : decode cX10_replace 10 = .ok (.ifCond .eq 11, 3) := by decide +kernel
theorem dX10_replace_13 : decode cX10_replace 13 = .ok (.aload_n 0, 1) := by decide +kernel
theorem dX10_replace_14 : decode cX10_replace 14 = .ok (.iload_n 2, 1) := by decide +kernel
theorem dX10_replace_15 : decode cX10_replace 15 = .ok (.invokevirtual 210, 3) := by decide +kernel
theorem dX10_replace_18 : decode cX10_replace 18 = .ok (.ifCond .ne 6, 3) := by decide +kernel
theorem dX10_replace_21 : decode cX10_replace 21 = .ok (.bipush (-2), 2) := by decide +kernel
theorem dX10_replace_23 : decode cX10_replace 23 = .ok (.ireturn, 1) := by decide +kernel
theorem dX10_replace_24 : decode cX10_replace 24 = .ok (.aload_n 0, 1) := by decide +kernel
theorem dX10_replace_25 : decode cX10_replace 25 = .ok (.iload_n 1, 1) := by decide +kernel
theorem dX10_replace_26 : decode cX10_replace 26 = .ok (.iload_n 2, 1) := by decide +kernel
theorem dX10_replace_27 : decode cX10_replace 27 = .ok (.invokevirtual 249, 3) := by decide +kernel
theorem dX10_replace_30 : decode cX10_replace 30 = .ok (.ifCond .ne 6, 3) := by decide +kernel
theorem dX10_replace_33 : decode cX10_replace 33 = .ok (.bipush (-5), 2) := by decide +kernel
theorem dX10_replace_35 : decode cX10_replace 35 = .ok (.ireturn, 1) := by decide +kernel
theorem dX10_replace_36 : decode cX10_replace 36 = .ok (.aload_n 0, 1) := by decide +kernel
theorem dX10_replace_37 : decode cX10_replace 37 = .ok (.iload_n 1, 1) := by decide +kernel
theorem dX10_replace_38 : decode cX10_replace 38 = .ok (.iload_n 2, 1) := by decide +kernel
theorem dX10_replace_39 : decode cX10_replace 39 = .ok (.invokevirtual 242, 3) := by decide +kernel
theorem dX10_replace_42 : decode cX10_replace 42 = .ok (.ifCond .ne 6, 3) := by decide +kernel
theorem dX10_replace_45 : decode cX10_replace 45 = .ok (.bipush (-4), 2) := by decide +kernel
theorem dX10_replace_47 : decode cX10_replace 47 = .ok (.ireturn, 1) := by decide +kernel
theorem dX10_replace_48 : decode cX10_replace 48 = .ok (.aload_n 0, 1) := by decide +kernel
theorem dX10_replace_49 : decode cX10_replace 49 = .ok (.invokevirtual 171, 3) := by decide +kernel
theorem dX10_replace_52 : decode cX10_replace 52 = .ok (.aload_n 0, 1) := by decide +kernel
theorem dX10_replace_53 : decode cX10_replace 53 = .ok (.iload_n 1, 1) := by decide +kernel
theorem dX10_replace_54 : decode cX10_replace 54 = .ok (.iload_n 2, 1) := by decide +kernel
theorem dX10_replace_55 : decode cX10_replace 55 = .ok (.invokevirtual 246, 3) := by decide +kernel
theorem dX10_replace_58 : decode cX10_replace 58 = .ok (.ireturn, 1) := by decide +kernel
theorem dX10_inSequence_0 : decode cX10_inSequence 0 = .ok (.iconst 0, 1) := by decide +kernel
theorem dX10_inSequence_1 : decode cX10_inSequence 1 = .ok (.istore_n 2, 1) := by decide +kernel
theorem dX10_inSequence_2 : decode cX10_inSequence 2 = .ok (.iconst 0, 1) := by decide +kernel
theorem dX10_inSequence_3 : decode cX10_inSequence 3 = .ok (.istore_n 3, 1) := by decide +kernel
theorem dX10_inSequence_4 : decode cX10_inSequence 4 = .ok (.iload_n 3, 1) := by decide +kernel
theorem dX10_inSequence_5 : decode cX10_inSequence 5 = .ok (.aload_n 0, 1) := by decide +kernel
theorem dX10_inSequence_6 : decode cX10_inSequence 6 = .ok (.invokevirtual 123, 3) := by decide +kernel
theorem dX10_inSequence_9 : decode cX10_inSequence 9 = .ok (.if_icmp .ge 26, 3) := by decide +kernel
theorem dX10_inSequence_12 : decode cX10_inSequence 12 = .ok (.iload_n 2, 1) := by decide +kernel
theorem dX10_inSequence_13 : decode cX10_inSequence 13 = .ok (.aload_n 0, 1) := by decide +kernel
theorem dX10_inSequence_14 : decode cX10_inSequence 14 = .ok (.iload_n 3, 1) := by decide +kernel
theorem dX10_inSequence_15 : decode cX10_inSequence 15 = .ok (.invokevirtual 127, 3) := by decide +kernel
theorem dX10_inSequence_18 : decode cX10_inSequence 18 = .ok (.iload_n 1, 1) := by decide +kernel
theorem dX10_inSequence_19 : decode cX10_inSequence 19 = .ok (.if_icmp .ne 7, 3) := by decide +kernel
theorem dX10_inSequence_22 : decode cX10_inSequence 22 = .ok (.iconst 1, 1) := by decide +kernel
theorem dX10_inSequence_23 : decode cX10_inSequence 23 = .ok (.goto 4, 3) := by decide +kernel
theorem dX10_inSequence_26 : decode cX10_inSequence 26 = .ok (.iconst 0, 1) := by decide +kernel
theorem dX10_inSequence_27 : decode cX10_inSequence 27 = .ok (.iadd, 1) := by decide +kernel
theorem dX10_inSequence_28 : decode cX10_inSequence 28 = .ok (.istore_n 2, 1) := by decide +kernel
theorem dX10_inSequence_29 : decode cX10_inSequence 29 = .ok (.iinc 3 1, 3) := by decide +kernel
theorem dX10_inSequence_32 : decode cX10_inSequence 32 = .ok (.goto (-28), 3) := by decide +kernel
theorem dX10_inSequence_35 : decode cX10_inSequence 35 = .ok (.iload_n 2, 1) := by decide +kernel
theorem dX10_inSequence_36 : decode cX10_inSequence 36 = .ok (.ireturn, 1) := by decide +kernel
theorem dX10_timesIn_0 : decode cX10_timesIn 0 = .ok (.iconst 0, 1) := by decide +kernel
theorem dX10_timesIn_1 : decode cX10_timesIn 1 = .ok (.istore_n 3, 1) := by decide +kernel
theorem dX10_timesIn_2 : decode cX10_timesIn 2 = .ok (.iconst 0, 1) := by decide +kernel
theorem dX10_timesIn_3 : decode cX10_timesIn 3 = .ok (.istore 4, 2) := by decide +kernel
theorem dX10_timesIn_5 : decode cX10_timesIn 5 = .ok (.iload 4, 2) := by decide +kernel
theorem dX10_timesIn_7 : decode cX10_timesIn 7 = .ok (.aload_n 0, 1) := by decide +kernel
theorem dX10_timesIn_8 : decode cX10_timesIn 8 = .ok (.iload_n 1, 1) := by decide +kernel
theorem dX10_timesIn_9 : decode cX10_timesIn 9 = .ok (.invokevirtual 106, 3) := by decide +kernel
theorem dX10_timesIn_12 : decode cX10_timesIn 12 = .ok (.if_icmp .ge 28, 3) := by decide +kernel
theorem dX10_timesIn_15 : decode cX10_timesIn 15 = .ok (.iload_n 3, 1) := by decide +kernel
theorem dX10_timesIn_16 : decode cX10_timesIn 16 = .ok (.aload_n 0, 1) := by decide +kernel
theorem dX10_timesIn_17 : decode cX10_timesIn 17 = .ok (.iload_n 1, 1) := by decide +kernel
theorem dX10_timesIn_18 : decode cX10_timesIn 18 = .ok (.iload 4, 2) := by decide +kernel
theorem dX10_timesIn_20 : decode cX10_timesIn 20 = .ok (.invokevirtual 113, 3) := by decide +kernel
theorem dX10_timesIn_23 : decode cX10_timesIn 23 = .ok (.iload_n 2, 1) := by decide +kernel
theorem dX10_timesIn_24 : decode cX10_timesIn 24 = .ok (.if_icmp .ne 7, 3) := by decide +kernel
theorem dX10_timesIn_27 : decode cX10_timesIn 27 = .ok (.iconst 1, 1) := by decide +kernel
theorem dX10_timesIn_28 : decode cX10_timesIn 28 = .ok (.goto 4, 3) := by decide +kernel
theorem dX10_timesIn_31 : decode cX10_timesIn 31 = .ok (.iconst 0, 1) := by decide +kernel
theorem dX10_timesIn_32 : decode cX10_timesIn 32 = .ok (.iadd, 1) := by decide +kernel
theorem dX10_timesIn_33 : decode cX10_timesIn 33 = .ok (.istore_n 3, 1) := by decide +kernel
theorem dX10_timesIn_34 : decode cX10_timesIn 34 = .ok (.iinc 4 1, 3) := by decide +kernel
theorem dX10_timesIn_37 : decode cX10_timesIn 37 = .ok (.goto (-32), 3) := by decide +kernel
theorem dX10_timesIn_40 : decode cX10_timesIn 40 = .ok (.iload_n 3, 1) := by decide +kernel
theorem dX10_timesIn_41 : decode cX10_timesIn 41 = .ok (.ireturn, 1) := by decide +kernel
theorem dX10_usesOf_0 : decode cX10_usesOf 0 = .ok (.aload_n 0, 1) := by decide +kernel
theorem dX10_usesOf_1 : decode cX10_usesOf 1 = .ok (.iload_n 1, 1) := by decide +kernel
theorem dX10_usesOf_2 : decode cX10_usesOf 2 = .ok (.invokevirtual 192, 3) := by decide +kernel
theorem dX10_usesOf_5 : decode cX10_usesOf 5 = .ok (.istore_n 2, 1) := by decide +kernel
theorem dX10_usesOf_6 : decode cX10_usesOf 6 = .ok (.bipush 26, 2) := by decide +kernel
theorem dX10_usesOf_8 : decode cX10_usesOf 8 = .ok (.istore_n 3, 1) := by decide +kernel
theorem dX10_usesOf_9 : decode cX10_usesOf 9 = .ok (.iload_n 3, 1) := by decide +kernel
theorem dX10_usesOf_10 : decode cX10_usesOf 10 = .ok (.bipush 86, 2) := by decide +kernel
theorem dX10_usesOf_12 : decode cX10_usesOf 12 = .ok (.if_icmp .ge 18, 3) := by decide +kernel
theorem dX10_usesOf_15 : decode cX10_usesOf 15 = .ok (.iload_n 2, 1) := by decide +kernel
theorem dX10_usesOf_16 : decode cX10_usesOf 16 = .ok (.aload_n 0, 1) := by decide +kernel
theorem dX10_usesOf_17 : decode cX10_usesOf 17 = .ok (.iload_n 3, 1) := by decide +kernel
theorem dX10_usesOf_18 : decode cX10_usesOf 18 = .ok (.iload_n 1, 1) := by decide +kernel
theorem dX10_usesOf_19 : decode cX10_usesOf 19 = .ok (.invokevirtual 252, 3) := by decide +kernel
theorem dX10_usesOf_22 : decode cX10_usesOf 22 = .ok (.iadd, 1) := by decide +kernel
theorem dX10_usesOf_23 : decode cX10_usesOf 23 = .ok (.istore_n 2, 1) := by decide +kernel
theorem dX10_usesOf_24 : decode cX10_usesOf 24 = .ok (.iinc 3 1, 3) := by decide +kernel
theorem dX10_usesOf_27 : decode cX10_usesOf 27 = .ok (.goto (-18), 3) := by decide +kernel
theorem dX10_usesOf_30 : decode cX10_usesOf 30 = .ok (.iload_n 2, 1) := by decide +kernel
theorem dX10_usesOf_31 : decode cX10_usesOf 31 = .ok (.ireturn, 1) := by decide +kernel
theorem dX10_canGo_0 : decode cX10_canGo 0 = .ok (.bipush 26, 2) := by decide +kernel
theorem dX10_canGo_2 : decode cX10_canGo 2 = .ok (.istore_n 2, 1) := by decide +kernel
theorem dX10_canGo_3 : decode cX10_canGo 3 = .ok (.iload_n 2, 1) := by decide +kernel
theorem dX10_canGo_4 : decode cX10_canGo 4 = .ok (.bipush 86, 2) := by decide +kernel
theorem dX10_canGo_6 : decode cX10_canGo 6 = .ok (.if_icmp .ge 45, 3) := by decide +kernel
theorem dX10_canGo_9 : decode cX10_canGo 9 = .ok (.aload_n 0, 1) := by decide +kernel
theorem dX10_canGo_10 : decode cX10_canGo 10 = .ok (.iload_n 2, 1) := by decide +kernel
theorem dX10_canGo_11 : decode cX10_canGo 11 = .ok (.iload_n 1, 1) := by decide +kernel
theorem dX10_canGo_12 : decode cX10_canGo 12 = .ok (.invokevirtual 252, 3) := by decide +kernel
theorem dX10_canGo_15 : decode cX10_canGo 15 = .ok (.ifCond .le 30, 3) := by decide +kernel
theorem dX10_canGo_18 : decode cX10_canGo 18 = .ok (.aload_n 0, 1) := by decide +kernel
theorem dX10_canGo_19 : decode cX10_canGo 19 = .ok (.iload_n 2, 1) := by decide +kernel
theorem dX10_canGo_20 : decode cX10_canGo 20 = .ok (.invokevirtual 106, 3) := by decide +kernel
theorem dX10_canGo_23 : decode cX10_canGo 23 = .ok (.aload_n 0, 1) := by decide +kernel
theorem dX10_canGo_24 : decode cX10_canGo 24 = .ok (.iload_n 2, 1) := by decide +kernel
theorem dX10_canGo_25 : decode cX10_canGo 25 = .ok (.iload_n 1, 1) := by decide +kernel
theorem dX10_canGo_26 : decode cX10_canGo 26 = .ok (.invokevirtual 252, 3) := by decide +kernel
theorem dX10_canGo_29 : decode cX10_canGo 29 = .ok (.aload_n 0, 1) := by decide +kernel
theorem dX10_canGo_30 : decode cX10_canGo 30 = .ok (.iload_n 1, 1) := by decide +kernel
theorem dX10_canGo_31 : decode cX10_canGo 31 = .ok (.invokevirtual 106, 3) := by decide +kernel
theorem dX10_canGo_34 : decode cX10_canGo 34 = .ok (.iconst 1, 1) := by decide +kernel
theorem dX10_canGo_35 : decode cX10_canGo 35 = .ok (.isub, 1) := by decide +kernel
theorem dX10_canGo_36 : decode cX10_canGo 36 = .ok (.imul, 1) := by decide +kernel
theorem dX10_canGo_37 : decode cX10_canGo 37 = .ok (.iadd, 1) := by decide +kernel
theorem dX10_canGo_38 : decode cX10_canGo 38 = .ok (.bipush 12, 2) := by decide +kernel
theorem dX10_canGo_40 : decode cX10_canGo 40 = .ok (.if_icmp .le 5, 3) := by decide +kernel
theorem dX10_canGo_43 : decode cX10_canGo 43 = .ok (.iconst 0, 1) := by decide +kernel
theorem dX10_canGo_44 : decode cX10_canGo 44 = .ok (.ireturn, 1) := by decide +kernel
theorem dX10_canGo_45 : decode cX10_canGo 45 = .ok (.iinc 2 1, 3) := by decide +kernel
theorem dX10_canGo_48 : decode cX10_canGo 48 = .ok (.goto (-45), 3) := by decide +kernel
theorem dX10_canGo_51 : decode cX10_canGo 51 = .ok (.iconst 1, 1) := by decide +kernel
theorem dX10_canGo_52 : decode cX10_canGo 52 = .ok (.ireturn, 1) := by decide +kernel
theorem dX10_puts_0 : decode cX10_puts 0 = .ok (.iconst 0, 1) := by decide +kernel
theorem dX10_puts_1 : decode cX10_puts 1 = .ok (.istore 4, 2) := by decide +kernel
theorem dX10_puts_3 : decode cX10_puts 3 = .ok (.iconst 0, 1) := by decide +kernel
theorem dX10_puts_4 : decode cX10_puts 4 = .ok (.istore 5, 2) := by decide +kernel
theorem dX10_puts_6 : decode cX10_puts 6 = .ok (.iload 5, 2) := by decide +kernel
theorem dX10_puts_8 : decode cX10_puts 8 = .ok (.iload_n 2, 1) := by decide +kernel
theorem dX10_puts_9 : decode cX10_puts 9 = .ok (.if_icmp .ge 80, 3) := by decide +kernel
theorem dX10_puts_12 : decode cX10_puts 12 = .ok (.aload_n 0, 1) := by decide +kernel
theorem dX10_puts_13 : decode cX10_puts 13 = .ok (.getfield 13, 3) := by decide +kernel
theorem dX10_puts_16 : decode cX10_puts 16 = .ok (.iload_n 1, 1) := by decide +kernel
theorem dX10_puts_17 : decode cX10_puts 17 = .ok (.iload 5, 2) := by decide +kernel
theorem dX10_puts_19 : decode cX10_puts 19 = .ok (.iadd, 1) := by decide +kernel
theorem dX10_puts_20 : decode cX10_puts 20 = .ok (.iaload, 1) := by decide +kernel
theorem dX10_puts_21 : decode cX10_puts 21 = .ok (.iload_n 3, 1) := by decide +kernel
theorem dX10_puts_22 : decode cX10_puts 22 = .ok (.if_icmp .eq 25, 3) := by decide +kernel
theorem dX10_puts_25 : decode cX10_puts 25 = .ok (.aload_n 0, 1) := by decide +kernel
theorem dX10_puts_26 : decode cX10_puts 26 = .ok (.getfield 82, 3) := by decide +kernel
theorem dX10_puts_29 : decode cX10_puts 29 = .ok (.iload 4, 2) := by decide +kernel
theorem dX10_puts_31 : decode cX10_puts 31 = .ok (.aload_n 0, 1) := by decide +kernel
theorem dX10_puts_32 : decode cX10_puts 32 = .ok (.getfield 13, 3) := by decide +kernel
theorem dX10_puts_35 : decode cX10_puts 35 = .ok (.iload_n 1, 1) := by decide +kernel
theorem dX10_puts_36 : decode cX10_puts 36 = .ok (.iload 5, 2) := by decide +kernel
theorem dX10_puts_38 : decode cX10_puts 38 = .ok (.iadd, 1) := by decide +kernel
theorem dX10_puts_39 : decode cX10_puts 39 = .ok (.iaload, 1) := by decide +kernel
theorem dX10_puts_40 : decode cX10_puts 40 = .ok (.iastore, 1) := by decide +kernel
theorem dX10_puts_41 : decode cX10_puts 41 = .ok (.iinc 4 1, 3) := by decide +kernel
theorem dX10_puts_44 : decode cX10_puts 44 = .ok (.goto 39, 3) := by decide +kernel
theorem dX10_puts_47 : decode cX10_puts 47 = .ok (.iconst 0, 1) := by decide +kernel
theorem dX10_puts_48 : decode cX10_puts 48 = .ok (.istore 6, 2) := by decide +kernel
theorem dX10_puts_50 : decode cX10_puts 50 = .ok (.iload 6, 2) := by decide +kernel
theorem dX10_puts_52 : decode cX10_puts 52 = .ok (.aload_n 0, 1) := by decide +kernel
theorem dX10_puts_53 : decode cX10_puts 53 = .ok (.iload_n 3, 1) := by decide +kernel
theorem dX10_puts_54 : decode cX10_puts 54 = .ok (.invokevirtual 106, 3) := by decide +kernel
theorem dX10_puts_57 : decode cX10_puts 57 = .ok (.if_icmp .ge 26, 3) := by decide +kernel
theorem dX10_puts_60 : decode cX10_puts 60 = .ok (.aload_n 0, 1) := by decide +kernel
theorem dX10_puts_61 : decode cX10_puts 61 = .ok (.getfield 82, 3) := by decide +kernel
theorem dX10_puts_64 : decode cX10_puts 64 = .ok (.iload 4, 2) := by decide +kernel
theorem dX10_puts_66 : decode cX10_puts 66 = .ok (.aload_n 0, 1) := by decide +kernel
theorem dX10_puts_67 : decode cX10_puts 67 = .ok (.iload_n 3, 1) := by decide +kernel
theorem dX10_puts_68 : decode cX10_puts 68 = .ok (.iload 6, 2) := by decide +kernel
theorem dX10_puts_70 : decode cX10_puts 70 = .ok (.invokevirtual 113, 3) := by decide +kernel
theorem dX10_puts_73 : decode cX10_puts 73 = .ok (.iastore, 1) := by decide +kernel
theorem dX10_puts_74 : decode cX10_puts 74 = .ok (.iinc 4 1, 3) := by decide +kernel
theorem dX10_puts_77 : decode cX10_puts 77 = .ok (.iinc 6 1, 3) := by decide +kernel
theorem dX10_puts_80 : decode cX10_puts 80 = .ok (.goto (-30), 3) := by decide +kernel
theorem dX10_puts_83 : decode cX10_puts 83 = .ok (.iinc 5 1, 3) := by decide +kernel
theorem dX10_puts_86 : decode cX10_puts 86 = .ok (.goto (-80), 3) := by decide +kernel
theorem dX10_puts_89 : decode cX10_puts 89 = .ok (.aload_n 0, 1) := by decide +kernel
theorem dX10_puts_90 : decode cX10_puts 90 = .ok (.getfield 82, 3) := by decide +kernel
theorem dX10_puts_93 : decode cX10_puts 93 = .ok (.iconst 0, 1) := by decide +kernel
theorem dX10_puts_94 : decode cX10_puts 94 = .ok (.aload_n 0, 1) := by decide +kernel
theorem dX10_puts_95 : decode cX10_puts 95 = .ok (.getfield 13, 3) := by decide +kernel
theorem dX10_puts_98 : decode cX10_puts 98 = .ok (.iload_n 1, 1) := by decide +kernel
theorem dX10_puts_99 : decode cX10_puts 99 = .ok (.iload 4, 2) := by decide +kernel
theorem dX10_puts_101 : decode cX10_puts 101 = .ok (.invokestatic 88, 3) := by decide +kernel
theorem dX10_puts_104 : decode cX10_puts 104 = .ok (.iload 4, 2) := by decide +kernel
theorem dX10_puts_106 : decode cX10_puts 106 = .ok (.ireturn, 1) := by decide +kernel
theorem dX10_drops_0 : decode cX10_drops 0 = .ok (.aload_n 0, 1) := by decide +kernel
theorem dX10_drops_1 : decode cX10_drops 1 = .ok (.getfield 13, 3) := by decide +kernel
theorem dX10_drops_4 : decode cX10_drops 4 = .ok (.iconst 0, 1) := by decide +kernel
theorem dX10_drops_5 : decode cX10_drops 5 = .ok (.aload_n 0, 1) := by decide +kernel
theorem dX10_drops_6 : decode cX10_drops 6 = .ok (.iconst 1, 1) := by decide +kernel
theorem dX10_drops_7 : decode cX10_drops 7 = .ok (.aload_n 0, 1) := by decide +kernel
theorem dX10_drops_8 : decode cX10_drops 8 = .ok (.invokevirtual 123, 3) := by decide +kernel
theorem dX10_drops_11 : decode cX10_drops 11 = .ok (.iload_n 1, 1) := by decide +kernel
theorem dX10_drops_12 : decode cX10_drops 12 = .ok (.invokevirtual 255, 3) := by decide +kernel
theorem dX10_drops_15 : decode cX10_drops 15 = .ok (.iastore, 1) := by decide +kernel
theorem dX10_drops_16 : decode cX10_drops 16 = .ok (.bipush 26, 2) := by decide +kernel
theorem dX10_drops_18 : decode cX10_drops 18 = .ok (.istore_n 2, 1) := by decide +kernel
theorem dX10_drops_19 : decode cX10_drops 19 = .ok (.iload_n 2, 1) := by decide +kernel
theorem dX10_drops_20 : decode cX10_drops 20 = .ok (.bipush 86, 2) := by decide +kernel
theorem dX10_drops_22 : decode cX10_drops 22 = .ok (.if_icmp .ge 48, 3) := by decide +kernel
theorem dX10_drops_25 : decode cX10_drops 25 = .ok (.iload_n 2, 1) := by decide +kernel
theorem dX10_drops_26 : decode cX10_drops 26 = .ok (.iload_n 1, 1) := by decide +kernel
theorem dX10_drops_27 : decode cX10_drops 27 = .ok (.if_icmp .eq 37, 3) := by decide +kernel
theorem dX10_drops_30 : decode cX10_drops 30 = .ok (.aload_n 0, 1) := by decide +kernel
theorem dX10_drops_31 : decode cX10_drops 31 = .ok (.iload_n 2, 1) := by decide +kernel
theorem dX10_drops_32 : decode cX10_drops 32 = .ok (.iload_n 1, 1) := by decide +kernel
theorem dX10_drops_33 : decode cX10_drops 33 = .ok (.invokevirtual 252, 3) := by decide +kernel
theorem dX10_drops_36 : decode cX10_drops 36 = .ok (.ifCond .le 28, 3) := by decide +kernel
theorem dX10_drops_39 : decode cX10_drops 39 = .ok (.aload_n 0, 1) := by decide +kernel
theorem dX10_drops_40 : decode cX10_drops 40 = .ok (.getfield 13, 3) := by decide +kernel
theorem dX10_drops_43 : decode cX10_drops 43 = .ok (.iload_n 2, 1) := by decide +kernel
theorem dX10_drops_44 : decode cX10_drops 44 = .ok (.invokestatic 92, 3) := by decide +kernel
theorem dX10_drops_47 : decode cX10_drops 47 = .ok (.aload_n 0, 1) := by decide +kernel
theorem dX10_drops_48 : decode cX10_drops 48 = .ok (.iload_n 2, 1) := by decide +kernel
theorem dX10_drops_49 : decode cX10_drops 49 = .ok (.invokestatic 92, 3) := by decide +kernel
theorem dX10_drops_52 : decode cX10_drops 52 = .ok (.iconst 1, 1) := by decide +kernel
theorem dX10_drops_53 : decode cX10_drops 53 = .ok (.iadd, 1) := by decide +kernel
theorem dX10_drops_54 : decode cX10_drops 54 = .ok (.aload_n 0, 1) := by decide +kernel
theorem dX10_drops_55 : decode cX10_drops 55 = .ok (.iload_n 2, 1) := by decide +kernel
theorem dX10_drops_56 : decode cX10_drops 56 = .ok (.invokevirtual 106, 3) := by decide +kernel
theorem dX10_drops_59 : decode cX10_drops 59 = .ok (.iload_n 1, 1) := by decide +kernel
theorem dX10_drops_60 : decode cX10_drops 60 = .ok (.invokevirtual 255, 3) := by decide +kernel
theorem dX10_drops_63 : decode cX10_drops 63 = .ok (.iastore, 1) := by decide +kernel
theorem dX10_drops_64 : decode cX10_drops 64 = .ok (.iinc 2 1, 3) := by decide +kernel
theorem dX10_drops_67 : decode cX10_drops 67 = .ok (.goto (-48), 3) := by decide +kernel
theorem dX10_drops_70 : decode cX10_drops 70 = .ok (.aload_n 0, 1) := by decide +kernel
theorem dX10_drops_71 : decode cX10_drops 71 = .ok (.getfield 13, 3) := by decide +kernel
theorem dX10_drops_74 : decode cX10_drops 74 = .ok (.iload_n 1, 1) := by decide +kernel
theorem dX10_drops_75 : decode cX10_drops 75 = .ok (.invokestatic 92, 3) := by decide +kernel
theorem dX10_drops_78 : decode cX10_drops 78 = .ok (.iconst 0, 1) := by decide +kernel
theorem dX10_drops_79 : decode cX10_drops 79 = .ok (.iastore, 1) := by decide +kernel
theorem dX10_drops_80 : decode cX10_drops 80 = .ok (.return_, 1) := by decide +kernel
theorem dX10_sizeNow_0 : decode cX10_sizeNow 0 = .ok (.aload_n 0, 1) := by decide +kernel
theorem dX10_sizeNow_1 : decode cX10_sizeNow 1 = .ok (.invokevirtual 123, 3) := by decide +kernel
theorem dX10_sizeNow_4 : decode cX10_sizeNow 4 = .ok (.istore_n 1, 1) := by decide +kernel
theorem dX10_sizeNow_5 : decode cX10_sizeNow 5 = .ok (.bipush 26, 2) := by decide +kernel
theorem dX10_sizeNow_7 : decode cX10_sizeNow 7 = .ok (.istore_n 2, 1) := by decide +kernel
theorem dX10_sizeNow_8 : decode cX10_sizeNow 8 = .ok (.iload_n 2, 1) := by decide +kernel
theorem dX10_sizeNow_9 : decode cX10_sizeNow 9 = .ok (.bipush 86, 2) := by decide +kernel
theorem dX10_sizeNow_11 : decode cX10_sizeNow 11 = .ok (.if_icmp .ge 17, 3) := by decide +kernel
theorem dX10_sizeNow_14 : decode cX10_sizeNow 14 = .ok (.iload_n 1, 1) := by decide +kernel
theorem dX10_sizeNow_15 : decode cX10_sizeNow 15 = .ok (.aload_n 0, 1) := by decide +kernel
theorem dX10_sizeNow_16 : decode cX10_sizeNow 16 = .ok (.iload_n 2, 1) := by decide +kernel
theorem dX10_sizeNow_17 : decode cX10_sizeNow 17 = .ok (.invokevirtual 106, 3) := by decide +kernel
theorem dX10_sizeNow_20 : decode cX10_sizeNow 20 = .ok (.iadd, 1) := by decide +kernel
theorem dX10_sizeNow_21 : decode cX10_sizeNow 21 = .ok (.istore_n 1, 1) := by decide +kernel
theorem dX10_sizeNow_22 : decode cX10_sizeNow 22 = .ok (.iinc 2 1, 3) := by decide +kernel
theorem dX10_sizeNow_25 : decode cX10_sizeNow 25 = .ok (.goto (-17), 3) := by decide +kernel
theorem dX10_sizeNow_28 : decode cX10_sizeNow 28 = .ok (.iload_n 1, 1) := by decide +kernel
theorem dX10_sizeNow_29 : decode cX10_sizeNow 29 = .ok (.ireturn, 1) := by decide +kernel
theorem dX10_drop_0 : decode cX10_drop 0 = .ok (.aload_n 0, 1) := by decide +kernel
theorem dX10_drop_1 : decode cX10_drop 1 = .ok (.iconst 0, 1) := by decide +kernel
theorem dX10_drop_2 : decode cX10_drop 2 = .ok (.putfield 1, 3) := by decide +kernel
theorem dX10_drop_5 : decode cX10_drop 5 = .ok (.aload_n 0, 1) := by decide +kernel
theorem dX10_drop_6 : decode cX10_drop 6 = .ok (.iload_n 1, 1) := by decide +kernel
theorem dX10_drop_7 : decode cX10_drop 7 = .ok (.invokevirtual 210, 3) := by decide +kernel
theorem dX10_drop_10 : decode cX10_drop 10 = .ok (.ifCond .eq 9, 3) := by decide +kernel
theorem dX10_drop_13 : decode cX10_drop 13 = .ok (.iload_n 1, 1) := by decide +kernel
theorem dX10_drop_14 : decode cX10_drop 14 = .ok (.bipush 26, 2) := by decide +kernel
theorem dX10_drop_16 : decode cX10_drop 16 = .ok (.if_icmp .ge 6, 3) := by decide +kernel
theorem dX10_drop_19 : decode cX10_drop 19 = .ok (.bipush (-2), 2) := by decide +kernel
theorem dX10_drop_21 : decode cX10_drop 21 = .ok (.ireturn, 1) := by decide +kernel
theorem dX10_drop_22 : decode cX10_drop 22 = .ok (.aload_n 0, 1) := by decide +kernel
theorem dX10_drop_23 : decode cX10_drop 23 = .ok (.iload_n 1, 1) := by decide +kernel
theorem dX10_drop_24 : decode cX10_drop 24 = .ok (.invokevirtual 258, 3) := by decide +kernel
theorem dX10_drop_27 : decode cX10_drop 27 = .ok (.ifCond .ne 6, 3) := by decide +kernel
theorem dX10_drop_30 : decode cX10_drop 30 = .ok (.bipush (-5), 2) := by decide +kernel
theorem dX10_drop_32 : decode cX10_drop 32 = .ok (.ireturn, 1) := by decide +kernel
theorem dX10_drop_33 : decode cX10_drop 33 = .ok (.aload_n 0, 1) := by decide +kernel
theorem dX10_drop_34 : decode cX10_drop 34 = .ok (.invokevirtual 171, 3) := by decide +kernel
theorem dX10_drop_37 : decode cX10_drop 37 = .ok (.aload_n 0, 1) := by decide +kernel
theorem dX10_drop_38 : decode cX10_drop 38 = .ok (.iload_n 1, 1) := by decide +kernel
theorem dX10_drop_39 : decode cX10_drop 39 = .ok (.invokevirtual 261, 3) := by decide +kernel
theorem dX10_drop_42 : decode cX10_drop 42 = .ok (.aload_n 0, 1) := by decide +kernel
theorem dX10_drop_43 : decode cX10_drop 43 = .ok (.invokevirtual 264, 3) := by decide +kernel
theorem dX10_drop_46 : decode cX10_drop 46 = .ok (.ireturn, 1) := by decide +kernel
theorem dX10_idle_0 : decode cX10_idle 0 = .ok (.bipush 26, 2) := by decide +kernel
theorem dX10_idle_2 : decode cX10_idle 2 = .ok (.istore_n 1, 1) := by decide +kernel
theorem dX10_idle_3 : decode cX10_idle 3 = .ok (.iload_n 1, 1) := by decide +kernel
theorem dX10_idle_4 : decode cX10_idle 4 = .ok (.bipush 86, 2) := by decide +kernel
theorem dX10_idle_6 : decode cX10_idle 6 = .ok (.if_icmp .ge 46, 3) := by decide +kernel
theorem dX10_idle_9 : decode cX10_idle 9 = .ok (.aload_n 0, 1) := by decide +kernel
theorem dX10_idle_10 : decode cX10_idle 10 = .ok (.iload_n 1, 1) := by decide +kernel
theorem dX10_idle_11 : decode cX10_idle 11 = .ok (.invokevirtual 106, 3) := by decide +kernel
theorem dX10_idle_14 : decode cX10_idle 14 = .ok (.ifCond .le 11, 3) := by decide +kernel
theorem dX10_idle_17 : decode cX10_idle 17 = .ok (.aload_n 0, 1) := by decide +kernel
theorem dX10_idle_18 : decode cX10_idle 18 = .ok (.iload_n 1, 1) := by decide +kernel
theorem dX10_idle_19 : decode cX10_idle 19 = .ok (.invokevirtual 267, 3) := by decide +kernel
theorem dX10_idle_22 : decode cX10_idle 22 = .ok (.goto 4, 3) := by decide +kernel
theorem dX10_idle_25 : decode cX10_idle 25 = .ok (.iconst 2, 1) := by decide +kernel
theorem dX10_idle_26 : decode cX10_idle 26 = .ok (.istore_n 2, 1) := by decide +kernel
theorem dX10_idle_27 : decode cX10_idle 27 = .ok (.iload_n 2, 1) := by decide +kernel
theorem dX10_idle_28 : decode cX10_idle 28 = .ok (.ifCond .eq 16, 3) := by decide +kernel
theorem dX10_idle_31 : decode cX10_idle 31 = .ok (.iload_n 2, 1) := by decide +kernel
theorem dX10_idle_32 : decode cX10_idle 32 = .ok (.iconst 1, 1) := by decide +kernel
theorem dX10_idle_33 : decode cX10_idle 33 = .ok (.if_icmp .ne 13, 3) := by decide +kernel
theorem dX10_idle_36 : decode cX10_idle 36 = .ok (.aload_n 0, 1) := by decide +kernel
theorem dX10_idle_37 : decode cX10_idle 37 = .ok (.iload_n 1, 1) := by decide +kernel
theorem dX10_idle_38 : decode cX10_idle 38 = .ok (.invokevirtual 258, 3) := by decide +kernel
theorem dX10_idle_41 : decode cX10_idle 41 = .ok (.ifCond .eq 5, 3) := by decide +kernel
theorem dX10_idle_44 : decode cX10_idle 44 = .ok (.iload_n 1, 1) := by decide +kernel
theorem dX10_idle_45 : decode cX10_idle 45 = .ok (.ireturn, 1) := by decide +kernel
theorem dX10_idle_46 : decode cX10_idle 46 = .ok (.iinc 1 1, 3) := by decide +kernel
theorem dX10_idle_49 : decode cX10_idle 49 = .ok (.goto (-46), 3) := by decide +kernel
theorem dX10_idle_52 : decode cX10_idle 52 = .ok (.iconst (-1), 1) := by decide +kernel
theorem dX10_idle_53 : decode cX10_idle 53 = .ok (.ireturn, 1) := by decide +kernel
theorem dX10_trim_0 : decode cX10_trim 0 = .ok (.aload_n 0, 1) := by decide +kernel
theorem dX10_trim_1 : decode cX10_trim 1 = .ok (.iconst 0, 1) := by decide +kernel
theorem dX10_trim_2 : decode cX10_trim 2 = .ok (.putfield 1, 3) := by decide +kernel
theorem dX10_trim_5 : decode cX10_trim 5 = .ok (.aload_n 0, 1) := by decide +kernel
theorem dX10_trim_6 : decode cX10_trim 6 = .ok (.invokevirtual 171, 3) := by decide +kernel
theorem dX10_trim_9 : decode cX10_trim 9 = .ok (.iconst 0, 1) := by decide +kernel
theorem dX10_trim_10 : decode cX10_trim 10 = .ok (.istore_n 1, 1) := by decide +kernel
theorem dX10_trim_11 : decode cX10_trim 11 = .ok (.aload_n 0, 1) := by decide +kernel
theorem dX10_trim_12 : decode cX10_trim 12 = .ok (.invokevirtual 270, 3) := by decide +kernel
theorem dX10_trim_15 : decode cX10_trim 15 = .ok (.istore_n 2, 1) := by decide +kernel
theorem dX10_trim_16 : decode cX10_trim 16 = .ok (.iload_n 2, 1) := by decide +kernel
theorem dX10_trim_17 : decode cX10_trim 17 = .ok (.iconst (-1), 1) := by decide +kernel
theorem dX10_trim_18 : decode cX10_trim 18 = .ok (.if_icmp .eq 19, 3) := by decide +kernel
theorem dX10_trim_21 : decode cX10_trim 21 = .ok (.aload_n 0, 1) := by decide +kernel
theorem dX10_trim_22 : decode cX10_trim 22 = .ok (.iload_n 2, 1) := by decide +kernel
theorem dX10_trim_23 : decode cX10_trim 23 = .ok (.invokevirtual 261, 3) := by decide +kernel
theorem dX10_trim_26 : decode cX10_trim 26 = .ok (.iinc 1 1, 3) := by decide +kernel
theorem dX10_trim_29 : decode cX10_trim 29 = .ok (.aload_n 0, 1) := by decide +kernel
theorem dX10_trim_30 : decode cX10_trim 30 = .ok (.invokevirtual 270, 3) := by decide +kernel
theorem dX10_trim_33 : decode cX10_trim 33 = .ok (.istore_n 2, 1) := by decide +kernel
theorem dX10_trim_34 : decode cX10_trim 34 = .ok (.goto (-18), 3) := by decide +kernel
theorem dX10_trim_37 : decode cX10_trim 37 = .ok (.iload_n 1, 1) := by decide +kernel
theorem dX10_trim_38 : decode cX10_trim 38 = .ok (.ireturn, 1) := by decide +kernel
theorem dX10_unpack_0 : decode cX10_unpack 0 = .ok (.aload_n 0, 1) := by decide +kernel
theorem dX10_unpack_1 : decode cX10_unpack 1 = .ok (.iconst 0, 1) := by decide +kernel
theorem dX10_unpack_2 : decode cX10_unpack 2 = .ok (.putfield 1, 3) := by decide +kernel
theorem dX10_unpack_5 : decode cX10_unpack 5 = .ok (.aload_n 0, 1) := by decide +kernel
theorem dX10_unpack_6 : decode cX10_unpack 6 = .ok (.invokevirtual 171, 3) := by decide +kernel
theorem dX10_unpack_9 : decode cX10_unpack 9 = .ok (.aload_n 0, 1) := by decide +kernel
theorem dX10_unpack_10 : decode cX10_unpack 10 = .ok (.invokevirtual 224, 3) := by decide +kernel
theorem dX10_unpack_13 : decode cX10_unpack 13 = .ok (.iconst 0, 1) := by decide +kernel
theorem dX10_unpack_14 : decode cX10_unpack 14 = .ok (.istore_n 1, 1) := by decide +kernel
theorem dX10_unpack_15 : decode cX10_unpack 15 = .ok (.iload_n 1, 1) := by decide +kernel
theorem dX10_unpack_16 : decode cX10_unpack 16 = .ok (.sipush 1021, 3) := by decide +kernel
theorem dX10_unpack_19 : decode cX10_unpack 19 = .ok (.if_icmp .ge 16, 3) := by decide +kernel
theorem dX10_unpack_22 : decode cX10_unpack 22 = .ok (.aload_n 0, 1) := by decide +kernel
theorem dX10_unpack_23 : decode cX10_unpack 23 = .ok (.getfield 13, 3) := by decide +kernel
theorem dX10_unpack_26 : decode cX10_unpack 26 = .ok (.iload_n 1, 1) := by decide +kernel
theorem dX10_unpack_27 : decode cX10_unpack 27 = .ok (.iconst 0, 1) := by decide +kernel
theorem dX10_unpack_28 : decode cX10_unpack 28 = .ok (.iastore, 1) := by decide +kernel
theorem dX10_unpack_29 : decode cX10_unpack 29 = .ok (.iinc 1 1, 3) := by decide +kernel
theorem dX10_unpack_32 : decode cX10_unpack 32 = .ok (.goto (-17), 3) := by decide +kernel
theorem dX10_unpack_35 : decode cX10_unpack 35 = .ok (.aload_n 0, 1) := by decide +kernel
theorem dX10_unpack_36 : decode cX10_unpack 36 = .ok (.getfield 36, 3) := by decide +kernel
theorem dX10_unpack_39 : decode cX10_unpack 39 = .ok (.iconst 0, 1) := by decide +kernel
theorem dX10_unpack_40 : decode cX10_unpack 40 = .ok (.aload_n 0, 1) := by decide +kernel
theorem dX10_unpack_41 : decode cX10_unpack 41 = .ok (.getfield 13, 3) := by decide +kernel
theorem dX10_unpack_44 : decode cX10_unpack 44 = .ok (.iconst 1, 1) := by decide +kernel
theorem dX10_unpack_45 : decode cX10_unpack 45 = .ok (.aload_n 0, 1) := by decide +kernel
theorem dX10_unpack_46 : decode cX10_unpack 46 = .ok (.getfield 120, 3) := by decide +kernel
theorem dX10_unpack_49 : decode cX10_unpack 49 = .ok (.invokestatic 88, 3) := by decide +kernel
theorem dX10_unpack_52 : decode cX10_unpack 52 = .ok (.aload_n 0, 1) := by decide +kernel
theorem dX10_unpack_53 : decode cX10_unpack 53 = .ok (.getfield 13, 3) := by decide +kernel
theorem dX10_unpack_56 : decode cX10_unpack 56 = .ok (.iconst 0, 1) := by decide +kernel
theorem dX10_unpack_57 : decode cX10_unpack 57 = .ok (.aload_n 0, 1) := by decide +kernel
theorem dX10_unpack_58 : decode cX10_unpack 58 = .ok (.getfield 120, 3) := by decide +kernel
theorem dX10_unpack_61 : decode cX10_unpack 61 = .ok (.iastore, 1) := by decide +kernel
theorem dX10_unpack_62 : decode cX10_unpack 62 = .ok (.aload_n 0, 1) := by decide +kernel
theorem dX10_unpack_63 : decode cX10_unpack 63 = .ok (.getfield 120, 3) := by decide +kernel
theorem dX10_unpack_66 : decode cX10_unpack 66 = .ok (.ireturn, 1) := by decide +kernel
theorem dX10_opens_0 : decode cX10_opens 0 = .ok (.aload_n 0, 1) := by decide +kernel
theorem dX10_opens_1 : decode cX10_opens 1 = .ok (.invokevirtual 134, 3) := by decide +kernel
theorem dX10_opens_4 : decode cX10_opens 4 = .ok (.iconst 0, 1) := by decide +kernel
theorem dX10_opens_5 : decode cX10_opens 5 = .ok (.istore_n 2, 1) := by decide +kernel
theorem dX10_opens_6 : decode cX10_opens 6 = .ok (.iconst 0, 1) := by decide +kernel
theorem dX10_opens_7 : decode cX10_opens 7 = .ok (.istore_n 3, 1) := by decide +kernel
theorem dX10_opens_8 : decode cX10_opens 8 = .ok (.iload_n 3, 1) := by decide +kernel
theorem dX10_opens_9 : decode cX10_opens 9 = .ok (.iload_n 1, 1) := by decide +kernel
theorem dX10_opens_10 : decode cX10_opens 10 = .ok (.if_icmp .ge 139, 3) := by decide +kernel
theorem dX10_opens_13 : decode cX10_opens 13 = .ok (.aload_n 0, 1) := by decide +kernel
theorem dX10_opens_14 : decode cX10_opens 14 = .ok (.iload_n 2, 1) := by decide +kernel
theorem dX10_opens_15 : decode cX10_opens 15 = .ok (.invokevirtual 127, 3) := by decide +kernel
theorem dX10_opens_18 : decode cX10_opens 18 = .ok (.istore 4, 2) := by decide +kernel
theorem dX10_opens_20 : decode cX10_opens 20 = .ok (.iload_n 3, 1) := by decide +kernel
theorem dX10_opens_21 : decode cX10_opens 21 = .ok (.aload_n 0, 1) := by decide +kernel
theorem dX10_opens_22 : decode cX10_opens 22 = .ok (.getfield 30, 3) := by decide +kernel
theorem dX10_opens_25 : decode cX10_opens 25 = .ok (.iload 4, 2) := by decide +kernel
theorem dX10_opens_27 : decode cX10_opens 27 = .ok (.iaload, 1) := by decide +kernel
theorem dX10_opens_28 : decode cX10_opens 28 = .ok (.iadd, 1) := by decide +kernel
theorem dX10_opens_29 : decode cX10_opens 29 = .ok (.iload_n 1, 1) := by decide +kernel
theorem dX10_opens_30 : decode cX10_opens 30 = .ok (.if_icmp .gt 19, 3) := by decide +kernel
theorem dX10_opens_33 : decode cX10_opens 33 = .ok (.iload_n 3, 1) := by decide +kernel
theorem dX10_opens_34 : decode cX10_opens 34 = .ok (.aload_n 0, 1) := by decide +kernel
theorem dX10_opens_35 : decode cX10_opens 35 = .ok (.getfield 30, 3) := by decide +kernel
theorem dX10_opens_38 : decode cX10_opens 38 = .ok (.iload 4, 2) := by decide +kernel
theorem dX10_opens_40 : decode cX10_opens 40 = .ok (.iaload, 1) := by decide +kernel
theorem dX10_opens_41 : decode cX10_opens 41 = .ok (.iadd, 1) := by decide +kernel
theorem dX10_opens_42 : decode cX10_opens 42 = .ok (.istore_n 3, 1) := by decide +kernel
theorem dX10_opens_43 : decode cX10_opens 43 = .ok (.iinc 2 1, 3) := by decide +kernel
theorem dX10_opens_46 : decode cX10_opens 46 = .ok (.goto (-38), 3) := by decide +kernel
theorem dX10_opens_49 : decode cX10_opens 49 = .ok (.aload_n 0, 1) := by decide +kernel
theorem dX10_opens_50 : decode cX10_opens 50 = .ok (.iload 4, 2) := by decide +kernel
theorem dX10_opens_52 : decode cX10_opens 52 = .ok (.invokevirtual 106, 3) := by decide +kernel
theorem dX10_opens_55 : decode cX10_opens 55 = .ok (.iconst 1, 1) := by decide +kernel
theorem dX10_opens_56 : decode cX10_opens 56 = .ok (.isub, 1) := by decide +kernel
theorem dX10_opens_57 : decode cX10_opens 57 = .ok (.istore 5, 2) := by decide +kernel
theorem dX10_opens_59 : decode cX10_opens 59 = .ok (.aload_n 0, 1) := by decide +kernel
theorem dX10_opens_60 : decode cX10_opens 60 = .ok (.invokevirtual 123, 3) := by decide +kernel
theorem dX10_opens_63 : decode cX10_opens 63 = .ok (.iconst 1, 1) := by decide +kernel
theorem dX10_opens_64 : decode cX10_opens 64 = .ok (.isub, 1) := by decide +kernel
theorem dX10_opens_65 : decode cX10_opens 65 = .ok (.istore 6, 2) := by decide +kernel
theorem dX10_opens_67 : decode cX10_opens 67 = .ok (.iload 6, 2) := by decide +kernel
theorem dX10_opens_69 : decode cX10_opens 69 = .ok (.iload_n 2, 1) := by decide +kernel
theorem dX10_opens_70 : decode cX10_opens 70 = .ok (.if_icmp .le 30, 3) := by decide +kernel
theorem dX10_opens_73 : decode cX10_opens 73 = .ok (.aload_n 0, 1) := by decide +kernel
theorem dX10_opens_74 : decode cX10_opens 74 = .ok (.getfield 13, 3) := by decide +kernel
theorem dX10_opens_77 : decode cX10_opens 77 = .ok (.iconst 1, 1) := by decide +kernel
theorem dX10_opens_78 : decode cX10_opens 78 = .ok (.iload 6, 2) := by decide +kernel
theorem dX10_opens_80 : decode cX10_opens 80 = .ok (.iadd, 1) := by decide +kernel
theorem dX10_opens_81 : decode cX10_opens 81 = .ok (.iload 5, 2) := by decide +kernel
theorem dX10_opens_83 : decode cX10_opens 83 = .ok (.iadd, 1) := by decide +kernel
theorem dX10_opens_84 : decode cX10_opens 84 = .ok (.aload_n 0, 1) := by decide +kernel
theorem dX10_opens_85 : decode cX10_opens 85 = .ok (.getfield 13, 3) := by decide +kernel
theorem dX10_opens_88 : decode cX10_opens 88 = .ok (.iconst 1, 1) := by decide +kernel
theorem dX10_opens_89 : decode cX10_opens 89 = .ok (.iload 6, 2) := by decide +kernel
theorem dX10_opens_91 : decode cX10_opens 91 = .ok (.iadd, 1) := by decide +kernel
theorem dX10_opens_92 : decode cX10_opens 92 = .ok (.iaload, 1) := by decide +kernel
theorem dX10_opens_93 : decode cX10_opens 93 = .ok (.iastore, 1) := by decide +kernel
theorem dX10_opens_94 : decode cX10_opens 94 = .ok (.iinc 6 (-1), 3) := by decide +kernel
theorem dX10_opens_97 : decode cX10_opens 97 = .ok (.goto (-30), 3) := by decide +kernel
theorem dX10_opens_100 : decode cX10_opens 100 = .ok (.iconst 0, 1) := by decide +kernel
theorem dX10_opens_101 : decode cX10_opens 101 = .ok (.istore 6, 2) := by decide +kernel
theorem dX10_opens_103 : decode cX10_opens 103 = .ok (.iload 6, 2) := by decide +kernel
theorem dX10_opens_105 : decode cX10_opens 105 = .ok (.iload 5, 2) := by decide +kernel
theorem dX10_opens_107 : decode cX10_opens 107 = .ok (.if_icmp .gt 28, 3) := by decide +kernel
theorem dX10_opens_110 : decode cX10_opens 110 = .ok (.aload_n 0, 1) := by decide +kernel
theorem dX10_opens_111 : decode cX10_opens 111 = .ok (.getfield 13, 3) := by decide +kernel
theorem dX10_opens_114 : decode cX10_opens 114 = .ok (.iconst 1, 1) := by decide +kernel
theorem dX10_opens_115 : decode cX10_opens 115 = .ok (.iload_n 2, 1) := by decide +kernel
theorem dX10_opens_116 : decode cX10_opens 116 = .ok (.iadd, 1) := by decide +kernel
theorem dX10_opens_117 : decode cX10_opens 117 = .ok (.iload 6, 2) := by decide +kernel
theorem dX10_opens_119 : decode cX10_opens 119 = .ok (.iadd, 1) := by decide +kernel
theorem dX10_opens_120 : decode cX10_opens 120 = .ok (.aload_n 0, 1) := by decide +kernel
theorem dX10_opens_121 : decode cX10_opens 121 = .ok (.iload 4, 2) := by decide +kernel
theorem dX10_opens_123 : decode cX10_opens 123 = .ok (.iload 6, 2) := by decide +kernel
theorem dX10_opens_125 : decode cX10_opens 125 = .ok (.invokevirtual 113, 3) := by decide +kernel
theorem dX10_opens_128 : decode cX10_opens 128 = .ok (.iastore, 1) := by decide +kernel
theorem dX10_opens_129 : decode cX10_opens 129 = .ok (.iinc 6 1, 3) := by decide +kernel
theorem dX10_opens_132 : decode cX10_opens 132 = .ok (.goto (-29), 3) := by decide +kernel
theorem dX10_opens_135 : decode cX10_opens 135 = .ok (.aload_n 0, 1) := by decide +kernel
theorem dX10_opens_136 : decode cX10_opens 136 = .ok (.getfield 13, 3) := by decide +kernel
theorem dX10_opens_139 : decode cX10_opens 139 = .ok (.iconst 0, 1) := by decide +kernel
theorem dX10_opens_140 : decode cX10_opens 140 = .ok (.dup2, 1) := by decide +kernel
theorem dX10_opens_141 : decode cX10_opens 141 = .ok (.iaload, 1) := by decide +kernel
theorem dX10_opens_142 : decode cX10_opens 142 = .ok (.iload 5, 2) := by decide +kernel
theorem dX10_opens_144 : decode cX10_opens 144 = .ok (.iadd, 1) := by decide +kernel
theorem dX10_opens_145 : decode cX10_opens 145 = .ok (.iastore, 1) := by decide +kernel
theorem dX10_opens_146 : decode cX10_opens 146 = .ok (.goto (-138), 3) := by decide +kernel
theorem dX10_opens_149 : decode cX10_opens 149 = .ok (.iload_n 2, 1) := by decide +kernel
theorem dX10_opens_150 : decode cX10_opens 150 = .ok (.ireturn, 1) := by decide +kernel
theorem dX10_put_0 : decode cX10_put 0 = .ok (.aload_n 0, 1) := by decide +kernel
theorem dX10_put_1 : decode cX10_put 1 = .ok (.iconst 0, 1) := by decide +kernel
theorem dX10_put_2 : decode cX10_put 2 = .ok (.putfield 1, 3) := by decide +kernel
theorem dX10_put_5 : decode cX10_put 5 = .ok (.iload_n 2, 1) := by decide +kernel
theorem dX10_put_6 : decode cX10_put 6 = .ok (.i2l, 1) := by decide +kernel
theorem dX10_put_7 : decode cX10_put 7 = .ok (.lconst 0, 1) := by decide +kernel
theorem dX10_put_8 : decode cX10_put 8 = .ok (.ldc2_w 96, 3) := by decide +kernel
theorem dX10_put_11 : decode cX10_put 11 = .ok (.invokestatic 98, 3) := by decide +kernel
theorem dX10_put_14 : decode cX10_put 14 = .ok (.ifCond .ne 6, 3) := by decide +kernel
theorem dX10_put_17 : decode cX10_put 17 = .ok (.bipush (-2), 2) := by decide +kernel
theorem dX10_put_19 : decode cX10_put 19 = .ok (.ireturn, 1) := by decide +kernel
theorem dX10_put_20 : decode cX10_put 20 = .ok (.iload_n 1, 1) := by decide +kernel
theorem dX10_put_21 : decode cX10_put 21 = .ok (.i2l, 1) := by decide +kernel
theorem dX10_put_22 : decode cX10_put 22 = .ok (.lconst 0, 1) := by decide +kernel
theorem dX10_put_23 : decode cX10_put 23 = .ok (.aload_n 0, 1) := by decide +kernel
theorem dX10_put_24 : decode cX10_put 24 = .ok (.invokevirtual 174, 3) := by decide +kernel
theorem dX10_put_27 : decode cX10_put 27 = .ok (.iconst 1, 1) := by decide +kernel
theorem dX10_put_28 : decode cX10_put 28 = .ok (.isub, 1) := by decide +kernel
theorem dX10_put_29 : decode cX10_put 29 = .ok (.i2l, 1) := by decide +kernel
theorem dX10_put_30 : decode cX10_put 30 = .ok (.invokestatic 98, 3) := by decide +kernel
theorem dX10_put_33 : decode cX10_put 33 = .ok (.ifCond .ne 6, 3) := by decide +kernel
theorem dX10_put_36 : decode cX10_put 36 = .ok (.bipush (-5), 2) := by decide +kernel
theorem dX10_put_38 : decode cX10_put 38 = .ok (.ireturn, 1) := by decide +kernel
theorem dX10_put_39 : decode cX10_put 39 = .ok (.aload_n 0, 1) := by decide +kernel
theorem dX10_put_40 : decode cX10_put 40 = .ok (.invokevirtual 171, 3) := by decide +kernel
theorem dX10_put_43 : decode cX10_put 43 = .ok (.aload_n 0, 1) := by decide +kernel
theorem dX10_put_44 : decode cX10_put 44 = .ok (.iload_n 1, 1) := by decide +kernel
theorem dX10_put_45 : decode cX10_put 45 = .ok (.invokevirtual 273, 3) := by decide +kernel
theorem dX10_put_48 : decode cX10_put 48 = .ok (.istore_n 3, 1) := by decide +kernel
theorem dX10_put_49 : decode cX10_put 49 = .ok (.aload_n 0, 1) := by decide +kernel
theorem dX10_put_50 : decode cX10_put 50 = .ok (.iload_n 1, 1) := by decide +kernel
theorem dX10_put_51 : decode cX10_put 51 = .ok (.iconst 1, 1) := by decide +kernel
theorem dX10_put_52 : decode cX10_put 52 = .ok (.iadd, 1) := by decide +kernel
theorem dX10_put_53 : decode cX10_put 53 = .ok (.invokevirtual 273, 3) := by decide +kernel
theorem dX10_put_56 : decode cX10_put 56 = .ok (.istore 4, 2) := by decide +kernel
theorem dX10_put_58 : decode cX10_put 58 = .ok (.aload_n 0, 1) := by decide +kernel
theorem dX10_put_59 : decode cX10_put 59 = .ok (.iload_n 3, 1) := by decide +kernel
theorem dX10_put_60 : decode cX10_put 60 = .ok (.invokevirtual 127, 3) := by decide +kernel
theorem dX10_put_63 : decode cX10_put 63 = .ok (.istore 5, 2) := by decide +kernel
theorem dX10_put_65 : decode cX10_put 65 = .ok (.aload_n 0, 1) := by decide +kernel
theorem dX10_put_66 : decode cX10_put 66 = .ok (.getfield 13, 3) := by decide +kernel
theorem dX10_put_69 : decode cX10_put 69 = .ok (.iconst 1, 1) := by decide +kernel
theorem dX10_put_70 : decode cX10_put 70 = .ok (.iload_n 3, 1) := by decide +kernel
theorem dX10_put_71 : decode cX10_put 71 = .ok (.iadd, 1) := by decide +kernel
theorem dX10_put_72 : decode cX10_put 72 = .ok (.iload_n 2, 1) := by decide +kernel
theorem dX10_put_73 : decode cX10_put 73 = .ok (.iastore, 1) := by decide +kernel
theorem dX10_put_74 : decode cX10_put 74 = .ok (.iload 5, 2) := by decide +kernel
theorem dX10_put_76 : decode cX10_put 76 = .ok (.ireturn, 1) := by decide +kernel
theorem dX10_cut_0 : decode cX10_cut 0 = .ok (.aload_n 0, 1) := by decide +kernel
theorem dX10_cut_1 : decode cX10_cut 1 = .ok (.iconst 0, 1) := by decide +kernel
theorem dX10_cut_2 : decode cX10_cut 2 = .ok (.putfield 1, 3) := by decide +kernel
theorem dX10_cut_5 : decode cX10_cut 5 = .ok (.iload_n 2, 1) := by decide +kernel
theorem dX10_cut_6 : decode cX10_cut 6 = .ok (.iconst 1, 1) := by decide +kernel
theorem dX10_cut_7 : decode cX10_cut 7 = .ok (.if_icmp .ge 6, 3) := by decide +kernel
theorem dX10_cut_10 : decode cX10_cut 10 = .ok (.bipush (-3), 2) := by decide +kernel
theorem dX10_cut_12 : decode cX10_cut 12 = .ok (.ireturn, 1) := by decide +kernel
theorem dX10_cut_13 : decode cX10_cut 13 = .ok (.aload_n 0, 1) := by decide +kernel
theorem dX10_cut_14 : decode cX10_cut 14 = .ok (.invokevirtual 174, 3) := by decide +kernel
theorem dX10_cut_17 : decode cX10_cut 17 = .ok (.istore_n 3, 1) := by decide +kernel
theorem dX10_cut_18 : decode cX10_cut 18 = .ok (.iload_n 1, 1) := by decide +kernel
theorem dX10_cut_19 : decode cX10_cut 19 = .ok (.ifCond .lt 14, 3) := by decide +kernel
theorem dX10_cut_22 : decode cX10_cut 22 = .ok (.iload_n 1, 1) := by decide +kernel
theorem dX10_cut_23 : decode cX10_cut 23 = .ok (.i2l, 1) := by decide +kernel
theorem dX10_cut_24 : decode cX10_cut 24 = .ok (.iload_n 2, 1) := by decide +kernel
theorem dX10_cut_25 : decode cX10_cut 25 = .ok (.i2l, 1) := by decide +kernel
theorem dX10_cut_26 : decode cX10_cut 26 = .ok (.ladd, 1) := by decide +kernel
theorem dX10_cut_27 : decode cX10_cut 27 = .ok (.iload_n 3, 1) := by decide +kernel
theorem dX10_cut_28 : decode cX10_cut 28 = .ok (.i2l, 1) := by decide +kernel
theorem dX10_cut_29 : decode cX10_cut 29 = .ok (.lcmp, 1) := by decide +kernel
theorem dX10_cut_30 : decode cX10_cut 30 = .ok (.ifCond .le 6, 3) := by decide +kernel
theorem dX10_cut_33 : decode cX10_cut 33 = .ok (.bipush (-5), 2) := by decide +kernel
theorem dX10_cut_35 : decode cX10_cut 35 = .ok (.ireturn, 1) := by decide +kernel
theorem dX10_cut_36 : decode cX10_cut 36 = .ok (.aload_n 0, 1) := by decide +kernel
theorem dX10_cut_37 : decode cX10_cut 37 = .ok (.invokevirtual 171, 3) := by decide +kernel
theorem dX10_cut_40 : decode cX10_cut 40 = .ok (.aload_n 0, 1) := by decide +kernel
theorem dX10_cut_41 : decode cX10_cut 41 = .ok (.iload_n 1, 1) := by decide +kernel
theorem dX10_cut_42 : decode cX10_cut 42 = .ok (.invokevirtual 273, 3) := by decide +kernel
theorem dX10_cut_45 : decode cX10_cut 45 = .ok (.istore 4, 2) := by decide +kernel
theorem dX10_cut_47 : decode cX10_cut 47 = .ok (.aload_n 0, 1) := by decide +kernel
theorem dX10_cut_48 : decode cX10_cut 48 = .ok (.iload_n 1, 1) := by decide +kernel
theorem dX10_cut_49 : decode cX10_cut 49 = .ok (.iload_n 2, 1) := by decide +kernel
theorem dX10_cut_50 : decode cX10_cut 50 = .ok (.iadd, 1) := by decide +kernel
theorem dX10_cut_51 : decode cX10_cut 51 = .ok (.invokevirtual 273, 3) := by decide +kernel
theorem dX10_cut_54 : decode cX10_cut 54 = .ok (.istore 5, 2) := by decide +kernel
theorem dX10_cut_56 : decode cX10_cut 56 = .ok (.iload 5, 2) := by decide +kernel
theorem dX10_cut_58 : decode cX10_cut 58 = .ok (.istore 6, 2) := by decide +kernel
theorem dX10_cut_60 : decode cX10_cut 60 = .ok (.iload 6, 2) := by decide +kernel
theorem dX10_cut_62 : decode cX10_cut 62 = .ok (.aload_n 0, 1) := by decide +kernel
theorem dX10_cut_63 : decode cX10_cut 63 = .ok (.invokevirtual 123, 3) := by decide +kernel
theorem dX10_cut_66 : decode cX10_cut 66 = .ok (.if_icmp .ge 30, 3) := by decide +kernel
theorem dX10_cut_69 : decode cX10_cut 69 = .ok (.aload_n 0, 1) := by decide +kernel
theorem dX10_cut_70 : decode cX10_cut 70 = .ok (.getfield 13, 3) := by decide +kernel
theorem dX10_cut_73 : decode cX10_cut 73 = .ok (.iconst 1, 1) := by decide +kernel
theorem dX10_cut_74 : decode cX10_cut 74 = .ok (.iload 4, 2) := by decide +kernel
theorem dX10_cut_76 : decode cX10_cut 76 = .ok (.iadd, 1) := by decide +kernel
theorem dX10_cut_77 : decode cX10_cut 77 = .ok (.iload 6, 2) := by decide +kernel
theorem dX10_cut_79 : decode cX10_cut 79 = .ok (.iadd, 1) := by decide +kernel
theorem dX10_cut_80 : decode cX10_cut 80 = .ok (.iload 5, 2) := by decide +kernel
theorem dX10_cut_82 : decode cX10_cut 82 = .ok (.isub, 1) := by decide +kernel
theorem dX10_cut_83 : decode cX10_cut 83 = .ok (.aload_n 0, 1) := by decide +kernel
theorem dX10_cut_84 : decode cX10_cut 84 = .ok (.iload 6, 2) := by decide +kernel
theorem dX10_cut_86 : decode cX10_cut 86 = .ok (.invokevirtual 127, 3) := by decide +kernel
theorem dX10_cut_89 : decode cX10_cut 89 = .ok (.iastore, 1) := by decide +kernel
theorem dX10_cut_90 : decode cX10_cut 90 = .ok (.iinc 6 1, 3) := by decide +kernel
theorem dX10_cut_93 : decode cX10_cut 93 = .ok (.goto (-33), 3) := by decide +kernel
theorem dX10_cut_96 : decode cX10_cut 96 = .ok (.aload_n 0, 1) := by decide +kernel
theorem dX10_cut_97 : decode cX10_cut 97 = .ok (.getfield 13, 3) := by decide +kernel
theorem dX10_cut_100 : decode cX10_cut 100 = .ok (.iconst 0, 1) := by decide +kernel
theorem dX10_cut_101 : decode cX10_cut 101 = .ok (.dup2, 1) := by decide +kernel
theorem dX10_cut_102 : decode cX10_cut 102 = .ok (.iaload, 1) := by decide +kernel
theorem dX10_cut_103 : decode cX10_cut 103 = .ok (.iload 5, 2) := by decide +kernel
theorem dX10_cut_105 : decode cX10_cut 105 = .ok (.iload 4, 2) := by decide +kernel
theorem dX10_cut_107 : decode cX10_cut 107 = .ok (.isub, 1) := by decide +kernel
theorem dX10_cut_108 : decode cX10_cut 108 = .ok (.isub, 1) := by decide +kernel
theorem dX10_cut_109 : decode cX10_cut 109 = .ok (.iastore, 1) := by decide +kernel
theorem dX10_cut_110 : decode cX10_cut 110 = .ok (.iload_n 3, 1) := by decide +kernel
theorem dX10_cut_111 : decode cX10_cut 111 = .ok (.iload_n 2, 1) := by decide +kernel
theorem dX10_cut_112 : decode cX10_cut 112 = .ok (.isub, 1) := by decide +kernel
theorem dX10_cut_113 : decode cX10_cut 113 = .ok (.ireturn, 1) := by decide +kernel
theorem dX10_insert_0 : decode cX10_insert 0 = .ok (.aload_n 0, 1) := by decide +kernel
theorem dX10_insert_1 : decode cX10_insert 1 = .ok (.iconst 0, 1) := by decide +kernel
theorem dX10_insert_2 : decode cX10_insert 2 = .ok (.putfield 1, 3) := by decide +kernel
theorem dX10_insert_5 : decode cX10_insert 5 = .ok (.iload_n 2, 1) := by decide +kernel
theorem dX10_insert_6 : decode cX10_insert 6 = .ok (.i2l, 1) := by decide +kernel
theorem dX10_insert_7 : decode cX10_insert 7 = .ok (.lconst 0, 1) := by decide +kernel
theorem dX10_insert_8 : decode cX10_insert 8 = .ok (.ldc2_w 96, 3) := by decide +kernel
theorem dX10_insert_11 : decode cX10_insert 11 = .ok (.invokestatic 98, 3) := by decide +kernel
theorem dX10_insert_14 : decode cX10_insert 14 = .ok (.ifCond .ne 6, 3) := by decide +kernel
theorem dX10_insert_17 : decode cX10_insert 17 = .ok (.bipush (-2), 2) := by decide +kernel
theorem dX10_insert_19 : decode cX10_insert 19 = .ok (.ireturn, 1) := by decide +kernel
theorem dX10_insert_20 : decode cX10_insert 20 = .ok (.aload_n 0, 1) := by decide +kernel
theorem dX10_insert_21 : decode cX10_insert 21 = .ok (.invokevirtual 174, 3) := by decide +kernel
theorem dX10_insert_24 : decode cX10_insert 24 = .ok (.istore_n 3, 1) := by decide +kernel
theorem dX10_insert_25 : decode cX10_insert 25 = .ok (.iload_n 1, 1) := by decide +kernel
theorem dX10_insert_26 : decode cX10_insert 26 = .ok (.i2l, 1) := by decide +kernel
theorem dX10_insert_27 : decode cX10_insert 27 = .ok (.lconst 0, 1) := by decide +kernel
theorem dX10_insert_28 : decode cX10_insert 28 = .ok (.iload_n 3, 1) := by decide +kernel
theorem dX10_insert_29 : decode cX10_insert 29 = .ok (.i2l, 1) := by decide +kernel
theorem dX10_insert_30 : decode cX10_insert 30 = .ok (.invokestatic 98, 3) := by decide +kernel
theorem dX10_insert_33 : decode cX10_insert 33 = .ok (.ifCond .ne 6, 3) := by decide +kernel
theorem dX10_insert_36 : decode cX10_insert 36 = .ok (.bipush (-5), 2) := by decide +kernel
theorem dX10_insert_38 : decode cX10_insert 38 = .ok (.ireturn, 1) := by decide +kernel
end
section
theorem dX10_insert_39 : decode cX10_insert 39 = .ok (.iload_n 3, 1) := by decide +kernel
theorem dX10_insert_40 : decode cX10_insert 40 = .ok (.sipush 240, 3) := by decide +kernel
theorem dX10_insert_43 : decode cX10_insert 43 = .ok (.if_icmp .ne 6, 3) := by decide +kernel
theorem dX10_insert_46 : decode cX10_insert 46 = .ok (.bipush (-4), 2) := by decide +kernel
theorem dX10_insert_48 : decode cX10_insert 48 = .ok (.ireturn, 1) := by decide +kernel
theorem dX10_insert_49 : decode cX10_insert 49 = .ok (.aload_n 0, 1) := by decide +kernel
theorem dX10_insert_50 : decode cX10_insert 50 = .ok (.invokevirtual 171, 3) := by decide +kernel
theorem dX10_insert_53 : decode cX10_insert 53 = .ok (.aload_n 0, 1) := by decide +kernel
theorem dX10_insert_54 : decode cX10_insert 54 = .ok (.iload_n 1, 1) := by decide +kernel
theorem dX10_insert_55 : decode cX10_insert 55 = .ok (.invokevirtual 273, 3) := by decide +kernel
theorem dX10_insert_58 : decode cX10_insert 58 = .ok (.istore 4, 2) := by decide +kernel
theorem dX10_insert_60 : decode cX10_insert 60 = .ok (.aload_n 0, 1) := by decide +kernel
theorem dX10_insert_61 : decode cX10_insert 61 = .ok (.invokevirtual 123, 3) := by decide +kernel
theorem dX10_insert_64 : decode cX10_insert 64 = .ok (.istore 5, 2) := by decide +kernel
theorem dX10_insert_66 : decode cX10_insert 66 = .ok (.iload 5, 2) := by decide +kernel
theorem dX10_insert_68 : decode cX10_insert 68 = .ok (.iload 4, 2) := by decide +kernel
theorem dX10_insert_70 : decode cX10_insert 70 = .ok (.if_icmp .le 29, 3) := by decide +kernel
theorem dX10_insert_73 : decode cX10_insert 73 = .ok (.aload_n 0, 1) := by decide +kernel
theorem dX10_insert_74 : decode cX10_insert 74 = .ok (.getfield 13, 3) := by decide +kernel
theorem dX10_insert_77 : decode cX10_insert 77 = .ok (.iconst 1, 1) := by decide +kernel
theorem dX10_insert_78 : decode cX10_insert 78 = .ok (.iload 5, 2) := by decide +kernel
theorem dX10_insert_80 : decode cX10_insert 80 = .ok (.iadd, 1) := by decide +kernel
theorem dX10_insert_81 : decode cX10_insert 81 = .ok (.aload_n 0, 1) := by decide +kernel
theorem dX10_insert_82 : decode cX10_insert 82 = .ok (.getfield 13, 3) := by decide +kernel
theorem dX10_insert_85 : decode cX10_insert 85 = .ok (.iconst 1, 1) := by decide +kernel
theorem dX10_insert_86 : decode cX10_insert 86 = .ok (.iload 5, 2) := by decide +kernel
theorem dX10_insert_88 : decode cX10_insert 88 = .ok (.iadd, 1) := by decide +kernel
theorem dX10_insert_89 : decode cX10_insert 89 = .ok (.iconst 1, 1) := by decide +kernel
theorem dX10_insert_90 : decode cX10_insert 90 = .ok (.isub, 1) := by decide +kernel
theorem dX10_insert_91 : decode cX10_insert 91 = .ok (.iaload, 1) := by decide +kernel
theorem dX10_insert_92 : decode cX10_insert 92 = .ok (.iastore, 1) := by decide +kernel
theorem dX10_insert_93 : decode cX10_insert 93 = .ok (.iinc 5 (-1), 3) := by decide +kernel
theorem dX10_insert_96 : decode cX10_insert 96 = .ok (.goto (-30), 3) := by decide +kernel
theorem dX10_insert_99 : decode cX10_insert 99 = .ok (.aload_n 0, 1) := by decide +kernel
theorem dX10_insert_100 : decode cX10_insert 100 = .ok (.getfield 13, 3) := by decide +kernel
theorem dX10_insert_103 : decode cX10_insert 103 = .ok (.iconst 1, 1) := by decide +kernel
theorem dX10_insert_104 : decode cX10_insert 104 = .ok (.iload 4, 2) := by decide +kernel
theorem dX10_insert_106 : decode cX10_insert 106 = .ok (.iadd, 1) := by decide +kernel
theorem dX10_insert_107 : decode cX10_insert 107 = .ok (.iload_n 2, 1) := by decide +kernel
theorem dX10_insert_108 : decode cX10_insert 108 = .ok (.iastore, 1) := by decide +kernel
theorem dX10_insert_109 : decode cX10_insert 109 = .ok (.aload_n 0, 1) := by decide +kernel
theorem dX10_insert_110 : decode cX10_insert 110 = .ok (.getfield 13, 3) := by decide +kernel
theorem dX10_insert_113 : decode cX10_insert 113 = .ok (.iconst 0, 1) := by decide +kernel
theorem dX10_insert_114 : decode cX10_insert 114 = .ok (.dup2, 1) := by decide +kernel
theorem dX10_insert_115 : decode cX10_insert 115 = .ok (.iaload, 1) := by decide +kernel
theorem dX10_insert_116 : decode cX10_insert 116 = .ok (.iconst 1, 1) := by decide +kernel
theorem dX10_insert_117 : decode cX10_insert 117 = .ok (.iadd, 1) := by decide +kernel
theorem dX10_insert_118 : decode cX10_insert 118 = .ok (.iastore, 1) := by decide +kernel
theorem dX10_insert_119 : decode cX10_insert 119 = .ok (.iload_n 3, 1) := by decide +kernel
theorem dX10_insert_120 : decode cX10_insert 120 = .ok (.iconst 1, 1) := by decide +kernel
theorem dX10_insert_121 : decode cX10_insert 121 = .ok (.iadd, 1) := by decide +kernel
theorem dX10_insert_122 : decode cX10_insert 122 = .ok (.ireturn, 1) := by decide +kernel
theorem dX10_sign_0 : decode cX10_sign 0 = .ok (.aload_n 0, 1) := by decide +kernel
theorem dX10_sign_1 : decode cX10_sign 1 = .ok (.iconst 0, 1) := by decide +kernel
theorem dX10_sign_2 : decode cX10_sign 2 = .ok (.putfield 1, 3) := by decide +kernel
theorem dX10_sign_5 : decode cX10_sign 5 = .ok (.iload_n 1, 1) := by decide +kernel
theorem dX10_sign_6 : decode cX10_sign 6 = .ok (.ifCond .ge 6, 3) := by decide +kernel
theorem dX10_sign_9 : decode cX10_sign 9 = .ok (.bipush (-3), 2) := by decide +kernel
theorem dX10_sign_11 : decode cX10_sign 11 = .ok (.ireturn, 1) := by decide +kernel
theorem dX10_sign_12 : decode cX10_sign 12 = .ok (.iload_n 1, 1) := by decide +kernel
theorem dX10_sign_13 : decode cX10_sign 13 = .ok (.aload_n 0, 1) := by decide +kernel
theorem dX10_sign_14 : decode cX10_sign 14 = .ok (.invokevirtual 123, 3) := by decide +kernel
theorem dX10_sign_17 : decode cX10_sign 17 = .ok (.if_icmp .ge 11, 3) := by decide +kernel
theorem dX10_sign_20 : decode cX10_sign 20 = .ok (.aload_n 0, 1) := by decide +kernel
theorem dX10_sign_21 : decode cX10_sign 21 = .ok (.iload_n 1, 1) := by decide +kernel
theorem dX10_sign_22 : decode cX10_sign 22 = .ok (.invokevirtual 127, 3) := by decide +kernel
theorem dX10_sign_25 : decode cX10_sign 25 = .ok (.goto 4, 3) := by decide +kernel
theorem dX10_sign_28 : decode cX10_sign 28 = .ok (.iconst (-1), 1) := by decide +kernel
theorem dX10_sign_29 : decode cX10_sign 29 = .ok (.ireturn, 1) := by decide +kernel
theorem dX10_rule_0 : decode cX10_rule 0 = .ok (.aload_n 0, 1) := by decide +kernel
theorem dX10_rule_1 : decode cX10_rule 1 = .ok (.iconst 0, 1) := by decide +kernel
theorem dX10_rule_2 : decode cX10_rule 2 = .ok (.putfield 1, 3) := by decide +kernel
theorem dX10_rule_5 : decode cX10_rule 5 = .ok (.aload_n 0, 1) := by decide +kernel
theorem dX10_rule_6 : decode cX10_rule 6 = .ok (.iload_n 1, 1) := by decide +kernel
theorem dX10_rule_7 : decode cX10_rule 7 = .ok (.invokevirtual 210, 3) := by decide +kernel
theorem dX10_rule_10 : decode cX10_rule 10 = .ok (.ifCond .ne 6, 3) := by decide +kernel
theorem dX10_rule_13 : decode cX10_rule 13 = .ok (.bipush (-2), 2) := by decide +kernel
theorem dX10_rule_15 : decode cX10_rule 15 = .ok (.ireturn, 1) := by decide +kernel
theorem dX10_rule_16 : decode cX10_rule 16 = .ok (.iload_n 2, 1) := by decide +kernel
theorem dX10_rule_17 : decode cX10_rule 17 = .ok (.i2l, 1) := by decide +kernel
theorem dX10_rule_18 : decode cX10_rule 18 = .ok (.ldc2_w 276, 3) := by decide +kernel
theorem dX10_rule_21 : decode cX10_rule 21 = .ok (.ldc2_w 278, 3) := by decide +kernel
theorem dX10_rule_24 : decode cX10_rule 24 = .ok (.invokestatic 98, 3) := by decide +kernel
theorem dX10_rule_27 : decode cX10_rule 27 = .ok (.ifCond .eq 29, 3) := by decide +kernel
theorem dX10_rule_30 : decode cX10_rule 30 = .ok (.iload_n 2, 1) := by decide +kernel
theorem dX10_rule_31 : decode cX10_rule 31 = .ok (.bipush 10, 2) := by decide +kernel
theorem dX10_rule_33 : decode cX10_rule 33 = .ok (.isub, 1) := by decide +kernel
theorem dX10_rule_34 : decode cX10_rule 34 = .ok (.aload_n 0, 1) := by decide +kernel
theorem dX10_rule_35 : decode cX10_rule 35 = .ok (.iload_n 1, 1) := by decide +kernel
theorem dX10_rule_36 : decode cX10_rule 36 = .ok (.invokevirtual 106, 3) := by decide +kernel
theorem dX10_rule_39 : decode cX10_rule 39 = .ok (.if_icmp .ge 15, 3) := by decide +kernel
theorem dX10_rule_42 : decode cX10_rule 42 = .ok (.aload_n 0, 1) := by decide +kernel
theorem dX10_rule_43 : decode cX10_rule 43 = .ok (.iload_n 1, 1) := by decide +kernel
theorem dX10_rule_44 : decode cX10_rule 44 = .ok (.iload_n 2, 1) := by decide +kernel
theorem dX10_rule_45 : decode cX10_rule 45 = .ok (.bipush 10, 2) := by decide +kernel
theorem dX10_rule_47 : decode cX10_rule 47 = .ok (.isub, 1) := by decide +kernel
theorem dX10_rule_48 : decode cX10_rule 48 = .ok (.invokevirtual 113, 3) := by decide +kernel
theorem dX10_rule_51 : decode cX10_rule 51 = .ok (.goto 4, 3) := by decide +kernel
theorem dX10_rule_54 : decode cX10_rule 54 = .ok (.iconst (-1), 1) := by decide +kernel
theorem dX10_rule_55 : decode cX10_rule 55 = .ok (.ireturn, 1) := by decide +kernel
theorem dX10_rule_56 : decode cX10_rule 56 = .ok (.aload_n 0, 1) := by decide +kernel
theorem dX10_rule_57 : decode cX10_rule 57 = .ok (.invokevirtual 134, 3) := by decide +kernel
theorem dX10_rule_60 : decode cX10_rule 60 = .ok (.iload_n 2, 1) := by decide +kernel
theorem dX10_rule_61 : decode cX10_rule 61 = .ok (.tableswitch 87 0 5 #[39, 45, 52, 59, 65, 71], 39) := by decide +kernel
theorem dX10_rule_100 : decode cX10_rule 100 = .ok (.aload_n 0, 1) := by decide +kernel
theorem dX10_rule_101 : decode cX10_rule 101 = .ok (.iload_n 1, 1) := by decide +kernel
theorem dX10_rule_102 : decode cX10_rule 102 = .ok (.invokevirtual 106, 3) := by decide +kernel
theorem dX10_rule_105 : decode cX10_rule 105 = .ok (.ireturn, 1) := by decide +kernel
theorem dX10_rule_106 : decode cX10_rule 106 = .ok (.aload_n 0, 1) := by decide +kernel
theorem dX10_rule_107 : decode cX10_rule 107 = .ok (.getfield 30, 3) := by decide +kernel
theorem dX10_rule_110 : decode cX10_rule 110 = .ok (.iload_n 1, 1) := by decide +kernel
theorem dX10_rule_111 : decode cX10_rule 111 = .ok (.iaload, 1) := by decide +kernel
theorem dX10_rule_112 : decode cX10_rule 112 = .ok (.ireturn, 1) := by decide +kernel
theorem dX10_rule_113 : decode cX10_rule 113 = .ok (.aload_n 0, 1) := by decide +kernel
theorem dX10_rule_114 : decode cX10_rule 114 = .ok (.getfield 33, 3) := by decide +kernel
theorem dX10_rule_117 : decode cX10_rule 117 = .ok (.iload_n 1, 1) := by decide +kernel
theorem dX10_rule_118 : decode cX10_rule 118 = .ok (.iaload, 1) := by decide +kernel
theorem dX10_rule_119 : decode cX10_rule 119 = .ok (.ireturn, 1) := by decide +kernel
theorem dX10_rule_120 : decode cX10_rule 120 = .ok (.aload_n 0, 1) := by decide +kernel
theorem dX10_rule_121 : decode cX10_rule 121 = .ok (.iload_n 1, 1) := by decide +kernel
theorem dX10_rule_122 : decode cX10_rule 122 = .ok (.invokevirtual 267, 3) := by decide +kernel
theorem dX10_rule_125 : decode cX10_rule 125 = .ok (.ireturn, 1) := by decide +kernel
theorem dX10_rule_126 : decode cX10_rule 126 = .ok (.aload_n 0, 1) := by decide +kernel
theorem dX10_rule_127 : decode cX10_rule 127 = .ok (.iload_n 1, 1) := by decide +kernel
theorem dX10_rule_128 : decode cX10_rule 128 = .ok (.invokevirtual 192, 3) := by decide +kernel
theorem dX10_rule_131 : decode cX10_rule 131 = .ok (.ireturn, 1) := by decide +kernel
theorem dX10_rule_132 : decode cX10_rule 132 = .ok (.aload_n 0, 1) := by decide +kernel
theorem dX10_rule_133 : decode cX10_rule 133 = .ok (.iconst 0, 1) := by decide +kernel
theorem dX10_rule_134 : decode cX10_rule 134 = .ok (.putfield 120, 3) := by decide +kernel
theorem dX10_rule_137 : decode cX10_rule 137 = .ok (.aload_n 0, 1) := by decide +kernel
theorem dX10_rule_138 : decode cX10_rule 138 = .ok (.iload_n 1, 1) := by decide +kernel
theorem dX10_rule_139 : decode cX10_rule 139 = .ok (.iconst 0, 1) := by decide +kernel
theorem dX10_rule_140 : decode cX10_rule 140 = .ok (.invokevirtual 130, 3) := by decide +kernel
theorem dX10_rule_143 : decode cX10_rule 143 = .ok (.aload_n 0, 1) := by decide +kernel
theorem dX10_rule_144 : decode cX10_rule 144 = .ok (.invokevirtual 227, 3) := by decide +kernel
theorem dX10_rule_147 : decode cX10_rule 147 = .ok (.ireturn, 1) := by decide +kernel
theorem dX10_rule_148 : decode cX10_rule 148 = .ok (.bipush (-2), 2) := by decide +kernel
theorem dX10_rule_150 : decode cX10_rule 150 = .ok (.ireturn, 1) := by decide +kernel
theorem dX10_word_0 : decode cX10_word 0 = .ok (.aload_n 0, 1) := by decide +kernel
theorem dX10_word_1 : decode cX10_word 1 = .ok (.iconst 0, 1) := by decide +kernel
theorem dX10_word_2 : decode cX10_word 2 = .ok (.putfield 1, 3) := by decide +kernel
theorem dX10_word_5 : decode cX10_word 5 = .ok (.aload_n 0, 1) := by decide +kernel
theorem dX10_word_6 : decode cX10_word 6 = .ok (.iload_n 1, 1) := by decide +kernel
theorem dX10_word_7 : decode cX10_word 7 = .ok (.invokevirtual 210, 3) := by decide +kernel
theorem dX10_word_10 : decode cX10_word 10 = .ok (.ifCond .ne 6, 3) := by decide +kernel
theorem dX10_word_13 : decode cX10_word 13 = .ok (.bipush (-2), 2) := by decide +kernel
theorem dX10_word_15 : decode cX10_word 15 = .ok (.ireturn, 1) := by decide +kernel
theorem dX10_word_16 : decode cX10_word 16 = .ok (.iload_n 2, 1) := by decide +kernel
theorem dX10_word_17 : decode cX10_word 17 = .ok (.ifCond .ge 6, 3) := by decide +kernel
theorem dX10_word_20 : decode cX10_word 20 = .ok (.bipush (-3), 2) := by decide +kernel
theorem dX10_word_22 : decode cX10_word 22 = .ok (.ireturn, 1) := by decide +kernel
theorem dX10_word_23 : decode cX10_word 23 = .ok (.aload_n 0, 1) := by decide +kernel
theorem dX10_word_24 : decode cX10_word 24 = .ok (.iconst 0, 1) := by decide +kernel
theorem dX10_word_25 : decode cX10_word 25 = .ok (.putfield 120, 3) := by decide +kernel
theorem dX10_word_28 : decode cX10_word 28 = .ok (.aload_n 0, 1) := by decide +kernel
theorem dX10_word_29 : decode cX10_word 29 = .ok (.iload_n 1, 1) := by decide +kernel
theorem dX10_word_30 : decode cX10_word 30 = .ok (.iconst 0, 1) := by decide +kernel
theorem dX10_word_31 : decode cX10_word 31 = .ok (.invokevirtual 130, 3) := by decide +kernel
theorem dX10_word_34 : decode cX10_word 34 = .ok (.iload_n 2, 1) := by decide +kernel
theorem dX10_word_35 : decode cX10_word 35 = .ok (.aload_n 0, 1) := by decide +kernel
theorem dX10_word_36 : decode cX10_word 36 = .ok (.getfield 120, 3) := by decide +kernel
theorem dX10_word_39 : decode cX10_word 39 = .ok (.if_icmp .ge 12, 3) := by decide +kernel
theorem dX10_word_42 : decode cX10_word 42 = .ok (.aload_n 0, 1) := by decide +kernel
theorem dX10_word_43 : decode cX10_word 43 = .ok (.getfield 36, 3) := by decide +kernel
theorem dX10_word_46 : decode cX10_word 46 = .ok (.iload_n 2, 1) := by decide +kernel
theorem dX10_word_47 : decode cX10_word 47 = .ok (.iaload, 1) := by decide +kernel
theorem dX10_word_48 : decode cX10_word 48 = .ok (.goto 4, 3) := by decide +kernel
theorem dX10_word_51 : decode cX10_word 51 = .ok (.iconst (-1), 1) := by decide +kernel
theorem dX10_word_52 : decode cX10_word 52 = .ok (.ireturn, 1) := by decide +kernel
theorem dX10_pairs_0 : decode cX10_pairs 0 = .ok (.aload_n 0, 1) := by decide +kernel
theorem dX10_pairs_1 : decode cX10_pairs 1 = .ok (.iconst 0, 1) := by decide +kernel
theorem dX10_pairs_2 : decode cX10_pairs 2 = .ok (.putfield 1, 3) := by decide +kernel
theorem dX10_pairs_5 : decode cX10_pairs 5 = .ok (.aload_n 0, 1) := by decide +kernel
theorem dX10_pairs_6 : decode cX10_pairs 6 = .ok (.iload_n 1, 1) := by decide +kernel
theorem dX10_pairs_7 : decode cX10_pairs 7 = .ok (.invokevirtual 210, 3) := by decide +kernel
theorem dX10_pairs_10 : decode cX10_pairs 10 = .ok (.ifCond .eq 20, 3) := by decide +kernel
theorem dX10_pairs_13 : decode cX10_pairs 13 = .ok (.aload_n 0, 1) := by decide +kernel
theorem dX10_pairs_14 : decode cX10_pairs 14 = .ok (.iload_n 2, 1) := by decide +kernel
theorem dX10_pairs_15 : decode cX10_pairs 15 = .ok (.invokevirtual 210, 3) := by decide +kernel
theorem dX10_pairs_18 : decode cX10_pairs 18 = .ok (.ifCond .eq 12, 3) := by decide +kernel
theorem dX10_pairs_21 : decode cX10_pairs 21 = .ok (.aload_n 0, 1) := by decide +kernel
theorem dX10_pairs_22 : decode cX10_pairs 22 = .ok (.iload_n 1, 1) := by decide +kernel
theorem dX10_pairs_23 : decode cX10_pairs 23 = .ok (.iload_n 2, 1) := by decide +kernel
theorem dX10_pairs_24 : decode cX10_pairs 24 = .ok (.invokevirtual 249, 3) := by decide +kernel
theorem dX10_pairs_27 : decode cX10_pairs 27 = .ok (.goto 5, 3) := by decide +kernel
theorem dX10_pairs_30 : decode cX10_pairs 30 = .ok (.bipush (-2), 2) := by decide +kernel
theorem dX10_pairs_32 : decode cX10_pairs 32 = .ok (.ireturn, 1) := by decide +kernel
theorem dX10_pick_0 : decode cX10_pick 0 = .ok (.aload_n 0, 1) := by decide +kernel
theorem dX10_pick_1 : decode cX10_pick 1 = .ok (.iconst 0, 1) := by decide +kernel
theorem dX10_pick_2 : decode cX10_pick 2 = .ok (.putfield 1, 3) := by decide +kernel
theorem dX10_pick_5 : decode cX10_pick 5 = .ok (.iload_n 1, 1) := by decide +kernel
theorem dX10_pick_6 : decode cX10_pick 6 = .ok (.ifCond .ge 6, 3) := by decide +kernel
theorem dX10_pick_9 : decode cX10_pick 9 = .ok (.bipush (-3), 2) := by decide +kernel
theorem dX10_pick_11 : decode cX10_pick 11 = .ok (.ireturn, 1) := by decide +kernel
theorem dX10_pick_12 : decode cX10_pick 12 = .ok (.aload_n 0, 1) := by decide +kernel
theorem dX10_pick_13 : decode cX10_pick 13 = .ok (.invokevirtual 236, 3) := by decide +kernel
theorem dX10_pick_16 : decode cX10_pick 16 = .ok (.istore_n 2, 1) := by decide +kernel
theorem dX10_pick_17 : decode cX10_pick 17 = .ok (.iconst 0, 1) := by decide +kernel
theorem dX10_pick_18 : decode cX10_pick 18 = .ok (.istore_n 3, 1) := by decide +kernel
theorem dX10_pick_19 : decode cX10_pick 19 = .ok (.sipush 240, 3) := by decide +kernel
theorem dX10_pick_22 : decode cX10_pick 22 = .ok (.istore 4, 2) := by decide +kernel
theorem dX10_pick_24 : decode cX10_pick 24 = .ok (.iload 4, 2) := by decide +kernel
theorem dX10_pick_26 : decode cX10_pick 26 = .ok (.iconst 1, 1) := by decide +kernel
theorem dX10_pick_27 : decode cX10_pick 27 = .ok (.if_icmp .le 64, 3) := by decide +kernel
theorem dX10_pick_30 : decode cX10_pick 30 = .ok (.iconst 0, 1) := by decide +kernel
theorem dX10_pick_31 : decode cX10_pick 31 = .ok (.istore 5, 2) := by decide +kernel
theorem dX10_pick_33 : decode cX10_pick 33 = .ok (.iload 5, 2) := by decide +kernel
theorem dX10_pick_35 : decode cX10_pick 35 = .ok (.sipush 7396, 3) := by decide +kernel
theorem dX10_pick_38 : decode cX10_pick 38 = .ok (.if_icmp .ge 47, 3) := by decide +kernel
theorem dX10_pick_41 : decode cX10_pick 41 = .ok (.aload_n 0, 1) := by decide +kernel
theorem dX10_pick_42 : decode cX10_pick 42 = .ok (.getfield 76, 3) := by decide +kernel
theorem dX10_pick_45 : decode cX10_pick 45 = .ok (.iload 5, 2) := by decide +kernel
theorem dX10_pick_47 : decode cX10_pick 47 = .ok (.iaload, 1) := by decide +kernel
theorem dX10_pick_48 : decode cX10_pick 48 = .ok (.iload 4, 2) := by decide +kernel
theorem dX10_pick_50 : decode cX10_pick 50 = .ok (.if_icmp .eq 6, 3) := by decide +kernel
theorem dX10_pick_53 : decode cX10_pick 53 = .ok (.goto 26, 3) := by decide +kernel
theorem dX10_pick_56 : decode cX10_pick 56 = .ok (.iload_n 3, 1) := by decide +kernel
theorem dX10_pick_57 : decode cX10_pick 57 = .ok (.iload_n 1, 1) := by decide +kernel
theorem dX10_pick_58 : decode cX10_pick 58 = .ok (.if_icmp .ne 18, 3) := by decide +kernel
theorem dX10_pick_61 : decode cX10_pick 61 = .ok (.bipush 100, 2) := by decide +kernel
theorem dX10_pick_63 : decode cX10_pick 63 = .ok (.iload 5, 2) := by decide +kernel
theorem dX10_pick_65 : decode cX10_pick 65 = .ok (.bipush 86, 2) := by decide +kernel
theorem dX10_pick_67 : decode cX10_pick 67 = .ok (.idiv, 1) := by decide +kernel
theorem dX10_pick_68 : decode cX10_pick 68 = .ok (.imul, 1) := by decide +kernel
theorem dX10_pick_69 : decode cX10_pick 69 = .ok (.iload 5, 2) := by decide +kernel
theorem dX10_pick_71 : decode cX10_pick 71 = .ok (.bipush 86, 2) := by decide +kernel
theorem dX10_pick_73 : decode cX10_pick 73 = .ok (.irem, 1) := by decide +kernel
theorem dX10_pick_74 : decode cX10_pick 74 = .ok (.iadd, 1) := by decide +kernel
theorem dX10_pick_75 : decode cX10_pick 75 = .ok (.ireturn, 1) := by decide +kernel
theorem dX10_pick_76 : decode cX10_pick 76 = .ok (.iinc 3 1, 3) := by decide +kernel
theorem dX10_pick_79 : decode cX10_pick 79 = .ok (.iinc 5 1, 3) := by decide +kernel
theorem dX10_pick_82 : decode cX10_pick 82 = .ok (.goto (-49), 3) := by decide +kernel
theorem dX10_pick_85 : decode cX10_pick 85 = .ok (.iinc 4 (-1), 3) := by decide +kernel
theorem dX10_pick_88 : decode cX10_pick 88 = .ok (.goto (-64), 3) := by decide +kernel
theorem dX10_pick_91 : decode cX10_pick 91 = .ok (.iconst (-1), 1) := by decide +kernel
theorem dX10_pick_92 : decode cX10_pick 92 = .ok (.ireturn, 1) := by decide +kernel
theorem dX10_at_0 : decode cX10_at 0 = .ok (.aload_n 0, 1) := by decide +kernel
theorem dX10_at_1 : decode cX10_at 1 = .ok (.iconst 0, 1) := by decide +kernel
theorem dX10_at_2 : decode cX10_at 2 = .ok (.putfield 1, 3) := by decide +kernel
theorem dX10_at_5 : decode cX10_at 5 = .ok (.iload_n 1, 1) := by decide +kernel
theorem dX10_at_6 : decode cX10_at 6 = .ok (.ifCond .ge 6, 3) := by decide +kernel
theorem dX10_at_9 : decode cX10_at 9 = .ok (.bipush (-3), 2) := by decide +kernel
theorem dX10_at_11 : decode cX10_at 11 = .ok (.ireturn, 1) := by decide +kernel
theorem dX10_at_12 : decode cX10_at 12 = .ok (.aload_n 0, 1) := by decide +kernel
theorem dX10_at_13 : decode cX10_at 13 = .ok (.invokevirtual 224, 3) := by decide +kernel
theorem dX10_at_16 : decode cX10_at 16 = .ok (.iload_n 1, 1) := by decide +kernel
theorem dX10_at_17 : decode cX10_at 17 = .ok (.aload_n 0, 1) := by decide +kernel
theorem dX10_at_18 : decode cX10_at 18 = .ok (.getfield 120, 3) := by decide +kernel
theorem dX10_at_21 : decode cX10_at 21 = .ok (.if_icmp .ge 12, 3) := by decide +kernel
theorem dX10_at_24 : decode cX10_at 24 = .ok (.aload_n 0, 1) := by decide +kernel
theorem dX10_at_25 : decode cX10_at 25 = .ok (.getfield 36, 3) := by decide +kernel
theorem dX10_at_28 : decode cX10_at 28 = .ok (.iload_n 1, 1) := by decide +kernel
theorem dX10_at_29 : decode cX10_at 29 = .ok (.iaload, 1) := by decide +kernel
theorem dX10_at_30 : decode cX10_at 30 = .ok (.goto 4, 3) := by decide +kernel
theorem dX10_at_33 : decode cX10_at 33 = .ok (.iconst (-1), 1) := by decide +kernel
theorem dX10_at_34 : decode cX10_at 34 = .ok (.ireturn, 1) := by decide +kernel
theorem dX10_seeks_0 : decode cX10_seeks 0 = .ok (.aload_n 0, 1) := by decide +kernel
theorem dX10_seeks_1 : decode cX10_seeks 1 = .ok (.invokevirtual 134, 3) := by decide +kernel
theorem dX10_seeks_4 : decode cX10_seeks 4 = .ok (.aload_n 0, 1) := by decide +kernel
theorem dX10_seeks_5 : decode cX10_seeks 5 = .ok (.iconst 0, 1) := by decide +kernel
theorem dX10_seeks_6 : decode cX10_seeks 6 = .ok (.putfield 280, 3) := by decide +kernel
theorem dX10_seeks_9 : decode cX10_seeks 9 = .ok (.aload_n 0, 1) := by decide +kernel
theorem dX10_seeks_10 : decode cX10_seeks 10 = .ok (.iconst 0, 1) := by decide +kernel
theorem dX10_seeks_11 : decode cX10_seeks 11 = .ok (.putfield 283, 3) := by decide +kernel
theorem dX10_seeks_14 : decode cX10_seeks 14 = .ok (.aload_n 0, 1) := by decide +kernel
theorem dX10_seeks_15 : decode cX10_seeks 15 = .ok (.getfield 280, 3) := by decide +kernel
theorem dX10_seeks_18 : decode cX10_seeks 18 = .ok (.aload_n 0, 1) := by decide +kernel
theorem dX10_seeks_19 : decode cX10_seeks 19 = .ok (.invokevirtual 123, 3) := by decide +kernel
theorem dX10_seeks_22 : decode cX10_seeks 22 = .ok (.if_icmp .ge 60, 3) := by decide +kernel
theorem dX10_seeks_25 : decode cX10_seeks 25 = .ok (.aload_n 0, 1) := by decide +kernel
theorem dX10_seeks_26 : decode cX10_seeks 26 = .ok (.getfield 283, 3) := by decide +kernel
theorem dX10_seeks_29 : decode cX10_seeks 29 = .ok (.aload_n 0, 1) := by decide +kernel
theorem dX10_seeks_30 : decode cX10_seeks 30 = .ok (.getfield 30, 3) := by decide +kernel
theorem dX10_seeks_33 : decode cX10_seeks 33 = .ok (.aload_n 0, 1) := by decide +kernel
theorem dX10_seeks_34 : decode cX10_seeks 34 = .ok (.aload_n 0, 1) := by decide +kernel
theorem dX10_seeks_35 : decode cX10_seeks 35 = .ok (.getfield 280, 3) := by decide +kernel
theorem dX10_seeks_38 : decode cX10_seeks 38 = .ok (.invokevirtual 127, 3) := by decide +kernel
theorem dX10_seeks_41 : decode cX10_seeks 41 = .ok (.iaload, 1) := by decide +kernel
theorem dX10_seeks_42 : decode cX10_seeks 42 = .ok (.iadd, 1) := by decide +kernel
theorem dX10_seeks_43 : decode cX10_seeks 43 = .ok (.iload_n 1, 1) := by decide +kernel
theorem dX10_seeks_44 : decode cX10_seeks 44 = .ok (.if_icmp .gt 38, 3) := by decide +kernel
theorem dX10_seeks_47 : decode cX10_seeks 47 = .ok (.aload_n 0, 1) := by decide +kernel
theorem dX10_seeks_48 : decode cX10_seeks 48 = .ok (.dup, 1) := by decide +kernel
theorem dX10_seeks_49 : decode cX10_seeks 49 = .ok (.getfield 283, 3) := by decide +kernel
theorem dX10_seeks_52 : decode cX10_seeks 52 = .ok (.aload_n 0, 1) := by decide +kernel
theorem dX10_seeks_53 : decode cX10_seeks 53 = .ok (.getfield 30, 3) := by decide +kernel
theorem dX10_seeks_56 : decode cX10_seeks 56 = .ok (.aload_n 0, 1) := by decide +kernel
theorem dX10_seeks_57 : decode cX10_seeks 57 = .ok (.aload_n 0, 1) := by decide +kernel
theorem dX10_seeks_58 : decode cX10_seeks 58 = .ok (.getfield 280, 3) := by decide +kernel
theorem dX10_seeks_61 : decode cX10_seeks 61 = .ok (.invokevirtual 127, 3) := by decide +kernel
theorem dX10_seeks_64 : decode cX10_seeks 64 = .ok (.iaload, 1) := by decide +kernel
theorem dX10_seeks_65 : decode cX10_seeks 65 = .ok (.iadd, 1) := by decide +kernel
theorem dX10_seeks_66 : decode cX10_seeks 66 = .ok (.putfield 283, 3) := by decide +kernel
theorem dX10_seeks_69 : decode cX10_seeks 69 = .ok (.aload_n 0, 1) := by decide +kernel
theorem dX10_seeks_70 : decode cX10_seeks 70 = .ok (.dup, 1) := by decide +kernel
theorem dX10_seeks_71 : decode cX10_seeks 71 = .ok (.getfield 280, 3) := by decide +kernel
theorem dX10_seeks_74 : decode cX10_seeks 74 = .ok (.iconst 1, 1) := by decide +kernel
theorem dX10_seeks_75 : decode cX10_seeks 75 = .ok (.iadd, 1) := by decide +kernel
theorem dX10_seeks_76 : decode cX10_seeks 76 = .ok (.putfield 280, 3) := by decide +kernel
theorem dX10_seeks_79 : decode cX10_seeks 79 = .ok (.goto (-65), 3) := by decide +kernel
theorem dX10_seeks_82 : decode cX10_seeks 82 = .ok (.aload_n 0, 1) := by decide +kernel
theorem dX10_seeks_83 : decode cX10_seeks 83 = .ok (.getfield 280, 3) := by decide +kernel
theorem dX10_seeks_86 : decode cX10_seeks 86 = .ok (.aload_n 0, 1) := by decide +kernel
theorem dX10_seeks_87 : decode cX10_seeks 87 = .ok (.invokevirtual 123, 3) := by decide +kernel
theorem dX10_seeks_90 : decode cX10_seeks 90 = .ok (.if_icmp .ge 7, 3) := by decide +kernel
theorem dX10_seeks_93 : decode cX10_seeks 93 = .ok (.iconst 1, 1) := by decide +kernel
theorem dX10_seeks_94 : decode cX10_seeks 94 = .ok (.goto 4, 3) := by decide +kernel
theorem dX10_seeks_97 : decode cX10_seeks 97 = .ok (.iconst 0, 1) := by decide +kernel
theorem dX10_seeks_98 : decode cX10_seeks 98 = .ok (.ireturn, 1) := by decide +kernel
theorem dX10_within_0 : decode cX10_within 0 = .ok (.aload_n 0, 1) := by decide +kernel
theorem dX10_within_1 : decode cX10_within 1 = .ok (.iconst 0, 1) := by decide +kernel
theorem dX10_within_2 : decode cX10_within 2 = .ok (.putfield 1, 3) := by decide +kernel
theorem dX10_within_5 : decode cX10_within 5 = .ok (.iload_n 2, 1) := by decide +kernel
theorem dX10_within_6 : decode cX10_within 6 = .ok (.i2l, 1) := by decide +kernel
theorem dX10_within_7 : decode cX10_within 7 = .ok (.lconst 0, 1) := by decide +kernel
theorem dX10_within_8 : decode cX10_within 8 = .ok (.ldc2_w 286, 3) := by decide +kernel
theorem dX10_within_11 : decode cX10_within 11 = .ok (.invokestatic 98, 3) := by decide +kernel
theorem dX10_within_14 : decode cX10_within 14 = .ok (.ifCond .ne 6, 3) := by decide +kernel
theorem dX10_within_17 : decode cX10_within 17 = .ok (.bipush (-2), 2) := by decide +kernel
theorem dX10_within_19 : decode cX10_within 19 = .ok (.ireturn, 1) := by decide +kernel
theorem dX10_within_20 : decode cX10_within 20 = .ok (.iload_n 1, 1) := by decide +kernel
theorem dX10_within_21 : decode cX10_within 21 = .ok (.ifCond .ge 6, 3) := by decide +kernel
theorem dX10_within_24 : decode cX10_within 24 = .ok (.bipush (-3), 2) := by decide +kernel
theorem dX10_within_26 : decode cX10_within 26 = .ok (.ireturn, 1) := by decide +kernel
theorem dX10_within_27 : decode cX10_within 27 = .ok (.aload_n 0, 1) := by decide +kernel
theorem dX10_within_28 : decode cX10_within 28 = .ok (.iload_n 1, 1) := by decide +kernel
theorem dX10_within_29 : decode cX10_within 29 = .ok (.invokevirtual 288, 3) := by decide +kernel
theorem dX10_within_32 : decode cX10_within 32 = .ok (.ifCond .ne 5, 3) := by decide +kernel
theorem dX10_within_35 : decode cX10_within 35 = .ok (.iconst (-1), 1) := by decide +kernel
theorem dX10_within_36 : decode cX10_within 36 = .ok (.ireturn, 1) := by decide +kernel
theorem dX10_within_37 : decode cX10_within 37 = .ok (.aload_n 0, 1) := by decide +kernel
theorem dX10_within_38 : decode cX10_within 38 = .ok (.invokevirtual 224, 3) := by decide +kernel
theorem dX10_within_41 : decode cX10_within 41 = .ok (.iload_n 2, 1) := by decide +kernel
theorem dX10_within_42 : decode cX10_within 42 = .ok (.ifCond .ne 10, 3) := by decide +kernel
theorem dX10_within_45 : decode cX10_within 45 = .ok (.aload_n 0, 1) := by decide +kernel
theorem dX10_within_46 : decode cX10_within 46 = .ok (.getfield 280, 3) := by decide +kernel
theorem dX10_within_49 : decode cX10_within 49 = .ok (.goto 21, 3) := by decide +kernel
theorem dX10_within_52 : decode cX10_within 52 = .ok (.iload_n 2, 1) := by decide +kernel
theorem dX10_within_53 : decode cX10_within 53 = .ok (.iconst 1, 1) := by decide +kernel
theorem dX10_within_54 : decode cX10_within 54 = .ok (.if_icmp .ne 10, 3) := by decide +kernel
theorem dX10_within_57 : decode cX10_within 57 = .ok (.aload_n 0, 1) := by decide +kernel
theorem dX10_within_58 : decode cX10_within 58 = .ok (.getfield 283, 3) := by decide +kernel
theorem dX10_within_61 : decode cX10_within 61 = .ok (.goto 9, 3) := by decide +kernel
theorem dX10_within_64 : decode cX10_within 64 = .ok (.aload_n 0, 1) := by decide +kernel
theorem dX10_within_65 : decode cX10_within 65 = .ok (.getfield 39, 3) := by decide +kernel
theorem dX10_within_68 : decode cX10_within 68 = .ok (.iload_n 1, 1) := by decide +kernel
theorem dX10_within_69 : decode cX10_within 69 = .ok (.iaload, 1) := by decide +kernel
theorem dX10_within_70 : decode cX10_within 70 = .ok (.ireturn, 1) := by decide +kernel
theorem dX10_way_0 : decode cX10_way 0 = .ok (.aload_n 0, 1) := by decide +kernel
theorem dX10_way_1 : decode cX10_way 1 = .ok (.iconst 0, 1) := by decide +kernel
theorem dX10_way_2 : decode cX10_way 2 = .ok (.putfield 1, 3) := by decide +kernel
theorem dX10_way_5 : decode cX10_way 5 = .ok (.iload_n 1, 1) := by decide +kernel
theorem dX10_way_6 : decode cX10_way 6 = .ok (.ifCond .lt 7, 3) := by decide +kernel
theorem dX10_way_9 : decode cX10_way 9 = .ok (.iload_n 2, 1) := by decide +kernel
theorem dX10_way_10 : decode cX10_way 10 = .ok (.ifCond .ge 6, 3) := by decide +kernel
theorem dX10_way_13 : decode cX10_way 13 = .ok (.bipush (-3), 2) := by decide +kernel
theorem dX10_way_15 : decode cX10_way 15 = .ok (.ireturn, 1) := by decide +kernel
theorem dX10_way_16 : decode cX10_way 16 = .ok (.aload_n 0, 1) := by decide +kernel
theorem dX10_way_17 : decode cX10_way 17 = .ok (.iload_n 1, 1) := by decide +kernel
theorem dX10_way_18 : decode cX10_way 18 = .ok (.invokevirtual 288, 3) := by decide +kernel
theorem dX10_way_21 : decode cX10_way 21 = .ok (.ifCond .ne 5, 3) := by decide +kernel
theorem dX10_way_24 : decode cX10_way 24 = .ok (.iconst (-1), 1) := by decide +kernel
theorem dX10_way_25 : decode cX10_way 25 = .ok (.ireturn, 1) := by decide +kernel
theorem dX10_way_26 : decode cX10_way 26 = .ok (.aload_n 0, 1) := by decide +kernel
theorem dX10_way_27 : decode cX10_way 27 = .ok (.aload_n 0, 1) := by decide +kernel
theorem dX10_way_28 : decode cX10_way 28 = .ok (.getfield 280, 3) := by decide +kernel
theorem dX10_way_31 : decode cX10_way 31 = .ok (.invokevirtual 127, 3) := by decide +kernel
theorem dX10_way_34 : decode cX10_way 34 = .ok (.istore_n 3, 1) := by decide +kernel
theorem dX10_way_35 : decode cX10_way 35 = .ok (.iload_n 1, 1) := by decide +kernel
theorem dX10_way_36 : decode cX10_way 36 = .ok (.aload_n 0, 1) := by decide +kernel
theorem dX10_way_37 : decode cX10_way 37 = .ok (.getfield 283, 3) := by decide +kernel
theorem dX10_way_40 : decode cX10_way 40 = .ok (.isub, 1) := by decide +kernel
theorem dX10_way_41 : decode cX10_way 41 = .ok (.istore 4, 2) := by decide +kernel
theorem dX10_way_43 : decode cX10_way 43 = .ok (.iconst 0, 1) := by decide +kernel
theorem dX10_way_44 : decode cX10_way 44 = .ok (.istore 5, 2) := by decide +kernel
theorem dX10_way_46 : decode cX10_way 46 = .ok (.iload 5, 2) := by decide +kernel
theorem dX10_way_48 : decode cX10_way 48 = .ok (.iload_n 2, 1) := by decide +kernel
theorem dX10_way_49 : decode cX10_way 49 = .ok (.if_icmp .ge 68, 3) := by decide +kernel
theorem dX10_way_52 : decode cX10_way 52 = .ok (.iload_n 3, 1) := by decide +kernel
theorem dX10_way_53 : decode cX10_way 53 = .ok (.bipush 26, 2) := by decide +kernel
theorem dX10_way_55 : decode cX10_way 55 = .ok (.if_icmp .ge 5, 3) := by decide +kernel
theorem dX10_way_58 : decode cX10_way 58 = .ok (.iconst (-1), 1) := by decide +kernel
theorem dX10_way_59 : decode cX10_way 59 = .ok (.ireturn, 1) := by decide +kernel
theorem dX10_way_60 : decode cX10_way 60 = .ok (.iconst 0, 1) := by decide +kernel
theorem dX10_way_61 : decode cX10_way 61 = .ok (.istore 6, 2) := by decide +kernel
theorem dX10_way_63 : decode cX10_way 63 = .ok (.iload 4, 2) := by decide +kernel
theorem dX10_way_65 : decode cX10_way 65 = .ok (.aload_n 0, 1) := by decide +kernel
theorem dX10_way_66 : decode cX10_way 66 = .ok (.getfield 30, 3) := by decide +kernel
theorem dX10_way_69 : decode cX10_way 69 = .ok (.aload_n 0, 1) := by decide +kernel
theorem dX10_way_70 : decode cX10_way 70 = .ok (.iload_n 3, 1) := by decide +kernel
theorem dX10_way_71 : decode cX10_way 71 = .ok (.iload 6, 2) := by decide +kernel
theorem dX10_way_73 : decode cX10_way 73 = .ok (.invokevirtual 113, 3) := by decide +kernel
theorem dX10_way_76 : decode cX10_way 76 = .ok (.iaload, 1) := by decide +kernel
theorem dX10_way_77 : decode cX10_way 77 = .ok (.if_icmp .lt 26, 3) := by decide +kernel
theorem dX10_way_80 : decode cX10_way 80 = .ok (.iload 4, 2) := by decide +kernel
theorem dX10_way_82 : decode cX10_way 82 = .ok (.aload_n 0, 1) := by decide +kernel
theorem dX10_way_83 : decode cX10_way 83 = .ok (.getfield 30, 3) := by decide +kernel
theorem dX10_way_86 : decode cX10_way 86 = .ok (.aload_n 0, 1) := by decide +kernel
theorem dX10_way_87 : decode cX10_way 87 = .ok (.iload_n 3, 1) := by decide +kernel
theorem dX10_way_88 : decode cX10_way 88 = .ok (.iload 6, 2) := by decide +kernel
theorem dX10_way_90 : decode cX10_way 90 = .ok (.invokevirtual 113, 3) := by decide +kernel
theorem dX10_way_93 : decode cX10_way 93 = .ok (.iaload, 1) := by decide +kernel
theorem dX10_way_94 : decode cX10_way 94 = .ok (.isub, 1) := by decide +kernel
theorem dX10_way_95 : decode cX10_way 95 = .ok (.istore 4, 2) := by decide +kernel
theorem dX10_way_97 : decode cX10_way 97 = .ok (.iinc 6 1, 3) := by decide +kernel
theorem dX10_way_100 : decode cX10_way 100 = .ok (.goto (-37), 3) := by decide +kernel
theorem dX10_way_103 : decode cX10_way 103 = .ok (.aload_n 0, 1) := by decide +kernel
theorem dX10_way_104 : decode cX10_way 104 = .ok (.iload_n 3, 1) := by decide +kernel
theorem dX10_way_105 : decode cX10_way 105 = .ok (.iload 6, 2) := by decide +kernel
theorem dX10_way_107 : decode cX10_way 107 = .ok (.invokevirtual 113, 3) := by decide +kernel
theorem dX10_way_110 : decode cX10_way 110 = .ok (.istore_n 3, 1) := by decide +kernel
theorem dX10_way_111 : decode cX10_way 111 = .ok (.iinc 5 1, 3) := by decide +kernel
theorem dX10_way_114 : decode cX10_way 114 = .ok (.goto (-68), 3) := by decide +kernel
theorem dX10_way_117 : decode cX10_way 117 = .ok (.iload_n 3, 1) := by decide +kernel
theorem dX10_way_118 : decode cX10_way 118 = .ok (.ireturn, 1) := by decide +kernel
theorem dX10_ahead_0 : decode cX10_ahead 0 = .ok (.aload_n 0, 1) := by decide +kernel
theorem dX10_ahead_1 : decode cX10_ahead 1 = .ok (.iconst 0, 1) := by decide +kernel
theorem dX10_ahead_2 : decode cX10_ahead 2 = .ok (.putfield 1, 3) := by decide +kernel
theorem dX10_ahead_5 : decode cX10_ahead 5 = .ok (.iload_n 1, 1) := by decide +kernel
theorem dX10_ahead_6 : decode cX10_ahead 6 = .ok (.i2l, 1) := by decide +kernel
theorem dX10_ahead_7 : decode cX10_ahead 7 = .ok (.lconst 0, 1) := by decide +kernel
theorem dX10_ahead_8 : decode cX10_ahead 8 = .ok (.ldc2_w 96, 3) := by decide +kernel
theorem dX10_ahead_11 : decode cX10_ahead 11 = .ok (.invokestatic 98, 3) := by decide +kernel
theorem dX10_ahead_14 : decode cX10_ahead 14 = .ok (.ifCond .ne 6, 3) := by decide +kernel
theorem dX10_ahead_17 : decode cX10_ahead 17 = .ok (.bipush (-2), 2) := by decide +kernel
theorem dX10_ahead_19 : decode cX10_ahead 19 = .ok (.ireturn, 1) := by decide +kernel
theorem dX10_ahead_20 : decode cX10_ahead 20 = .ok (.aload_n 0, 1) := by decide +kernel
theorem dX10_ahead_21 : decode cX10_ahead 21 = .ok (.invokevirtual 224, 3) := by decide +kernel
theorem dX10_ahead_24 : decode cX10_ahead 24 = .ok (.iload_n 2, 1) := by decide +kernel
theorem dX10_ahead_25 : decode cX10_ahead 25 = .ok (.i2l, 1) := by decide +kernel
theorem dX10_ahead_26 : decode cX10_ahead 26 = .ok (.lconst 0, 1) := by decide +kernel
theorem dX10_ahead_27 : decode cX10_ahead 27 = .ok (.aload_n 0, 1) := by decide +kernel
theorem dX10_ahead_28 : decode cX10_ahead 28 = .ok (.getfield 120, 3) := by decide +kernel
theorem dX10_ahead_31 : decode cX10_ahead 31 = .ok (.i2l, 1) := by decide +kernel
theorem dX10_ahead_32 : decode cX10_ahead 32 = .ok (.invokestatic 98, 3) := by decide +kernel
theorem dX10_ahead_35 : decode cX10_ahead 35 = .ok (.ifCond .ne 6, 3) := by decide +kernel
theorem dX10_ahead_38 : decode cX10_ahead 38 = .ok (.bipush (-5), 2) := by decide +kernel
theorem dX10_ahead_40 : decode cX10_ahead 40 = .ok (.ireturn, 1) := by decide +kernel
theorem dX10_ahead_41 : decode cX10_ahead 41 = .ok (.iconst 0, 1) := by decide +kernel
theorem dX10_ahead_42 : decode cX10_ahead 42 = .ok (.istore_n 3, 1) := by decide +kernel
theorem dX10_ahead_43 : decode cX10_ahead 43 = .ok (.iconst 0, 1) := by decide +kernel
theorem dX10_ahead_44 : decode cX10_ahead 44 = .ok (.istore 4, 2) := by decide +kernel
theorem dX10_ahead_46 : decode cX10_ahead 46 = .ok (.iload 4, 2) := by decide +kernel
theorem dX10_ahead_48 : decode cX10_ahead 48 = .ok (.iload_n 2, 1) := by decide +kernel
theorem dX10_ahead_49 : decode cX10_ahead 49 = .ok (.if_icmp .ge 28, 3) := by decide +kernel
theorem dX10_ahead_52 : decode cX10_ahead 52 = .ok (.iload_n 3, 1) := by decide +kernel
theorem dX10_ahead_53 : decode cX10_ahead 53 = .ok (.aload_n 0, 1) := by decide +kernel
theorem dX10_ahead_54 : decode cX10_ahead 54 = .ok (.getfield 36, 3) := by decide +kernel
theorem dX10_ahead_57 : decode cX10_ahead 57 = .ok (.iload 4, 2) := by decide +kernel
theorem dX10_ahead_59 : decode cX10_ahead 59 = .ok (.iaload, 1) := by decide +kernel
theorem dX10_ahead_60 : decode cX10_ahead 60 = .ok (.iload_n 1, 1) := by decide +kernel
theorem dX10_ahead_61 : decode cX10_ahead 61 = .ok (.if_icmp .ne 7, 3) := by decide +kernel
theorem dX10_ahead_64 : decode cX10_ahead 64 = .ok (.iconst 1, 1) := by decide +kernel
theorem dX10_ahead_65 : decode cX10_ahead 65 = .ok (.goto 4, 3) := by decide +kernel
theorem dX10_ahead_68 : decode cX10_ahead 68 = .ok (.iconst 0, 1) := by decide +kernel
theorem dX10_ahead_69 : decode cX10_ahead 69 = .ok (.iadd, 1) := by decide +kernel
theorem dX10_ahead_70 : decode cX10_ahead 70 = .ok (.istore_n 3, 1) := by decide +kernel
theorem dX10_ahead_71 : decode cX10_ahead 71 = .ok (.iinc 4 1, 3) := by decide +kernel
theorem dX10_ahead_74 : decode cX10_ahead 74 = .ok (.goto (-28), 3) := by decide +kernel
theorem dX10_ahead_77 : decode cX10_ahead 77 = .ok (.iload_n 3, 1) := by decide +kernel
theorem dX10_ahead_78 : decode cX10_ahead 78 = .ok (.ireturn, 1) := by decide +kernel
theorem dX10_where_0 : decode cX10_where 0 = .ok (.aload_n 0, 1) := by decide +kernel
theorem dX10_where_1 : decode cX10_where 1 = .ok (.iconst 0, 1) := by decide +kernel
theorem dX10_where_2 : decode cX10_where 2 = .ok (.putfield 1, 3) := by decide +kernel
theorem dX10_where_5 : decode cX10_where 5 = .ok (.iload_n 1, 1) := by decide +kernel
theorem dX10_where_6 : decode cX10_where 6 = .ok (.i2l, 1) := by decide +kernel
theorem dX10_where_7 : decode cX10_where 7 = .ok (.lconst 0, 1) := by decide +kernel
theorem dX10_where_8 : decode cX10_where 8 = .ok (.ldc2_w 96, 3) := by decide +kernel
theorem dX10_where_11 : decode cX10_where 11 = .ok (.invokestatic 98, 3) := by decide +kernel
theorem dX10_where_14 : decode cX10_where 14 = .ok (.ifCond .ne 6, 3) := by decide +kernel
theorem dX10_where_17 : decode cX10_where 17 = .ok (.bipush (-2), 2) := by decide +kernel
theorem dX10_where_19 : decode cX10_where 19 = .ok (.ireturn, 1) := by decide +kernel
theorem dX10_where_20 : decode cX10_where 20 = .ok (.iload_n 2, 1) := by decide +kernel
theorem dX10_where_21 : decode cX10_where 21 = .ok (.ifCond .ge 6, 3) := by decide +kernel
theorem dX10_where_24 : decode cX10_where 24 = .ok (.bipush (-3), 2) := by decide +kernel
theorem dX10_where_26 : decode cX10_where 26 = .ok (.ireturn, 1) := by decide +kernel
theorem dX10_where_27 : decode cX10_where 27 = .ok (.aload_n 0, 1) := by decide +kernel
theorem dX10_where_28 : decode cX10_where 28 = .ok (.invokevirtual 224, 3) := by decide +kernel
theorem dX10_where_31 : decode cX10_where 31 = .ok (.iconst 0, 1) := by decide +kernel
theorem dX10_where_32 : decode cX10_where 32 = .ok (.istore_n 3, 1) := by decide +kernel
theorem dX10_where_33 : decode cX10_where 33 = .ok (.iconst 0, 1) := by decide +kernel
theorem dX10_where_34 : decode cX10_where 34 = .ok (.istore 4, 2) := by decide +kernel
theorem dX10_where_36 : decode cX10_where 36 = .ok (.iload 4, 2) := by decide +kernel
theorem dX10_where_38 : decode cX10_where 38 = .ok (.aload_n 0, 1) := by decide +kernel
theorem dX10_where_39 : decode cX10_where 39 = .ok (.getfield 120, 3) := by decide +kernel
theorem dX10_where_42 : decode cX10_where 42 = .ok (.if_icmp .ge 34, 3) := by decide +kernel
theorem dX10_where_45 : decode cX10_where 45 = .ok (.aload_n 0, 1) := by decide +kernel
theorem dX10_where_46 : decode cX10_where 46 = .ok (.getfield 36, 3) := by decide +kernel
theorem dX10_where_49 : decode cX10_where 49 = .ok (.iload 4, 2) := by decide +kernel
theorem dX10_where_51 : decode cX10_where 51 = .ok (.iaload, 1) := by decide +kernel
theorem dX10_where_52 : decode cX10_where 52 = .ok (.iload_n 1, 1) := by decide +kernel
theorem dX10_where_53 : decode cX10_where 53 = .ok (.if_icmp .eq 6, 3) := by decide +kernel
theorem dX10_where_56 : decode cX10_where 56 = .ok (.goto 14, 3) := by decide +kernel
theorem dX10_where_59 : decode cX10_where 59 = .ok (.iload_n 3, 1) := by decide +kernel
theorem dX10_where_60 : decode cX10_where 60 = .ok (.iload_n 2, 1) := by decide +kernel
theorem dX10_where_61 : decode cX10_where 61 = .ok (.if_icmp .ne 6, 3) := by decide +kernel
theorem dX10_where_64 : decode cX10_where 64 = .ok (.iload 4, 2) := by decide +kernel
theorem dX10_where_66 : decode cX10_where 66 = .ok (.ireturn, 1) := by decide +kernel
theorem dX10_where_67 : decode cX10_where 67 = .ok (.iinc 3 1, 3) := by decide +kernel
theorem dX10_where_70 : decode cX10_where 70 = .ok (.iinc 4 1, 3) := by decide +kernel
theorem dX10_where_73 : decode cX10_where 73 = .ok (.goto (-37), 3) := by decide +kernel
theorem dX10_where_76 : decode cX10_where 76 = .ok (.iconst (-1), 1) := by decide +kernel
theorem dX10_where_77 : decode cX10_where 77 = .ok (.ireturn, 1) := by decide +kernel
theorem dX10_commonOf_0 : decode cX10_commonOf 0 = .ok (.iconst 0, 1) := by decide +kernel
theorem dX10_commonOf_1 : decode cX10_commonOf 1 = .ok (.istore_n 3, 1) := by decide +kernel
theorem dX10_commonOf_2 : decode cX10_commonOf 2 = .ok (.iload_n 1, 1) := by decide +kernel
theorem dX10_commonOf_3 : decode cX10_commonOf 3 = .ok (.iload_n 3, 1) := by decide +kernel
theorem dX10_commonOf_4 : decode cX10_commonOf 4 = .ok (.iadd, 1) := by decide +kernel
theorem dX10_commonOf_5 : decode cX10_commonOf 5 = .ok (.aload_n 0, 1) := by decide +kernel
theorem dX10_commonOf_6 : decode cX10_commonOf 6 = .ok (.getfield 120, 3) := by decide +kernel
theorem dX10_commonOf_9 : decode cX10_commonOf 9 = .ok (.if_icmp .ge 38, 3) := by decide +kernel
theorem dX10_commonOf_12 : decode cX10_commonOf 12 = .ok (.iload_n 2, 1) := by decide +kernel
theorem dX10_commonOf_13 : decode cX10_commonOf 13 = .ok (.iload_n 3, 1) := by decide +kernel
theorem dX10_commonOf_14 : decode cX10_commonOf 14 = .ok (.iadd, 1) := by decide +kernel
theorem dX10_commonOf_15 : decode cX10_commonOf 15 = .ok (.aload_n 0, 1) := by decide +kernel
theorem dX10_commonOf_16 : decode cX10_commonOf 16 = .ok (.getfield 120, 3) := by decide +kernel
theorem dX10_commonOf_19 : decode cX10_commonOf 19 = .ok (.if_icmp .ge 28, 3) := by decide +kernel
theorem dX10_commonOf_22 : decode cX10_commonOf 22 = .ok (.aload_n 0, 1) := by decide +kernel
theorem dX10_commonOf_23 : decode cX10_commonOf 23 = .ok (.getfield 36, 3) := by decide +kernel
theorem dX10_commonOf_26 : decode cX10_commonOf 26 = .ok (.iload_n 1, 1) := by decide +kernel
theorem dX10_commonOf_27 : decode cX10_commonOf 27 = .ok (.iload_n 3, 1) := by decide +kernel
theorem dX10_commonOf_28 : decode cX10_commonOf 28 = .ok (.iadd, 1) := by decide +kernel
theorem dX10_commonOf_29 : decode cX10_commonOf 29 = .ok (.iaload, 1) := by decide +kernel
theorem dX10_commonOf_30 : decode cX10_commonOf 30 = .ok (.aload_n 0, 1) := by decide +kernel
theorem dX10_commonOf_31 : decode cX10_commonOf 31 = .ok (.getfield 36, 3) := by decide +kernel
theorem dX10_commonOf_34 : decode cX10_commonOf 34 = .ok (.iload_n 2, 1) := by decide +kernel
theorem dX10_commonOf_35 : decode cX10_commonOf 35 = .ok (.iload_n 3, 1) := by decide +kernel
theorem dX10_commonOf_36 : decode cX10_commonOf 36 = .ok (.iadd, 1) := by decide +kernel
theorem dX10_commonOf_37 : decode cX10_commonOf 37 = .ok (.iaload, 1) := by decide +kernel
theorem dX10_commonOf_38 : decode cX10_commonOf 38 = .ok (.if_icmp .ne 9, 3) := by decide +kernel
theorem dX10_commonOf_41 : decode cX10_commonOf 41 = .ok (.iinc 3 1, 3) := by decide +kernel
theorem dX10_commonOf_44 : decode cX10_commonOf 44 = .ok (.goto (-42), 3) := by decide +kernel
theorem dX10_commonOf_47 : decode cX10_commonOf 47 = .ok (.iload_n 3, 1) := by decide +kernel
theorem dX10_commonOf_48 : decode cX10_commonOf 48 = .ok (.ireturn, 1) := by decide +kernel
theorem dX10_arePlaces_0 : decode cX10_arePlaces 0 = .ok (.aload_n 0, 1) := by decide +kernel
theorem dX10_arePlaces_1 : decode cX10_arePlaces 1 = .ok (.invokevirtual 224, 3) := by decide +kernel
theorem dX10_arePlaces_4 : decode cX10_arePlaces 4 = .ok (.iload_n 1, 1) := by decide +kernel
theorem dX10_arePlaces_5 : decode cX10_arePlaces 5 = .ok (.i2l, 1) := by decide +kernel
theorem dX10_arePlaces_6 : decode cX10_arePlaces 6 = .ok (.lconst 0, 1) := by decide +kernel
theorem dX10_arePlaces_7 : decode cX10_arePlaces 7 = .ok (.aload_n 0, 1) := by decide +kernel
theorem dX10_arePlaces_8 : decode cX10_arePlaces 8 = .ok (.getfield 120, 3) := by decide +kernel
theorem dX10_arePlaces_11 : decode cX10_arePlaces 11 = .ok (.iconst 1, 1) := by decide +kernel
theorem dX10_arePlaces_12 : decode cX10_arePlaces 12 = .ok (.isub, 1) := by decide +kernel
theorem dX10_arePlaces_13 : decode cX10_arePlaces 13 = .ok (.i2l, 1) := by decide +kernel
theorem dX10_arePlaces_14 : decode cX10_arePlaces 14 = .ok (.invokestatic 98, 3) := by decide +kernel
theorem dX10_arePlaces_17 : decode cX10_arePlaces 17 = .ok (.ifCond .eq 23, 3) := by decide +kernel
theorem dX10_arePlaces_20 : decode cX10_arePlaces 20 = .ok (.iload_n 2, 1) := by decide +kernel
theorem dX10_arePlaces_21 : decode cX10_arePlaces 21 = .ok (.i2l, 1) := by decide +kernel
theorem dX10_arePlaces_22 : decode cX10_arePlaces 22 = .ok (.lconst 0, 1) := by decide +kernel
theorem dX10_arePlaces_23 : decode cX10_arePlaces 23 = .ok (.aload_n 0, 1) := by decide +kernel
theorem dX10_arePlaces_24 : decode cX10_arePlaces 24 = .ok (.getfield 120, 3) := by decide +kernel
theorem dX10_arePlaces_27 : decode cX10_arePlaces 27 = .ok (.iconst 1, 1) := by decide +kernel
theorem dX10_arePlaces_28 : decode cX10_arePlaces 28 = .ok (.isub, 1) := by decide +kernel
theorem dX10_arePlaces_29 : decode cX10_arePlaces 29 = .ok (.i2l, 1) := by decide +kernel
theorem dX10_arePlaces_30 : decode cX10_arePlaces 30 = .ok (.invokestatic 98, 3) := by decide +kernel
theorem dX10_arePlaces_33 : decode cX10_arePlaces 33 = .ok (.ifCond .eq 7, 3) := by decide +kernel
theorem dX10_arePlaces_36 : decode cX10_arePlaces 36 = .ok (.iconst 1, 1) := by decide +kernel
theorem dX10_arePlaces_37 : decode cX10_arePlaces 37 = .ok (.goto 4, 3) := by decide +kernel
theorem dX10_arePlaces_40 : decode cX10_arePlaces 40 = .ok (.iconst 0, 1) := by decide +kernel
theorem dX10_arePlaces_41 : decode cX10_arePlaces 41 = .ok (.ireturn, 1) := by decide +kernel
theorem dX10_common_0 : decode cX10_common 0 = .ok (.aload_n 0, 1) := by decide +kernel
theorem dX10_common_1 : decode cX10_common 1 = .ok (.iconst 0, 1) := by decide +kernel
theorem dX10_common_2 : decode cX10_common 2 = .ok (.putfield 1, 3) := by decide +kernel
theorem dX10_common_5 : decode cX10_common 5 = .ok (.aload_n 0, 1) := by decide +kernel
theorem dX10_common_6 : decode cX10_common 6 = .ok (.iload_n 1, 1) := by decide +kernel
theorem dX10_common_7 : decode cX10_common 7 = .ok (.iload_n 2, 1) := by decide +kernel
theorem dX10_common_8 : decode cX10_common 8 = .ok (.invokevirtual 291, 3) := by decide +kernel
theorem dX10_common_11 : decode cX10_common 11 = .ok (.ifCond .eq 12, 3) := by decide +kernel
theorem dX10_common_14 : decode cX10_common 14 = .ok (.aload_n 0, 1) := by decide +kernel
theorem dX10_common_15 : decode cX10_common 15 = .ok (.iload_n 1, 1) := by decide +kernel
theorem dX10_common_16 : decode cX10_common 16 = .ok (.iload_n 2, 1) := by decide +kernel
theorem dX10_common_17 : decode cX10_common 17 = .ok (.invokevirtual 294, 3) := by decide +kernel
theorem dX10_common_20 : decode cX10_common 20 = .ok (.goto 5, 3) := by decide +kernel
theorem dX10_common_23 : decode cX10_common 23 = .ok (.bipush (-5), 2) := by decide +kernel
theorem dX10_common_25 : decode cX10_common 25 = .ok (.ireturn, 1) := by decide +kernel
theorem dX10_compare_0 : decode cX10_compare 0 = .ok (.aload_n 0, 1) := by decide +kernel
theorem dX10_compare_1 : decode cX10_compare 1 = .ok (.iconst 0, 1) := by decide +kernel
theorem dX10_compare_2 : decode cX10_compare 2 = .ok (.putfield 1, 3) := by decide +kernel
theorem dX10_compare_5 : decode cX10_compare 5 = .ok (.aload_n 0, 1) := by decide +kernel
theorem dX10_compare_6 : decode cX10_compare 6 = .ok (.iload_n 1, 1) := by decide +kernel
theorem dX10_compare_7 : decode cX10_compare 7 = .ok (.iload_n 2, 1) := by decide +kernel
theorem dX10_compare_8 : decode cX10_compare 8 = .ok (.invokevirtual 291, 3) := by decide +kernel
theorem dX10_compare_11 : decode cX10_compare 11 = .ok (.ifCond .ne 6, 3) := by decide +kernel
theorem dX10_compare_14 : decode cX10_compare 14 = .ok (.bipush (-5), 2) := by decide +kernel
theorem dX10_compare_16 : decode cX10_compare 16 = .ok (.ireturn, 1) := by decide +kernel
theorem dX10_compare_17 : decode cX10_compare 17 = .ok (.iload_n 1, 1) := by decide +kernel
theorem dX10_compare_18 : decode cX10_compare 18 = .ok (.iload_n 2, 1) := by decide +kernel
theorem dX10_compare_19 : decode cX10_compare 19 = .ok (.if_icmp .ne 5, 3) := by decide +kernel
theorem dX10_compare_22 : decode cX10_compare 22 = .ok (.iconst 0, 1) := by decide +kernel
theorem dX10_compare_23 : decode cX10_compare 23 = .ok (.ireturn, 1) := by decide +kernel
theorem dX10_compare_24 : decode cX10_compare 24 = .ok (.aload_n 0, 1) := by decide +kernel
theorem dX10_compare_25 : decode cX10_compare 25 = .ok (.iload_n 1, 1) := by decide +kernel
theorem dX10_compare_26 : decode cX10_compare 26 = .ok (.iload_n 2, 1) := by decide +kernel
theorem dX10_compare_27 : decode cX10_compare 27 = .ok (.invokevirtual 294, 3) := by decide +kernel
theorem dX10_compare_30 : decode cX10_compare 30 = .ok (.istore_n 3, 1) := by decide +kernel
theorem dX10_compare_31 : decode cX10_compare 31 = .ok (.iload_n 1, 1) := by decide +kernel
theorem dX10_compare_32 : decode cX10_compare 32 = .ok (.iload_n 3, 1) := by decide +kernel
theorem dX10_compare_33 : decode cX10_compare 33 = .ok (.iadd, 1) := by decide +kernel
theorem dX10_compare_34 : decode cX10_compare 34 = .ok (.aload_n 0, 1) := by decide +kernel
theorem dX10_compare_35 : decode cX10_compare 35 = .ok (.getfield 120, 3) := by decide +kernel
theorem dX10_compare_38 : decode cX10_compare 38 = .ok (.if_icmp .ne 5, 3) := by decide +kernel
theorem dX10_compare_41 : decode cX10_compare 41 = .ok (.iconst 1, 1) := by decide +kernel
theorem dX10_compare_42 : decode cX10_compare 42 = .ok (.ireturn, 1) := by decide +kernel
theorem dX10_compare_43 : decode cX10_compare 43 = .ok (.iload_n 2, 1) := by decide +kernel
theorem dX10_compare_44 : decode cX10_compare 44 = .ok (.iload_n 3, 1) := by decide +kernel
theorem dX10_compare_45 : decode cX10_compare 45 = .ok (.iadd, 1) := by decide +kernel
theorem dX10_compare_46 : decode cX10_compare 46 = .ok (.aload_n 0, 1) := by decide +kernel
theorem dX10_compare_47 : decode cX10_compare 47 = .ok (.getfield 120, 3) := by decide +kernel
theorem dX10_compare_50 : decode cX10_compare 50 = .ok (.if_icmp .ne 5, 3) := by decide +kernel
theorem dX10_compare_53 : decode cX10_compare 53 = .ok (.iconst 2, 1) := by decide +kernel
theorem dX10_compare_54 : decode cX10_compare 54 = .ok (.ireturn, 1) := by decide +kernel
theorem dX10_compare_55 : decode cX10_compare 55 = .ok (.aload_n 0, 1) := by decide +kernel
theorem dX10_compare_56 : decode cX10_compare 56 = .ok (.getfield 36, 3) := by decide +kernel
theorem dX10_compare_59 : decode cX10_compare 59 = .ok (.iload_n 1, 1) := by decide +kernel
theorem dX10_compare_60 : decode cX10_compare 60 = .ok (.iload_n 3, 1) := by decide +kernel
theorem dX10_compare_61 : decode cX10_compare 61 = .ok (.iadd, 1) := by decide +kernel
theorem dX10_compare_62 : decode cX10_compare 62 = .ok (.iaload, 1) := by decide +kernel
theorem dX10_compare_63 : decode cX10_compare 63 = .ok (.aload_n 0, 1) := by decide +kernel
theorem dX10_compare_64 : decode cX10_compare 64 = .ok (.getfield 36, 3) := by decide +kernel
theorem dX10_compare_67 : decode cX10_compare 67 = .ok (.iload_n 2, 1) := by decide +kernel
theorem dX10_compare_68 : decode cX10_compare 68 = .ok (.iload_n 3, 1) := by decide +kernel
theorem dX10_compare_69 : decode cX10_compare 69 = .ok (.iadd, 1) := by decide +kernel
theorem dX10_compare_70 : decode cX10_compare 70 = .ok (.iaload, 1) := by decide +kernel
theorem dX10_compare_71 : decode cX10_compare 71 = .ok (.if_icmp .ge 7, 3) := by decide +kernel
theorem dX10_compare_74 : decode cX10_compare 74 = .ok (.iconst 1, 1) := by decide +kernel
theorem dX10_compare_75 : decode cX10_compare 75 = .ok (.goto 4, 3) := by decide +kernel
theorem dX10_compare_78 : decode cX10_compare 78 = .ok (.iconst 2, 1) := by decide +kernel
theorem dX10_compare_79 : decode cX10_compare 79 = .ok (.ireturn, 1) := by decide +kernel
theorem dX10_print_0 : decode cX10_print 0 = .ok (.aload_n 0, 1) := by decide +kernel
theorem dX10_print_1 : decode cX10_print 1 = .ok (.iconst 0, 1) := by decide +kernel
theorem dX10_print_2 : decode cX10_print 2 = .ok (.putfield 1, 3) := by decide +kernel
theorem dX10_print_5 : decode cX10_print 5 = .ok (.iload_n 2, 1) := by decide +kernel
theorem dX10_print_6 : decode cX10_print 6 = .ok (.ifCond .ge 6, 3) := by decide +kernel
theorem dX10_print_9 : decode cX10_print 9 = .ok (.bipush (-3), 2) := by decide +kernel
theorem dX10_print_11 : decode cX10_print 11 = .ok (.ireturn, 1) := by decide +kernel
theorem dX10_print_12 : decode cX10_print 12 = .ok (.aload_n 0, 1) := by decide +kernel
theorem dX10_print_13 : decode cX10_print 13 = .ok (.invokevirtual 224, 3) := by decide +kernel
theorem dX10_print_16 : decode cX10_print 16 = .ok (.iload_n 1, 1) := by decide +kernel
theorem dX10_print_17 : decode cX10_print 17 = .ok (.ifCond .lt 17, 3) := by decide +kernel
theorem dX10_print_20 : decode cX10_print 20 = .ok (.iload_n 1, 1) := by decide +kernel
theorem dX10_print_21 : decode cX10_print 21 = .ok (.i2l, 1) := by decide +kernel
theorem dX10_print_22 : decode cX10_print 22 = .ok (.iload_n 2, 1) := by decide +kernel
theorem dX10_print_23 : decode cX10_print 23 = .ok (.i2l, 1) := by decide +kernel
theorem dX10_print_24 : decode cX10_print 24 = .ok (.ladd, 1) := by decide +kernel
theorem dX10_print_25 : decode cX10_print 25 = .ok (.aload_n 0, 1) := by decide +kernel
theorem dX10_print_26 : decode cX10_print 26 = .ok (.getfield 120, 3) := by decide +kernel
theorem dX10_print_29 : decode cX10_print 29 = .ok (.i2l, 1) := by decide +kernel
theorem dX10_print_30 : decode cX10_print 30 = .ok (.lcmp, 1) := by decide +kernel
theorem dX10_print_31 : decode cX10_print 31 = .ok (.ifCond .le 6, 3) := by decide +kernel
theorem dX10_print_34 : decode cX10_print 34 = .ok (.bipush (-5), 2) := by decide +kernel
theorem dX10_print_36 : decode cX10_print 36 = .ok (.ireturn, 1) := by decide +kernel
theorem dX10_print_37 : decode cX10_print 37 = .ok (.iconst 0, 1) := by decide +kernel
theorem dX10_print_38 : decode cX10_print 38 = .ok (.istore_n 3, 1) := by decide +kernel
theorem dX10_print_39 : decode cX10_print 39 = .ok (.iconst 0, 1) := by decide +kernel
theorem dX10_print_40 : decode cX10_print 40 = .ok (.istore 4, 2) := by decide +kernel
theorem dX10_print_42 : decode cX10_print 42 = .ok (.iload 4, 2) := by decide +kernel
theorem dX10_print_44 : decode cX10_print 44 = .ok (.iload_n 2, 1) := by decide +kernel
theorem dX10_print_45 : decode cX10_print 45 = .ok (.if_icmp .ge 30, 3) := by decide +kernel
theorem dX10_print_48 : decode cX10_print 48 = .ok (.bipush 31, 2) := by decide +kernel
theorem dX10_print_50 : decode cX10_print 50 = .ok (.iload_n 3, 1) := by decide +kernel
theorem dX10_print_51 : decode cX10_print 51 = .ok (.imul, 1) := by decide +kernel
theorem dX10_print_52 : decode cX10_print 52 = .ok (.aload_n 0, 1) := by decide +kernel
theorem dX10_print_53 : decode cX10_print 53 = .ok (.getfield 36, 3) := by decide +kernel
theorem dX10_print_56 : decode cX10_print 56 = .ok (.iload_n 1, 1) := by decide +kernel
theorem dX10_print_57 : decode cX10_print 57 = .ok (.iload 4, 2) := by decide +kernel
theorem dX10_print_59 : decode cX10_print 59 = .ok (.iadd, 1) := by decide +kernel
theorem dX10_print_60 : decode cX10_print 60 = .ok (.iaload, 1) := by decide +kernel
theorem dX10_print_61 : decode cX10_print 61 = .ok (.iadd, 1) := by decide +kernel
theorem dX10_print_62 : decode cX10_print 62 = .ok (.iconst 1, 1) := by decide +kernel
theorem dX10_print_63 : decode cX10_print 63 = .ok (.iadd, 1) := by decide +kernel
theorem dX10_print_64 : decode cX10_print 64 = .ok (.ldc_w 297, 3) := by decide +kernel
theorem dX10_print_67 : decode cX10_print 67 = .ok (.irem, 1) := by decide +kernel
theorem dX10_print_68 : decode cX10_print 68 = .ok (.istore_n 3, 1) := by decide +kernel
theorem dX10_print_69 : decode cX10_print 69 = .ok (.iinc 4 1, 3) := by decide +kernel
theorem dX10_print_72 : decode cX10_print 72 = .ok (.goto (-30), 3) := by decide +kernel
theorem dX10_print_75 : decode cX10_print 75 = .ok (.iload_n 3, 1) := by decide +kernel
theorem dX10_print_76 : decode cX10_print 76 = .ok (.ireturn, 1) := by decide +kernel
theorem dX10_laysTwice_0 : decode cX10_laysTwice 0 = .ok (.aload_n 0, 1) := by decide +kernel
theorem dX10_laysTwice_1 : decode cX10_laysTwice 1 = .ok (.invokevirtual 224, 3) := by decide +kernel
theorem dX10_laysTwice_4 : decode cX10_laysTwice 4 = .ok (.aload_n 0, 1) := by decide +kernel
theorem dX10_laysTwice_5 : decode cX10_laysTwice 5 = .ok (.iconst 0, 1) := by decide +kernel
theorem dX10_laysTwice_6 : decode cX10_laysTwice 6 = .ok (.putfield 298, 3) := by decide +kernel
theorem dX10_laysTwice_9 : decode cX10_laysTwice 9 = .ok (.aload_n 0, 1) := by decide +kernel
theorem dX10_laysTwice_10 : decode cX10_laysTwice 10 = .ok (.iconst (-1), 1) := by decide +kernel
theorem dX10_laysTwice_11 : decode cX10_laysTwice 11 = .ok (.putfield 301, 3) := by decide +kernel
theorem dX10_laysTwice_14 : decode cX10_laysTwice 14 = .ok (.iconst 0, 1) := by decide +kernel
theorem dX10_laysTwice_15 : decode cX10_laysTwice 15 = .ok (.istore_n 1, 1) := by decide +kernel
theorem dX10_laysTwice_16 : decode cX10_laysTwice 16 = .ok (.iload_n 1, 1) := by decide +kernel
theorem dX10_laysTwice_17 : decode cX10_laysTwice 17 = .ok (.aload_n 0, 1) := by decide +kernel
theorem dX10_laysTwice_18 : decode cX10_laysTwice 18 = .ok (.getfield 120, 3) := by decide +kernel
theorem dX10_laysTwice_21 : decode cX10_laysTwice 21 = .ok (.if_icmp .ge 55, 3) := by decide +kernel
theorem dX10_laysTwice_24 : decode cX10_laysTwice 24 = .ok (.iload_n 1, 1) := by decide +kernel
theorem dX10_laysTwice_25 : decode cX10_laysTwice 25 = .ok (.iconst 1, 1) := by decide +kernel
theorem dX10_laysTwice_26 : decode cX10_laysTwice 26 = .ok (.iadd, 1) := by decide +kernel
theorem dX10_laysTwice_27 : decode cX10_laysTwice 27 = .ok (.istore_n 2, 1) := by decide +kernel
theorem dX10_laysTwice_28 : decode cX10_laysTwice 28 = .ok (.iload_n 2, 1) := by decide +kernel
theorem dX10_laysTwice_29 : decode cX10_laysTwice 29 = .ok (.aload_n 0, 1) := by decide +kernel
theorem dX10_laysTwice_30 : decode cX10_laysTwice 30 = .ok (.getfield 120, 3) := by decide +kernel
theorem dX10_laysTwice_33 : decode cX10_laysTwice 33 = .ok (.if_icmp .ge 37, 3) := by decide +kernel
theorem dX10_laysTwice_36 : decode cX10_laysTwice 36 = .ok (.aload_n 0, 1) := by decide +kernel
theorem dX10_laysTwice_37 : decode cX10_laysTwice 37 = .ok (.iload_n 1, 1) := by decide +kernel
theorem dX10_laysTwice_38 : decode cX10_laysTwice 38 = .ok (.iload_n 2, 1) := by decide +kernel
theorem dX10_laysTwice_39 : decode cX10_laysTwice 39 = .ok (.invokevirtual 294, 3) := by decide +kernel
theorem dX10_laysTwice_42 : decode cX10_laysTwice 42 = .ok (.istore_n 3, 1) := by decide +kernel
theorem dX10_laysTwice_43 : decode cX10_laysTwice 43 = .ok (.iload_n 3, 1) := by decide +kernel
theorem dX10_laysTwice_44 : decode cX10_laysTwice 44 = .ok (.aload_n 0, 1) := by decide +kernel
theorem dX10_laysTwice_45 : decode cX10_laysTwice 45 = .ok (.getfield 298, 3) := by decide +kernel
theorem dX10_laysTwice_48 : decode cX10_laysTwice 48 = .ok (.if_icmp .gt 6, 3) := by decide +kernel
theorem dX10_laysTwice_51 : decode cX10_laysTwice 51 = .ok (.goto 13, 3) := by decide +kernel
theorem dX10_laysTwice_54 : decode cX10_laysTwice 54 = .ok (.aload_n 0, 1) := by decide +kernel
theorem dX10_laysTwice_55 : decode cX10_laysTwice 55 = .ok (.iload_n 3, 1) := by decide +kernel
theorem dX10_laysTwice_56 : decode cX10_laysTwice 56 = .ok (.putfield 298, 3) := by decide +kernel
theorem dX10_laysTwice_59 : decode cX10_laysTwice 59 = .ok (.aload_n 0, 1) := by decide +kernel
theorem dX10_laysTwice_60 : decode cX10_laysTwice 60 = .ok (.iload_n 1, 1) := by decide +kernel
theorem dX10_laysTwice_61 : decode cX10_laysTwice 61 = .ok (.putfield 301, 3) := by decide +kernel
theorem dX10_laysTwice_64 : decode cX10_laysTwice 64 = .ok (.iinc 2 1, 3) := by decide +kernel
theorem dX10_laysTwice_67 : decode cX10_laysTwice 67 = .ok (.goto (-39), 3) := by decide +kernel
theorem dX10_laysTwice_70 : decode cX10_laysTwice 70 = .ok (.iinc 1 1, 3) := by decide +kernel
theorem dX10_laysTwice_73 : decode cX10_laysTwice 73 = .ok (.goto (-57), 3) := by decide +kernel
theorem dX10_laysTwice_76 : decode cX10_laysTwice 76 = .ok (.return_, 1) := by decide +kernel
theorem dX10_repeat_0 : decode cX10_repeat 0 = .ok (.aload_n 0, 1) := by decide +kernel
theorem dX10_repeat_1 : decode cX10_repeat 1 = .ok (.iconst 0, 1) := by decide +kernel
theorem dX10_repeat_2 : decode cX10_repeat 2 = .ok (.putfield 1, 3) := by decide +kernel
theorem dX10_repeat_5 : decode cX10_repeat 5 = .ok (.aload_n 0, 1) := by decide +kernel
theorem dX10_repeat_6 : decode cX10_repeat 6 = .ok (.invokevirtual 304, 3) := by decide +kernel
theorem dX10_repeat_9 : decode cX10_repeat 9 = .ok (.aload_n 0, 1) := by decide +kernel
theorem dX10_repeat_10 : decode cX10_repeat 10 = .ok (.getfield 298, 3) := by decide +kernel
theorem dX10_repeat_13 : decode cX10_repeat 13 = .ok (.ireturn, 1) := by decide +kernel
theorem dX10_repeatAt_0 : decode cX10_repeatAt 0 = .ok (.aload_n 0, 1) := by decide +kernel
theorem dX10_repeatAt_1 : decode cX10_repeatAt 1 = .ok (.iconst 0, 1) := by decide +kernel
theorem dX10_repeatAt_2 : decode cX10_repeatAt 2 = .ok (.putfield 1, 3) := by decide +kernel
theorem dX10_repeatAt_5 : decode cX10_repeatAt 5 = .ok (.aload_n 0, 1) := by decide +kernel
theorem dX10_repeatAt_6 : decode cX10_repeatAt 6 = .ok (.invokevirtual 304, 3) := by decide +kernel
theorem dX10_repeatAt_9 : decode cX10_repeatAt 9 = .ok (.aload_n 0, 1) := by decide +kernel
theorem dX10_repeatAt_10 : decode cX10_repeatAt 10 = .ok (.getfield 301, 3) := by decide +kernel
theorem dX10_repeatAt_13 : decode cX10_repeatAt 13 = .ok (.ireturn, 1) := by decide +kernel
theorem dX10_isHit_0 : decode cX10_isHit 0 = .ok (.aload_n 0, 1) := by decide +kernel
theorem dX10_isHit_1 : decode cX10_isHit 1 = .ok (.getfield 221, 3) := by decide +kernel
theorem dX10_isHit_4 : decode cX10_isHit 4 = .ok (.ifCond .eq 16, 3) := by decide +kernel
theorem dX10_isHit_7 : decode cX10_isHit 7 = .ok (.iload_n 1, 1) := by decide +kernel
theorem dX10_isHit_8 : decode cX10_isHit 8 = .ok (.aload_n 0, 1) := by decide +kernel
theorem dX10_isHit_9 : decode cX10_isHit 9 = .ok (.getfield 221, 3) := by decide +kernel
theorem dX10_isHit_12 : decode cX10_isHit 12 = .ok (.iadd, 1) := by decide +kernel
theorem dX10_isHit_13 : decode cX10_isHit 13 = .ok (.aload_n 0, 1) := by decide +kernel
theorem dX10_isHit_14 : decode cX10_isHit 14 = .ok (.getfield 120, 3) := by decide +kernel
theorem dX10_isHit_17 : decode cX10_isHit 17 = .ok (.if_icmp .le 5, 3) := by decide +kernel
theorem dX10_isHit_20 : decode cX10_isHit 20 = .ok (.iconst 0, 1) := by decide +kernel
theorem dX10_isHit_21 : decode cX10_isHit 21 = .ok (.ireturn, 1) := by decide +kernel
theorem dX10_isHit_22 : decode cX10_isHit 22 = .ok (.iconst 0, 1) := by decide +kernel
theorem dX10_isHit_23 : decode cX10_isHit 23 = .ok (.istore_n 2, 1) := by decide +kernel
theorem dX10_isHit_24 : decode cX10_isHit 24 = .ok (.iload_n 2, 1) := by decide +kernel
theorem dX10_isHit_25 : decode cX10_isHit 25 = .ok (.aload_n 0, 1) := by decide +kernel
theorem dX10_isHit_26 : decode cX10_isHit 26 = .ok (.getfield 221, 3) := by decide +kernel
theorem dX10_isHit_29 : decode cX10_isHit 29 = .ok (.if_icmp .ge 28, 3) := by decide +kernel
theorem dX10_isHit_32 : decode cX10_isHit 32 = .ok (.aload_n 0, 1) := by decide +kernel
theorem dX10_isHit_33 : decode cX10_isHit 33 = .ok (.getfield 36, 3) := by decide +kernel
theorem dX10_isHit_36 : decode cX10_isHit 36 = .ok (.iload_n 1, 1) := by decide +kernel
theorem dX10_isHit_37 : decode cX10_isHit 37 = .ok (.iload_n 2, 1) := by decide +kernel
theorem dX10_isHit_38 : decode cX10_isHit 38 = .ok (.iadd, 1) := by decide +kernel
theorem dX10_isHit_39 : decode cX10_isHit 39 = .ok (.iaload, 1) := by decide +kernel
theorem dX10_isHit_40 : decode cX10_isHit 40 = .ok (.aload_n 0, 1) := by decide +kernel
theorem dX10_isHit_41 : decode cX10_isHit 41 = .ok (.getfield 49, 3) := by decide +kernel
theorem dX10_isHit_44 : decode cX10_isHit 44 = .ok (.iload_n 2, 1) := by decide +kernel
theorem dX10_isHit_45 : decode cX10_isHit 45 = .ok (.iaload, 1) := by decide +kernel
theorem dX10_isHit_46 : decode cX10_isHit 46 = .ok (.if_icmp .eq 5, 3) := by decide +kernel
theorem dX10_isHit_49 : decode cX10_isHit 49 = .ok (.iconst 0, 1) := by decide +kernel
theorem dX10_isHit_50 : decode cX10_isHit 50 = .ok (.ireturn, 1) := by decide +kernel
theorem dX10_isHit_51 : decode cX10_isHit 51 = .ok (.iinc 2 1, 3) := by decide +kernel
theorem dX10_isHit_54 : decode cX10_isHit 54 = .ok (.goto (-30), 3) := by decide +kernel
theorem dX10_isHit_57 : decode cX10_isHit 57 = .ok (.iconst 1, 1) := by decide +kernel
theorem dX10_isHit_58 : decode cX10_isHit 58 = .ok (.ireturn, 1) := by decide +kernel
theorem dX10_hitsIn_0 : decode cX10_hitsIn 0 = .ok (.iconst 0, 1) := by decide +kernel
theorem dX10_hitsIn_1 : decode cX10_hitsIn 1 = .ok (.istore_n 1, 1) := by decide +kernel
theorem dX10_hitsIn_2 : decode cX10_hitsIn 2 = .ok (.iconst 0, 1) := by decide +kernel
theorem dX10_hitsIn_3 : decode cX10_hitsIn 3 = .ok (.istore_n 2, 1) := by decide +kernel
theorem dX10_hitsIn_4 : decode cX10_hitsIn 4 = .ok (.iload_n 2, 1) := by decide +kernel
theorem dX10_hitsIn_5 : decode cX10_hitsIn 5 = .ok (.aload_n 0, 1) := by decide +kernel
theorem dX10_hitsIn_6 : decode cX10_hitsIn 6 = .ok (.getfield 120, 3) := by decide +kernel
theorem dX10_hitsIn_9 : decode cX10_hitsIn 9 = .ok (.if_icmp .ge 25, 3) := by decide +kernel
theorem dX10_hitsIn_12 : decode cX10_hitsIn 12 = .ok (.iload_n 1, 1) := by decide +kernel
theorem dX10_hitsIn_13 : decode cX10_hitsIn 13 = .ok (.aload_n 0, 1) := by decide +kernel
theorem dX10_hitsIn_14 : decode cX10_hitsIn 14 = .ok (.iload_n 2, 1) := by decide +kernel
theorem dX10_hitsIn_15 : decode cX10_hitsIn 15 = .ok (.invokevirtual 307, 3) := by decide +kernel
theorem dX10_hitsIn_18 : decode cX10_hitsIn 18 = .ok (.ifCond .eq 7, 3) := by decide +kernel
theorem dX10_hitsIn_21 : decode cX10_hitsIn 21 = .ok (.iconst 1, 1) := by decide +kernel
theorem dX10_hitsIn_22 : decode cX10_hitsIn 22 = .ok (.goto 4, 3) := by decide +kernel
theorem dX10_hitsIn_25 : decode cX10_hitsIn 25 = .ok (.iconst 0, 1) := by decide +kernel
theorem dX10_hitsIn_26 : decode cX10_hitsIn 26 = .ok (.iadd, 1) := by decide +kernel
theorem dX10_hitsIn_27 : decode cX10_hitsIn 27 = .ok (.istore_n 1, 1) := by decide +kernel
theorem dX10_hitsIn_28 : decode cX10_hitsIn 28 = .ok (.iinc 2 1, 3) := by decide +kernel
theorem dX10_hitsIn_31 : decode cX10_hitsIn 31 = .ok (.goto (-27), 3) := by decide +kernel
theorem dX10_hitsIn_34 : decode cX10_hitsIn 34 = .ok (.iload_n 1, 1) := by decide +kernel
theorem dX10_hitsIn_35 : decode cX10_hitsIn 35 = .ok (.ireturn, 1) := by decide +kernel
theorem dX10_hit_0 : decode cX10_hit 0 = .ok (.aload_n 0, 1) := by decide +kernel
theorem dX10_hit_1 : decode cX10_hit 1 = .ok (.iconst 0, 1) := by decide +kernel
theorem dX10_hit_2 : decode cX10_hit 2 = .ok (.putfield 1, 3) := by decide +kernel
theorem dX10_hit_5 : decode cX10_hit 5 = .ok (.iload_n 1, 1) := by decide +kernel
theorem dX10_hit_6 : decode cX10_hit 6 = .ok (.ifCond .ge 6, 3) := by decide +kernel
theorem dX10_hit_9 : decode cX10_hit 9 = .ok (.bipush (-3), 2) := by decide +kernel
theorem dX10_hit_11 : decode cX10_hit 11 = .ok (.ireturn, 1) := by decide +kernel
theorem dX10_hit_12 : decode cX10_hit 12 = .ok (.aload_n 0, 1) := by decide +kernel
theorem dX10_hit_13 : decode cX10_hit 13 = .ok (.getfield 221, 3) := by decide +kernel
theorem dX10_hit_16 : decode cX10_hit 16 = .ok (.ifCond .ne 6, 3) := by decide +kernel
theorem dX10_hit_19 : decode cX10_hit 19 = .ok (.bipush (-5), 2) := by decide +kernel
theorem dX10_hit_21 : decode cX10_hit 21 = .ok (.ireturn, 1) := by decide +kernel
theorem dX10_hit_22 : decode cX10_hit 22 = .ok (.aload_n 0, 1) := by decide +kernel
theorem dX10_hit_23 : decode cX10_hit 23 = .ok (.invokevirtual 224, 3) := by decide +kernel
theorem dX10_hit_26 : decode cX10_hit 26 = .ok (.iconst 0, 1) := by decide +kernel
theorem dX10_hit_27 : decode cX10_hit 27 = .ok (.istore_n 2, 1) := by decide +kernel
theorem dX10_hit_28 : decode cX10_hit 28 = .ok (.iconst 0, 1) := by decide +kernel
theorem dX10_hit_29 : decode cX10_hit 29 = .ok (.istore_n 3, 1) := by decide +kernel
theorem dX10_hit_30 : decode cX10_hit 30 = .ok (.iload_n 3, 1) := by decide +kernel
theorem dX10_hit_31 : decode cX10_hit 31 = .ok (.aload_n 0, 1) := by decide +kernel
theorem dX10_hit_32 : decode cX10_hit 32 = .ok (.getfield 120, 3) := by decide +kernel
theorem dX10_hit_35 : decode cX10_hit 35 = .ok (.if_icmp .ge 30, 3) := by decide +kernel
theorem dX10_hit_38 : decode cX10_hit 38 = .ok (.aload_n 0, 1) := by decide +kernel
theorem dX10_hit_39 : decode cX10_hit 39 = .ok (.iload_n 3, 1) := by decide +kernel
theorem dX10_hit_40 : decode cX10_hit 40 = .ok (.invokevirtual 307, 3) := by decide +kernel
theorem dX10_hit_43 : decode cX10_hit 43 = .ok (.ifCond .ne 6, 3) := by decide +kernel
theorem dX10_hit_46 : decode cX10_hit 46 = .ok (.goto 13, 3) := by decide +kernel
theorem dX10_hit_49 : decode cX10_hit 49 = .ok (.iload_n 2, 1) := by decide +kernel
theorem dX10_hit_50 : decode cX10_hit 50 = .ok (.iload_n 1, 1) := by decide +kernel
theorem dX10_hit_51 : decode cX10_hit 51 = .ok (.if_icmp .ne 5, 3) := by decide +kernel
theorem dX10_hit_54 : decode cX10_hit 54 = .ok (.iload_n 3, 1) := by decide +kernel
theorem dX10_hit_55 : decode cX10_hit 55 = .ok (.ireturn, 1) := by decide +kernel
theorem dX10_hit_56 : decode cX10_hit 56 = .ok (.iinc 2 1, 3) := by decide +kernel
theorem dX10_hit_59 : decode cX10_hit 59 = .ok (.iinc 3 1, 3) := by decide +kernel
theorem dX10_hit_62 : decode cX10_hit 62 = .ok (.goto (-32), 3) := by decide +kernel
theorem dX10_hit_65 : decode cX10_hit 65 = .ok (.iconst (-1), 1) := by decide +kernel
theorem dX10_hit_66 : decode cX10_hit 66 = .ok (.ireturn, 1) := by decide +kernel
theorem dX10_crossing_0 : decode cX10_crossing 0 = .ok (.iconst 0, 1) := by decide +kernel
theorem dX10_crossing_1 : decode cX10_crossing 1 = .ok (.istore_n 1, 1) := by decide +kernel
theorem dX10_crossing_2 : decode cX10_crossing 2 = .ok (.iconst 0, 1) := by decide +kernel
theorem dX10_crossing_3 : decode cX10_crossing 3 = .ok (.istore_n 2, 1) := by decide +kernel
theorem dX10_crossing_4 : decode cX10_crossing 4 = .ok (.iconst 0, 1) := by decide +kernel
theorem dX10_crossing_5 : decode cX10_crossing 5 = .ok (.istore_n 3, 1) := by decide +kernel
theorem dX10_crossing_6 : decode cX10_crossing 6 = .ok (.iload_n 3, 1) := by decide +kernel
theorem dX10_crossing_7 : decode cX10_crossing 7 = .ok (.aload_n 0, 1) := by decide +kernel
theorem dX10_crossing_8 : decode cX10_crossing 8 = .ok (.invokevirtual 123, 3) := by decide +kernel
theorem dX10_crossing_11 : decode cX10_crossing 11 = .ok (.if_icmp .ge 71, 3) := by decide +kernel
theorem dX10_crossing_14 : decode cX10_crossing 14 = .ok (.iload_n 2, 1) := by decide +kernel
theorem dX10_crossing_15 : decode cX10_crossing 15 = .ok (.aload_n 0, 1) := by decide +kernel
theorem dX10_crossing_16 : decode cX10_crossing 16 = .ok (.getfield 30, 3) := by decide +kernel
theorem dX10_crossing_19 : decode cX10_crossing 19 = .ok (.aload_n 0, 1) := by decide +kernel
theorem dX10_crossing_20 : decode cX10_crossing 20 = .ok (.iload_n 3, 1) := by decide +kernel
theorem dX10_crossing_21 : decode cX10_crossing 21 = .ok (.invokevirtual 127, 3) := by decide +kernel
theorem dX10_crossing_24 : decode cX10_crossing 24 = .ok (.iaload, 1) := by decide +kernel
theorem dX10_crossing_25 : decode cX10_crossing 25 = .ok (.iadd, 1) := by decide +kernel
theorem dX10_crossing_26 : decode cX10_crossing 26 = .ok (.istore 4, 2) := by decide +kernel
theorem dX10_crossing_28 : decode cX10_crossing 28 = .ok (.iload_n 2, 1) := by decide +kernel
theorem dX10_crossing_29 : decode cX10_crossing 29 = .ok (.istore 5, 2) := by decide +kernel
theorem dX10_crossing_31 : decode cX10_crossing 31 = .ok (.iload 5, 2) := by decide +kernel
theorem dX10_crossing_33 : decode cX10_crossing 33 = .ok (.iload 4, 2) := by decide +kernel
theorem dX10_crossing_35 : decode cX10_crossing 35 = .ok (.if_icmp .ge 38, 3) := by decide +kernel
theorem dX10_crossing_38 : decode cX10_crossing 38 = .ok (.iload_n 1, 1) := by decide +kernel
theorem dX10_crossing_39 : decode cX10_crossing 39 = .ok (.aload_n 0, 1) := by decide +kernel
theorem dX10_crossing_40 : decode cX10_crossing 40 = .ok (.iload 5, 2) := by decide +kernel
theorem dX10_crossing_42 : decode cX10_crossing 42 = .ok (.invokevirtual 307, 3) := by decide +kernel
theorem dX10_crossing_45 : decode cX10_crossing 45 = .ok (.ifCond .eq 19, 3) := by decide +kernel
theorem dX10_crossing_48 : decode cX10_crossing 48 = .ok (.iload 5, 2) := by decide +kernel
theorem dX10_crossing_50 : decode cX10_crossing 50 = .ok (.aload_n 0, 1) := by decide +kernel
theorem dX10_crossing_51 : decode cX10_crossing 51 = .ok (.getfield 221, 3) := by decide +kernel
theorem dX10_crossing_54 : decode cX10_crossing 54 = .ok (.iadd, 1) := by decide +kernel
theorem dX10_crossing_55 : decode cX10_crossing 55 = .ok (.iload 4, 2) := by decide +kernel
theorem dX10_crossing_57 : decode cX10_crossing 57 = .ok (.if_icmp .le 7, 3) := by decide +kernel
theorem dX10_crossing_60 : decode cX10_crossing 60 = .ok (.iconst 1, 1) := by decide +kernel
theorem dX10_crossing_61 : decode cX10_crossing 61 = .ok (.goto 4, 3) := by decide +kernel
theorem dX10_crossing_64 : decode cX10_crossing 64 = .ok (.iconst 0, 1) := by decide +kernel
theorem dX10_crossing_65 : decode cX10_crossing 65 = .ok (.iadd, 1) := by decide +kernel
theorem dX10_crossing_66 : decode cX10_crossing 66 = .ok (.istore_n 1, 1) := by decide +kernel
theorem dX10_crossing_67 : decode cX10_crossing 67 = .ok (.iinc 5 1, 3) := by decide +kernel
theorem dX10_crossing_70 : decode cX10_crossing 70 = .ok (.goto (-39), 3) := by decide +kernel
theorem dX10_crossing_73 : decode cX10_crossing 73 = .ok (.iload 4, 2) := by decide +kernel
theorem dX10_crossing_75 : decode cX10_crossing 75 = .ok (.istore_n 2, 1) := by decide +kernel
theorem dX10_crossing_76 : decode cX10_crossing 76 = .ok (.iinc 3 1, 3) := by decide +kernel
theorem dX10_crossing_79 : decode cX10_crossing 79 = .ok (.goto (-73), 3) := by decide +kernel
theorem dX10_crossing_82 : decode cX10_crossing 82 = .ok (.iload_n 1, 1) := by decide +kernel
theorem dX10_crossing_83 : decode cX10_crossing 83 = .ok (.ireturn, 1) := by decide +kernel
theorem dX10_hits_0 : decode cX10_hits 0 = .ok (.aload_n 0, 1) := by decide +kernel
theorem dX10_hits_1 : decode cX10_hits 1 = .ok (.iconst 0, 1) := by decide +kernel
theorem dX10_hits_2 : decode cX10_hits 2 = .ok (.putfield 1, 3) := by decide +kernel
theorem dX10_hits_5 : decode cX10_hits 5 = .ok (.iload_n 1, 1) := by decide +kernel
theorem dX10_hits_6 : decode cX10_hits 6 = .ok (.i2l, 1) := by decide +kernel
theorem dX10_hits_7 : decode cX10_hits 7 = .ok (.lconst 0, 1) := by decide +kernel
theorem dX10_hits_8 : decode cX10_hits 8 = .ok (.ldc2_w 286, 3) := by decide +kernel
theorem dX10_hits_11 : decode cX10_hits 11 = .ok (.invokestatic 98, 3) := by decide +kernel
theorem dX10_hits_14 : decode cX10_hits 14 = .ok (.ifCond .ne 6, 3) := by decide +kernel
theorem dX10_hits_17 : decode cX10_hits 17 = .ok (.bipush (-2), 2) := by decide +kernel
theorem dX10_hits_19 : decode cX10_hits 19 = .ok (.ireturn, 1) := by decide +kernel
theorem dX10_hits_20 : decode cX10_hits 20 = .ok (.iload_n 1, 1) := by decide +kernel
theorem dX10_hits_21 : decode cX10_hits 21 = .ok (.iconst 2, 1) := by decide +kernel
theorem dX10_hits_22 : decode cX10_hits 22 = .ok (.if_icmp .ne 8, 3) := by decide +kernel
theorem dX10_hits_25 : decode cX10_hits 25 = .ok (.aload_n 0, 1) := by decide +kernel
theorem dX10_hits_26 : decode cX10_hits 26 = .ok (.getfield 221, 3) := by decide +kernel
theorem dX10_hits_29 : decode cX10_hits 29 = .ok (.ireturn, 1) := by decide +kernel
theorem dX10_hits_30 : decode cX10_hits 30 = .ok (.aload_n 0, 1) := by decide +kernel
theorem dX10_hits_31 : decode cX10_hits 31 = .ok (.getfield 221, 3) := by decide +kernel
theorem dX10_hits_34 : decode cX10_hits 34 = .ok (.ifCond .ne 6, 3) := by decide +kernel
theorem dX10_hits_37 : decode cX10_hits 37 = .ok (.bipush (-5), 2) := by decide +kernel
theorem dX10_hits_39 : decode cX10_hits 39 = .ok (.ireturn, 1) := by decide +kernel
theorem dX10_hits_40 : decode cX10_hits 40 = .ok (.aload_n 0, 1) := by decide +kernel
theorem dX10_hits_41 : decode cX10_hits 41 = .ok (.invokevirtual 134, 3) := by decide +kernel
theorem dX10_hits_44 : decode cX10_hits 44 = .ok (.aload_n 0, 1) := by decide +kernel
theorem dX10_hits_45 : decode cX10_hits 45 = .ok (.invokevirtual 224, 3) := by decide +kernel
theorem dX10_hits_48 : decode cX10_hits 48 = .ok (.iload_n 1, 1) := by decide +kernel
theorem dX10_hits_49 : decode cX10_hits 49 = .ok (.ifCond .ne 10, 3) := by decide +kernel
theorem dX10_hits_52 : decode cX10_hits 52 = .ok (.aload_n 0, 1) := by decide +kernel
theorem dX10_hits_53 : decode cX10_hits 53 = .ok (.invokevirtual 227, 3) := by decide +kernel
theorem dX10_hits_56 : decode cX10_hits 56 = .ok (.goto 7, 3) := by decide +kernel
theorem dX10_hits_59 : decode cX10_hits 59 = .ok (.aload_n 0, 1) := by decide +kernel
theorem dX10_hits_60 : decode cX10_hits 60 = .ok (.invokevirtual 310, 3) := by decide +kernel
theorem dX10_hits_63 : decode cX10_hits 63 = .ok (.ireturn, 1) := by decide +kernel
theorem dX10_gainOf_0 : decode cX10_gainOf 0 = .ok (.aload_n 0, 1) := by decide +kernel
theorem dX10_gainOf_1 : decode cX10_gainOf 1 = .ok (.iload_n 1, 1) := by decide +kernel
theorem dX10_gainOf_2 : decode cX10_gainOf 2 = .ok (.iload_n 2, 1) := by decide +kernel
theorem dX10_gainOf_3 : decode cX10_gainOf 3 = .ok (.invokevirtual 249, 3) := by decide +kernel
theorem dX10_gainOf_6 : decode cX10_gainOf 6 = .ok (.aload_n 0, 1) := by decide +kernel
theorem dX10_gainOf_7 : decode cX10_gainOf 7 = .ok (.iload_n 1, 1) := by decide +kernel
theorem dX10_gainOf_8 : decode cX10_gainOf 8 = .ok (.iload_n 2, 1) := by decide +kernel
theorem dX10_gainOf_9 : decode cX10_gainOf 9 = .ok (.invokevirtual 230, 3) := by decide +kernel
theorem dX10_gainOf_12 : decode cX10_gainOf 12 = .ok (.iconst (-1), 1) := by decide +kernel
theorem dX10_gainOf_13 : decode cX10_gainOf 13 = .ok (.if_icmp .ne 7, 3) := by decide +kernel
theorem dX10_gainOf_16 : decode cX10_gainOf 16 = .ok (.iconst 2, 1) := by decide +kernel
theorem dX10_gainOf_17 : decode cX10_gainOf 17 = .ok (.goto 4, 3) := by decide +kernel
theorem dX10_gainOf_20 : decode cX10_gainOf 20 = .ok (.iconst 0, 1) := by decide +kernel
theorem dX10_gainOf_21 : decode cX10_gainOf 21 = .ok (.isub, 1) := by decide +kernel
theorem dX10_gainOf_22 : decode cX10_gainOf 22 = .ok (.ireturn, 1) := by decide +kernel
theorem dX10_gain_0 : decode cX10_gain 0 = .ok (.aload_n 0, 1) := by decide +kernel
theorem dX10_gain_1 : decode cX10_gain 1 = .ok (.iconst 0, 1) := by decide +kernel
theorem dX10_gain_2 : decode cX10_gain 2 = .ok (.putfield 1, 3) := by decide +kernel
theorem dX10_gain_5 : decode cX10_gain 5 = .ok (.aload_n 0, 1) := by decide +kernel
theorem dX10_gain_6 : decode cX10_gain 6 = .ok (.iload_n 1, 1) := by decide +kernel
theorem dX10_gain_7 : decode cX10_gain 7 = .ok (.invokevirtual 210, 3) := by decide +kernel
theorem dX10_gain_10 : decode cX10_gain 10 = .ok (.ifCond .eq 11, 3) := by decide +kernel
theorem dX10_gain_13 : decode cX10_gain 13 = .ok (.aload_n 0, 1) := by decide +kernel
theorem dX10_gain_14 : decode cX10_gain 14 = .ok (.iload_n 2, 1) := by decide +kernel
theorem dX10_gain_15 : decode cX10_gain 15 = .ok (.invokevirtual 210, 3) := by decide +kernel
theorem dX10_gain_18 : decode cX10_gain 18 = .ok (.ifCond .ne 6, 3) := by decide +kernel
theorem dX10_gain_21 : decode cX10_gain 21 = .ok (.bipush (-2), 2) := by decide +kernel
theorem dX10_gain_23 : decode cX10_gain 23 = .ok (.ireturn, 1) := by decide +kernel
theorem dX10_gain_24 : decode cX10_gain 24 = .ok (.aload_n 0, 1) := by decide +kernel
theorem dX10_gain_25 : decode cX10_gain 25 = .ok (.iload_n 1, 1) := by decide +kernel
theorem dX10_gain_26 : decode cX10_gain 26 = .ok (.iload_n 2, 1) := by decide +kernel
theorem dX10_gain_27 : decode cX10_gain 27 = .ok (.invokevirtual 249, 3) := by decide +kernel
theorem dX10_gain_30 : decode cX10_gain 30 = .ok (.ifCond .ne 8, 3) := by decide +kernel
theorem dX10_gain_33 : decode cX10_gain 33 = .ok (.bipush (-5), 2) := by decide +kernel
theorem dX10_gain_35 : decode cX10_gain 35 = .ok (.goto 9, 3) := by decide +kernel
theorem dX10_gain_38 : decode cX10_gain 38 = .ok (.aload_n 0, 1) := by decide +kernel
theorem dX10_gain_39 : decode cX10_gain 39 = .ok (.iload_n 1, 1) := by decide +kernel
theorem dX10_gain_40 : decode cX10_gain 40 = .ok (.iload_n 2, 1) := by decide +kernel
theorem dX10_gain_41 : decode cX10_gain 41 = .ok (.invokevirtual 313, 3) := by decide +kernel
theorem dX10_gain_44 : decode cX10_gain 44 = .ok (.ireturn, 1) := by decide +kernel
theorem dX10_leastBehind_0 : decode cX10_leastBehind 0 = .ok (.aload_n 0, 1) := by decide +kernel
theorem dX10_leastBehind_1 : decode cX10_leastBehind 1 = .ok (.invokevirtual 264, 3) := by decide +kernel
theorem dX10_leastBehind_4 : decode cX10_leastBehind 4 = .ok (.istore_n 2, 1) := by decide +kernel
theorem dX10_leastBehind_5 : decode cX10_leastBehind 5 = .ok (.iload_n 1, 1) := by decide +kernel
theorem dX10_leastBehind_6 : decode cX10_leastBehind 6 = .ok (.ifCond .ne 5, 3) := by decide +kernel
theorem dX10_leastBehind_9 : decode cX10_leastBehind 9 = .ok (.iload_n 2, 1) := by decide +kernel
theorem dX10_leastBehind_10 : decode cX10_leastBehind 10 = .ok (.ireturn, 1) := by decide +kernel
theorem dX10_leastBehind_11 : decode cX10_leastBehind 11 = .ok (.aload_n 0, 1) := by decide +kernel
theorem dX10_leastBehind_12 : decode cX10_leastBehind 12 = .ok (.getfield 13, 3) := by decide +kernel
theorem dX10_leastBehind_15 : decode cX10_leastBehind 15 = .ok (.iconst 0, 1) := by decide +kernel
theorem dX10_leastBehind_16 : decode cX10_leastBehind 16 = .ok (.aload_n 0, 1) := by decide +kernel
theorem dX10_leastBehind_17 : decode cX10_leastBehind 17 = .ok (.getfield 23, 3) := by decide +kernel
theorem dX10_leastBehind_20 : decode cX10_leastBehind 20 = .ok (.sipush 1021, 3) := by decide +kernel
theorem dX10_leastBehind_23 : decode cX10_leastBehind 23 = .ok (.iload_n 1, 1) := by decide +kernel
theorem dX10_leastBehind_24 : decode cX10_leastBehind 24 = .ok (.imul, 1) := by decide +kernel
theorem dX10_leastBehind_25 : decode cX10_leastBehind 25 = .ok (.sipush 1021, 3) := by decide +kernel
theorem dX10_leastBehind_28 : decode cX10_leastBehind 28 = .ok (.invokestatic 88, 3) := by decide +kernel
theorem dX10_leastBehind_31 : decode cX10_leastBehind 31 = .ok (.iconst 0, 1) := by decide +kernel
theorem dX10_leastBehind_32 : decode cX10_leastBehind 32 = .ok (.istore_n 3, 1) := by decide +kernel
theorem dX10_leastBehind_33 : decode cX10_leastBehind 33 = .ok (.iload_n 3, 1) := by decide +kernel
theorem dX10_leastBehind_34 : decode cX10_leastBehind 34 = .ok (.iconst 1, 1) := by decide +kernel
theorem dX10_leastBehind_35 : decode cX10_leastBehind 35 = .ok (.iadd, 1) := by decide +kernel
theorem dX10_leastBehind_36 : decode cX10_leastBehind 36 = .ok (.aload_n 0, 1) := by decide +kernel
theorem dX10_leastBehind_37 : decode cX10_leastBehind 37 = .ok (.invokevirtual 123, 3) := by decide +kernel
theorem dX10_leastBehind_40 : decode cX10_leastBehind 40 = .ok (.if_icmp .ge 89, 3) := by decide +kernel
theorem dX10_leastBehind_43 : decode cX10_leastBehind 43 = .ok (.aload_n 0, 1) := by decide +kernel
theorem dX10_leastBehind_44 : decode cX10_leastBehind 44 = .ok (.iload_n 3, 1) := by decide +kernel
theorem dX10_leastBehind_45 : decode cX10_leastBehind 45 = .ok (.invokevirtual 127, 3) := by decide +kernel
theorem dX10_leastBehind_48 : decode cX10_leastBehind 48 = .ok (.istore 4, 2) := by decide +kernel
theorem dX10_leastBehind_50 : decode cX10_leastBehind 50 = .ok (.aload_n 0, 1) := by decide +kernel
theorem dX10_leastBehind_51 : decode cX10_leastBehind 51 = .ok (.iload_n 3, 1) := by decide +kernel
theorem dX10_leastBehind_52 : decode cX10_leastBehind 52 = .ok (.iconst 1, 1) := by decide +kernel
theorem dX10_leastBehind_53 : decode cX10_leastBehind 53 = .ok (.iadd, 1) := by decide +kernel
theorem dX10_leastBehind_54 : decode cX10_leastBehind 54 = .ok (.invokevirtual 127, 3) := by decide +kernel
theorem dX10_leastBehind_57 : decode cX10_leastBehind 57 = .ok (.istore 5, 2) := by decide +kernel
theorem dX10_leastBehind_59 : decode cX10_leastBehind 59 = .ok (.aload_n 0, 1) := by decide +kernel
theorem dX10_leastBehind_60 : decode cX10_leastBehind 60 = .ok (.iload_n 3, 1) := by decide +kernel
theorem dX10_leastBehind_61 : decode cX10_leastBehind 61 = .ok (.invokevirtual 316, 3) := by decide +kernel
theorem dX10_leastBehind_64 : decode cX10_leastBehind 64 = .ok (.ifCond .eq 59, 3) := by decide +kernel
theorem dX10_leastBehind_67 : decode cX10_leastBehind 67 = .ok (.aload_n 0, 1) := by decide +kernel
theorem dX10_leastBehind_68 : decode cX10_leastBehind 68 = .ok (.iload 4, 2) := by decide +kernel
theorem dX10_leastBehind_70 : decode cX10_leastBehind 70 = .ok (.iload 5, 2) := by decide +kernel
theorem dX10_leastBehind_72 : decode cX10_leastBehind 72 = .ok (.invokevirtual 242, 3) := by decide +kernel
theorem dX10_leastBehind_75 : decode cX10_leastBehind 75 = .ok (.ifCond .ne 6, 3) := by decide +kernel
theorem dX10_leastBehind_78 : decode cX10_leastBehind 78 = .ok (.goto 45, 3) := by decide +kernel
theorem dX10_leastBehind_81 : decode cX10_leastBehind 81 = .ok (.aload_n 0, 1) := by decide +kernel
theorem dX10_leastBehind_82 : decode cX10_leastBehind 82 = .ok (.iload 4, 2) := by decide +kernel
theorem dX10_leastBehind_84 : decode cX10_leastBehind 84 = .ok (.iload 5, 2) := by decide +kernel
theorem dX10_leastBehind_86 : decode cX10_leastBehind 86 = .ok (.invokevirtual 246, 3) := by decide +kernel
theorem dX10_leastBehind_89 : decode cX10_leastBehind 89 = .ok (.istore 6, 2) := by decide +kernel
theorem dX10_leastBehind_91 : decode cX10_leastBehind 91 = .ok (.iload_n 2, 1) := by decide +kernel
theorem dX10_leastBehind_92 : decode cX10_leastBehind 92 = .ok (.aload_n 0, 1) := by decide +kernel
theorem dX10_leastBehind_93 : decode cX10_leastBehind 93 = .ok (.iload_n 1, 1) := by decide +kernel
theorem dX10_leastBehind_94 : decode cX10_leastBehind 94 = .ok (.iconst 1, 1) := by decide +kernel
theorem dX10_leastBehind_95 : decode cX10_leastBehind 95 = .ok (.isub, 1) := by decide +kernel
theorem dX10_leastBehind_96 : decode cX10_leastBehind 96 = .ok (.invokevirtual 319, 3) := by decide +kernel
theorem dX10_leastBehind_99 : decode cX10_leastBehind 99 = .ok (.invokestatic 204, 3) := by decide +kernel
theorem dX10_leastBehind_102 : decode cX10_leastBehind 102 = .ok (.istore_n 2, 1) := by decide +kernel
theorem dX10_leastBehind_103 : decode cX10_leastBehind 103 = .ok (.aload_n 0, 1) := by decide +kernel
theorem dX10_leastBehind_104 : decode cX10_leastBehind 104 = .ok (.getfield 23, 3) := by decide +kernel
theorem dX10_leastBehind_107 : decode cX10_leastBehind 107 = .ok (.sipush 1021, 3) := by decide +kernel
theorem dX10_leastBehind_110 : decode cX10_leastBehind 110 = .ok (.iload_n 1, 1) := by decide +kernel
theorem dX10_leastBehind_111 : decode cX10_leastBehind 111 = .ok (.imul, 1) := by decide +kernel
theorem dX10_leastBehind_112 : decode cX10_leastBehind 112 = .ok (.aload_n 0, 1) := by decide +kernel
theorem dX10_leastBehind_113 : decode cX10_leastBehind 113 = .ok (.getfield 13, 3) := by decide +kernel
theorem dX10_leastBehind_116 : decode cX10_leastBehind 116 = .ok (.iconst 0, 1) := by decide +kernel
theorem dX10_leastBehind_117 : decode cX10_leastBehind 117 = .ok (.sipush 1021, 3) := by decide +kernel
theorem dX10_leastBehind_120 : decode cX10_leastBehind 120 = .ok (.invokestatic 88, 3) := by decide +kernel
theorem dX10_leastBehind_123 : decode cX10_leastBehind 123 = .ok (.iinc 3 1, 3) := by decide +kernel
theorem dX10_leastBehind_126 : decode cX10_leastBehind 126 = .ok (.goto (-93), 3) := by decide +kernel
theorem dX10_leastBehind_129 : decode cX10_leastBehind 129 = .ok (.iload_n 2, 1) := by decide +kernel
theorem dX10_leastBehind_130 : decode cX10_leastBehind 130 = .ok (.ireturn, 1) := by decide +kernel
theorem dX10_isFirst_0 : decode cX10_isFirst 0 = .ok (.iconst 0, 1) := by decide +kernel
theorem dX10_isFirst_1 : decode cX10_isFirst 1 = .ok (.istore_n 2, 1) := by decide +kernel
theorem dX10_isFirst_2 : decode cX10_isFirst 2 = .ok (.iload_n 2, 1) := by decide +kernel
theorem dX10_isFirst_3 : decode cX10_isFirst 3 = .ok (.iload_n 1, 1) := by decide +kernel
theorem dX10_isFirst_4 : decode cX10_isFirst 4 = .ok (.if_icmp .ge 41, 3) := by decide +kernel
theorem dX10_isFirst_7 : decode cX10_isFirst 7 = .ok (.aload_n 0, 1) := by decide +kernel
theorem dX10_isFirst_8 : decode cX10_isFirst 8 = .ok (.iload_n 2, 1) := by decide +kernel
theorem dX10_isFirst_9 : decode cX10_isFirst 9 = .ok (.invokevirtual 127, 3) := by decide +kernel
theorem dX10_isFirst_12 : decode cX10_isFirst 12 = .ok (.aload_n 0, 1) := by decide +kernel
theorem dX10_isFirst_13 : decode cX10_isFirst 13 = .ok (.iload_n 1, 1) := by decide +kernel
theorem dX10_isFirst_14 : decode cX10_isFirst 14 = .ok (.invokevirtual 127, 3) := by decide +kernel
theorem dX10_isFirst_17 : decode cX10_isFirst 17 = .ok (.if_icmp .ne 22, 3) := by decide +kernel
theorem dX10_isFirst_20 : decode cX10_isFirst 20 = .ok (.aload_n 0, 1) := by decide +kernel
theorem dX10_isFirst_21 : decode cX10_isFirst 21 = .ok (.iload_n 2, 1) := by decide +kernel
theorem dX10_isFirst_22 : decode cX10_isFirst 22 = .ok (.iconst 1, 1) := by decide +kernel
theorem dX10_isFirst_23 : decode cX10_isFirst 23 = .ok (.iadd, 1) := by decide +kernel
theorem dX10_isFirst_24 : decode cX10_isFirst 24 = .ok (.invokevirtual 127, 3) := by decide +kernel
theorem dX10_isFirst_27 : decode cX10_isFirst 27 = .ok (.aload_n 0, 1) := by decide +kernel
theorem dX10_isFirst_28 : decode cX10_isFirst 28 = .ok (.iload_n 1, 1) := by decide +kernel
theorem dX10_isFirst_29 : decode cX10_isFirst 29 = .ok (.iconst 1, 1) := by decide +kernel
theorem dX10_isFirst_30 : decode cX10_isFirst 30 = .ok (.iadd, 1) := by decide +kernel
theorem dX10_isFirst_31 : decode cX10_isFirst 31 = .ok (.invokevirtual 127, 3) := by decide +kernel
theorem dX10_isFirst_34 : decode cX10_isFirst 34 = .ok (.if_icmp .ne 5, 3) := by decide +kernel
theorem dX10_isFirst_37 : decode cX10_isFirst 37 = .ok (.iconst 0, 1) := by decide +kernel
theorem dX10_isFirst_38 : decode cX10_isFirst 38 = .ok (.ireturn, 1) := by decide +kernel
theorem dX10_isFirst_39 : decode cX10_isFirst 39 = .ok (.iinc 2 1, 3) := by decide +kernel
theorem dX10_isFirst_42 : decode cX10_isFirst 42 = .ok (.goto (-40), 3) := by decide +kernel
theorem dX10_isFirst_45 : decode cX10_isFirst 45 = .ok (.iconst 1, 1) := by decide +kernel
theorem dX10_isFirst_46 : decode cX10_isFirst 46 = .ok (.ireturn, 1) := by decide +kernel
theorem dX10_best_0 : decode cX10_best 0 = .ok (.aload_n 0, 1) := by decide +kernel
theorem dX10_best_1 : decode cX10_best 1 = .ok (.iconst 0, 1) := by decide +kernel
theorem dX10_best_2 : decode cX10_best 2 = .ok (.putfield 1, 3) := by decide +kernel
theorem dX10_best_5 : decode cX10_best 5 = .ok (.iload_n 1, 1) := by decide +kernel
theorem dX10_best_6 : decode cX10_best 6 = .ok (.i2l, 1) := by decide +kernel
theorem dX10_best_7 : decode cX10_best 7 = .ok (.lconst 0, 1) := by decide +kernel
theorem dX10_best_8 : decode cX10_best 8 = .ok (.ldc2_w 286, 3) := by decide +kernel
theorem dX10_best_11 : decode cX10_best 11 = .ok (.invokestatic 98, 3) := by decide +kernel
theorem dX10_best_14 : decode cX10_best 14 = .ok (.ifCond .eq 11, 3) := by decide +kernel
theorem dX10_best_17 : decode cX10_best 17 = .ok (.aload_n 0, 1) := by decide +kernel
theorem dX10_best_18 : decode cX10_best 18 = .ok (.iload_n 1, 1) := by decide +kernel
theorem dX10_best_19 : decode cX10_best 19 = .ok (.invokevirtual 319, 3) := by decide +kernel
theorem dX10_best_22 : decode cX10_best 22 = .ok (.goto 5, 3) := by decide +kernel
theorem dX10_best_25 : decode cX10_best 25 = .ok (.bipush (-3), 2) := by decide +kernel
theorem dX10_best_27 : decode cX10_best 27 = .ok (.ireturn, 1) := by decide +kernel
theorem dX10_bitsOf_0 : decode cX10_bitsOf 0 = .ok (.fload_n 0, 1) := by decide +kernel
theorem dX10_bitsOf_1 : decode cX10_bitsOf 1 = .ok (.fconst 0, 1) := by decide +kernel
theorem dX10_bitsOf_2 : decode cX10_bitsOf 2 = .ok (.fcmp .l, 1) := by decide +kernel
theorem dX10_bitsOf_3 : decode cX10_bitsOf 3 = .ok (.ifCond .ne 5, 3) := by decide +kernel
theorem dX10_bitsOf_6 : decode cX10_bitsOf 6 = .ok (.iconst 0, 1) := by decide +kernel
theorem dX10_bitsOf_7 : decode cX10_bitsOf 7 = .ok (.ireturn, 1) := by decide +kernel
theorem dX10_bitsOf_8 : decode cX10_bitsOf 8 = .ok (.fload_n 0, 1) := by decide +kernel
theorem dX10_bitsOf_9 : decode cX10_bitsOf 9 = .ok (.fstore_n 1, 1) := by decide +kernel
theorem dX10_bitsOf_10 : decode cX10_bitsOf 10 = .ok (.bipush 127, 2) := by decide +kernel
theorem dX10_bitsOf_12 : decode cX10_bitsOf 12 = .ok (.istore_n 2, 1) := by decide +kernel
theorem dX10_bitsOf_13 : decode cX10_bitsOf 13 = .ok (.fload_n 1, 1) := by decide +kernel
theorem dX10_bitsOf_14 : decode cX10_bitsOf 14 = .ok (.fconst 2, 1) := by decide +kernel
theorem dX10_bitsOf_15 : decode cX10_bitsOf 15 = .ok (.fcmp .l, 1) := by decide +kernel
theorem dX10_bitsOf_16 : decode cX10_bitsOf 16 = .ok (.ifCond .lt 15, 3) := by decide +kernel
theorem dX10_bitsOf_19 : decode cX10_bitsOf 19 = .ok (.fload_n 1, 1) := by decide +kernel
theorem dX10_bitsOf_20 : decode cX10_bitsOf 20 = .ok (.ldc_w 322, 3) := by decide +kernel
theorem dX10_bitsOf_23 : decode cX10_bitsOf 23 = .ok (.fmul, 1) := by decide +kernel
theorem dX10_bitsOf_24 : decode cX10_bitsOf 24 = .ok (.fstore_n 1, 1) := by decide +kernel
theorem dX10_bitsOf_25 : decode cX10_bitsOf 25 = .ok (.iinc 2 1, 3) := by decide +kernel
theorem dX10_bitsOf_28 : decode cX10_bitsOf 28 = .ok (.goto (-15), 3) := by decide +kernel
theorem dX10_bitsOf_31 : decode cX10_bitsOf 31 = .ok (.fload_n 1, 1) := by decide +kernel
theorem dX10_bitsOf_32 : decode cX10_bitsOf 32 = .ok (.fconst 1, 1) := by decide +kernel
theorem dX10_bitsOf_33 : decode cX10_bitsOf 33 = .ok (.fcmp .g, 1) := by decide +kernel
theorem dX10_bitsOf_34 : decode cX10_bitsOf 34 = .ok (.ifCond .ge 13, 3) := by decide +kernel
theorem dX10_bitsOf_37 : decode cX10_bitsOf 37 = .ok (.fload_n 1, 1) := by decide +kernel
theorem dX10_bitsOf_38 : decode cX10_bitsOf 38 = .ok (.fconst 2, 1) := by decide +kernel
theorem dX10_bitsOf_39 : decode cX10_bitsOf 39 = .ok (.fmul, 1) := by decide +kernel
theorem dX10_bitsOf_40 : decode cX10_bitsOf 40 = .ok (.fstore_n 1, 1) := by decide +kernel
theorem dX10_bitsOf_41 : decode cX10_bitsOf 41 = .ok (.iinc 2 (-1), 3) := by decide +kernel
theorem dX10_bitsOf_44 : decode cX10_bitsOf 44 = .ok (.goto (-13), 3) := by decide +kernel
theorem dX10_bitsOf_47 : decode cX10_bitsOf 47 = .ok (.iload_n 2, 1) := by decide +kernel
theorem dX10_bitsOf_48 : decode cX10_bitsOf 48 = .ok (.bipush 23, 2) := by decide +kernel
theorem dX10_bitsOf_50 : decode cX10_bitsOf 50 = .ok (.ishl, 1) := by decide +kernel
theorem dX10_bitsOf_51 : decode cX10_bitsOf 51 = .ok (.fload_n 1, 1) := by decide +kernel
theorem dX10_bitsOf_52 : decode cX10_bitsOf 52 = .ok (.fconst 1, 1) := by decide +kernel
theorem dX10_bitsOf_53 : decode cX10_bitsOf 53 = .ok (.fsub, 1) := by decide +kernel
theorem dX10_bitsOf_54 : decode cX10_bitsOf 54 = .ok (.ldc_w 323, 3) := by decide +kernel
theorem dX10_bitsOf_57 : decode cX10_bitsOf 57 = .ok (.fmul, 1) := by decide +kernel
theorem dX10_bitsOf_58 : decode cX10_bitsOf 58 = .ok (.f2i, 1) := by decide +kernel
theorem dX10_bitsOf_59 : decode cX10_bitsOf 59 = .ok (.iadd, 1) := by decide +kernel
theorem dX10_bitsOf_60 : decode cX10_bitsOf 60 = .ok (.ireturn, 1) := by decide +kernel
theorem dX10_floatOf_0 : decode cX10_floatOf 0 = .ok (.aload_n 0, 1) := by decide +kernel
theorem dX10_floatOf_1 : decode cX10_floatOf 1 = .ok (.invokevirtual 134, 3) := by decide +kernel
theorem dX10_floatOf_4 : decode cX10_floatOf 4 = .ok (.aload_n 0, 1) := by decide +kernel
theorem dX10_floatOf_5 : decode cX10_floatOf 5 = .ok (.invokevirtual 224, 3) := by decide +kernel
theorem dX10_floatOf_8 : decode cX10_floatOf 8 = .ok (.aload_n 0, 1) := by decide +kernel
theorem dX10_floatOf_9 : decode cX10_floatOf 9 = .ok (.getfield 120, 3) := by decide +kernel
theorem dX10_floatOf_12 : decode cX10_floatOf 12 = .ok (.ifCond .ne 5, 3) := by decide +kernel
theorem dX10_floatOf_15 : decode cX10_floatOf 15 = .ok (.fconst 0, 1) := by decide +kernel
theorem dX10_floatOf_16 : decode cX10_floatOf 16 = .ok (.freturn, 1) := by decide +kernel
theorem dX10_floatOf_17 : decode cX10_floatOf 17 = .ok (.iload_n 1, 1) := by decide +kernel
theorem dX10_floatOf_18 : decode cX10_floatOf 18 = .ok (.ifCond .ne 15, 3) := by decide +kernel
theorem dX10_floatOf_21 : decode cX10_floatOf 21 = .ok (.aload_n 0, 1) := by decide +kernel
theorem dX10_floatOf_22 : decode cX10_floatOf 22 = .ok (.invokevirtual 264, 3) := by decide +kernel
theorem dX10_floatOf_25 : decode cX10_floatOf 25 = .ok (.i2f, 1) := by decide +kernel
theorem dX10_floatOf_26 : decode cX10_floatOf 26 = .ok (.aload_n 0, 1) := by decide +kernel
theorem dX10_floatOf_27 : decode cX10_floatOf 27 = .ok (.getfield 120, 3) := by decide +kernel
theorem dX10_floatOf_30 : decode cX10_floatOf 30 = .ok (.i2f, 1) := by decide +kernel
theorem dX10_floatOf_31 : decode cX10_floatOf 31 = .ok (.fdiv, 1) := by decide +kernel
theorem dX10_floatOf_32 : decode cX10_floatOf 32 = .ok (.freturn, 1) := by decide +kernel
theorem dX10_floatOf_33 : decode cX10_floatOf 33 = .ok (.iload_n 1, 1) := by decide +kernel
theorem dX10_floatOf_34 : decode cX10_floatOf 34 = .ok (.iconst 1, 1) := by decide +kernel
theorem dX10_floatOf_35 : decode cX10_floatOf 35 = .ok (.if_icmp .ne 39, 3) := by decide +kernel
theorem dX10_floatOf_38 : decode cX10_floatOf 38 = .ok (.iconst 0, 1) := by decide +kernel
theorem dX10_floatOf_39 : decode cX10_floatOf 39 = .ok (.istore_n 2, 1) := by decide +kernel
theorem dX10_floatOf_40 : decode cX10_floatOf 40 = .ok (.iconst 0, 1) := by decide +kernel
theorem dX10_floatOf_41 : decode cX10_floatOf 41 = .ok (.istore_n 3, 1) := by decide +kernel
theorem dX10_floatOf_42 : decode cX10_floatOf 42 = .ok (.iload_n 3, 1) := by decide +kernel
theorem dX10_floatOf_43 : decode cX10_floatOf 43 = .ok (.aload_n 0, 1) := by decide +kernel
theorem dX10_floatOf_44 : decode cX10_floatOf 44 = .ok (.getfield 120, 3) := by decide +kernel
theorem dX10_floatOf_47 : decode cX10_floatOf 47 = .ok (.if_icmp .ge 18, 3) := by decide +kernel
theorem dX10_floatOf_50 : decode cX10_floatOf 50 = .ok (.iload_n 2, 1) := by decide +kernel
theorem dX10_floatOf_51 : decode cX10_floatOf 51 = .ok (.aload_n 0, 1) := by decide +kernel
theorem dX10_floatOf_52 : decode cX10_floatOf 52 = .ok (.getfield 39, 3) := by decide +kernel
theorem dX10_floatOf_55 : decode cX10_floatOf 55 = .ok (.iload_n 3, 1) := by decide +kernel
theorem dX10_floatOf_56 : decode cX10_floatOf 56 = .ok (.iaload, 1) := by decide +kernel
theorem dX10_floatOf_57 : decode cX10_floatOf 57 = .ok (.iadd, 1) := by decide +kernel
theorem dX10_floatOf_58 : decode cX10_floatOf 58 = .ok (.istore_n 2, 1) := by decide +kernel
theorem dX10_floatOf_59 : decode cX10_floatOf 59 = .ok (.iinc 3 1, 3) := by decide +kernel
theorem dX10_floatOf_62 : decode cX10_floatOf 62 = .ok (.goto (-20), 3) := by decide +kernel
theorem dX10_floatOf_65 : decode cX10_floatOf 65 = .ok (.iload_n 2, 1) := by decide +kernel
theorem dX10_floatOf_66 : decode cX10_floatOf 66 = .ok (.i2f, 1) := by decide +kernel
theorem dX10_floatOf_67 : decode cX10_floatOf 67 = .ok (.aload_n 0, 1) := by decide +kernel
theorem dX10_floatOf_68 : decode cX10_floatOf 68 = .ok (.getfield 120, 3) := by decide +kernel
theorem dX10_floatOf_71 : decode cX10_floatOf 71 = .ok (.i2f, 1) := by decide +kernel
theorem dX10_floatOf_72 : decode cX10_floatOf 72 = .ok (.fdiv, 1) := by decide +kernel
theorem dX10_floatOf_73 : decode cX10_floatOf 73 = .ok (.freturn, 1) := by decide +kernel
theorem dX10_floatOf_74 : decode cX10_floatOf 74 = .ok (.fconst 0, 1) := by decide +kernel
theorem dX10_floatOf_75 : decode cX10_floatOf 75 = .ok (.fstore_n 2, 1) := by decide +kernel
theorem dX10_floatOf_76 : decode cX10_floatOf 76 = .ok (.iconst 0, 1) := by decide +kernel
theorem dX10_floatOf_77 : decode cX10_floatOf 77 = .ok (.istore_n 3, 1) := by decide +kernel
theorem dX10_floatOf_78 : decode cX10_floatOf 78 = .ok (.iload_n 3, 1) := by decide +kernel
theorem dX10_floatOf_79 : decode cX10_floatOf 79 = .ok (.aload_n 0, 1) := by decide +kernel
theorem dX10_floatOf_80 : decode cX10_floatOf 80 = .ok (.invokevirtual 123, 3) := by decide +kernel
theorem dX10_floatOf_83 : decode cX10_floatOf 83 = .ok (.if_icmp .ge 31, 3) := by decide +kernel
theorem dX10_floatOf_86 : decode cX10_floatOf 86 = .ok (.fload_n 2, 1) := by decide +kernel
theorem dX10_floatOf_87 : decode cX10_floatOf 87 = .ok (.ldc_w 322, 3) := by decide +kernel
theorem dX10_floatOf_90 : decode cX10_floatOf 90 = .ok (.fmul, 1) := by decide +kernel
theorem dX10_floatOf_91 : decode cX10_floatOf 91 = .ok (.aload_n 0, 1) := by decide +kernel
theorem dX10_floatOf_92 : decode cX10_floatOf 92 = .ok (.getfield 30, 3) := by decide +kernel
theorem dX10_floatOf_95 : decode cX10_floatOf 95 = .ok (.aload_n 0, 1) := by decide +kernel
theorem dX10_floatOf_96 : decode cX10_floatOf 96 = .ok (.iload_n 3, 1) := by decide +kernel
theorem dX10_floatOf_97 : decode cX10_floatOf 97 = .ok (.invokevirtual 127, 3) := by decide +kernel
theorem dX10_floatOf_100 : decode cX10_floatOf 100 = .ok (.iaload, 1) := by decide +kernel
theorem dX10_floatOf_101 : decode cX10_floatOf 101 = .ok (.i2f, 1) := by decide +kernel
theorem dX10_floatOf_102 : decode cX10_floatOf 102 = .ok (.fadd, 1) := by decide +kernel
theorem dX10_floatOf_103 : decode cX10_floatOf 103 = .ok (.ldc_w 324, 3) := by decide +kernel
theorem dX10_floatOf_106 : decode cX10_floatOf 106 = .ok (.fmul, 1) := by decide +kernel
theorem dX10_floatOf_107 : decode cX10_floatOf 107 = .ok (.fstore_n 2, 1) := by decide +kernel
theorem dX10_floatOf_108 : decode cX10_floatOf 108 = .ok (.iinc 3 1, 3) := by decide +kernel
theorem dX10_floatOf_111 : decode cX10_floatOf 111 = .ok (.goto (-33), 3) := by decide +kernel
theorem dX10_floatOf_114 : decode cX10_floatOf 114 = .ok (.fload_n 2, 1) := by decide +kernel
theorem dX10_floatOf_115 : decode cX10_floatOf 115 = .ok (.freturn, 1) := by decide +kernel
theorem dX10_bits_0 : decode cX10_bits 0 = .ok (.aload_n 0, 1) := by decide +kernel
theorem dX10_bits_1 : decode cX10_bits 1 = .ok (.iconst 0, 1) := by decide +kernel
theorem dX10_bits_2 : decode cX10_bits 2 = .ok (.putfield 1, 3) := by decide +kernel
theorem dX10_bits_5 : decode cX10_bits 5 = .ok (.iload_n 1, 1) := by decide +kernel
theorem dX10_bits_6 : decode cX10_bits 6 = .ok (.i2l, 1) := by decide +kernel
theorem dX10_bits_7 : decode cX10_bits 7 = .ok (.lconst 0, 1) := by decide +kernel
theorem dX10_bits_8 : decode cX10_bits 8 = .ok (.ldc2_w 286, 3) := by decide +kernel
theorem dX10_bits_11 : decode cX10_bits 11 = .ok (.invokestatic 98, 3) := by decide +kernel
theorem dX10_bits_14 : decode cX10_bits 14 = .ok (.ifCond .eq 14, 3) := by decide +kernel
theorem dX10_bits_17 : decode cX10_bits 17 = .ok (.aload_n 0, 1) := by decide +kernel
theorem dX10_bits_18 : decode cX10_bits 18 = .ok (.iload_n 1, 1) := by decide +kernel
theorem dX10_bits_19 : decode cX10_bits 19 = .ok (.invokevirtual 325, 3) := by decide +kernel
theorem dX10_bits_22 : decode cX10_bits 22 = .ok (.invokestatic 329, 3) := by decide +kernel
theorem dX10_bits_25 : decode cX10_bits 25 = .ok (.goto 6, 3) := by decide +kernel
theorem dX10_bits_28 : decode cX10_bits 28 = .ok (.ldc_w 333, 3) := by decide +kernel
theorem dX10_bits_31 : decode cX10_bits 31 = .ok (.ireturn, 1) := by decide +kernel
theorem dX10_undo_0 : decode cX10_undo 0 = .ok (.aload_n 0, 1) := by decide +kernel
theorem dX10_undo_1 : decode cX10_undo 1 = .ok (.iconst 0, 1) := by decide +kernel
theorem dX10_undo_2 : decode cX10_undo 2 = .ok (.putfield 1, 3) := by decide +kernel
theorem dX10_undo_5 : decode cX10_undo 5 = .ok (.iload_n 1, 1) := by decide +kernel
theorem dX10_undo_6 : decode cX10_undo 6 = .ok (.i2l, 1) := by decide +kernel
theorem dX10_undo_7 : decode cX10_undo 7 = .ok (.lconst 1, 1) := by decide +kernel
theorem dX10_undo_8 : decode cX10_undo 8 = .ok (.ldc2_w 276, 3) := by decide +kernel
theorem dX10_undo_11 : decode cX10_undo 11 = .ok (.invokestatic 98, 3) := by decide +kernel
theorem dX10_undo_14 : decode cX10_undo 14 = .ok (.ifCond .eq 11, 3) := by decide +kernel
theorem dX10_undo_17 : decode cX10_undo 17 = .ok (.iload_n 1, 1) := by decide +kernel
theorem dX10_undo_18 : decode cX10_undo 18 = .ok (.aload_n 0, 1) := by decide +kernel
theorem dX10_undo_19 : decode cX10_undo 19 = .ok (.getfield 85, 3) := by decide +kernel
theorem dX10_undo_22 : decode cX10_undo 22 = .ok (.if_icmp .le 6, 3) := by decide +kernel
theorem dX10_undo_25 : decode cX10_undo 25 = .ok (.bipush (-3), 2) := by decide +kernel
theorem dX10_undo_27 : decode cX10_undo 27 = .ok (.ireturn, 1) := by decide +kernel
theorem dX10_undo_28 : decode cX10_undo 28 = .ok (.aload_n 0, 1) := by decide +kernel
theorem dX10_undo_29 : decode cX10_undo 29 = .ok (.dup, 1) := by decide +kernel
theorem dX10_undo_30 : decode cX10_undo 30 = .ok (.getfield 85, 3) := by decide +kernel
theorem dX10_undo_33 : decode cX10_undo 33 = .ok (.iload_n 1, 1) := by decide +kernel
theorem dX10_undo_34 : decode cX10_undo 34 = .ok (.isub, 1) := by decide +kernel
theorem dX10_undo_35 : decode cX10_undo 35 = .ok (.putfield 85, 3) := by decide +kernel
theorem dX10_undo_38 : decode cX10_undo 38 = .ok (.aload_n 0, 1) := by decide +kernel
theorem dX10_undo_39 : decode cX10_undo 39 = .ok (.getfield 17, 3) := by decide +kernel
theorem dX10_undo_42 : decode cX10_undo 42 = .ok (.sipush 1021, 3) := by decide +kernel
theorem dX10_undo_45 : decode cX10_undo 45 = .ok (.aload_n 0, 1) := by decide +kernel
theorem dX10_undo_46 : decode cX10_undo 46 = .ok (.getfield 85, 3) := by decide +kernel
theorem dX10_undo_49 : decode cX10_undo 49 = .ok (.imul, 1) := by decide +kernel
theorem dX10_undo_50 : decode cX10_undo 50 = .ok (.aload_n 0, 1) := by decide +kernel
theorem dX10_undo_51 : decode cX10_undo 51 = .ok (.getfield 13, 3) := by decide +kernel
theorem dX10_undo_54 : decode cX10_undo 54 = .ok (.iconst 0, 1) := by decide +kernel
theorem dX10_undo_55 : decode cX10_undo 55 = .ok (.sipush 1021, 3) := by decide +kernel
theorem dX10_undo_58 : decode cX10_undo 58 = .ok (.invokestatic 88, 3) := by decide +kernel
theorem dX10_undo_61 : decode cX10_undo 61 = .ok (.aload_n 0, 1) := by decide +kernel
theorem dX10_undo_62 : decode cX10_undo 62 = .ok (.getfield 85, 3) := by decide +kernel
theorem dX10_undo_65 : decode cX10_undo 65 = .ok (.ireturn, 1) := by decide +kernel
theorem dX10_image_0 : decode cX10_image 0 = .ok (.aload_n 0, 1) := by decide +kernel
theorem dX10_image_1 : decode cX10_image 1 = .ok (.iconst 0, 1) := by decide +kernel
theorem dX10_image_2 : decode cX10_image 2 = .ok (.putfield 1, 3) := by decide +kernel
theorem dX10_image_5 : decode cX10_image 5 = .ok (.iload_n 1, 1) := by decide +kernel
theorem dX10_image_6 : decode cX10_image 6 = .ok (.i2l, 1) := by decide +kernel
theorem dX10_image_7 : decode cX10_image 7 = .ok (.lconst 0, 1) := by decide +kernel
theorem dX10_image_8 : decode cX10_image 8 = .ok (.lconst 1, 1) := by decide +kernel
theorem dX10_image_9 : decode cX10_image 9 = .ok (.invokestatic 98, 3) := by decide +kernel
theorem dX10_image_12 : decode cX10_image 12 = .ok (.ifCond .ne 6, 3) := by decide +kernel
theorem dX10_image_15 : decode cX10_image 15 = .ok (.bipush (-2), 2) := by decide +kernel
theorem dX10_image_17 : decode cX10_image 17 = .ok (.ireturn, 1) := by decide +kernel
theorem dX10_image_18 : decode cX10_image 18 = .ok (.aload_n 0, 1) := by decide +kernel
theorem dX10_image_19 : decode cX10_image 19 = .ok (.getfield 13, 3) := by decide +kernel
theorem dX10_image_22 : decode cX10_image 22 = .ok (.iconst 0, 1) := by decide +kernel
theorem dX10_image_23 : decode cX10_image 23 = .ok (.aload_n 0, 1) := by decide +kernel
theorem dX10_image_24 : decode cX10_image 24 = .ok (.getfield 13, 3) := by decide +kernel
theorem dX10_image_27 : decode cX10_image 27 = .ok (.sipush 1021, 3) := by decide +kernel
theorem dX10_image_30 : decode cX10_image 30 = .ok (.iload_n 1, 1) := by decide +kernel
theorem dX10_image_31 : decode cX10_image 31 = .ok (.iconst 1, 1) := by decide +kernel
theorem dX10_image_32 : decode cX10_image 32 = .ok (.iadd, 1) := by decide +kernel
theorem dX10_image_33 : decode cX10_image 33 = .ok (.imul, 1) := by decide +kernel
theorem dX10_image_34 : decode cX10_image 34 = .ok (.sipush 1021, 3) := by decide +kernel
theorem dX10_image_37 : decode cX10_image 37 = .ok (.invokestatic 88, 3) := by decide +kernel
theorem dX10_image_40 : decode cX10_image 40 = .ok (.aload_n 0, 1) := by decide +kernel
theorem dX10_image_41 : decode cX10_image 41 = .ok (.getfield 26, 3) := by decide +kernel
theorem dX10_image_44 : decode cX10_image 44 = .ok (.iload_n 1, 1) := by decide +kernel
theorem dX10_image_45 : decode cX10_image 45 = .ok (.iconst 1, 1) := by decide +kernel
theorem dX10_image_46 : decode cX10_image 46 = .ok (.bastore, 1) := by decide +kernel
theorem dX10_image_47 : decode cX10_image 47 = .ok (.iconst 0, 1) := by decide +kernel
theorem dX10_image_48 : decode cX10_image 48 = .ok (.ireturn, 1) := by decide +kernel
theorem dX10_restore_0 : decode cX10_restore 0 = .ok (.aload_n 0, 1) := by decide +kernel
theorem dX10_restore_1 : decode cX10_restore 1 = .ok (.iconst 0, 1) := by decide +kernel
theorem dX10_restore_2 : decode cX10_restore 2 = .ok (.putfield 1, 3) := by decide +kernel
theorem dX10_restore_5 : decode cX10_restore 5 = .ok (.iload_n 1, 1) := by decide +kernel
theorem dX10_restore_6 : decode cX10_restore 6 = .ok (.i2l, 1) := by decide +kernel
theorem dX10_restore_7 : decode cX10_restore 7 = .ok (.lconst 0, 1) := by decide +kernel
theorem dX10_restore_8 : decode cX10_restore 8 = .ok (.lconst 1, 1) := by decide +kernel
theorem dX10_restore_9 : decode cX10_restore 9 = .ok (.invokestatic 98, 3) := by decide +kernel
theorem dX10_restore_12 : decode cX10_restore 12 = .ok (.ifCond .ne 6, 3) := by decide +kernel
theorem dX10_restore_15 : decode cX10_restore 15 = .ok (.bipush (-2), 2) := by decide +kernel
theorem dX10_restore_17 : decode cX10_restore 17 = .ok (.ireturn, 1) := by decide +kernel
theorem dX10_restore_18 : decode cX10_restore 18 = .ok (.aload_n 0, 1) := by decide +kernel
theorem dX10_restore_19 : decode cX10_restore 19 = .ok (.getfield 26, 3) := by decide +kernel
theorem dX10_restore_22 : decode cX10_restore 22 = .ok (.iload_n 1, 1) := by decide +kernel
theorem dX10_restore_23 : decode cX10_restore 23 = .ok (.baload, 1) := by decide +kernel
theorem dX10_restore_24 : decode cX10_restore 24 = .ok (.ifCond .ne 6, 3) := by decide +kernel
theorem dX10_restore_27 : decode cX10_restore 27 = .ok (.bipush (-6), 2) := by decide +kernel
theorem dX10_restore_29 : decode cX10_restore 29 = .ok (.ireturn, 1) := by decide +kernel
theorem dX10_restore_30 : decode cX10_restore 30 = .ok (.aload_n 0, 1) := by decide +kernel
theorem dX10_restore_31 : decode cX10_restore 31 = .ok (.getfield 13, 3) := by decide +kernel
theorem dX10_restore_34 : decode cX10_restore 34 = .ok (.sipush 1021, 3) := by decide +kernel
theorem dX10_restore_37 : decode cX10_restore 37 = .ok (.iload_n 1, 1) := by decide +kernel
theorem dX10_restore_38 : decode cX10_restore 38 = .ok (.iconst 1, 1) := by decide +kernel
theorem dX10_restore_39 : decode cX10_restore 39 = .ok (.iadd, 1) := by decide +kernel
theorem dX10_restore_40 : decode cX10_restore 40 = .ok (.imul, 1) := by decide +kernel
theorem dX10_restore_41 : decode cX10_restore 41 = .ok (.aload_n 0, 1) := by decide +kernel
theorem dX10_restore_42 : decode cX10_restore 42 = .ok (.getfield 13, 3) := by decide +kernel
theorem dX10_restore_45 : decode cX10_restore 45 = .ok (.iconst 0, 1) := by decide +kernel
theorem dX10_restore_46 : decode cX10_restore 46 = .ok (.sipush 1021, 3) := by decide +kernel
theorem dX10_restore_49 : decode cX10_restore 49 = .ok (.invokestatic 88, 3) := by decide +kernel
theorem dX10_restore_52 : decode cX10_restore 52 = .ok (.aload_n 0, 1) := by decide +kernel
theorem dX10_restore_53 : decode cX10_restore 53 = .ok (.iconst 0, 1) := by decide +kernel
theorem dX10_restore_54 : decode cX10_restore 54 = .ok (.putfield 85, 3) := by decide +kernel
theorem dX10_restore_57 : decode cX10_restore 57 = .ok (.iconst 0, 1) := by decide +kernel
theorem dX10_restore_58 : decode cX10_restore 58 = .ok (.ireturn, 1) := by decide +kernel
theorem dX10_rulesMany_0 : decode cX10_rulesMany 0 = .ok (.iconst 0, 1) := by decide +kernel
theorem dX10_rulesMany_1 : decode cX10_rulesMany 1 = .ok (.istore_n 1, 1) := by decide +kernel
theorem dX10_rulesMany_2 : decode cX10_rulesMany 2 = .ok (.bipush 26, 2) := by decide +kernel
theorem dX10_rulesMany_4 : decode cX10_rulesMany 4 = .ok (.istore_n 2, 1) := by decide +kernel
theorem dX10_rulesMany_5 : decode cX10_rulesMany 5 = .ok (.iload_n 2, 1) := by decide +kernel
theorem dX10_rulesMany_6 : decode cX10_rulesMany 6 = .ok (.bipush 86, 2) := by decide +kernel
theorem dX10_rulesMany_8 : decode cX10_rulesMany 8 = .ok (.if_icmp .ge 25, 3) := by decide +kernel
theorem dX10_rulesMany_11 : decode cX10_rulesMany 11 = .ok (.iload_n 1, 1) := by decide +kernel
theorem dX10_rulesMany_12 : decode cX10_rulesMany 12 = .ok (.aload_n 0, 1) := by decide +kernel
theorem dX10_rulesMany_13 : decode cX10_rulesMany 13 = .ok (.iload_n 2, 1) := by decide +kernel
theorem dX10_rulesMany_14 : decode cX10_rulesMany 14 = .ok (.invokevirtual 106, 3) := by decide +kernel
theorem dX10_rulesMany_17 : decode cX10_rulesMany 17 = .ok (.ifCond .le 7, 3) := by decide +kernel
theorem dX10_rulesMany_20 : decode cX10_rulesMany 20 = .ok (.iconst 1, 1) := by decide +kernel
theorem dX10_rulesMany_21 : decode cX10_rulesMany 21 = .ok (.goto 4, 3) := by decide +kernel
theorem dX10_rulesMany_24 : decode cX10_rulesMany 24 = .ok (.iconst 0, 1) := by decide +kernel
theorem dX10_rulesMany_25 : decode cX10_rulesMany 25 = .ok (.iadd, 1) := by decide +kernel
theorem dX10_rulesMany_26 : decode cX10_rulesMany 26 = .ok (.istore_n 1, 1) := by decide +kernel
theorem dX10_rulesMany_27 : decode cX10_rulesMany 27 = .ok (.iinc 2 1, 3) := by decide +kernel
theorem dX10_rulesMany_30 : decode cX10_rulesMany 30 = .ok (.goto (-25), 3) := by decide +kernel
theorem dX10_rulesMany_33 : decode cX10_rulesMany 33 = .ok (.iload_n 1, 1) := by decide +kernel
theorem dX10_rulesMany_34 : decode cX10_rulesMany 34 = .ok (.ireturn, 1) := by decide +kernel
theorem dX10_deepest_0 : decode cX10_deepest 0 = .ok (.aload_n 0, 1) := by decide +kernel
theorem dX10_deepest_1 : decode cX10_deepest 1 = .ok (.invokevirtual 134, 3) := by decide +kernel
theorem dX10_deepest_4 : decode cX10_deepest 4 = .ok (.iconst 0, 1) := by decide +kernel
theorem dX10_deepest_5 : decode cX10_deepest 5 = .ok (.istore_n 1, 1) := by decide +kernel
theorem dX10_deepest_6 : decode cX10_deepest 6 = .ok (.iconst 0, 1) := by decide +kernel
theorem dX10_deepest_7 : decode cX10_deepest 7 = .ok (.istore_n 2, 1) := by decide +kernel
theorem dX10_deepest_8 : decode cX10_deepest 8 = .ok (.iload_n 2, 1) := by decide +kernel
theorem dX10_deepest_9 : decode cX10_deepest 9 = .ok (.aload_n 0, 1) := by decide +kernel
theorem dX10_deepest_10 : decode cX10_deepest 10 = .ok (.invokevirtual 123, 3) := by decide +kernel
theorem dX10_deepest_13 : decode cX10_deepest 13 = .ok (.if_icmp .ge 24, 3) := by decide +kernel
theorem dX10_deepest_16 : decode cX10_deepest 16 = .ok (.iload_n 1, 1) := by decide +kernel
theorem dX10_deepest_17 : decode cX10_deepest 17 = .ok (.aload_n 0, 1) := by decide +kernel
theorem dX10_deepest_18 : decode cX10_deepest 18 = .ok (.getfield 33, 3) := by decide +kernel
theorem dX10_deepest_21 : decode cX10_deepest 21 = .ok (.aload_n 0, 1) := by decide +kernel
theorem dX10_deepest_22 : decode cX10_deepest 22 = .ok (.iload_n 2, 1) := by decide +kernel
theorem dX10_deepest_23 : decode cX10_deepest 23 = .ok (.invokevirtual 127, 3) := by decide +kernel
theorem dX10_deepest_26 : decode cX10_deepest 26 = .ok (.iaload, 1) := by decide +kernel
theorem dX10_deepest_27 : decode cX10_deepest 27 = .ok (.invokestatic 117, 3) := by decide +kernel
theorem dX10_deepest_30 : decode cX10_deepest 30 = .ok (.istore_n 1, 1) := by decide +kernel
theorem dX10_deepest_31 : decode cX10_deepest 31 = .ok (.iinc 2 1, 3) := by decide +kernel
theorem dX10_deepest_34 : decode cX10_deepest 34 = .ok (.goto (-26), 3) := by decide +kernel
theorem dX10_deepest_37 : decode cX10_deepest 37 = .ok (.iload_n 1, 1) := by decide +kernel
theorem dX10_deepest_38 : decode cX10_deepest 38 = .ok (.ireturn, 1) := by decide +kernel
theorem dX10_count_0 : decode cX10_count 0 = .ok (.aload_n 0, 1) := by decide +kernel
theorem dX10_count_1 : decode cX10_count 1 = .ok (.iconst 0, 1) := by decide +kernel
theorem dX10_count_2 : decode cX10_count 2 = .ok (.putfield 1, 3) := by decide +kernel
theorem dX10_count_5 : decode cX10_count 5 = .ok (.iload_n 1, 1) := by decide +kernel
theorem dX10_count_6 : decode cX10_count 6 = .ok (.tableswitch 117 0 10 #[58, 63, 68, 73, 78, 83, 88, 93, 98, 103, 112], 58) := by decide +kernel
theorem dX10_count_64 : decode cX10_count 64 = .ok (.aload_n 0, 1) := by decide +kernel
theorem dX10_count_65 : decode cX10_count 65 = .ok (.invokevirtual 174, 3) := by decide +kernel
theorem dX10_count_68 : decode cX10_count 68 = .ok (.ireturn, 1) := by decide +kernel
theorem dX10_count_69 : decode cX10_count 69 = .ok (.aload_n 0, 1) := by decide +kernel
theorem dX10_count_70 : decode cX10_count 70 = .ok (.invokevirtual 123, 3) := by decide +kernel
theorem dX10_count_73 : decode cX10_count 73 = .ok (.ireturn, 1) := by decide +kernel
theorem dX10_count_74 : decode cX10_count 74 = .ok (.aload_n 0, 1) := by decide +kernel
theorem dX10_count_75 : decode cX10_count 75 = .ok (.invokevirtual 180, 3) := by decide +kernel
theorem dX10_count_78 : decode cX10_count 78 = .ok (.ireturn, 1) := by decide +kernel
theorem dX10_count_79 : decode cX10_count 79 = .ok (.aload_n 0, 1) := by decide +kernel
theorem dX10_count_80 : decode cX10_count 80 = .ok (.invokevirtual 264, 3) := by decide +kernel
theorem dX10_count_83 : decode cX10_count 83 = .ok (.ireturn, 1) := by decide +kernel
theorem dX10_count_84 : decode cX10_count 84 = .ok (.aload_n 0, 1) := by decide +kernel
theorem dX10_count_85 : decode cX10_count 85 = .ok (.invokevirtual 334, 3) := by decide +kernel
theorem dX10_count_88 : decode cX10_count 88 = .ok (.ireturn, 1) := by decide +kernel
theorem dX10_count_89 : decode cX10_count 89 = .ok (.aload_n 0, 1) := by decide +kernel
theorem dX10_count_90 : decode cX10_count 90 = .ok (.getfield 137, 3) := by decide +kernel
theorem dX10_count_93 : decode cX10_count 93 = .ok (.ireturn, 1) := by decide +kernel
theorem dX10_count_94 : decode cX10_count 94 = .ok (.aload_n 0, 1) := by decide +kernel
theorem dX10_count_95 : decode cX10_count 95 = .ok (.getfield 85, 3) := by decide +kernel
theorem dX10_count_98 : decode cX10_count 98 = .ok (.ireturn, 1) := by decide +kernel
theorem dX10_count_99 : decode cX10_count 99 = .ok (.aload_n 0, 1) := by decide +kernel
theorem dX10_count_100 : decode cX10_count 100 = .ok (.invokevirtual 236, 3) := by decide +kernel
theorem dX10_count_103 : decode cX10_count 103 = .ok (.ireturn, 1) := by decide +kernel
theorem dX10_count_104 : decode cX10_count 104 = .ok (.aload_n 0, 1) := by decide +kernel
theorem dX10_count_105 : decode cX10_count 105 = .ok (.invokevirtual 233, 3) := by decide +kernel
theorem dX10_count_108 : decode cX10_count 108 = .ok (.ireturn, 1) := by decide +kernel
theorem dX10_count_109 : decode cX10_count 109 = .ok (.aload_n 0, 1) := by decide +kernel
theorem dX10_count_110 : decode cX10_count 110 = .ok (.invokevirtual 189, 3) := by decide +kernel
theorem dX10_count_113 : decode cX10_count 113 = .ok (.aload_n 0, 1) := by decide +kernel
theorem dX10_count_114 : decode cX10_count 114 = .ok (.getfield 177, 3) := by decide +kernel
theorem dX10_count_117 : decode cX10_count 117 = .ok (.ireturn, 1) := by decide +kernel
theorem dX10_count_118 : decode cX10_count 118 = .ok (.aload_n 0, 1) := by decide +kernel
theorem dX10_count_119 : decode cX10_count 119 = .ok (.invokevirtual 337, 3) := by decide +kernel
theorem dX10_count_122 : decode cX10_count 122 = .ok (.ireturn, 1) := by decide +kernel
theorem dX10_count_123 : decode cX10_count 123 = .ok (.iconst (-1), 1) := by decide +kernel
theorem dX10_count_124 : decode cX10_count 124 = .ok (.ireturn, 1) := by decide +kernel
theorem dJ9_floorMod_7cf53_0 : decode cJ9_floorMod_7cf53 0 = .ok (.iload_n 0, 1) := by decide +kernel
theorem dJ9_floorMod_7cf53_1 : decode cJ9_floorMod_7cf53 1 = .ok (.iload_n 1, 1) := by decide +kernel
theorem dJ9_floorMod_7cf53_2 : decode cJ9_floorMod_7cf53 2 = .ok (.irem, 1) := by decide +kernel
theorem dJ9_floorMod_7cf53_3 : decode cJ9_floorMod_7cf53 3 = .ok (.istore_n 2, 1) := by decide +kernel
theorem dJ9_floorMod_7cf53_4 : decode cJ9_floorMod_7cf53 4 = .ok (.iload_n 0, 1) := by decide +kernel
theorem dJ9_floorMod_7cf53_5 : decode cJ9_floorMod_7cf53 5 = .ok (.iload_n 1, 1) := by decide +kernel
theorem dJ9_floorMod_7cf53_6 : decode cJ9_floorMod_7cf53 6 = .ok (.ixor, 1) := by decide +kernel
theorem dJ9_floorMod_7cf53_7 : decode cJ9_floorMod_7cf53 7 = .ok (.ifCond .ge 11, 3) := by decide +kernel
theorem dJ9_floorMod_7cf53_10 : decode cJ9_floorMod_7cf53 10 = .ok (.iload_n 2, 1) := by decide +kernel
theorem dJ9_floorMod_7cf53_11 : decode cJ9_floorMod_7cf53 11 = .ok (.ifCond .eq 7, 3) := by decide +kernel
theorem dJ9_floorMod_7cf53_14 : decode cJ9_floorMod_7cf53 14 = .ok (.iload_n 2, 1) := by decide +kernel
theorem dJ9_floorMod_7cf53_15 : decode cJ9_floorMod_7cf53 15 = .ok (.iload_n 1, 1) := by decide +kernel
theorem dJ9_floorMod_7cf53_16 : decode cJ9_floorMod_7cf53 16 = .ok (.iadd, 1) := by decide +kernel
theorem dJ9_floorMod_7cf53_17 : decode cJ9_floorMod_7cf53 17 = .ok (.ireturn, 1) := by decide +kernel
theorem dJ9_floorMod_7cf53_18 : decode cJ9_floorMod_7cf53 18 = .ok (.iload_n 2, 1) := by decide +kernel
theorem dJ9_floorMod_7cf53_19 : decode cJ9_floorMod_7cf53 19 = .ok (.ireturn, 1) := by decide +kernel
theorem dJ9_max_7cf53_0 : decode cJ9_max_7cf53 0 = .ok (.iload_n 0, 1) := by decide +kernel
theorem dJ9_max_7cf53_1 : decode cJ9_max_7cf53 1 = .ok (.iload_n 1, 1) := by decide +kernel
theorem dJ9_max_7cf53_2 : decode cJ9_max_7cf53 2 = .ok (.if_icmp .lt 7, 3) := by decide +kernel
theorem dJ9_max_7cf53_5 : decode cJ9_max_7cf53 5 = .ok (.iload_n 0, 1) := by decide +kernel
theorem dJ9_max_7cf53_6 : decode cJ9_max_7cf53 6 = .ok (.goto 4, 3) := by decide +kernel
theorem dJ9_max_7cf53_9 : decode cJ9_max_7cf53 9 = .ok (.iload_n 1, 1) := by decide +kernel
theorem dJ9_max_7cf53_10 : decode cJ9_max_7cf53 10 = .ok (.ireturn, 1) := by decide +kernel
theorem dJ9_min_7cf53_0 : decode cJ9_min_7cf53 0 = .ok (.iload_n 0, 1) := by decide +kernel
theorem dJ9_min_7cf53_1 : decode cJ9_min_7cf53 1 = .ok (.iload_n 1, 1) := by decide +kernel
theorem dJ9_min_7cf53_2 : decode cJ9_min_7cf53 2 = .ok (.if_icmp .gt 7, 3) := by decide +kernel
theorem dJ9_min_7cf53_5 : decode cJ9_min_7cf53 5 = .ok (.iload_n 0, 1) := by decide +kernel
theorem dJ9_min_7cf53_6 : decode cJ9_min_7cf53 6 = .ok (.goto 4, 3) := by decide +kernel
theorem dJ9_min_7cf53_9 : decode cJ9_min_7cf53 9 = .ok (.iload_n 1, 1) := by decide +kernel
theorem dJ9_min_7cf53_10 : decode cJ9_min_7cf53 10 = .ok (.ireturn, 1) := by decide +kernel
theorem dL_law_0 : decode cL_law 0 = .ok (.new 7, 3) := by decide +kernel
theorem dL_law_3 : decode cL_law 3 = .ok (.dup, 1) := by decide +kernel
theorem dL_law_4 : decode cL_law 4 = .ok (.invokespecial 9, 3) := by decide +kernel
theorem dL_law_7 : decode cL_law 7 = .ok (.astore_n 1, 1) := by decide +kernel
theorem dL_law_8 : decode cL_law 8 = .ok (.new 10, 3) := by decide +kernel
theorem dL_law_11 : decode cL_law 11 = .ok (.dup, 1) := by decide +kernel
theorem dL_law_12 : decode cL_law 12 = .ok (.invokespecial 12, 3) := by decide +kernel
theorem dL_law_15 : decode cL_law 15 = .ok (.astore_n 2, 1) := by decide +kernel
theorem dL_law_16 : decode cL_law 16 = .ok (.iconst 0, 1) := by decide +kernel
theorem dL_law_17 : decode cL_law 17 = .ok (.istore_n 3, 1) := by decide +kernel
theorem dL_law_18 : decode cL_law 18 = .ok (.iload_n 3, 1) := by decide +kernel
theorem dL_law_19 : decode cL_law 19 = .ok (.aload_n 0, 1) := by decide +kernel
theorem dL_law_20 : decode cL_law 20 = .ok (.arraylength, 1) := by decide +kernel
theorem dL_law_21 : decode cL_law 21 = .ok (.bipush 6, 2) := by decide +kernel
theorem dL_law_23 : decode cL_law 23 = .ok (.isub, 1) := by decide +kernel
theorem dL_law_24 : decode cL_law 24 = .ok (.if_icmp .gt 1277, 3) := by decide +kernel
theorem dL_law_27 : decode cL_law 27 = .ok (.aload_n 0, 1) := by decide +kernel
theorem dL_law_28 : decode cL_law 28 = .ok (.iload_n 3, 1) := by decide +kernel
theorem dL_law_29 : decode cL_law 29 = .ok (.iaload, 1) := by decide +kernel
theorem dL_law_30 : decode cL_law 30 = .ok (.bipush 63, 2) := by decide +kernel
theorem dL_law_32 : decode cL_law 32 = .ok (.iand, 1) := by decide +kernel
theorem dL_law_33 : decode cL_law 33 = .ok (.tableswitch 1262 0 40 #[179, 242, 265, 288, 311, 334, 347, 360, 393, 416, 429, 442, 475, 508, 541, 564, 597, 630, 663, 686, 709, 742, 775, 808, 841, 874, 907, 940, 953, 966, 989, 1012, 1045, 1068, 1091, 1114, 1147, 1170, 1193, 1216, 1239], 179) := by decide +kernel
theorem dL_law_212 : decode cL_law 212 = .ok (.aload_n 1, 1) := by decide +kernel
theorem dL_law_213 : decode cL_law 213 = .ok (.aload_n 0, 1) := by decide +kernel
theorem dL_law_214 : decode cL_law 214 = .ok (.iload_n 3, 1) := by decide +kernel
theorem dL_law_215 : decode cL_law 215 = .ok (.iconst 1, 1) := by decide +kernel
theorem dL_law_216 : decode cL_law 216 = .ok (.iadd, 1) := by decide +kernel
theorem dL_law_217 : decode cL_law 217 = .ok (.iaload, 1) := by decide +kernel
theorem dL_law_218 : decode cL_law 218 = .ok (.aload_n 0, 1) := by decide +kernel
theorem dL_law_219 : decode cL_law 219 = .ok (.iload_n 3, 1) := by decide +kernel
theorem dL_law_220 : decode cL_law 220 = .ok (.iconst 2, 1) := by decide +kernel
theorem dL_law_221 : decode cL_law 221 = .ok (.iadd, 1) := by decide +kernel
theorem dL_law_222 : decode cL_law 222 = .ok (.iaload, 1) := by decide +kernel
theorem dL_law_223 : decode cL_law 223 = .ok (.aload_n 0, 1) := by decide +kernel
theorem dL_law_224 : decode cL_law 224 = .ok (.iload_n 3, 1) := by decide +kernel
theorem dL_law_225 : decode cL_law 225 = .ok (.iconst 3, 1) := by decide +kernel
theorem dL_law_226 : decode cL_law 226 = .ok (.iadd, 1) := by decide +kernel
theorem dL_law_227 : decode cL_law 227 = .ok (.iaload, 1) := by decide +kernel
theorem dL_law_228 : decode cL_law 228 = .ok (.aload_n 0, 1) := by decide +kernel
theorem dL_law_229 : decode cL_law 229 = .ok (.iload_n 3, 1) := by decide +kernel
theorem dL_law_230 : decode cL_law 230 = .ok (.iconst 4, 1) := by decide +kernel
theorem dL_law_231 : decode cL_law 231 = .ok (.iadd, 1) := by decide +kernel
theorem dL_law_232 : decode cL_law 232 = .ok (.iaload, 1) := by decide +kernel
theorem dL_law_233 : decode cL_law 233 = .ok (.aload_n 0, 1) := by decide +kernel
theorem dL_law_234 : decode cL_law 234 = .ok (.iload_n 3, 1) := by decide +kernel
theorem dL_law_235 : decode cL_law 235 = .ok (.iconst 5, 1) := by decide +kernel
theorem dL_law_236 : decode cL_law 236 = .ok (.iadd, 1) := by decide +kernel
theorem dL_law_237 : decode cL_law 237 = .ok (.iaload, 1) := by decide +kernel
theorem dL_law_238 : decode cL_law 238 = .ok (.invokevirtual 13, 3) := by decide +kernel
theorem dL_law_241 : decode cL_law 241 = .ok (.aload_n 2, 1) := by decide +kernel
theorem dL_law_242 : decode cL_law 242 = .ok (.aload_n 0, 1) := by decide +kernel
theorem dL_law_243 : decode cL_law 243 = .ok (.iload_n 3, 1) := by decide +kernel
theorem dL_law_244 : decode cL_law 244 = .ok (.iconst 1, 1) := by decide +kernel
theorem dL_law_245 : decode cL_law 245 = .ok (.iadd, 1) := by decide +kernel
theorem dL_law_246 : decode cL_law 246 = .ok (.iaload, 1) := by decide +kernel
theorem dL_law_247 : decode cL_law 247 = .ok (.aload_n 0, 1) := by decide +kernel
theorem dL_law_248 : decode cL_law 248 = .ok (.iload_n 3, 1) := by decide +kernel
theorem dL_law_249 : decode cL_law 249 = .ok (.iconst 2, 1) := by decide +kernel
theorem dL_law_250 : decode cL_law 250 = .ok (.iadd, 1) := by decide +kernel
theorem dL_law_251 : decode cL_law 251 = .ok (.iaload, 1) := by decide +kernel
theorem dL_law_252 : decode cL_law 252 = .ok (.aload_n 0, 1) := by decide +kernel
theorem dL_law_253 : decode cL_law 253 = .ok (.iload_n 3, 1) := by decide +kernel
theorem dL_law_254 : decode cL_law 254 = .ok (.iconst 3, 1) := by decide +kernel
theorem dL_law_255 : decode cL_law 255 = .ok (.iadd, 1) := by decide +kernel
theorem dL_law_256 : decode cL_law 256 = .ok (.iaload, 1) := by decide +kernel
theorem dL_law_257 : decode cL_law 257 = .ok (.aload_n 0, 1) := by decide +kernel
theorem dL_law_258 : decode cL_law 258 = .ok (.iload_n 3, 1) := by decide +kernel
theorem dL_law_259 : decode cL_law 259 = .ok (.iconst 4, 1) := by decide +kernel
theorem dL_law_260 : decode cL_law 260 = .ok (.iadd, 1) := by decide +kernel
theorem dL_law_261 : decode cL_law 261 = .ok (.iaload, 1) := by decide +kernel
theorem dL_law_262 : decode cL_law 262 = .ok (.aload_n 0, 1) := by decide +kernel
theorem dL_law_263 : decode cL_law 263 = .ok (.iload_n 3, 1) := by decide +kernel
theorem dL_law_264 : decode cL_law 264 = .ok (.iconst 5, 1) := by decide +kernel
theorem dL_law_265 : decode cL_law 265 = .ok (.iadd, 1) := by decide +kernel
theorem dL_law_266 : decode cL_law 266 = .ok (.iaload, 1) := by decide +kernel
theorem dL_law_267 : decode cL_law 267 = .ok (.invokevirtual 17, 3) := by decide +kernel
theorem dL_law_270 : decode cL_law 270 = .ok (.if_icmp .eq 1025, 3) := by decide +kernel
theorem dL_law_273 : decode cL_law 273 = .ok (.iconst 0, 1) := by decide +kernel
theorem dL_law_274 : decode cL_law 274 = .ok (.ireturn, 1) := by decide +kernel
theorem dL_law_275 : decode cL_law 275 = .ok (.aload_n 1, 1) := by decide +kernel
theorem dL_law_276 : decode cL_law 276 = .ok (.aload_n 0, 1) := by decide +kernel
theorem dL_law_277 : decode cL_law 277 = .ok (.iload_n 3, 1) := by decide +kernel
theorem dL_law_278 : decode cL_law 278 = .ok (.iconst 1, 1) := by decide +kernel
theorem dL_law_279 : decode cL_law 279 = .ok (.iadd, 1) := by decide +kernel
theorem dL_law_280 : decode cL_law 280 = .ok (.iaload, 1) := by decide +kernel
theorem dL_law_281 : decode cL_law 281 = .ok (.invokevirtual 18, 3) := by decide +kernel
theorem dL_law_284 : decode cL_law 284 = .ok (.aload_n 2, 1) := by decide +kernel
theorem dL_law_285 : decode cL_law 285 = .ok (.aload_n 0, 1) := by decide +kernel
theorem dL_law_286 : decode cL_law 286 = .ok (.iload_n 3, 1) := by decide +kernel
theorem dL_law_287 : decode cL_law 287 = .ok (.iconst 1, 1) := by decide +kernel
theorem dL_law_288 : decode cL_law 288 = .ok (.iadd, 1) := by decide +kernel
theorem dL_law_289 : decode cL_law 289 = .ok (.iaload, 1) := by decide +kernel
theorem dL_law_290 : decode cL_law 290 = .ok (.invokevirtual 22, 3) := by decide +kernel
theorem dL_law_293 : decode cL_law 293 = .ok (.if_icmp .eq 1002, 3) := by decide +kernel
theorem dL_law_296 : decode cL_law 296 = .ok (.iconst 0, 1) := by decide +kernel
theorem dL_law_297 : decode cL_law 297 = .ok (.ireturn, 1) := by decide +kernel
theorem dL_law_298 : decode cL_law 298 = .ok (.aload_n 1, 1) := by decide +kernel
theorem dL_law_299 : decode cL_law 299 = .ok (.aload_n 0, 1) := by decide +kernel
theorem dL_law_300 : decode cL_law 300 = .ok (.iload_n 3, 1) := by decide +kernel
theorem dL_law_301 : decode cL_law 301 = .ok (.iconst 1, 1) := by decide +kernel
theorem dL_law_302 : decode cL_law 302 = .ok (.iadd, 1) := by decide +kernel
theorem dL_law_303 : decode cL_law 303 = .ok (.iaload, 1) := by decide +kernel
theorem dL_law_304 : decode cL_law 304 = .ok (.invokevirtual 23, 3) := by decide +kernel
theorem dL_law_307 : decode cL_law 307 = .ok (.aload_n 2, 1) := by decide +kernel
theorem dL_law_308 : decode cL_law 308 = .ok (.aload_n 0, 1) := by decide +kernel
theorem dL_law_309 : decode cL_law 309 = .ok (.iload_n 3, 1) := by decide +kernel
theorem dL_law_310 : decode cL_law 310 = .ok (.iconst 1, 1) := by decide +kernel
theorem dL_law_311 : decode cL_law 311 = .ok (.iadd, 1) := by decide +kernel
theorem dL_law_312 : decode cL_law 312 = .ok (.iaload, 1) := by decide +kernel
theorem dL_law_313 : decode cL_law 313 = .ok (.invokevirtual 26, 3) := by decide +kernel
theorem dL_law_316 : decode cL_law 316 = .ok (.if_icmp .eq 979, 3) := by decide +kernel
theorem dL_law_319 : decode cL_law 319 = .ok (.iconst 0, 1) := by decide +kernel
theorem dL_law_320 : decode cL_law 320 = .ok (.ireturn, 1) := by decide +kernel
theorem dL_law_321 : decode cL_law 321 = .ok (.aload_n 1, 1) := by decide +kernel
theorem dL_law_322 : decode cL_law 322 = .ok (.aload_n 0, 1) := by decide +kernel
theorem dL_law_323 : decode cL_law 323 = .ok (.iload_n 3, 1) := by decide +kernel
theorem dL_law_324 : decode cL_law 324 = .ok (.iconst 1, 1) := by decide +kernel
theorem dL_law_325 : decode cL_law 325 = .ok (.iadd, 1) := by decide +kernel
theorem dL_law_326 : decode cL_law 326 = .ok (.iaload, 1) := by decide +kernel
theorem dL_law_327 : decode cL_law 327 = .ok (.invokevirtual 27, 3) := by decide +kernel
theorem dL_law_330 : decode cL_law 330 = .ok (.aload_n 2, 1) := by decide +kernel
theorem dL_law_331 : decode cL_law 331 = .ok (.aload_n 0, 1) := by decide +kernel
theorem dL_law_332 : decode cL_law 332 = .ok (.iload_n 3, 1) := by decide +kernel
theorem dL_law_333 : decode cL_law 333 = .ok (.iconst 1, 1) := by decide +kernel
theorem dL_law_334 : decode cL_law 334 = .ok (.iadd, 1) := by decide +kernel
theorem dL_law_335 : decode cL_law 335 = .ok (.iaload, 1) := by decide +kernel
theorem dL_law_336 : decode cL_law 336 = .ok (.invokevirtual 30, 3) := by decide +kernel
theorem dL_law_339 : decode cL_law 339 = .ok (.if_icmp .eq 956, 3) := by decide +kernel
theorem dL_law_342 : decode cL_law 342 = .ok (.iconst 0, 1) := by decide +kernel
theorem dL_law_343 : decode cL_law 343 = .ok (.ireturn, 1) := by decide +kernel
theorem dL_law_344 : decode cL_law 344 = .ok (.aload_n 1, 1) := by decide +kernel
theorem dL_law_345 : decode cL_law 345 = .ok (.aload_n 0, 1) := by decide +kernel
theorem dL_law_346 : decode cL_law 346 = .ok (.iload_n 3, 1) := by decide +kernel
theorem dL_law_347 : decode cL_law 347 = .ok (.iconst 1, 1) := by decide +kernel
theorem dL_law_348 : decode cL_law 348 = .ok (.iadd, 1) := by decide +kernel
theorem dL_law_349 : decode cL_law 349 = .ok (.iaload, 1) := by decide +kernel
theorem dL_law_350 : decode cL_law 350 = .ok (.invokevirtual 31, 3) := by decide +kernel
theorem dL_law_353 : decode cL_law 353 = .ok (.aload_n 2, 1) := by decide +kernel
theorem dL_law_354 : decode cL_law 354 = .ok (.aload_n 0, 1) := by decide +kernel
theorem dL_law_355 : decode cL_law 355 = .ok (.iload_n 3, 1) := by decide +kernel
theorem dL_law_356 : decode cL_law 356 = .ok (.iconst 1, 1) := by decide +kernel
theorem dL_law_357 : decode cL_law 357 = .ok (.iadd, 1) := by decide +kernel
theorem dL_law_358 : decode cL_law 358 = .ok (.iaload, 1) := by decide +kernel
theorem dL_law_359 : decode cL_law 359 = .ok (.invokevirtual 34, 3) := by decide +kernel
theorem dL_law_362 : decode cL_law 362 = .ok (.if_icmp .eq 933, 3) := by decide +kernel
theorem dL_law_365 : decode cL_law 365 = .ok (.iconst 0, 1) := by decide +kernel
theorem dL_law_366 : decode cL_law 366 = .ok (.ireturn, 1) := by decide +kernel
theorem dL_law_367 : decode cL_law 367 = .ok (.aload_n 1, 1) := by decide +kernel
theorem dL_law_368 : decode cL_law 368 = .ok (.invokevirtual 35, 3) := by decide +kernel
theorem dL_law_371 : decode cL_law 371 = .ok (.aload_n 2, 1) := by decide +kernel
theorem dL_law_372 : decode cL_law 372 = .ok (.invokevirtual 39, 3) := by decide +kernel
theorem dL_law_375 : decode cL_law 375 = .ok (.if_icmp .eq 920, 3) := by decide +kernel
theorem dL_law_378 : decode cL_law 378 = .ok (.iconst 0, 1) := by decide +kernel
theorem dL_law_379 : decode cL_law 379 = .ok (.ireturn, 1) := by decide +kernel
theorem dL_law_380 : decode cL_law 380 = .ok (.aload_n 1, 1) := by decide +kernel
theorem dL_law_381 : decode cL_law 381 = .ok (.invokevirtual 40, 3) := by decide +kernel
theorem dL_law_384 : decode cL_law 384 = .ok (.aload_n 2, 1) := by decide +kernel
theorem dL_law_385 : decode cL_law 385 = .ok (.invokevirtual 43, 3) := by decide +kernel
theorem dL_law_388 : decode cL_law 388 = .ok (.if_icmp .eq 907, 3) := by decide +kernel
theorem dL_law_391 : decode cL_law 391 = .ok (.iconst 0, 1) := by decide +kernel
theorem dL_law_392 : decode cL_law 392 = .ok (.ireturn, 1) := by decide +kernel
theorem dL_law_393 : decode cL_law 393 = .ok (.aload_n 1, 1) := by decide +kernel
theorem dL_law_394 : decode cL_law 394 = .ok (.aload_n 0, 1) := by decide +kernel
theorem dL_law_395 : decode cL_law 395 = .ok (.iload_n 3, 1) := by decide +kernel
theorem dL_law_396 : decode cL_law 396 = .ok (.iconst 1, 1) := by decide +kernel
theorem dL_law_397 : decode cL_law 397 = .ok (.iadd, 1) := by decide +kernel
theorem dL_law_398 : decode cL_law 398 = .ok (.iaload, 1) := by decide +kernel
theorem dL_law_399 : decode cL_law 399 = .ok (.aload_n 0, 1) := by decide +kernel
theorem dL_law_400 : decode cL_law 400 = .ok (.iload_n 3, 1) := by decide +kernel
theorem dL_law_401 : decode cL_law 401 = .ok (.iconst 2, 1) := by decide +kernel
theorem dL_law_402 : decode cL_law 402 = .ok (.iadd, 1) := by decide +kernel
theorem dL_law_403 : decode cL_law 403 = .ok (.iaload, 1) := by decide +kernel
theorem dL_law_404 : decode cL_law 404 = .ok (.invokevirtual 44, 3) := by decide +kernel
theorem dL_law_407 : decode cL_law 407 = .ok (.aload_n 2, 1) := by decide +kernel
theorem dL_law_408 : decode cL_law 408 = .ok (.aload_n 0, 1) := by decide +kernel
theorem dL_law_409 : decode cL_law 409 = .ok (.iload_n 3, 1) := by decide +kernel
theorem dL_law_410 : decode cL_law 410 = .ok (.iconst 1, 1) := by decide +kernel
theorem dL_law_411 : decode cL_law 411 = .ok (.iadd, 1) := by decide +kernel
theorem dL_law_412 : decode cL_law 412 = .ok (.iaload, 1) := by decide +kernel
theorem dL_law_413 : decode cL_law 413 = .ok (.aload_n 0, 1) := by decide +kernel
theorem dL_law_414 : decode cL_law 414 = .ok (.iload_n 3, 1) := by decide +kernel
theorem dL_law_415 : decode cL_law 415 = .ok (.iconst 2, 1) := by decide +kernel
theorem dL_law_416 : decode cL_law 416 = .ok (.iadd, 1) := by decide +kernel
theorem dL_law_417 : decode cL_law 417 = .ok (.iaload, 1) := by decide +kernel
theorem dL_law_418 : decode cL_law 418 = .ok (.invokevirtual 48, 3) := by decide +kernel
theorem dL_law_421 : decode cL_law 421 = .ok (.if_icmp .eq 874, 3) := by decide +kernel
theorem dL_law_424 : decode cL_law 424 = .ok (.iconst 0, 1) := by decide +kernel
theorem dL_law_425 : decode cL_law 425 = .ok (.ireturn, 1) := by decide +kernel
theorem dL_law_426 : decode cL_law 426 = .ok (.aload_n 1, 1) := by decide +kernel
theorem dL_law_427 : decode cL_law 427 = .ok (.aload_n 0, 1) := by decide +kernel
theorem dL_law_428 : decode cL_law 428 = .ok (.iload_n 3, 1) := by decide +kernel
theorem dL_law_429 : decode cL_law 429 = .ok (.iconst 1, 1) := by decide +kernel
theorem dL_law_430 : decode cL_law 430 = .ok (.iadd, 1) := by decide +kernel
theorem dL_law_431 : decode cL_law 431 = .ok (.iaload, 1) := by decide +kernel
theorem dL_law_432 : decode cL_law 432 = .ok (.invokevirtual 49, 3) := by decide +kernel
theorem dL_law_435 : decode cL_law 435 = .ok (.aload_n 2, 1) := by decide +kernel
theorem dL_law_436 : decode cL_law 436 = .ok (.aload_n 0, 1) := by decide +kernel
theorem dL_law_437 : decode cL_law 437 = .ok (.iload_n 3, 1) := by decide +kernel
theorem dL_law_438 : decode cL_law 438 = .ok (.iconst 1, 1) := by decide +kernel
theorem dL_law_439 : decode cL_law 439 = .ok (.iadd, 1) := by decide +kernel
theorem dL_law_440 : decode cL_law 440 = .ok (.iaload, 1) := by decide +kernel
theorem dL_law_441 : decode cL_law 441 = .ok (.invokevirtual 52, 3) := by decide +kernel
theorem dL_law_444 : decode cL_law 444 = .ok (.if_icmp .eq 851, 3) := by decide +kernel
theorem dL_law_447 : decode cL_law 447 = .ok (.iconst 0, 1) := by decide +kernel
theorem dL_law_448 : decode cL_law 448 = .ok (.ireturn, 1) := by decide +kernel
theorem dL_law_449 : decode cL_law 449 = .ok (.aload_n 1, 1) := by decide +kernel
theorem dL_law_450 : decode cL_law 450 = .ok (.invokevirtual 53, 3) := by decide +kernel
theorem dL_law_453 : decode cL_law 453 = .ok (.aload_n 2, 1) := by decide +kernel
theorem dL_law_454 : decode cL_law 454 = .ok (.invokevirtual 56, 3) := by decide +kernel
theorem dL_law_457 : decode cL_law 457 = .ok (.if_icmp .eq 838, 3) := by decide +kernel
theorem dL_law_460 : decode cL_law 460 = .ok (.iconst 0, 1) := by decide +kernel
theorem dL_law_461 : decode cL_law 461 = .ok (.ireturn, 1) := by decide +kernel
theorem dL_law_462 : decode cL_law 462 = .ok (.aload_n 1, 1) := by decide +kernel
theorem dL_law_463 : decode cL_law 463 = .ok (.invokevirtual 57, 3) := by decide +kernel
theorem dL_law_466 : decode cL_law 466 = .ok (.aload_n 2, 1) := by decide +kernel
theorem dL_law_467 : decode cL_law 467 = .ok (.invokevirtual 60, 3) := by decide +kernel
theorem dL_law_470 : decode cL_law 470 = .ok (.if_icmp .eq 825, 3) := by decide +kernel
theorem dL_law_473 : decode cL_law 473 = .ok (.iconst 0, 1) := by decide +kernel
theorem dL_law_474 : decode cL_law 474 = .ok (.ireturn, 1) := by decide +kernel
theorem dL_law_475 : decode cL_law 475 = .ok (.aload_n 1, 1) := by decide +kernel
theorem dL_law_476 : decode cL_law 476 = .ok (.aload_n 0, 1) := by decide +kernel
theorem dL_law_477 : decode cL_law 477 = .ok (.iload_n 3, 1) := by decide +kernel
theorem dL_law_478 : decode cL_law 478 = .ok (.iconst 1, 1) := by decide +kernel
theorem dL_law_479 : decode cL_law 479 = .ok (.iadd, 1) := by decide +kernel
theorem dL_law_480 : decode cL_law 480 = .ok (.iaload, 1) := by decide +kernel
theorem dL_law_481 : decode cL_law 481 = .ok (.aload_n 0, 1) := by decide +kernel
theorem dL_law_482 : decode cL_law 482 = .ok (.iload_n 3, 1) := by decide +kernel
theorem dL_law_483 : decode cL_law 483 = .ok (.iconst 2, 1) := by decide +kernel
theorem dL_law_484 : decode cL_law 484 = .ok (.iadd, 1) := by decide +kernel
theorem dL_law_485 : decode cL_law 485 = .ok (.iaload, 1) := by decide +kernel
theorem dL_law_486 : decode cL_law 486 = .ok (.invokevirtual 61, 3) := by decide +kernel
theorem dL_law_489 : decode cL_law 489 = .ok (.aload_n 2, 1) := by decide +kernel
theorem dL_law_490 : decode cL_law 490 = .ok (.aload_n 0, 1) := by decide +kernel
theorem dL_law_491 : decode cL_law 491 = .ok (.iload_n 3, 1) := by decide +kernel
theorem dL_law_492 : decode cL_law 492 = .ok (.iconst 1, 1) := by decide +kernel
theorem dL_law_493 : decode cL_law 493 = .ok (.iadd, 1) := by decide +kernel
theorem dL_law_494 : decode cL_law 494 = .ok (.iaload, 1) := by decide +kernel
theorem dL_law_495 : decode cL_law 495 = .ok (.aload_n 0, 1) := by decide +kernel
theorem dL_law_496 : decode cL_law 496 = .ok (.iload_n 3, 1) := by decide +kernel
theorem dL_law_497 : decode cL_law 497 = .ok (.iconst 2, 1) := by decide +kernel
theorem dL_law_498 : decode cL_law 498 = .ok (.iadd, 1) := by decide +kernel
theorem dL_law_499 : decode cL_law 499 = .ok (.iaload, 1) := by decide +kernel
theorem dL_law_500 : decode cL_law 500 = .ok (.invokevirtual 64, 3) := by decide +kernel
theorem dL_law_503 : decode cL_law 503 = .ok (.if_icmp .eq 792, 3) := by decide +kernel
theorem dL_law_506 : decode cL_law 506 = .ok (.iconst 0, 1) := by decide +kernel
theorem dL_law_507 : decode cL_law 507 = .ok (.ireturn, 1) := by decide +kernel
theorem dL_law_508 : decode cL_law 508 = .ok (.aload_n 1, 1) := by decide +kernel
theorem dL_law_509 : decode cL_law 509 = .ok (.aload_n 0, 1) := by decide +kernel
theorem dL_law_510 : decode cL_law 510 = .ok (.iload_n 3, 1) := by decide +kernel
theorem dL_law_511 : decode cL_law 511 = .ok (.iconst 1, 1) := by decide +kernel
theorem dL_law_512 : decode cL_law 512 = .ok (.iadd, 1) := by decide +kernel
theorem dL_law_513 : decode cL_law 513 = .ok (.iaload, 1) := by decide +kernel
theorem dL_law_514 : decode cL_law 514 = .ok (.aload_n 0, 1) := by decide +kernel
theorem dL_law_515 : decode cL_law 515 = .ok (.iload_n 3, 1) := by decide +kernel
theorem dL_law_516 : decode cL_law 516 = .ok (.iconst 2, 1) := by decide +kernel
theorem dL_law_517 : decode cL_law 517 = .ok (.iadd, 1) := by decide +kernel
theorem dL_law_518 : decode cL_law 518 = .ok (.iaload, 1) := by decide +kernel
theorem dL_law_519 : decode cL_law 519 = .ok (.invokevirtual 65, 3) := by decide +kernel
theorem dL_law_522 : decode cL_law 522 = .ok (.aload_n 2, 1) := by decide +kernel
theorem dL_law_523 : decode cL_law 523 = .ok (.aload_n 0, 1) := by decide +kernel
theorem dL_law_524 : decode cL_law 524 = .ok (.iload_n 3, 1) := by decide +kernel
theorem dL_law_525 : decode cL_law 525 = .ok (.iconst 1, 1) := by decide +kernel
theorem dL_law_526 : decode cL_law 526 = .ok (.iadd, 1) := by decide +kernel
theorem dL_law_527 : decode cL_law 527 = .ok (.iaload, 1) := by decide +kernel
theorem dL_law_528 : decode cL_law 528 = .ok (.aload_n 0, 1) := by decide +kernel
theorem dL_law_529 : decode cL_law 529 = .ok (.iload_n 3, 1) := by decide +kernel
theorem dL_law_530 : decode cL_law 530 = .ok (.iconst 2, 1) := by decide +kernel
theorem dL_law_531 : decode cL_law 531 = .ok (.iadd, 1) := by decide +kernel
theorem dL_law_532 : decode cL_law 532 = .ok (.iaload, 1) := by decide +kernel
theorem dL_law_533 : decode cL_law 533 = .ok (.invokevirtual 68, 3) := by decide +kernel
theorem dL_law_536 : decode cL_law 536 = .ok (.if_icmp .eq 759, 3) := by decide +kernel
theorem dL_law_539 : decode cL_law 539 = .ok (.iconst 0, 1) := by decide +kernel
theorem dL_law_540 : decode cL_law 540 = .ok (.ireturn, 1) := by decide +kernel
theorem dL_law_541 : decode cL_law 541 = .ok (.aload_n 1, 1) := by decide +kernel
theorem dL_law_542 : decode cL_law 542 = .ok (.aload_n 0, 1) := by decide +kernel
theorem dL_law_543 : decode cL_law 543 = .ok (.iload_n 3, 1) := by decide +kernel
theorem dL_law_544 : decode cL_law 544 = .ok (.iconst 1, 1) := by decide +kernel
theorem dL_law_545 : decode cL_law 545 = .ok (.iadd, 1) := by decide +kernel
theorem dL_law_546 : decode cL_law 546 = .ok (.iaload, 1) := by decide +kernel
theorem dL_law_547 : decode cL_law 547 = .ok (.aload_n 0, 1) := by decide +kernel
theorem dL_law_548 : decode cL_law 548 = .ok (.iload_n 3, 1) := by decide +kernel
theorem dL_law_549 : decode cL_law 549 = .ok (.iconst 2, 1) := by decide +kernel
theorem dL_law_550 : decode cL_law 550 = .ok (.iadd, 1) := by decide +kernel
theorem dL_law_551 : decode cL_law 551 = .ok (.iaload, 1) := by decide +kernel
theorem dL_law_552 : decode cL_law 552 = .ok (.invokevirtual 69, 3) := by decide +kernel
theorem dL_law_555 : decode cL_law 555 = .ok (.aload_n 2, 1) := by decide +kernel
theorem dL_law_556 : decode cL_law 556 = .ok (.aload_n 0, 1) := by decide +kernel
theorem dL_law_557 : decode cL_law 557 = .ok (.iload_n 3, 1) := by decide +kernel
theorem dL_law_558 : decode cL_law 558 = .ok (.iconst 1, 1) := by decide +kernel
theorem dL_law_559 : decode cL_law 559 = .ok (.iadd, 1) := by decide +kernel
theorem dL_law_560 : decode cL_law 560 = .ok (.iaload, 1) := by decide +kernel
theorem dL_law_561 : decode cL_law 561 = .ok (.aload_n 0, 1) := by decide +kernel
theorem dL_law_562 : decode cL_law 562 = .ok (.iload_n 3, 1) := by decide +kernel
theorem dL_law_563 : decode cL_law 563 = .ok (.iconst 2, 1) := by decide +kernel
theorem dL_law_564 : decode cL_law 564 = .ok (.iadd, 1) := by decide +kernel
theorem dL_law_565 : decode cL_law 565 = .ok (.iaload, 1) := by decide +kernel
theorem dL_law_566 : decode cL_law 566 = .ok (.invokevirtual 72, 3) := by decide +kernel
theorem dL_law_569 : decode cL_law 569 = .ok (.if_icmp .eq 726, 3) := by decide +kernel
theorem dL_law_572 : decode cL_law 572 = .ok (.iconst 0, 1) := by decide +kernel
theorem dL_law_573 : decode cL_law 573 = .ok (.ireturn, 1) := by decide +kernel
theorem dL_law_574 : decode cL_law 574 = .ok (.aload_n 1, 1) := by decide +kernel
theorem dL_law_575 : decode cL_law 575 = .ok (.aload_n 0, 1) := by decide +kernel
theorem dL_law_576 : decode cL_law 576 = .ok (.iload_n 3, 1) := by decide +kernel
theorem dL_law_577 : decode cL_law 577 = .ok (.iconst 1, 1) := by decide +kernel
theorem dL_law_578 : decode cL_law 578 = .ok (.iadd, 1) := by decide +kernel
theorem dL_law_579 : decode cL_law 579 = .ok (.iaload, 1) := by decide +kernel
theorem dL_law_580 : decode cL_law 580 = .ok (.invokevirtual 73, 3) := by decide +kernel
theorem dL_law_583 : decode cL_law 583 = .ok (.aload_n 2, 1) := by decide +kernel
theorem dL_law_584 : decode cL_law 584 = .ok (.aload_n 0, 1) := by decide +kernel
theorem dL_law_585 : decode cL_law 585 = .ok (.iload_n 3, 1) := by decide +kernel
theorem dL_law_586 : decode cL_law 586 = .ok (.iconst 1, 1) := by decide +kernel
theorem dL_law_587 : decode cL_law 587 = .ok (.iadd, 1) := by decide +kernel
theorem dL_law_588 : decode cL_law 588 = .ok (.iaload, 1) := by decide +kernel
theorem dL_law_589 : decode cL_law 589 = .ok (.invokevirtual 76, 3) := by decide +kernel
theorem dL_law_592 : decode cL_law 592 = .ok (.if_icmp .eq 703, 3) := by decide +kernel
theorem dL_law_595 : decode cL_law 595 = .ok (.iconst 0, 1) := by decide +kernel
theorem dL_law_596 : decode cL_law 596 = .ok (.ireturn, 1) := by decide +kernel
theorem dL_law_597 : decode cL_law 597 = .ok (.aload_n 1, 1) := by decide +kernel
theorem dL_law_598 : decode cL_law 598 = .ok (.aload_n 0, 1) := by decide +kernel
theorem dL_law_599 : decode cL_law 599 = .ok (.iload_n 3, 1) := by decide +kernel
theorem dL_law_600 : decode cL_law 600 = .ok (.iconst 1, 1) := by decide +kernel
theorem dL_law_601 : decode cL_law 601 = .ok (.iadd, 1) := by decide +kernel
theorem dL_law_602 : decode cL_law 602 = .ok (.iaload, 1) := by decide +kernel
theorem dL_law_603 : decode cL_law 603 = .ok (.aload_n 0, 1) := by decide +kernel
theorem dL_law_604 : decode cL_law 604 = .ok (.iload_n 3, 1) := by decide +kernel
theorem dL_law_605 : decode cL_law 605 = .ok (.iconst 2, 1) := by decide +kernel
theorem dL_law_606 : decode cL_law 606 = .ok (.iadd, 1) := by decide +kernel
theorem dL_law_607 : decode cL_law 607 = .ok (.iaload, 1) := by decide +kernel
theorem dL_law_608 : decode cL_law 608 = .ok (.invokevirtual 77, 3) := by decide +kernel
theorem dL_law_611 : decode cL_law 611 = .ok (.aload_n 2, 1) := by decide +kernel
theorem dL_law_612 : decode cL_law 612 = .ok (.aload_n 0, 1) := by decide +kernel
theorem dL_law_613 : decode cL_law 613 = .ok (.iload_n 3, 1) := by decide +kernel
theorem dL_law_614 : decode cL_law 614 = .ok (.iconst 1, 1) := by decide +kernel
theorem dL_law_615 : decode cL_law 615 = .ok (.iadd, 1) := by decide +kernel
theorem dL_law_616 : decode cL_law 616 = .ok (.iaload, 1) := by decide +kernel
theorem dL_law_617 : decode cL_law 617 = .ok (.aload_n 0, 1) := by decide +kernel
theorem dL_law_618 : decode cL_law 618 = .ok (.iload_n 3, 1) := by decide +kernel
theorem dL_law_619 : decode cL_law 619 = .ok (.iconst 2, 1) := by decide +kernel
theorem dL_law_620 : decode cL_law 620 = .ok (.iadd, 1) := by decide +kernel
theorem dL_law_621 : decode cL_law 621 = .ok (.iaload, 1) := by decide +kernel
theorem dL_law_622 : decode cL_law 622 = .ok (.invokevirtual 80, 3) := by decide +kernel
theorem dL_law_625 : decode cL_law 625 = .ok (.if_icmp .eq 670, 3) := by decide +kernel
theorem dL_law_628 : decode cL_law 628 = .ok (.iconst 0, 1) := by decide +kernel
theorem dL_law_629 : decode cL_law 629 = .ok (.ireturn, 1) := by decide +kernel
theorem dL_law_630 : decode cL_law 630 = .ok (.aload_n 1, 1) := by decide +kernel
theorem dL_law_631 : decode cL_law 631 = .ok (.aload_n 0, 1) := by decide +kernel
theorem dL_law_632 : decode cL_law 632 = .ok (.iload_n 3, 1) := by decide +kernel
theorem dL_law_633 : decode cL_law 633 = .ok (.iconst 1, 1) := by decide +kernel
theorem dL_law_634 : decode cL_law 634 = .ok (.iadd, 1) := by decide +kernel
theorem dL_law_635 : decode cL_law 635 = .ok (.iaload, 1) := by decide +kernel
theorem dL_law_636 : decode cL_law 636 = .ok (.aload_n 0, 1) := by decide +kernel
theorem dL_law_637 : decode cL_law 637 = .ok (.iload_n 3, 1) := by decide +kernel
theorem dL_law_638 : decode cL_law 638 = .ok (.iconst 2, 1) := by decide +kernel
theorem dL_law_639 : decode cL_law 639 = .ok (.iadd, 1) := by decide +kernel
theorem dL_law_640 : decode cL_law 640 = .ok (.iaload, 1) := by decide +kernel
theorem dL_law_641 : decode cL_law 641 = .ok (.invokevirtual 81, 3) := by decide +kernel
theorem dL_law_644 : decode cL_law 644 = .ok (.aload_n 2, 1) := by decide +kernel
theorem dL_law_645 : decode cL_law 645 = .ok (.aload_n 0, 1) := by decide +kernel
theorem dL_law_646 : decode cL_law 646 = .ok (.iload_n 3, 1) := by decide +kernel
theorem dL_law_647 : decode cL_law 647 = .ok (.iconst 1, 1) := by decide +kernel
theorem dL_law_648 : decode cL_law 648 = .ok (.iadd, 1) := by decide +kernel
theorem dL_law_649 : decode cL_law 649 = .ok (.iaload, 1) := by decide +kernel
theorem dL_law_650 : decode cL_law 650 = .ok (.aload_n 0, 1) := by decide +kernel
theorem dL_law_651 : decode cL_law 651 = .ok (.iload_n 3, 1) := by decide +kernel
theorem dL_law_652 : decode cL_law 652 = .ok (.iconst 2, 1) := by decide +kernel
theorem dL_law_653 : decode cL_law 653 = .ok (.iadd, 1) := by decide +kernel
theorem dL_law_654 : decode cL_law 654 = .ok (.iaload, 1) := by decide +kernel
theorem dL_law_655 : decode cL_law 655 = .ok (.invokevirtual 84, 3) := by decide +kernel
theorem dL_law_658 : decode cL_law 658 = .ok (.if_icmp .eq 637, 3) := by decide +kernel
theorem dL_law_661 : decode cL_law 661 = .ok (.iconst 0, 1) := by decide +kernel
theorem dL_law_662 : decode cL_law 662 = .ok (.ireturn, 1) := by decide +kernel
theorem dL_law_663 : decode cL_law 663 = .ok (.aload_n 1, 1) := by decide +kernel
theorem dL_law_664 : decode cL_law 664 = .ok (.aload_n 0, 1) := by decide +kernel
theorem dL_law_665 : decode cL_law 665 = .ok (.iload_n 3, 1) := by decide +kernel
theorem dL_law_666 : decode cL_law 666 = .ok (.iconst 1, 1) := by decide +kernel
theorem dL_law_667 : decode cL_law 667 = .ok (.iadd, 1) := by decide +kernel
theorem dL_law_668 : decode cL_law 668 = .ok (.iaload, 1) := by decide +kernel
theorem dL_law_669 : decode cL_law 669 = .ok (.aload_n 0, 1) := by decide +kernel
theorem dL_law_670 : decode cL_law 670 = .ok (.iload_n 3, 1) := by decide +kernel
theorem dL_law_671 : decode cL_law 671 = .ok (.iconst 2, 1) := by decide +kernel
theorem dL_law_672 : decode cL_law 672 = .ok (.iadd, 1) := by decide +kernel
theorem dL_law_673 : decode cL_law 673 = .ok (.iaload, 1) := by decide +kernel
theorem dL_law_674 : decode cL_law 674 = .ok (.invokevirtual 85, 3) := by decide +kernel
theorem dL_law_677 : decode cL_law 677 = .ok (.aload_n 2, 1) := by decide +kernel
theorem dL_law_678 : decode cL_law 678 = .ok (.aload_n 0, 1) := by decide +kernel
theorem dL_law_679 : decode cL_law 679 = .ok (.iload_n 3, 1) := by decide +kernel
theorem dL_law_680 : decode cL_law 680 = .ok (.iconst 1, 1) := by decide +kernel
theorem dL_law_681 : decode cL_law 681 = .ok (.iadd, 1) := by decide +kernel
theorem dL_law_682 : decode cL_law 682 = .ok (.iaload, 1) := by decide +kernel
theorem dL_law_683 : decode cL_law 683 = .ok (.aload_n 0, 1) := by decide +kernel
theorem dL_law_684 : decode cL_law 684 = .ok (.iload_n 3, 1) := by decide +kernel
theorem dL_law_685 : decode cL_law 685 = .ok (.iconst 2, 1) := by decide +kernel
theorem dL_law_686 : decode cL_law 686 = .ok (.iadd, 1) := by decide +kernel
theorem dL_law_687 : decode cL_law 687 = .ok (.iaload, 1) := by decide +kernel
theorem dL_law_688 : decode cL_law 688 = .ok (.invokevirtual 88, 3) := by decide +kernel
theorem dL_law_691 : decode cL_law 691 = .ok (.if_icmp .eq 604, 3) := by decide +kernel
theorem dL_law_694 : decode cL_law 694 = .ok (.iconst 0, 1) := by decide +kernel
theorem dL_law_695 : decode cL_law 695 = .ok (.ireturn, 1) := by decide +kernel
theorem dL_law_696 : decode cL_law 696 = .ok (.aload_n 1, 1) := by decide +kernel
theorem dL_law_697 : decode cL_law 697 = .ok (.aload_n 0, 1) := by decide +kernel
theorem dL_law_698 : decode cL_law 698 = .ok (.iload_n 3, 1) := by decide +kernel
theorem dL_law_699 : decode cL_law 699 = .ok (.iconst 1, 1) := by decide +kernel
theorem dL_law_700 : decode cL_law 700 = .ok (.iadd, 1) := by decide +kernel
theorem dL_law_701 : decode cL_law 701 = .ok (.iaload, 1) := by decide +kernel
theorem dL_law_702 : decode cL_law 702 = .ok (.invokevirtual 89, 3) := by decide +kernel
theorem dL_law_705 : decode cL_law 705 = .ok (.aload_n 2, 1) := by decide +kernel
theorem dL_law_706 : decode cL_law 706 = .ok (.aload_n 0, 1) := by decide +kernel
theorem dL_law_707 : decode cL_law 707 = .ok (.iload_n 3, 1) := by decide +kernel
theorem dL_law_708 : decode cL_law 708 = .ok (.iconst 1, 1) := by decide +kernel
theorem dL_law_709 : decode cL_law 709 = .ok (.iadd, 1) := by decide +kernel
theorem dL_law_710 : decode cL_law 710 = .ok (.iaload, 1) := by decide +kernel
theorem dL_law_711 : decode cL_law 711 = .ok (.invokevirtual 92, 3) := by decide +kernel
theorem dL_law_714 : decode cL_law 714 = .ok (.if_icmp .eq 581, 3) := by decide +kernel
theorem dL_law_717 : decode cL_law 717 = .ok (.iconst 0, 1) := by decide +kernel
theorem dL_law_718 : decode cL_law 718 = .ok (.ireturn, 1) := by decide +kernel
theorem dL_law_719 : decode cL_law 719 = .ok (.aload_n 1, 1) := by decide +kernel
theorem dL_law_720 : decode cL_law 720 = .ok (.aload_n 0, 1) := by decide +kernel
theorem dL_law_721 : decode cL_law 721 = .ok (.iload_n 3, 1) := by decide +kernel
theorem dL_law_722 : decode cL_law 722 = .ok (.iconst 1, 1) := by decide +kernel
theorem dL_law_723 : decode cL_law 723 = .ok (.iadd, 1) := by decide +kernel
theorem dL_law_724 : decode cL_law 724 = .ok (.iaload, 1) := by decide +kernel
theorem dL_law_725 : decode cL_law 725 = .ok (.invokevirtual 93, 3) := by decide +kernel
theorem dL_law_728 : decode cL_law 728 = .ok (.aload_n 2, 1) := by decide +kernel
theorem dL_law_729 : decode cL_law 729 = .ok (.aload_n 0, 1) := by decide +kernel
theorem dL_law_730 : decode cL_law 730 = .ok (.iload_n 3, 1) := by decide +kernel
theorem dL_law_731 : decode cL_law 731 = .ok (.iconst 1, 1) := by decide +kernel
theorem dL_law_732 : decode cL_law 732 = .ok (.iadd, 1) := by decide +kernel
theorem dL_law_733 : decode cL_law 733 = .ok (.iaload, 1) := by decide +kernel
theorem dL_law_734 : decode cL_law 734 = .ok (.invokevirtual 96, 3) := by decide +kernel
theorem dL_law_737 : decode cL_law 737 = .ok (.if_icmp .eq 558, 3) := by decide +kernel
theorem dL_law_740 : decode cL_law 740 = .ok (.iconst 0, 1) := by decide +kernel
theorem dL_law_741 : decode cL_law 741 = .ok (.ireturn, 1) := by decide +kernel
theorem dL_law_742 : decode cL_law 742 = .ok (.aload_n 1, 1) := by decide +kernel
theorem dL_law_743 : decode cL_law 743 = .ok (.aload_n 0, 1) := by decide +kernel
theorem dL_law_744 : decode cL_law 744 = .ok (.iload_n 3, 1) := by decide +kernel
theorem dL_law_745 : decode cL_law 745 = .ok (.iconst 1, 1) := by decide +kernel
theorem dL_law_746 : decode cL_law 746 = .ok (.iadd, 1) := by decide +kernel
theorem dL_law_747 : decode cL_law 747 = .ok (.iaload, 1) := by decide +kernel
theorem dL_law_748 : decode cL_law 748 = .ok (.aload_n 0, 1) := by decide +kernel
theorem dL_law_749 : decode cL_law 749 = .ok (.iload_n 3, 1) := by decide +kernel
theorem dL_law_750 : decode cL_law 750 = .ok (.iconst 2, 1) := by decide +kernel
theorem dL_law_751 : decode cL_law 751 = .ok (.iadd, 1) := by decide +kernel
theorem dL_law_752 : decode cL_law 752 = .ok (.iaload, 1) := by decide +kernel
theorem dL_law_753 : decode cL_law 753 = .ok (.invokevirtual 97, 3) := by decide +kernel
theorem dL_law_756 : decode cL_law 756 = .ok (.aload_n 2, 1) := by decide +kernel
theorem dL_law_757 : decode cL_law 757 = .ok (.aload_n 0, 1) := by decide +kernel
theorem dL_law_758 : decode cL_law 758 = .ok (.iload_n 3, 1) := by decide +kernel
theorem dL_law_759 : decode cL_law 759 = .ok (.iconst 1, 1) := by decide +kernel
theorem dL_law_760 : decode cL_law 760 = .ok (.iadd, 1) := by decide +kernel
theorem dL_law_761 : decode cL_law 761 = .ok (.iaload, 1) := by decide +kernel
theorem dL_law_762 : decode cL_law 762 = .ok (.aload_n 0, 1) := by decide +kernel
theorem dL_law_763 : decode cL_law 763 = .ok (.iload_n 3, 1) := by decide +kernel
theorem dL_law_764 : decode cL_law 764 = .ok (.iconst 2, 1) := by decide +kernel
theorem dL_law_765 : decode cL_law 765 = .ok (.iadd, 1) := by decide +kernel
theorem dL_law_766 : decode cL_law 766 = .ok (.iaload, 1) := by decide +kernel
theorem dL_law_767 : decode cL_law 767 = .ok (.invokevirtual 100, 3) := by decide +kernel
theorem dL_law_770 : decode cL_law 770 = .ok (.if_icmp .eq 525, 3) := by decide +kernel
theorem dL_law_773 : decode cL_law 773 = .ok (.iconst 0, 1) := by decide +kernel
theorem dL_law_774 : decode cL_law 774 = .ok (.ireturn, 1) := by decide +kernel
theorem dL_law_775 : decode cL_law 775 = .ok (.aload_n 1, 1) := by decide +kernel
theorem dL_law_776 : decode cL_law 776 = .ok (.aload_n 0, 1) := by decide +kernel
theorem dL_law_777 : decode cL_law 777 = .ok (.iload_n 3, 1) := by decide +kernel
theorem dL_law_778 : decode cL_law 778 = .ok (.iconst 1, 1) := by decide +kernel
theorem dL_law_779 : decode cL_law 779 = .ok (.iadd, 1) := by decide +kernel
theorem dL_law_780 : decode cL_law 780 = .ok (.iaload, 1) := by decide +kernel
theorem dL_law_781 : decode cL_law 781 = .ok (.aload_n 0, 1) := by decide +kernel
theorem dL_law_782 : decode cL_law 782 = .ok (.iload_n 3, 1) := by decide +kernel
theorem dL_law_783 : decode cL_law 783 = .ok (.iconst 2, 1) := by decide +kernel
theorem dL_law_784 : decode cL_law 784 = .ok (.iadd, 1) := by decide +kernel
theorem dL_law_785 : decode cL_law 785 = .ok (.iaload, 1) := by decide +kernel
theorem dL_law_786 : decode cL_law 786 = .ok (.invokevirtual 101, 3) := by decide +kernel
theorem dL_law_789 : decode cL_law 789 = .ok (.aload_n 2, 1) := by decide +kernel
theorem dL_law_790 : decode cL_law 790 = .ok (.aload_n 0, 1) := by decide +kernel
theorem dL_law_791 : decode cL_law 791 = .ok (.iload_n 3, 1) := by decide +kernel
theorem dL_law_792 : decode cL_law 792 = .ok (.iconst 1, 1) := by decide +kernel
theorem dL_law_793 : decode cL_law 793 = .ok (.iadd, 1) := by decide +kernel
theorem dL_law_794 : decode cL_law 794 = .ok (.iaload, 1) := by decide +kernel
theorem dL_law_795 : decode cL_law 795 = .ok (.aload_n 0, 1) := by decide +kernel
theorem dL_law_796 : decode cL_law 796 = .ok (.iload_n 3, 1) := by decide +kernel
theorem dL_law_797 : decode cL_law 797 = .ok (.iconst 2, 1) := by decide +kernel
theorem dL_law_798 : decode cL_law 798 = .ok (.iadd, 1) := by decide +kernel
theorem dL_law_799 : decode cL_law 799 = .ok (.iaload, 1) := by decide +kernel
theorem dL_law_800 : decode cL_law 800 = .ok (.invokevirtual 104, 3) := by decide +kernel
theorem dL_law_803 : decode cL_law 803 = .ok (.if_icmp .eq 492, 3) := by decide +kernel
theorem dL_law_806 : decode cL_law 806 = .ok (.iconst 0, 1) := by decide +kernel
theorem dL_law_807 : decode cL_law 807 = .ok (.ireturn, 1) := by decide +kernel
theorem dL_law_808 : decode cL_law 808 = .ok (.aload_n 1, 1) := by decide +kernel
theorem dL_law_809 : decode cL_law 809 = .ok (.aload_n 0, 1) := by decide +kernel
theorem dL_law_810 : decode cL_law 810 = .ok (.iload_n 3, 1) := by decide +kernel
theorem dL_law_811 : decode cL_law 811 = .ok (.iconst 1, 1) := by decide +kernel
theorem dL_law_812 : decode cL_law 812 = .ok (.iadd, 1) := by decide +kernel
theorem dL_law_813 : decode cL_law 813 = .ok (.iaload, 1) := by decide +kernel
theorem dL_law_814 : decode cL_law 814 = .ok (.aload_n 0, 1) := by decide +kernel
theorem dL_law_815 : decode cL_law 815 = .ok (.iload_n 3, 1) := by decide +kernel
theorem dL_law_816 : decode cL_law 816 = .ok (.iconst 2, 1) := by decide +kernel
theorem dL_law_817 : decode cL_law 817 = .ok (.iadd, 1) := by decide +kernel
theorem dL_law_818 : decode cL_law 818 = .ok (.iaload, 1) := by decide +kernel
theorem dL_law_819 : decode cL_law 819 = .ok (.invokevirtual 105, 3) := by decide +kernel
theorem dL_law_822 : decode cL_law 822 = .ok (.aload_n 2, 1) := by decide +kernel
theorem dL_law_823 : decode cL_law 823 = .ok (.aload_n 0, 1) := by decide +kernel
theorem dL_law_824 : decode cL_law 824 = .ok (.iload_n 3, 1) := by decide +kernel
theorem dL_law_825 : decode cL_law 825 = .ok (.iconst 1, 1) := by decide +kernel
theorem dL_law_826 : decode cL_law 826 = .ok (.iadd, 1) := by decide +kernel
theorem dL_law_827 : decode cL_law 827 = .ok (.iaload, 1) := by decide +kernel
theorem dL_law_828 : decode cL_law 828 = .ok (.aload_n 0, 1) := by decide +kernel
theorem dL_law_829 : decode cL_law 829 = .ok (.iload_n 3, 1) := by decide +kernel
theorem dL_law_830 : decode cL_law 830 = .ok (.iconst 2, 1) := by decide +kernel
theorem dL_law_831 : decode cL_law 831 = .ok (.iadd, 1) := by decide +kernel
theorem dL_law_832 : decode cL_law 832 = .ok (.iaload, 1) := by decide +kernel
theorem dL_law_833 : decode cL_law 833 = .ok (.invokevirtual 108, 3) := by decide +kernel
theorem dL_law_836 : decode cL_law 836 = .ok (.if_icmp .eq 459, 3) := by decide +kernel
theorem dL_law_839 : decode cL_law 839 = .ok (.iconst 0, 1) := by decide +kernel
theorem dL_law_840 : decode cL_law 840 = .ok (.ireturn, 1) := by decide +kernel
theorem dL_law_841 : decode cL_law 841 = .ok (.aload_n 1, 1) := by decide +kernel
theorem dL_law_842 : decode cL_law 842 = .ok (.aload_n 0, 1) := by decide +kernel
theorem dL_law_843 : decode cL_law 843 = .ok (.iload_n 3, 1) := by decide +kernel
theorem dL_law_844 : decode cL_law 844 = .ok (.iconst 1, 1) := by decide +kernel
theorem dL_law_845 : decode cL_law 845 = .ok (.iadd, 1) := by decide +kernel
theorem dL_law_846 : decode cL_law 846 = .ok (.iaload, 1) := by decide +kernel
theorem dL_law_847 : decode cL_law 847 = .ok (.aload_n 0, 1) := by decide +kernel
theorem dL_law_848 : decode cL_law 848 = .ok (.iload_n 3, 1) := by decide +kernel
theorem dL_law_849 : decode cL_law 849 = .ok (.iconst 2, 1) := by decide +kernel
theorem dL_law_850 : decode cL_law 850 = .ok (.iadd, 1) := by decide +kernel
theorem dL_law_851 : decode cL_law 851 = .ok (.iaload, 1) := by decide +kernel
theorem dL_law_852 : decode cL_law 852 = .ok (.invokevirtual 109, 3) := by decide +kernel
theorem dL_law_855 : decode cL_law 855 = .ok (.aload_n 2, 1) := by decide +kernel
theorem dL_law_856 : decode cL_law 856 = .ok (.aload_n 0, 1) := by decide +kernel
theorem dL_law_857 : decode cL_law 857 = .ok (.iload_n 3, 1) := by decide +kernel
theorem dL_law_858 : decode cL_law 858 = .ok (.iconst 1, 1) := by decide +kernel
theorem dL_law_859 : decode cL_law 859 = .ok (.iadd, 1) := by decide +kernel
theorem dL_law_860 : decode cL_law 860 = .ok (.iaload, 1) := by decide +kernel
theorem dL_law_861 : decode cL_law 861 = .ok (.aload_n 0, 1) := by decide +kernel
theorem dL_law_862 : decode cL_law 862 = .ok (.iload_n 3, 1) := by decide +kernel
theorem dL_law_863 : decode cL_law 863 = .ok (.iconst 2, 1) := by decide +kernel
theorem dL_law_864 : decode cL_law 864 = .ok (.iadd, 1) := by decide +kernel
theorem dL_law_865 : decode cL_law 865 = .ok (.iaload, 1) := by decide +kernel
theorem dL_law_866 : decode cL_law 866 = .ok (.invokevirtual 112, 3) := by decide +kernel
theorem dL_law_869 : decode cL_law 869 = .ok (.if_icmp .eq 426, 3) := by decide +kernel
theorem dL_law_872 : decode cL_law 872 = .ok (.iconst 0, 1) := by decide +kernel
theorem dL_law_873 : decode cL_law 873 = .ok (.ireturn, 1) := by decide +kernel
theorem dL_law_874 : decode cL_law 874 = .ok (.aload_n 1, 1) := by decide +kernel
theorem dL_law_875 : decode cL_law 875 = .ok (.aload_n 0, 1) := by decide +kernel
theorem dL_law_876 : decode cL_law 876 = .ok (.iload_n 3, 1) := by decide +kernel
theorem dL_law_877 : decode cL_law 877 = .ok (.iconst 1, 1) := by decide +kernel
theorem dL_law_878 : decode cL_law 878 = .ok (.iadd, 1) := by decide +kernel
theorem dL_law_879 : decode cL_law 879 = .ok (.iaload, 1) := by decide +kernel
theorem dL_law_880 : decode cL_law 880 = .ok (.aload_n 0, 1) := by decide +kernel
theorem dL_law_881 : decode cL_law 881 = .ok (.iload_n 3, 1) := by decide +kernel
theorem dL_law_882 : decode cL_law 882 = .ok (.iconst 2, 1) := by decide +kernel
theorem dL_law_883 : decode cL_law 883 = .ok (.iadd, 1) := by decide +kernel
theorem dL_law_884 : decode cL_law 884 = .ok (.iaload, 1) := by decide +kernel
theorem dL_law_885 : decode cL_law 885 = .ok (.invokevirtual 113, 3) := by decide +kernel
theorem dL_law_888 : decode cL_law 888 = .ok (.aload_n 2, 1) := by decide +kernel
theorem dL_law_889 : decode cL_law 889 = .ok (.aload_n 0, 1) := by decide +kernel
theorem dL_law_890 : decode cL_law 890 = .ok (.iload_n 3, 1) := by decide +kernel
theorem dL_law_891 : decode cL_law 891 = .ok (.iconst 1, 1) := by decide +kernel
theorem dL_law_892 : decode cL_law 892 = .ok (.iadd, 1) := by decide +kernel
theorem dL_law_893 : decode cL_law 893 = .ok (.iaload, 1) := by decide +kernel
theorem dL_law_894 : decode cL_law 894 = .ok (.aload_n 0, 1) := by decide +kernel
theorem dL_law_895 : decode cL_law 895 = .ok (.iload_n 3, 1) := by decide +kernel
theorem dL_law_896 : decode cL_law 896 = .ok (.iconst 2, 1) := by decide +kernel
theorem dL_law_897 : decode cL_law 897 = .ok (.iadd, 1) := by decide +kernel
theorem dL_law_898 : decode cL_law 898 = .ok (.iaload, 1) := by decide +kernel
theorem dL_law_899 : decode cL_law 899 = .ok (.invokevirtual 116, 3) := by decide +kernel
theorem dL_law_902 : decode cL_law 902 = .ok (.if_icmp .eq 393, 3) := by decide +kernel
theorem dL_law_905 : decode cL_law 905 = .ok (.iconst 0, 1) := by decide +kernel
theorem dL_law_906 : decode cL_law 906 = .ok (.ireturn, 1) := by decide +kernel
theorem dL_law_907 : decode cL_law 907 = .ok (.aload_n 1, 1) := by decide +kernel
theorem dL_law_908 : decode cL_law 908 = .ok (.aload_n 0, 1) := by decide +kernel
theorem dL_law_909 : decode cL_law 909 = .ok (.iload_n 3, 1) := by decide +kernel
theorem dL_law_910 : decode cL_law 910 = .ok (.iconst 1, 1) := by decide +kernel
theorem dL_law_911 : decode cL_law 911 = .ok (.iadd, 1) := by decide +kernel
theorem dL_law_912 : decode cL_law 912 = .ok (.iaload, 1) := by decide +kernel
theorem dL_law_913 : decode cL_law 913 = .ok (.aload_n 0, 1) := by decide +kernel
theorem dL_law_914 : decode cL_law 914 = .ok (.iload_n 3, 1) := by decide +kernel
theorem dL_law_915 : decode cL_law 915 = .ok (.iconst 2, 1) := by decide +kernel
theorem dL_law_916 : decode cL_law 916 = .ok (.iadd, 1) := by decide +kernel
theorem dL_law_917 : decode cL_law 917 = .ok (.iaload, 1) := by decide +kernel
theorem dL_law_918 : decode cL_law 918 = .ok (.invokevirtual 117, 3) := by decide +kernel
theorem dL_law_921 : decode cL_law 921 = .ok (.aload_n 2, 1) := by decide +kernel
theorem dL_law_922 : decode cL_law 922 = .ok (.aload_n 0, 1) := by decide +kernel
theorem dL_law_923 : decode cL_law 923 = .ok (.iload_n 3, 1) := by decide +kernel
theorem dL_law_924 : decode cL_law 924 = .ok (.iconst 1, 1) := by decide +kernel
theorem dL_law_925 : decode cL_law 925 = .ok (.iadd, 1) := by decide +kernel
theorem dL_law_926 : decode cL_law 926 = .ok (.iaload, 1) := by decide +kernel
theorem dL_law_927 : decode cL_law 927 = .ok (.aload_n 0, 1) := by decide +kernel
theorem dL_law_928 : decode cL_law 928 = .ok (.iload_n 3, 1) := by decide +kernel
theorem dL_law_929 : decode cL_law 929 = .ok (.iconst 2, 1) := by decide +kernel
theorem dL_law_930 : decode cL_law 930 = .ok (.iadd, 1) := by decide +kernel
theorem dL_law_931 : decode cL_law 931 = .ok (.iaload, 1) := by decide +kernel
theorem dL_law_932 : decode cL_law 932 = .ok (.invokevirtual 120, 3) := by decide +kernel
theorem dL_law_935 : decode cL_law 935 = .ok (.if_icmp .eq 360, 3) := by decide +kernel
theorem dL_law_938 : decode cL_law 938 = .ok (.iconst 0, 1) := by decide +kernel
theorem dL_law_939 : decode cL_law 939 = .ok (.ireturn, 1) := by decide +kernel
theorem dL_law_940 : decode cL_law 940 = .ok (.aload_n 1, 1) := by decide +kernel
theorem dL_law_941 : decode cL_law 941 = .ok (.aload_n 0, 1) := by decide +kernel
theorem dL_law_942 : decode cL_law 942 = .ok (.iload_n 3, 1) := by decide +kernel
theorem dL_law_943 : decode cL_law 943 = .ok (.iconst 1, 1) := by decide +kernel
theorem dL_law_944 : decode cL_law 944 = .ok (.iadd, 1) := by decide +kernel
theorem dL_law_945 : decode cL_law 945 = .ok (.iaload, 1) := by decide +kernel
theorem dL_law_946 : decode cL_law 946 = .ok (.aload_n 0, 1) := by decide +kernel
theorem dL_law_947 : decode cL_law 947 = .ok (.iload_n 3, 1) := by decide +kernel
theorem dL_law_948 : decode cL_law 948 = .ok (.iconst 2, 1) := by decide +kernel
theorem dL_law_949 : decode cL_law 949 = .ok (.iadd, 1) := by decide +kernel
theorem dL_law_950 : decode cL_law 950 = .ok (.iaload, 1) := by decide +kernel
theorem dL_law_951 : decode cL_law 951 = .ok (.invokevirtual 121, 3) := by decide +kernel
theorem dL_law_954 : decode cL_law 954 = .ok (.aload_n 2, 1) := by decide +kernel
theorem dL_law_955 : decode cL_law 955 = .ok (.aload_n 0, 1) := by decide +kernel
theorem dL_law_956 : decode cL_law 956 = .ok (.iload_n 3, 1) := by decide +kernel
theorem dL_law_957 : decode cL_law 957 = .ok (.iconst 1, 1) := by decide +kernel
theorem dL_law_958 : decode cL_law 958 = .ok (.iadd, 1) := by decide +kernel
theorem dL_law_959 : decode cL_law 959 = .ok (.iaload, 1) := by decide +kernel
theorem dL_law_960 : decode cL_law 960 = .ok (.aload_n 0, 1) := by decide +kernel
theorem dL_law_961 : decode cL_law 961 = .ok (.iload_n 3, 1) := by decide +kernel
theorem dL_law_962 : decode cL_law 962 = .ok (.iconst 2, 1) := by decide +kernel
theorem dL_law_963 : decode cL_law 963 = .ok (.iadd, 1) := by decide +kernel
theorem dL_law_964 : decode cL_law 964 = .ok (.iaload, 1) := by decide +kernel
theorem dL_law_965 : decode cL_law 965 = .ok (.invokevirtual 124, 3) := by decide +kernel
theorem dL_law_968 : decode cL_law 968 = .ok (.if_icmp .eq 327, 3) := by decide +kernel
theorem dL_law_971 : decode cL_law 971 = .ok (.iconst 0, 1) := by decide +kernel
theorem dL_law_972 : decode cL_law 972 = .ok (.ireturn, 1) := by decide +kernel
theorem dL_law_973 : decode cL_law 973 = .ok (.aload_n 1, 1) := by decide +kernel
theorem dL_law_974 : decode cL_law 974 = .ok (.invokevirtual 125, 3) := by decide +kernel
theorem dL_law_977 : decode cL_law 977 = .ok (.aload_n 2, 1) := by decide +kernel
theorem dL_law_978 : decode cL_law 978 = .ok (.invokevirtual 128, 3) := by decide +kernel
theorem dL_law_981 : decode cL_law 981 = .ok (.if_icmp .eq 314, 3) := by decide +kernel
theorem dL_law_984 : decode cL_law 984 = .ok (.iconst 0, 1) := by decide +kernel
theorem dL_law_985 : decode cL_law 985 = .ok (.ireturn, 1) := by decide +kernel
theorem dL_law_986 : decode cL_law 986 = .ok (.aload_n 1, 1) := by decide +kernel
theorem dL_law_987 : decode cL_law 987 = .ok (.invokevirtual 129, 3) := by decide +kernel
theorem dL_law_990 : decode cL_law 990 = .ok (.aload_n 2, 1) := by decide +kernel
theorem dL_law_991 : decode cL_law 991 = .ok (.invokevirtual 132, 3) := by decide +kernel
theorem dL_law_994 : decode cL_law 994 = .ok (.if_icmp .eq 301, 3) := by decide +kernel
theorem dL_law_997 : decode cL_law 997 = .ok (.iconst 0, 1) := by decide +kernel
theorem dL_law_998 : decode cL_law 998 = .ok (.ireturn, 1) := by decide +kernel
theorem dL_law_999 : decode cL_law 999 = .ok (.aload_n 1, 1) := by decide +kernel
theorem dL_law_1000 : decode cL_law 1000 = .ok (.aload_n 0, 1) := by decide +kernel
theorem dL_law_1001 : decode cL_law 1001 = .ok (.iload_n 3, 1) := by decide +kernel
theorem dL_law_1002 : decode cL_law 1002 = .ok (.iconst 1, 1) := by decide +kernel
theorem dL_law_1003 : decode cL_law 1003 = .ok (.iadd, 1) := by decide +kernel
theorem dL_law_1004 : decode cL_law 1004 = .ok (.iaload, 1) := by decide +kernel
theorem dL_law_1005 : decode cL_law 1005 = .ok (.invokevirtual 133, 3) := by decide +kernel
theorem dL_law_1008 : decode cL_law 1008 = .ok (.aload_n 2, 1) := by decide +kernel
theorem dL_law_1009 : decode cL_law 1009 = .ok (.aload_n 0, 1) := by decide +kernel
theorem dL_law_1010 : decode cL_law 1010 = .ok (.iload_n 3, 1) := by decide +kernel
theorem dL_law_1011 : decode cL_law 1011 = .ok (.iconst 1, 1) := by decide +kernel
theorem dL_law_1012 : decode cL_law 1012 = .ok (.iadd, 1) := by decide +kernel
theorem dL_law_1013 : decode cL_law 1013 = .ok (.iaload, 1) := by decide +kernel
theorem dL_law_1014 : decode cL_law 1014 = .ok (.invokevirtual 136, 3) := by decide +kernel
theorem dL_law_1017 : decode cL_law 1017 = .ok (.if_icmp .eq 278, 3) := by decide +kernel
theorem dL_law_1020 : decode cL_law 1020 = .ok (.iconst 0, 1) := by decide +kernel
theorem dL_law_1021 : decode cL_law 1021 = .ok (.ireturn, 1) := by decide +kernel
theorem dL_law_1022 : decode cL_law 1022 = .ok (.aload_n 1, 1) := by decide +kernel
theorem dL_law_1023 : decode cL_law 1023 = .ok (.aload_n 0, 1) := by decide +kernel
theorem dL_law_1024 : decode cL_law 1024 = .ok (.iload_n 3, 1) := by decide +kernel
theorem dL_law_1025 : decode cL_law 1025 = .ok (.iconst 1, 1) := by decide +kernel
theorem dL_law_1026 : decode cL_law 1026 = .ok (.iadd, 1) := by decide +kernel
theorem dL_law_1027 : decode cL_law 1027 = .ok (.iaload, 1) := by decide +kernel
theorem dL_law_1028 : decode cL_law 1028 = .ok (.invokevirtual 137, 3) := by decide +kernel
theorem dL_law_1031 : decode cL_law 1031 = .ok (.aload_n 2, 1) := by decide +kernel
theorem dL_law_1032 : decode cL_law 1032 = .ok (.aload_n 0, 1) := by decide +kernel
theorem dL_law_1033 : decode cL_law 1033 = .ok (.iload_n 3, 1) := by decide +kernel
theorem dL_law_1034 : decode cL_law 1034 = .ok (.iconst 1, 1) := by decide +kernel
theorem dL_law_1035 : decode cL_law 1035 = .ok (.iadd, 1) := by decide +kernel
theorem dL_law_1036 : decode cL_law 1036 = .ok (.iaload, 1) := by decide +kernel
theorem dL_law_1037 : decode cL_law 1037 = .ok (.invokevirtual 140, 3) := by decide +kernel
theorem dL_law_1040 : decode cL_law 1040 = .ok (.if_icmp .eq 255, 3) := by decide +kernel
theorem dL_law_1043 : decode cL_law 1043 = .ok (.iconst 0, 1) := by decide +kernel
theorem dL_law_1044 : decode cL_law 1044 = .ok (.ireturn, 1) := by decide +kernel
theorem dL_law_1045 : decode cL_law 1045 = .ok (.aload_n 1, 1) := by decide +kernel
theorem dL_law_1046 : decode cL_law 1046 = .ok (.aload_n 0, 1) := by decide +kernel
theorem dL_law_1047 : decode cL_law 1047 = .ok (.iload_n 3, 1) := by decide +kernel
theorem dL_law_1048 : decode cL_law 1048 = .ok (.iconst 1, 1) := by decide +kernel
theorem dL_law_1049 : decode cL_law 1049 = .ok (.iadd, 1) := by decide +kernel
theorem dL_law_1050 : decode cL_law 1050 = .ok (.iaload, 1) := by decide +kernel
theorem dL_law_1051 : decode cL_law 1051 = .ok (.aload_n 0, 1) := by decide +kernel
theorem dL_law_1052 : decode cL_law 1052 = .ok (.iload_n 3, 1) := by decide +kernel
theorem dL_law_1053 : decode cL_law 1053 = .ok (.iconst 2, 1) := by decide +kernel
theorem dL_law_1054 : decode cL_law 1054 = .ok (.iadd, 1) := by decide +kernel
theorem dL_law_1055 : decode cL_law 1055 = .ok (.iaload, 1) := by decide +kernel
theorem dL_law_1056 : decode cL_law 1056 = .ok (.invokevirtual 141, 3) := by decide +kernel
theorem dL_law_1059 : decode cL_law 1059 = .ok (.aload_n 2, 1) := by decide +kernel
theorem dL_law_1060 : decode cL_law 1060 = .ok (.aload_n 0, 1) := by decide +kernel
theorem dL_law_1061 : decode cL_law 1061 = .ok (.iload_n 3, 1) := by decide +kernel
theorem dL_law_1062 : decode cL_law 1062 = .ok (.iconst 1, 1) := by decide +kernel
theorem dL_law_1063 : decode cL_law 1063 = .ok (.iadd, 1) := by decide +kernel
theorem dL_law_1064 : decode cL_law 1064 = .ok (.iaload, 1) := by decide +kernel
theorem dL_law_1065 : decode cL_law 1065 = .ok (.aload_n 0, 1) := by decide +kernel
theorem dL_law_1066 : decode cL_law 1066 = .ok (.iload_n 3, 1) := by decide +kernel
theorem dL_law_1067 : decode cL_law 1067 = .ok (.iconst 2, 1) := by decide +kernel
theorem dL_law_1068 : decode cL_law 1068 = .ok (.iadd, 1) := by decide +kernel
theorem dL_law_1069 : decode cL_law 1069 = .ok (.iaload, 1) := by decide +kernel
theorem dL_law_1070 : decode cL_law 1070 = .ok (.invokevirtual 144, 3) := by decide +kernel
theorem dL_law_1073 : decode cL_law 1073 = .ok (.if_icmp .eq 222, 3) := by decide +kernel
theorem dL_law_1076 : decode cL_law 1076 = .ok (.iconst 0, 1) := by decide +kernel
theorem dL_law_1077 : decode cL_law 1077 = .ok (.ireturn, 1) := by decide +kernel
theorem dL_law_1078 : decode cL_law 1078 = .ok (.aload_n 1, 1) := by decide +kernel
theorem dL_law_1079 : decode cL_law 1079 = .ok (.aload_n 0, 1) := by decide +kernel
theorem dL_law_1080 : decode cL_law 1080 = .ok (.iload_n 3, 1) := by decide +kernel
theorem dL_law_1081 : decode cL_law 1081 = .ok (.iconst 1, 1) := by decide +kernel
theorem dL_law_1082 : decode cL_law 1082 = .ok (.iadd, 1) := by decide +kernel
theorem dL_law_1083 : decode cL_law 1083 = .ok (.iaload, 1) := by decide +kernel
theorem dL_law_1084 : decode cL_law 1084 = .ok (.invokevirtual 145, 3) := by decide +kernel
theorem dL_law_1087 : decode cL_law 1087 = .ok (.aload_n 2, 1) := by decide +kernel
theorem dL_law_1088 : decode cL_law 1088 = .ok (.aload_n 0, 1) := by decide +kernel
theorem dL_law_1089 : decode cL_law 1089 = .ok (.iload_n 3, 1) := by decide +kernel
theorem dL_law_1090 : decode cL_law 1090 = .ok (.iconst 1, 1) := by decide +kernel
theorem dL_law_1091 : decode cL_law 1091 = .ok (.iadd, 1) := by decide +kernel
theorem dL_law_1092 : decode cL_law 1092 = .ok (.iaload, 1) := by decide +kernel
theorem dL_law_1093 : decode cL_law 1093 = .ok (.invokevirtual 148, 3) := by decide +kernel
theorem dL_law_1096 : decode cL_law 1096 = .ok (.if_icmp .eq 199, 3) := by decide +kernel
theorem dL_law_1099 : decode cL_law 1099 = .ok (.iconst 0, 1) := by decide +kernel
theorem dL_law_1100 : decode cL_law 1100 = .ok (.ireturn, 1) := by decide +kernel
theorem dL_law_1101 : decode cL_law 1101 = .ok (.aload_n 1, 1) := by decide +kernel
theorem dL_law_1102 : decode cL_law 1102 = .ok (.aload_n 0, 1) := by decide +kernel
theorem dL_law_1103 : decode cL_law 1103 = .ok (.iload_n 3, 1) := by decide +kernel
theorem dL_law_1104 : decode cL_law 1104 = .ok (.iconst 1, 1) := by decide +kernel
theorem dL_law_1105 : decode cL_law 1105 = .ok (.iadd, 1) := by decide +kernel
theorem dL_law_1106 : decode cL_law 1106 = .ok (.iaload, 1) := by decide +kernel
theorem dL_law_1107 : decode cL_law 1107 = .ok (.invokevirtual 149, 3) := by decide +kernel
theorem dL_law_1110 : decode cL_law 1110 = .ok (.aload_n 2, 1) := by decide +kernel
theorem dL_law_1111 : decode cL_law 1111 = .ok (.aload_n 0, 1) := by decide +kernel
theorem dL_law_1112 : decode cL_law 1112 = .ok (.iload_n 3, 1) := by decide +kernel
theorem dL_law_1113 : decode cL_law 1113 = .ok (.iconst 1, 1) := by decide +kernel
theorem dL_law_1114 : decode cL_law 1114 = .ok (.iadd, 1) := by decide +kernel
theorem dL_law_1115 : decode cL_law 1115 = .ok (.iaload, 1) := by decide +kernel
theorem dL_law_1116 : decode cL_law 1116 = .ok (.invokevirtual 152, 3) := by decide +kernel
theorem dL_law_1119 : decode cL_law 1119 = .ok (.if_icmp .eq 176, 3) := by decide +kernel
theorem dL_law_1122 : decode cL_law 1122 = .ok (.iconst 0, 1) := by decide +kernel
theorem dL_law_1123 : decode cL_law 1123 = .ok (.ireturn, 1) := by decide +kernel
theorem dL_law_1124 : decode cL_law 1124 = .ok (.aload_n 1, 1) := by decide +kernel
theorem dL_law_1125 : decode cL_law 1125 = .ok (.aload_n 0, 1) := by decide +kernel
theorem dL_law_1126 : decode cL_law 1126 = .ok (.iload_n 3, 1) := by decide +kernel
theorem dL_law_1127 : decode cL_law 1127 = .ok (.iconst 1, 1) := by decide +kernel
theorem dL_law_1128 : decode cL_law 1128 = .ok (.iadd, 1) := by decide +kernel
theorem dL_law_1129 : decode cL_law 1129 = .ok (.iaload, 1) := by decide +kernel
theorem dL_law_1130 : decode cL_law 1130 = .ok (.invokevirtual 153, 3) := by decide +kernel
theorem dL_law_1133 : decode cL_law 1133 = .ok (.aload_n 2, 1) := by decide +kernel
theorem dL_law_1134 : decode cL_law 1134 = .ok (.aload_n 0, 1) := by decide +kernel
theorem dL_law_1135 : decode cL_law 1135 = .ok (.iload_n 3, 1) := by decide +kernel
theorem dL_law_1136 : decode cL_law 1136 = .ok (.iconst 1, 1) := by decide +kernel
theorem dL_law_1137 : decode cL_law 1137 = .ok (.iadd, 1) := by decide +kernel
theorem dL_law_1138 : decode cL_law 1138 = .ok (.iaload, 1) := by decide +kernel
theorem dL_law_1139 : decode cL_law 1139 = .ok (.invokevirtual 156, 3) := by decide +kernel
theorem dL_law_1142 : decode cL_law 1142 = .ok (.if_icmp .eq 153, 3) := by decide +kernel
theorem dL_law_1145 : decode cL_law 1145 = .ok (.iconst 0, 1) := by decide +kernel
theorem dL_law_1146 : decode cL_law 1146 = .ok (.ireturn, 1) := by decide +kernel
theorem dL_law_1147 : decode cL_law 1147 = .ok (.aload_n 1, 1) := by decide +kernel
theorem dL_law_1148 : decode cL_law 1148 = .ok (.aload_n 0, 1) := by decide +kernel
theorem dL_law_1149 : decode cL_law 1149 = .ok (.iload_n 3, 1) := by decide +kernel
theorem dL_law_1150 : decode cL_law 1150 = .ok (.iconst 1, 1) := by decide +kernel
theorem dL_law_1151 : decode cL_law 1151 = .ok (.iadd, 1) := by decide +kernel
theorem dL_law_1152 : decode cL_law 1152 = .ok (.iaload, 1) := by decide +kernel
theorem dL_law_1153 : decode cL_law 1153 = .ok (.aload_n 0, 1) := by decide +kernel
theorem dL_law_1154 : decode cL_law 1154 = .ok (.iload_n 3, 1) := by decide +kernel
theorem dL_law_1155 : decode cL_law 1155 = .ok (.iconst 2, 1) := by decide +kernel
theorem dL_law_1156 : decode cL_law 1156 = .ok (.iadd, 1) := by decide +kernel
theorem dL_law_1157 : decode cL_law 1157 = .ok (.iaload, 1) := by decide +kernel
theorem dL_law_1158 : decode cL_law 1158 = .ok (.invokevirtual 157, 3) := by decide +kernel
theorem dL_law_1161 : decode cL_law 1161 = .ok (.aload_n 2, 1) := by decide +kernel
theorem dL_law_1162 : decode cL_law 1162 = .ok (.aload_n 0, 1) := by decide +kernel
theorem dL_law_1163 : decode cL_law 1163 = .ok (.iload_n 3, 1) := by decide +kernel
theorem dL_law_1164 : decode cL_law 1164 = .ok (.iconst 1, 1) := by decide +kernel
theorem dL_law_1165 : decode cL_law 1165 = .ok (.iadd, 1) := by decide +kernel
theorem dL_law_1166 : decode cL_law 1166 = .ok (.iaload, 1) := by decide +kernel
theorem dL_law_1167 : decode cL_law 1167 = .ok (.aload_n 0, 1) := by decide +kernel
theorem dL_law_1168 : decode cL_law 1168 = .ok (.iload_n 3, 1) := by decide +kernel
theorem dL_law_1169 : decode cL_law 1169 = .ok (.iconst 2, 1) := by decide +kernel
theorem dL_law_1170 : decode cL_law 1170 = .ok (.iadd, 1) := by decide +kernel
theorem dL_law_1171 : decode cL_law 1171 = .ok (.iaload, 1) := by decide +kernel
theorem dL_law_1172 : decode cL_law 1172 = .ok (.invokevirtual 160, 3) := by decide +kernel
theorem dL_law_1175 : decode cL_law 1175 = .ok (.if_icmp .eq 120, 3) := by decide +kernel
theorem dL_law_1178 : decode cL_law 1178 = .ok (.iconst 0, 1) := by decide +kernel
theorem dL_law_1179 : decode cL_law 1179 = .ok (.ireturn, 1) := by decide +kernel
theorem dL_law_1180 : decode cL_law 1180 = .ok (.aload_n 1, 1) := by decide +kernel
theorem dL_law_1181 : decode cL_law 1181 = .ok (.aload_n 0, 1) := by decide +kernel
theorem dL_law_1182 : decode cL_law 1182 = .ok (.iload_n 3, 1) := by decide +kernel
theorem dL_law_1183 : decode cL_law 1183 = .ok (.iconst 1, 1) := by decide +kernel
theorem dL_law_1184 : decode cL_law 1184 = .ok (.iadd, 1) := by decide +kernel
theorem dL_law_1185 : decode cL_law 1185 = .ok (.iaload, 1) := by decide +kernel
theorem dL_law_1186 : decode cL_law 1186 = .ok (.invokevirtual 161, 3) := by decide +kernel
theorem dL_law_1189 : decode cL_law 1189 = .ok (.aload_n 2, 1) := by decide +kernel
theorem dL_law_1190 : decode cL_law 1190 = .ok (.aload_n 0, 1) := by decide +kernel
theorem dL_law_1191 : decode cL_law 1191 = .ok (.iload_n 3, 1) := by decide +kernel
theorem dL_law_1192 : decode cL_law 1192 = .ok (.iconst 1, 1) := by decide +kernel
theorem dL_law_1193 : decode cL_law 1193 = .ok (.iadd, 1) := by decide +kernel
theorem dL_law_1194 : decode cL_law 1194 = .ok (.iaload, 1) := by decide +kernel
theorem dL_law_1195 : decode cL_law 1195 = .ok (.invokevirtual 164, 3) := by decide +kernel
theorem dL_law_1198 : decode cL_law 1198 = .ok (.if_icmp .eq 97, 3) := by decide +kernel
theorem dL_law_1201 : decode cL_law 1201 = .ok (.iconst 0, 1) := by decide +kernel
theorem dL_law_1202 : decode cL_law 1202 = .ok (.ireturn, 1) := by decide +kernel
theorem dL_law_1203 : decode cL_law 1203 = .ok (.aload_n 1, 1) := by decide +kernel
theorem dL_law_1204 : decode cL_law 1204 = .ok (.aload_n 0, 1) := by decide +kernel
theorem dL_law_1205 : decode cL_law 1205 = .ok (.iload_n 3, 1) := by decide +kernel
theorem dL_law_1206 : decode cL_law 1206 = .ok (.iconst 1, 1) := by decide +kernel
theorem dL_law_1207 : decode cL_law 1207 = .ok (.iadd, 1) := by decide +kernel
theorem dL_law_1208 : decode cL_law 1208 = .ok (.iaload, 1) := by decide +kernel
theorem dL_law_1209 : decode cL_law 1209 = .ok (.invokevirtual 165, 3) := by decide +kernel
theorem dL_law_1212 : decode cL_law 1212 = .ok (.aload_n 2, 1) := by decide +kernel
theorem dL_law_1213 : decode cL_law 1213 = .ok (.aload_n 0, 1) := by decide +kernel
theorem dL_law_1214 : decode cL_law 1214 = .ok (.iload_n 3, 1) := by decide +kernel
theorem dL_law_1215 : decode cL_law 1215 = .ok (.iconst 1, 1) := by decide +kernel
theorem dL_law_1216 : decode cL_law 1216 = .ok (.iadd, 1) := by decide +kernel
theorem dL_law_1217 : decode cL_law 1217 = .ok (.iaload, 1) := by decide +kernel
theorem dL_law_1218 : decode cL_law 1218 = .ok (.invokevirtual 168, 3) := by decide +kernel
theorem dL_law_1221 : decode cL_law 1221 = .ok (.if_icmp .eq 74, 3) := by decide +kernel
theorem dL_law_1224 : decode cL_law 1224 = .ok (.iconst 0, 1) := by decide +kernel
theorem dL_law_1225 : decode cL_law 1225 = .ok (.ireturn, 1) := by decide +kernel
theorem dL_law_1226 : decode cL_law 1226 = .ok (.aload_n 1, 1) := by decide +kernel
theorem dL_law_1227 : decode cL_law 1227 = .ok (.aload_n 0, 1) := by decide +kernel
theorem dL_law_1228 : decode cL_law 1228 = .ok (.iload_n 3, 1) := by decide +kernel
theorem dL_law_1229 : decode cL_law 1229 = .ok (.iconst 1, 1) := by decide +kernel
theorem dL_law_1230 : decode cL_law 1230 = .ok (.iadd, 1) := by decide +kernel
theorem dL_law_1231 : decode cL_law 1231 = .ok (.iaload, 1) := by decide +kernel
theorem dL_law_1232 : decode cL_law 1232 = .ok (.invokevirtual 169, 3) := by decide +kernel
theorem dL_law_1235 : decode cL_law 1235 = .ok (.aload_n 2, 1) := by decide +kernel
theorem dL_law_1236 : decode cL_law 1236 = .ok (.aload_n 0, 1) := by decide +kernel
theorem dL_law_1237 : decode cL_law 1237 = .ok (.iload_n 3, 1) := by decide +kernel
theorem dL_law_1238 : decode cL_law 1238 = .ok (.iconst 1, 1) := by decide +kernel
theorem dL_law_1239 : decode cL_law 1239 = .ok (.iadd, 1) := by decide +kernel
theorem dL_law_1240 : decode cL_law 1240 = .ok (.iaload, 1) := by decide +kernel
theorem dL_law_1241 : decode cL_law 1241 = .ok (.invokevirtual 172, 3) := by decide +kernel
theorem dL_law_1244 : decode cL_law 1244 = .ok (.if_icmp .eq 51, 3) := by decide +kernel
theorem dL_law_1247 : decode cL_law 1247 = .ok (.iconst 0, 1) := by decide +kernel
theorem dL_law_1248 : decode cL_law 1248 = .ok (.ireturn, 1) := by decide +kernel
theorem dL_law_1249 : decode cL_law 1249 = .ok (.aload_n 1, 1) := by decide +kernel
theorem dL_law_1250 : decode cL_law 1250 = .ok (.aload_n 0, 1) := by decide +kernel
theorem dL_law_1251 : decode cL_law 1251 = .ok (.iload_n 3, 1) := by decide +kernel
theorem dL_law_1252 : decode cL_law 1252 = .ok (.iconst 1, 1) := by decide +kernel
theorem dL_law_1253 : decode cL_law 1253 = .ok (.iadd, 1) := by decide +kernel
theorem dL_law_1254 : decode cL_law 1254 = .ok (.iaload, 1) := by decide +kernel
theorem dL_law_1255 : decode cL_law 1255 = .ok (.invokevirtual 173, 3) := by decide +kernel
theorem dL_law_1258 : decode cL_law 1258 = .ok (.aload_n 2, 1) := by decide +kernel
theorem dL_law_1259 : decode cL_law 1259 = .ok (.aload_n 0, 1) := by decide +kernel
theorem dL_law_1260 : decode cL_law 1260 = .ok (.iload_n 3, 1) := by decide +kernel
theorem dL_law_1261 : decode cL_law 1261 = .ok (.iconst 1, 1) := by decide +kernel
theorem dL_law_1262 : decode cL_law 1262 = .ok (.iadd, 1) := by decide +kernel
theorem dL_law_1263 : decode cL_law 1263 = .ok (.iaload, 1) := by decide +kernel
theorem dL_law_1264 : decode cL_law 1264 = .ok (.invokevirtual 176, 3) := by decide +kernel
theorem dL_law_1267 : decode cL_law 1267 = .ok (.if_icmp .eq 28, 3) := by decide +kernel
theorem dL_law_1270 : decode cL_law 1270 = .ok (.iconst 0, 1) := by decide +kernel
theorem dL_law_1271 : decode cL_law 1271 = .ok (.ireturn, 1) := by decide +kernel
theorem dL_law_1272 : decode cL_law 1272 = .ok (.aload_n 1, 1) := by decide +kernel
theorem dL_law_1273 : decode cL_law 1273 = .ok (.aload_n 0, 1) := by decide +kernel
theorem dL_law_1274 : decode cL_law 1274 = .ok (.iload_n 3, 1) := by decide +kernel
theorem dL_law_1275 : decode cL_law 1275 = .ok (.iconst 1, 1) := by decide +kernel
theorem dL_law_1276 : decode cL_law 1276 = .ok (.iadd, 1) := by decide +kernel
theorem dL_law_1277 : decode cL_law 1277 = .ok (.iaload, 1) := by decide +kernel
theorem dL_law_1278 : decode cL_law 1278 = .ok (.invokevirtual 177, 3) := by decide +kernel
theorem dL_law_1281 : decode cL_law 1281 = .ok (.aload_n 2, 1) := by decide +kernel
theorem dL_law_1282 : decode cL_law 1282 = .ok (.aload_n 0, 1) := by decide +kernel
theorem dL_law_1283 : decode cL_law 1283 = .ok (.iload_n 3, 1) := by decide +kernel
theorem dL_law_1284 : decode cL_law 1284 = .ok (.iconst 1, 1) := by decide +kernel
theorem dL_law_1285 : decode cL_law 1285 = .ok (.iadd, 1) := by decide +kernel
theorem dL_law_1286 : decode cL_law 1286 = .ok (.iaload, 1) := by decide +kernel
theorem dL_law_1287 : decode cL_law 1287 = .ok (.invokevirtual 180, 3) := by decide +kernel
theorem dL_law_1290 : decode cL_law 1290 = .ok (.if_icmp .eq 5, 3) := by decide +kernel
theorem dL_law_1293 : decode cL_law 1293 = .ok (.iconst 0, 1) := by decide +kernel
theorem dL_law_1294 : decode cL_law 1294 = .ok (.ireturn, 1) := by decide +kernel
theorem dL_law_1295 : decode cL_law 1295 = .ok (.iinc 3 6, 3) := by decide +kernel
theorem dL_law_1298 : decode cL_law 1298 = .ok (.goto (-1280), 3) := by decide +kernel
theorem dL_law_1301 : decode cL_law 1301 = .ok (.iconst 1, 1) := by decide +kernel
theorem dL_law_1302 : decode cL_law 1302 = .ok (.ireturn, 1) := by decide +kernel
end
