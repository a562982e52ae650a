section
-- ===== PART A: goes FIRST, ahead of the names: the tables' words, and 'selects' of the private methods out of them =====
/-- a private method of a class that the tables say can be made, by its rows of tables_1 -/
def lw_okq (q : MethodName × Nat) : Prop := (q.1.cls ≠ "java/lang/invoke/MethodHandle" ∧ q.1.cls ≠ "java/lang/invoke/VarHandle") ∧ Cond.instantiable q.1.cls q.2 ∈ tables_1 ∧ Cond.privateMethod q.1 ∈ tables_1 ∧ Cond.instanceMethod q.1 ∈ tables_1
theorem lw_p0 : lw_okq (⟨"PuzzleParts", "refuse", "(I)I"⟩, 12) := ⟨⟨by decide +kernel, by decide +kernel⟩, List.mem_of_getElem? (i := 12) (by decide +kernel), List.mem_of_getElem? (i := 88) (by decide +kernel), List.mem_of_getElem? (i := 89) (by decide +kernel)⟩
theorem lw_p1 : lw_okq (⟨"PuzzleParts", "keep", "(LPuzzleParts$Board;)I"⟩, 12) := ⟨⟨by decide +kernel, by decide +kernel⟩, List.mem_of_getElem? (i := 12) (by decide +kernel), List.mem_of_getElem? (i := 164) (by decide +kernel), List.mem_of_getElem? (i := 165) (by decide +kernel)⟩
theorem lw_p2 : lw_okq (⟨"PuzzleParts", "partAt", "(I)LPuzzleParts$Board;"⟩, 12) := ⟨⟨by decide +kernel, by decide +kernel⟩, List.mem_of_getElem? (i := 12) (by decide +kernel), List.mem_of_getElem? (i := 205) (by decide +kernel), List.mem_of_getElem? (i := 206) (by decide +kernel)⟩
theorem lw_p3 : lw_okq (⟨"PuzzleParts", "refuseLong", "(I)J"⟩, 12) := ⟨⟨by decide +kernel, by decide +kernel⟩, List.mem_of_getElem? (i := 12) (by decide +kernel), List.mem_of_getElem? (i := 226) (by decide +kernel), List.mem_of_getElem? (i := 227) (by decide +kernel)⟩
theorem lw_p4 : lw_okq (⟨"PuzzleParts$FormulaText", "readOr", "(I)J"⟩, 4) := ⟨⟨by decide +kernel, by decide +kernel⟩, List.mem_of_getElem? (i := 263) (by decide +kernel), List.mem_of_getElem? (i := 287) (by decide +kernel), List.mem_of_getElem? (i := 288) (by decide +kernel)⟩
theorem lw_p5 : lw_okq (⟨"PuzzleParts$FormulaText", "readAnd", "(I)J"⟩, 4) := ⟨⟨by decide +kernel, by decide +kernel⟩, List.mem_of_getElem? (i := 263) (by decide +kernel), List.mem_of_getElem? (i := 291) (by decide +kernel), List.mem_of_getElem? (i := 292) (by decide +kernel)⟩
theorem lw_p6 : lw_okq (⟨"PuzzleParts$FormulaText", "readUnit", "(I)J"⟩, 4) := ⟨⟨by decide +kernel, by decide +kernel⟩, List.mem_of_getElem? (i := 263) (by decide +kernel), List.mem_of_getElem? (i := 295) (by decide +kernel), List.mem_of_getElem? (i := 296) (by decide +kernel)⟩
theorem lw_p7 : lw_okq (⟨"PuzzleParts$FormulaText", "next", "()I"⟩, 4) := ⟨⟨by decide +kernel, by decide +kernel⟩, List.mem_of_getElem? (i := 263) (by decide +kernel), List.mem_of_getElem? (i := 299) (by decide +kernel), List.mem_of_getElem? (i := 300) (by decide +kernel)⟩
theorem lw_p8 : lw_okq (⟨"PuzzleParts$FormulaText", "fail", "()J"⟩, 4) := ⟨⟨by decide +kernel, by decide +kernel⟩, List.mem_of_getElem? (i := 263) (by decide +kernel), List.mem_of_getElem? (i := 303) (by decide +kernel), List.mem_of_getElem? (i := 304) (by decide +kernel)⟩
theorem lw_p9 : lw_okq (⟨"PuzzleParts$FormulaText", "readToBracket", "(I)J"⟩, 4) := ⟨⟨by decide +kernel, by decide +kernel⟩, List.mem_of_getElem? (i := 263) (by decide +kernel), List.mem_of_getElem? (i := 309) (by decide +kernel), List.mem_of_getElem? (i := 310) (by decide +kernel)⟩
theorem lw_p10 : lw_okq (⟨"PuzzleParts", "isFormula", "(I)Z"⟩, 12) := ⟨⟨by decide +kernel, by decide +kernel⟩, List.mem_of_getElem? (i := 12) (by decide +kernel), List.mem_of_getElem? (i := 319) (by decide +kernel), List.mem_of_getElem? (i := 320) (by decide +kernel)⟩
theorem lw_p11 : lw_okq (⟨"PuzzleParts", "meaning", "(II)J"⟩, 12) := ⟨⟨by decide +kernel, by decide +kernel⟩, List.mem_of_getElem? (i := 12) (by decide +kernel), List.mem_of_getElem? (i := 323) (by decide +kernel), List.mem_of_getElem? (i := 324) (by decide +kernel)⟩
theorem lw_p12 : lw_okq (⟨"PuzzleParts", "rowStandsOn", "(II)Z"⟩, 12) := ⟨⟨by decide +kernel, by decide +kernel⟩, List.mem_of_getElem? (i := 12) (by decide +kernel), List.mem_of_getElem? (i := 406) (by decide +kernel), List.mem_of_getElem? (i := 407) (by decide +kernel)⟩
theorem lw_p13 : lw_okq (⟨"PuzzleParts", "boardOfRow", "(II)LPuzzleParts$Board;"⟩, 12) := ⟨⟨by decide +kernel, by decide +kernel⟩, List.mem_of_getElem? (i := 12) (by decide +kernel), List.mem_of_getElem? (i := 410) (by decide +kernel), List.mem_of_getElem? (i := 411) (by decide +kernel)⟩
theorem lw_p14 : lw_okq (⟨"PuzzleParts", "keepNet", "(LPuzzleParts$Net;)I"⟩, 12) := ⟨⟨by decide +kernel, by decide +kernel⟩, List.mem_of_getElem? (i := 12) (by decide +kernel), List.mem_of_getElem? (i := 448) (by decide +kernel), List.mem_of_getElem? (i := 449) (by decide +kernel)⟩
theorem lw_p15 : lw_okq (⟨"PuzzleParts", "netAt", "(I)LPuzzleParts$Net;"⟩, 12) := ⟨⟨by decide +kernel, by decide +kernel⟩, List.mem_of_getElem? (i := 12) (by decide +kernel), List.mem_of_getElem? (i := 456) (by decide +kernel), List.mem_of_getElem? (i := 457) (by decide +kernel)⟩
def lw_privs_1 : List (MethodName × Nat) := [(⟨"PuzzleParts", "refuse", "(I)I"⟩, 12), (⟨"PuzzleParts", "keep", "(LPuzzleParts$Board;)I"⟩, 12), (⟨"PuzzleParts", "partAt", "(I)LPuzzleParts$Board;"⟩, 12), (⟨"PuzzleParts", "refuseLong", "(I)J"⟩, 12), (⟨"PuzzleParts$FormulaText", "readOr", "(I)J"⟩, 4), (⟨"PuzzleParts$FormulaText", "readAnd", "(I)J"⟩, 4), (⟨"PuzzleParts$FormulaText", "readUnit", "(I)J"⟩, 4), (⟨"PuzzleParts$FormulaText", "next", "()I"⟩, 4), (⟨"PuzzleParts$FormulaText", "fail", "()J"⟩, 4), (⟨"PuzzleParts$FormulaText", "readToBracket", "(I)J"⟩, 4), (⟨"PuzzleParts", "isFormula", "(I)Z"⟩, 12), (⟨"PuzzleParts", "meaning", "(II)J"⟩, 12), (⟨"PuzzleParts", "rowStandsOn", "(II)Z"⟩, 12), (⟨"PuzzleParts", "boardOfRow", "(II)LPuzzleParts$Board;"⟩, 12), (⟨"PuzzleParts", "keepNet", "(LPuzzleParts$Net;)I"⟩, 12), (⟨"PuzzleParts", "netAt", "(I)LPuzzleParts$Net;"⟩, 12)]
theorem lw_r1 : ∀ q ∈ lw_privs_1, lw_okq q := List.forall_mem_cons.mpr ⟨lw_p0, List.forall_mem_cons.mpr ⟨lw_p1, List.forall_mem_cons.mpr ⟨lw_p2, List.forall_mem_cons.mpr ⟨lw_p3, List.forall_mem_cons.mpr ⟨lw_p4, List.forall_mem_cons.mpr ⟨lw_p5, List.forall_mem_cons.mpr ⟨lw_p6, List.forall_mem_cons.mpr ⟨lw_p7, List.forall_mem_cons.mpr ⟨lw_p8, List.forall_mem_cons.mpr ⟨lw_p9, List.forall_mem_cons.mpr ⟨lw_p10, List.forall_mem_cons.mpr ⟨lw_p11, List.forall_mem_cons.mpr ⟨lw_p12, List.forall_mem_cons.mpr ⟨lw_p13, List.forall_mem_cons.mpr ⟨lw_p14, List.forall_mem_cons.mpr ⟨lw_p15, fun _ h => absurd h List.not_mem_nil⟩⟩⟩⟩⟩⟩⟩⟩⟩⟩⟩⟩⟩⟩⟩⟩
theorem lw_p16 : lw_okq (⟨"PuzzleParts$Net", "facesOf", "(I)I"⟩, 5) := ⟨⟨by decide +kernel, by decide +kernel⟩, List.mem_of_getElem? (i := 423) (by decide +kernel), List.mem_of_getElem? (i := 472) (by decide +kernel), List.mem_of_getElem? (i := 473) (by decide +kernel)⟩
theorem lw_p17 : lw_okq (⟨"PuzzleParts", "refusalOfNetState", "(II)I"⟩, 12) := ⟨⟨by decide +kernel, by decide +kernel⟩, List.mem_of_getElem? (i := 12) (by decide +kernel), List.mem_of_getElem? (i := 504) (by decide +kernel), List.mem_of_getElem? (i := 505) (by decide +kernel)⟩
theorem lw_p18 : lw_okq (⟨"PuzzleParts$Net", "sumInState", "(IZ)J"⟩, 5) := ⟨⟨by decide +kernel, by decide +kernel⟩, List.mem_of_getElem? (i := 423) (by decide +kernel), List.mem_of_getElem? (i := 512) (by decide +kernel), List.mem_of_getElem? (i := 513) (by decide +kernel)⟩
theorem lw_p19 : lw_okq (⟨"PuzzleParts$Net", "giveSlots", "()V"⟩, 5) := ⟨⟨by decide +kernel, by decide +kernel⟩, List.mem_of_getElem? (i := 423) (by decide +kernel), List.mem_of_getElem? (i := 516) (by decide +kernel), List.mem_of_getElem? (i := 517) (by decide +kernel)⟩
theorem lw_p20 : lw_okq (⟨"PuzzleParts$Net", "slotsOf", "(I)I"⟩, 5) := ⟨⟨by decide +kernel, by decide +kernel⟩, List.mem_of_getElem? (i := 423) (by decide +kernel), List.mem_of_getElem? (i := 524) (by decide +kernel), List.mem_of_getElem? (i := 525) (by decide +kernel)⟩
theorem lw_p21 : lw_okq (⟨"PuzzleParts$Net", "bitsIn", "(II)I"⟩, 5) := ⟨⟨by decide +kernel, by decide +kernel⟩, List.mem_of_getElem? (i := 423) (by decide +kernel), List.mem_of_getElem? (i := 529) (by decide +kernel), List.mem_of_getElem? (i := 530) (by decide +kernel)⟩
theorem lw_p22 : lw_okq (⟨"PuzzleParts$Floor", "overlaps", "(II)Z"⟩, 4) := ⟨⟨by decide +kernel, by decide +kernel⟩, List.mem_of_getElem? (i := 24) (by decide +kernel), List.mem_of_getElem? (i := 562) (by decide +kernel), List.mem_of_getElem? (i := 563) (by decide +kernel)⟩
theorem lw_p23 : lw_okq (⟨"PuzzleParts$Floor", "codeOn", "(III)I"⟩, 4) := ⟨⟨by decide +kernel, by decide +kernel⟩, List.mem_of_getElem? (i := 24) (by decide +kernel), List.mem_of_getElem? (i := 566) (by decide +kernel), List.mem_of_getElem? (i := 567) (by decide +kernel)⟩
theorem lw_p24 : lw_okq (⟨"PuzzleParts$Floor", "facesOf", "(I)I"⟩, 4) := ⟨⟨by decide +kernel, by decide +kernel⟩, List.mem_of_getElem? (i := 24) (by decide +kernel), List.mem_of_getElem? (i := 579) (by decide +kernel), List.mem_of_getElem? (i := 580) (by decide +kernel)⟩
theorem lw_p25 : lw_okq (⟨"PuzzleParts$Floor", "distance", "(IIII)I"⟩, 4) := ⟨⟨by decide +kernel, by decide +kernel⟩, List.mem_of_getElem? (i := 24) (by decide +kernel), List.mem_of_getElem? (i := 587) (by decide +kernel), List.mem_of_getElem? (i := 588) (by decide +kernel)⟩
theorem lw_p26 : lw_okq (⟨"PuzzleParts$Floor", "faceX", "(II)I"⟩, 4) := ⟨⟨by decide +kernel, by decide +kernel⟩, List.mem_of_getElem? (i := 24) (by decide +kernel), List.mem_of_getElem? (i := 591) (by decide +kernel), List.mem_of_getElem? (i := 592) (by decide +kernel)⟩
theorem lw_p27 : lw_okq (⟨"PuzzleParts$Floor", "faceY", "(II)I"⟩, 4) := ⟨⟨by decide +kernel, by decide +kernel⟩, List.mem_of_getElem? (i := 24) (by decide +kernel), List.mem_of_getElem? (i := 598) (by decide +kernel), List.mem_of_getElem? (i := 599) (by decide +kernel)⟩
theorem lw_p28 : lw_okq (⟨"PuzzleParts$Floor", "hasCrowdedFace", "(I)Z"⟩, 4) := ⟨⟨by decide +kernel, by decide +kernel⟩, List.mem_of_getElem? (i := 24) (by decide +kernel), List.mem_of_getElem? (i := 610) (by decide +kernel), List.mem_of_getElem? (i := 611) (by decide +kernel)⟩
theorem lw_p29 : lw_okq (⟨"PuzzleParts$Floor", "hasOpenSide", "(I)Z"⟩, 4) := ⟨⟨by decide +kernel, by decide +kernel⟩, List.mem_of_getElem? (i := 24) (by decide +kernel), List.mem_of_getElem? (i := 615) (by decide +kernel), List.mem_of_getElem? (i := 616) (by decide +kernel)⟩
theorem lw_p30 : lw_okq (⟨"PuzzleParts$Floor", "isOthers", "(III)Z"⟩, 4) := ⟨⟨by decide +kernel, by decide +kernel⟩, List.mem_of_getElem? (i := 24) (by decide +kernel), List.mem_of_getElem? (i := 619) (by decide +kernel), List.mem_of_getElem? (i := 620) (by decide +kernel)⟩
theorem lw_p31 : lw_okq (⟨"PuzzlePartsModel", "refuse", "(I)I"⟩, 32) := ⟨⟨by decide +kernel, by decide +kernel⟩, List.mem_of_getElem? (i := 647) (by decide +kernel), List.mem_of_getElem? (i := 754) (by decide +kernel), List.mem_of_getElem? (i := 755) (by decide +kernel)⟩
def lw_privs_2 : List (MethodName × Nat) := [(⟨"PuzzleParts$Net", "facesOf", "(I)I"⟩, 5), (⟨"PuzzleParts", "refusalOfNetState", "(II)I"⟩, 12), (⟨"PuzzleParts$Net", "sumInState", "(IZ)J"⟩, 5), (⟨"PuzzleParts$Net", "giveSlots", "()V"⟩, 5), (⟨"PuzzleParts$Net", "slotsOf", "(I)I"⟩, 5), (⟨"PuzzleParts$Net", "bitsIn", "(II)I"⟩, 5), (⟨"PuzzleParts$Floor", "overlaps", "(II)Z"⟩, 4), (⟨"PuzzleParts$Floor", "codeOn", "(III)I"⟩, 4), (⟨"PuzzleParts$Floor", "facesOf", "(I)I"⟩, 4), (⟨"PuzzleParts$Floor", "distance", "(IIII)I"⟩, 4), (⟨"PuzzleParts$Floor", "faceX", "(II)I"⟩, 4), (⟨"PuzzleParts$Floor", "faceY", "(II)I"⟩, 4), (⟨"PuzzleParts$Floor", "hasCrowdedFace", "(I)Z"⟩, 4), (⟨"PuzzleParts$Floor", "hasOpenSide", "(I)Z"⟩, 4), (⟨"PuzzleParts$Floor", "isOthers", "(III)Z"⟩, 4), (⟨"PuzzlePartsModel", "refuse", "(I)I"⟩, 32)]
theorem lw_r2 : ∀ q ∈ lw_privs_2, lw_okq q := List.forall_mem_cons.mpr ⟨lw_p16, List.forall_mem_cons.mpr ⟨lw_p17, List.forall_mem_cons.mpr ⟨lw_p18, List.forall_mem_cons.mpr ⟨lw_p19, List.forall_mem_cons.mpr ⟨lw_p20, List.forall_mem_cons.mpr ⟨lw_p21, List.forall_mem_cons.mpr ⟨lw_p22, List.forall_mem_cons.mpr ⟨lw_p23, List.forall_mem_cons.mpr ⟨lw_p24, List.forall_mem_cons.mpr ⟨lw_p25, List.forall_mem_cons.mpr ⟨lw_p26, List.forall_mem_cons.mpr ⟨lw_p27, List.forall_mem_cons.mpr ⟨lw_p28, List.forall_mem_cons.mpr ⟨lw_p29, List.forall_mem_cons.mpr ⟨lw_p30, List.forall_mem_cons.mpr ⟨lw_p31, fun _ h => absurd h List.not_mem_nil⟩⟩⟩⟩⟩⟩⟩⟩⟩⟩⟩⟩⟩⟩⟩⟩
theorem lw_p32 : lw_okq (⟨"PuzzlePartsModel", "readsBoard", "(I)Z"⟩, 32) := ⟨⟨by decide +kernel, by decide +kernel⟩, List.mem_of_getElem? (i := 647) (by decide +kernel), List.mem_of_getElem? (i := 763) (by decide +kernel), List.mem_of_getElem? (i := 764) (by decide +kernel)⟩
theorem lw_p33 : lw_okq (⟨"PuzzlePartsModel", "begins", "(IIII)V"⟩, 32) := ⟨⟨by decide +kernel, by decide +kernel⟩, List.mem_of_getElem? (i := 647) (by decide +kernel), List.mem_of_getElem? (i := 767) (by decide +kernel), List.mem_of_getElem? (i := 768) (by decide +kernel)⟩
theorem lw_p34 : lw_okq (⟨"PuzzlePartsModel", "puts", "(IIII)V"⟩, 32) := ⟨⟨by decide +kernel, by decide +kernel⟩, List.mem_of_getElem? (i := 647) (by decide +kernel), List.mem_of_getElem? (i := 771) (by decide +kernel), List.mem_of_getElem? (i := 772) (by decide +kernel)⟩
theorem lw_p35 : lw_okq (⟨"PuzzlePartsModel", "isPart", "(I)Z"⟩, 32) := ⟨⟨by decide +kernel, by decide +kernel⟩, List.mem_of_getElem? (i := 647) (by decide +kernel), List.mem_of_getElem? (i := 779) (by decide +kernel), List.mem_of_getElem? (i := 780) (by decide +kernel)⟩
theorem lw_p36 : lw_okq (⟨"PuzzlePartsModel", "open", "(I)I"⟩, 32) := ⟨⟨by decide +kernel, by decide +kernel⟩, List.mem_of_getElem? (i := 647) (by decide +kernel), List.mem_of_getElem? (i := 786) (by decide +kernel), List.mem_of_getElem? (i := 787) (by decide +kernel)⟩
theorem lw_p37 : lw_okq (⟨"PuzzlePartsModel", "isCell", "(II)Z"⟩, 32) := ⟨⟨by decide +kernel, by decide +kernel⟩, List.mem_of_getElem? (i := 647) (by decide +kernel), List.mem_of_getElem? (i := 794) (by decide +kernel), List.mem_of_getElem? (i := 795) (by decide +kernel)⟩
theorem lw_p38 : lw_okq (⟨"PuzzlePartsModel", "at", "(III)I"⟩, 32) := ⟨⟨by decide +kernel, by decide +kernel⟩, List.mem_of_getElem? (i := 647) (by decide +kernel), List.mem_of_getElem? (i := 798) (by decide +kernel), List.mem_of_getElem? (i := 799) (by decide +kernel)⟩
theorem lw_p39 : lw_okq (⟨"PuzzlePartsModel", "letsOf", "(I)J"⟩, 32) := ⟨⟨by decide +kernel, by decide +kernel⟩, List.mem_of_getElem? (i := 647) (by decide +kernel), List.mem_of_getElem? (i := 806) (by decide +kernel), List.mem_of_getElem? (i := 807) (by decide +kernel)⟩
theorem lw_p40 : lw_okq (⟨"PuzzlePartsModel", "states", "(I)I"⟩, 32) := ⟨⟨by decide +kernel, by decide +kernel⟩, List.mem_of_getElem? (i := 647) (by decide +kernel), List.mem_of_getElem? (i := 810) (by decide +kernel), List.mem_of_getElem? (i := 811) (by decide +kernel)⟩
theorem lw_p41 : lw_okq (⟨"PuzzlePartsModel", "toCover", "(II)I"⟩, 32) := ⟨⟨by decide +kernel, by decide +kernel⟩, List.mem_of_getElem? (i := 647) (by decide +kernel), List.mem_of_getElem? (i := 814) (by decide +kernel), List.mem_of_getElem? (i := 815) (by decide +kernel)⟩
theorem lw_p42 : lw_okq (⟨"PuzzlePartsModel", "isTiled", "(I)Z"⟩, 32) := ⟨⟨by decide +kernel, by decide +kernel⟩, List.mem_of_getElem? (i := 647) (by decide +kernel), List.mem_of_getElem? (i := 818) (by decide +kernel), List.mem_of_getElem? (i := 819) (by decide +kernel)⟩
theorem lw_p43 : lw_okq (⟨"PuzzlePartsModel", "refuseFar", "(I)J"⟩, 32) := ⟨⟨by decide +kernel, by decide +kernel⟩, List.mem_of_getElem? (i := 647) (by decide +kernel), List.mem_of_getElem? (i := 831) (by decide +kernel), List.mem_of_getElem? (i := 832) (by decide +kernel)⟩
theorem lw_p44 : lw_okq (⟨"PuzzlePartsModel", "tilings", "(I)I"⟩, 32) := ⟨⟨by decide +kernel, by decide +kernel⟩, List.mem_of_getElem? (i := 647) (by decide +kernel), List.mem_of_getElem? (i := 840) (by decide +kernel), List.mem_of_getElem? (i := 841) (by decide +kernel)⟩
theorem lw_p45 : lw_okq (⟨"PuzzlePartsModel", "goesThrough", "([IIII)Z"⟩, 32) := ⟨⟨by decide +kernel, by decide +kernel⟩, List.mem_of_getElem? (i := 647) (by decide +kernel), List.mem_of_getElem? (i := 856) (by decide +kernel), List.mem_of_getElem? (i := 857) (by decide +kernel)⟩
theorem lw_p46 : lw_okq (⟨"PuzzlePartsModel", "or", "()Z"⟩, 32) := ⟨⟨by decide +kernel, by decide +kernel⟩, List.mem_of_getElem? (i := 647) (by decide +kernel), List.mem_of_getElem? (i := 860) (by decide +kernel), List.mem_of_getElem? (i := 861) (by decide +kernel)⟩
theorem lw_p47 : lw_okq (⟨"PuzzlePartsModel", "and", "()Z"⟩, 32) := ⟨⟨by decide +kernel, by decide +kernel⟩, List.mem_of_getElem? (i := 647) (by decide +kernel), List.mem_of_getElem? (i := 864) (by decide +kernel), List.mem_of_getElem? (i := 865) (by decide +kernel)⟩
def lw_privs_3 : List (MethodName × Nat) := [(⟨"PuzzlePartsModel", "readsBoard", "(I)Z"⟩, 32), (⟨"PuzzlePartsModel", "begins", "(IIII)V"⟩, 32), (⟨"PuzzlePartsModel", "puts", "(IIII)V"⟩, 32), (⟨"PuzzlePartsModel", "isPart", "(I)Z"⟩, 32), (⟨"PuzzlePartsModel", "open", "(I)I"⟩, 32), (⟨"PuzzlePartsModel", "isCell", "(II)Z"⟩, 32), (⟨"PuzzlePartsModel", "at", "(III)I"⟩, 32), (⟨"PuzzlePartsModel", "letsOf", "(I)J"⟩, 32), (⟨"PuzzlePartsModel", "states", "(I)I"⟩, 32), (⟨"PuzzlePartsModel", "toCover", "(II)I"⟩, 32), (⟨"PuzzlePartsModel", "isTiled", "(I)Z"⟩, 32), (⟨"PuzzlePartsModel", "refuseFar", "(I)J"⟩, 32), (⟨"PuzzlePartsModel", "tilings", "(I)I"⟩, 32), (⟨"PuzzlePartsModel", "goesThrough", "([IIII)Z"⟩, 32), (⟨"PuzzlePartsModel", "or", "()Z"⟩, 32), (⟨"PuzzlePartsModel", "and", "()Z"⟩, 32)]
theorem lw_r3 : ∀ q ∈ lw_privs_3, lw_okq q := List.forall_mem_cons.mpr ⟨lw_p32, List.forall_mem_cons.mpr ⟨lw_p33, List.forall_mem_cons.mpr ⟨lw_p34, List.forall_mem_cons.mpr ⟨lw_p35, List.forall_mem_cons.mpr ⟨lw_p36, List.forall_mem_cons.mpr ⟨lw_p37, List.forall_mem_cons.mpr ⟨lw_p38, List.forall_mem_cons.mpr ⟨lw_p39, List.forall_mem_cons.mpr ⟨lw_p40, List.forall_mem_cons.mpr ⟨lw_p41, List.forall_mem_cons.mpr ⟨lw_p42, List.forall_mem_cons.mpr ⟨lw_p43, List.forall_mem_cons.mpr ⟨lw_p44, List.forall_mem_cons.mpr ⟨lw_p45, List.forall_mem_cons.mpr ⟨lw_p46, List.forall_mem_cons.mpr ⟨lw_p47, fun _ h => absurd h List.not_mem_nil⟩⟩⟩⟩⟩⟩⟩⟩⟩⟩⟩⟩⟩⟩⟩⟩
theorem lw_p48 : lw_okq (⟨"PuzzlePartsModel", "unit", "()Z"⟩, 32) := ⟨⟨by decide +kernel, by decide +kernel⟩, List.mem_of_getElem? (i := 647) (by decide +kernel), List.mem_of_getElem? (i := 868) (by decide +kernel), List.mem_of_getElem? (i := 869) (by decide +kernel)⟩
theorem lw_p49 : lw_okq (⟨"PuzzlePartsModel", "sign", "()I"⟩, 32) := ⟨⟨by decide +kernel, by decide +kernel⟩, List.mem_of_getElem? (i := 647) (by decide +kernel), List.mem_of_getElem? (i := 872) (by decide +kernel), List.mem_of_getElem? (i := 873) (by decide +kernel)⟩
theorem lw_p50 : lw_okq (⟨"PuzzlePartsModel", "breaks", "()Z"⟩, 32) := ⟨⟨by decide +kernel, by decide +kernel⟩, List.mem_of_getElem? (i := 647) (by decide +kernel), List.mem_of_getElem? (i := 876) (by decide +kernel), List.mem_of_getElem? (i := 877) (by decide +kernel)⟩
theorem lw_p51 : lw_okq (⟨"PuzzlePartsModel", "takes", "(I)Z"⟩, 32) := ⟨⟨by decide +kernel, by decide +kernel⟩, List.mem_of_getElem? (i := 647) (by decide +kernel), List.mem_of_getElem? (i := 880) (by decide +kernel), List.mem_of_getElem? (i := 881) (by decide +kernel)⟩
theorem lw_p52 : lw_okq (⟨"PuzzlePartsModel", "isFormula", "(I)Z"⟩, 32) := ⟨⟨by decide +kernel, by decide +kernel⟩, List.mem_of_getElem? (i := 647) (by decide +kernel), List.mem_of_getElem? (i := 888) (by decide +kernel), List.mem_of_getElem? (i := 889) (by decide +kernel)⟩
theorem lw_p53 : lw_okq (⟨"PuzzlePartsModel", "meansOf", "(II)J"⟩, 32) := ⟨⟨by decide +kernel, by decide +kernel⟩, List.mem_of_getElem? (i := 647) (by decide +kernel), List.mem_of_getElem? (i := 895) (by decide +kernel), List.mem_of_getElem? (i := 896) (by decide +kernel)⟩
theorem lw_p54 : lw_okq (⟨"PuzzlePartsModel", "isTrue", "(II)Z"⟩, 32) := ⟨⟨by decide +kernel, by decide +kernel⟩, List.mem_of_getElem? (i := 647) (by decide +kernel), List.mem_of_getElem? (i := 899) (by decide +kernel), List.mem_of_getElem? (i := 900) (by decide +kernel)⟩
theorem lw_p55 : lw_okq (⟨"PuzzlePartsModel", "copies", "(IZI)I"⟩, 32) := ⟨⟨by decide +kernel, by decide +kernel⟩, List.mem_of_getElem? (i := 647) (by decide +kernel), List.mem_of_getElem? (i := 915) (by decide +kernel), List.mem_of_getElem? (i := 916) (by decide +kernel)⟩
theorem lw_p56 : lw_okq (⟨"PuzzlePartsModel", "turned", "(IIIZI)I"⟩, 32) := ⟨⟨by decide +kernel, by decide +kernel⟩, List.mem_of_getElem? (i := 647) (by decide +kernel), List.mem_of_getElem? (i := 919) (by decide +kernel), List.mem_of_getElem? (i := 920) (by decide +kernel)⟩
theorem lw_p57 : lw_okq (⟨"PuzzlePartsModel", "isAs", "(IIZI)Z"⟩, 32) := ⟨⟨by decide +kernel, by decide +kernel⟩, List.mem_of_getElem? (i := 647) (by decide +kernel), List.mem_of_getElem? (i := 940) (by decide +kernel), List.mem_of_getElem? (i := 941) (by decide +kernel)⟩
theorem lw_p58 : lw_okq (⟨"PuzzlePartsModel", "isRow", "(II)Z"⟩, 32) := ⟨⟨by decide +kernel, by decide +kernel⟩, List.mem_of_getElem? (i := 647) (by decide +kernel), List.mem_of_getElem? (i := 956) (by decide +kernel), List.mem_of_getElem? (i := 957) (by decide +kernel)⟩
theorem lw_p59 : lw_okq (⟨"PuzzlePartsModel", "lays", "(IIII)V"⟩, 32) := ⟨⟨by decide +kernel, by decide +kernel⟩, List.mem_of_getElem? (i := 647) (by decide +kernel), List.mem_of_getElem? (i := 960) (by decide +kernel), List.mem_of_getElem? (i := 961) (by decide +kernel)⟩
theorem lw_p60 : lw_okq (⟨"PuzzlePartsModel", "faceAt", "(I)I"⟩, 32) := ⟨⟨by decide +kernel, by decide +kernel⟩, List.mem_of_getElem? (i := 647) (by decide +kernel), List.mem_of_getElem? (i := 964) (by decide +kernel), List.mem_of_getElem? (i := 965) (by decide +kernel)⟩
theorem lw_p61 : lw_okq (⟨"PuzzlePartsModel", "isNet", "(I)Z"⟩, 32) := ⟨⟨by decide +kernel, by decide +kernel⟩, List.mem_of_getElem? (i := 647) (by decide +kernel), List.mem_of_getElem? (i := 976) (by decide +kernel), List.mem_of_getElem? (i := 977) (by decide +kernel)⟩
theorem lw_p62 : lw_okq (⟨"PuzzlePartsModel", "isFace", "(II)Z"⟩, 32) := ⟨⟨by decide +kernel, by decide +kernel⟩, List.mem_of_getElem? (i := 647) (by decide +kernel), List.mem_of_getElem? (i := 984) (by decide +kernel), List.mem_of_getElem? (i := 985) (by decide +kernel)⟩
theorem lw_p63 : lw_okq (⟨"PuzzlePartsModel", "partAt", "(II)I"⟩, 32) := ⟨⟨by decide +kernel, by decide +kernel⟩, List.mem_of_getElem? (i := 647) (by decide +kernel), List.mem_of_getElem? (i := 988) (by decide +kernel), List.mem_of_getElem? (i := 989) (by decide +kernel)⟩
def lw_privs_4 : List (MethodName × Nat) := [(⟨"PuzzlePartsModel", "unit", "()Z"⟩, 32), (⟨"PuzzlePartsModel", "sign", "()I"⟩, 32), (⟨"PuzzlePartsModel", "breaks", "()Z"⟩, 32), (⟨"PuzzlePartsModel", "takes", "(I)Z"⟩, 32), (⟨"PuzzlePartsModel", "isFormula", "(I)Z"⟩, 32), (⟨"PuzzlePartsModel", "meansOf", "(II)J"⟩, 32), (⟨"PuzzlePartsModel", "isTrue", "(II)Z"⟩, 32), (⟨"PuzzlePartsModel", "copies", "(IZI)I"⟩, 32), (⟨"PuzzlePartsModel", "turned", "(IIIZI)I"⟩, 32), (⟨"PuzzlePartsModel", "isAs", "(IIZI)Z"⟩, 32), (⟨"PuzzlePartsModel", "isRow", "(II)Z"⟩, 32), (⟨"PuzzlePartsModel", "lays", "(IIII)V"⟩, 32), (⟨"PuzzlePartsModel", "faceAt", "(I)I"⟩, 32), (⟨"PuzzlePartsModel", "isNet", "(I)Z"⟩, 32), (⟨"PuzzlePartsModel", "isFace", "(II)Z"⟩, 32), (⟨"PuzzlePartsModel", "partAt", "(II)I"⟩, 32)]
theorem lw_r4 : ∀ q ∈ lw_privs_4, lw_okq q := List.forall_mem_cons.mpr ⟨lw_p48, List.forall_mem_cons.mpr ⟨lw_p49, List.forall_mem_cons.mpr ⟨lw_p50, List.forall_mem_cons.mpr ⟨lw_p51, List.forall_mem_cons.mpr ⟨lw_p52, List.forall_mem_cons.mpr ⟨lw_p53, List.forall_mem_cons.mpr ⟨lw_p54, List.forall_mem_cons.mpr ⟨lw_p55, List.forall_mem_cons.mpr ⟨lw_p56, List.forall_mem_cons.mpr ⟨lw_p57, List.forall_mem_cons.mpr ⟨lw_p58, List.forall_mem_cons.mpr ⟨lw_p59, List.forall_mem_cons.mpr ⟨lw_p60, List.forall_mem_cons.mpr ⟨lw_p61, List.forall_mem_cons.mpr ⟨lw_p62, List.forall_mem_cons.mpr ⟨lw_p63, fun _ h => absurd h List.not_mem_nil⟩⟩⟩⟩⟩⟩⟩⟩⟩⟩⟩⟩⟩⟩⟩⟩
theorem lw_p64 : lw_okq (⟨"PuzzlePartsModel", "linkOf", "(II)I"⟩, 32) := ⟨⟨by decide +kernel, by decide +kernel⟩, List.mem_of_getElem? (i := 647) (by decide +kernel), List.mem_of_getElem? (i := 992) (by decide +kernel), List.mem_of_getElem? (i := 993) (by decide +kernel)⟩
theorem lw_p65 : lw_okq (⟨"PuzzlePartsModel", "freeOf", "(II)I"⟩, 32) := ⟨⟨by decide +kernel, by decide +kernel⟩, List.mem_of_getElem? (i := 647) (by decide +kernel), List.mem_of_getElem? (i := 1000) (by decide +kernel), List.mem_of_getElem? (i := 1001) (by decide +kernel)⟩
theorem lw_p66 : lw_okq (⟨"PuzzlePartsModel", "wrongState", "(II)I"⟩, 32) := ⟨⟨by decide +kernel, by decide +kernel⟩, List.mem_of_getElem? (i := 647) (by decide +kernel), List.mem_of_getElem? (i := 1008) (by decide +kernel), List.mem_of_getElem? (i := 1009) (by decide +kernel)⟩
theorem lw_p67 : lw_okq (⟨"PuzzlePartsModel", "findWays", "(I)V"⟩, 32) := ⟨⟨by decide +kernel, by decide +kernel⟩, List.mem_of_getElem? (i := 647) (by decide +kernel), List.mem_of_getElem? (i := 1012) (by decide +kernel), List.mem_of_getElem? (i := 1013) (by decide +kernel)⟩
theorem lw_p68 : lw_okq (⟨"PuzzlePartsModel", "isLet", "(II)Z"⟩, 32) := ⟨⟨by decide +kernel, by decide +kernel⟩, List.mem_of_getElem? (i := 647) (by decide +kernel), List.mem_of_getElem? (i := 1016) (by decide +kernel), List.mem_of_getElem? (i := 1017) (by decide +kernel)⟩
theorem lw_p69 : lw_okq (⟨"PuzzlePartsModel", "states", "(III)V"⟩, 32) := ⟨⟨by decide +kernel, by decide +kernel⟩, List.mem_of_getElem? (i := 647) (by decide +kernel), List.mem_of_getElem? (i := 1020) (by decide +kernel), List.mem_of_getElem? (i := 1021) (by decide +kernel)⟩
theorem lw_p70 : lw_okq (⟨"PuzzlePartsModel", "howOf", "(II)J"⟩, 32) := ⟨⟨by decide +kernel, by decide +kernel⟩, List.mem_of_getElem? (i := 647) (by decide +kernel), List.mem_of_getElem? (i := 1028) (by decide +kernel), List.mem_of_getElem? (i := 1029) (by decide +kernel)⟩
theorem lw_p71 : lw_okq (⟨"PuzzlePartsModel", "overlapped", "()I"⟩, 32) := ⟨⟨by decide +kernel, by decide +kernel⟩, List.mem_of_getElem? (i := 647) (by decide +kernel), List.mem_of_getElem? (i := 1045) (by decide +kernel), List.mem_of_getElem? (i := 1046) (by decide +kernel)⟩
theorem lw_p72 : lw_okq (⟨"PuzzlePartsModel", "on", "(III)I"⟩, 32) := ⟨⟨by decide +kernel, by decide +kernel⟩, List.mem_of_getElem? (i := 647) (by decide +kernel), List.mem_of_getElem? (i := 1049) (by decide +kernel), List.mem_of_getElem? (i := 1050) (by decide +kernel)⟩
theorem lw_p73 : lw_okq (⟨"PuzzlePartsModel", "met", "(III)I"⟩, 32) := ⟨⟨by decide +kernel, by decide +kernel⟩, List.mem_of_getElem? (i := 647) (by decide +kernel), List.mem_of_getElem? (i := 1057) (by decide +kernel), List.mem_of_getElem? (i := 1058) (by decide +kernel)⟩
theorem lw_p74 : lw_okq (⟨"PuzzlePartsModel", "place", "(II)I"⟩, 32) := ⟨⟨by decide +kernel, by decide +kernel⟩, List.mem_of_getElem? (i := 647) (by decide +kernel), List.mem_of_getElem? (i := 1061) (by decide +kernel), List.mem_of_getElem? (i := 1062) (by decide +kernel)⟩
theorem lw_p75 : lw_okq (⟨"PuzzlePartsModel", "leaks", "()I"⟩, 32) := ⟨⟨by decide +kernel, by decide +kernel⟩, List.mem_of_getElem? (i := 647) (by decide +kernel), List.mem_of_getElem? (i := 1072) (by decide +kernel), List.mem_of_getElem? (i := 1073) (by decide +kernel)⟩
theorem lw_p76 : lw_okq (⟨"PuzzlePartsModel", "isOther", "(III)Z"⟩, 32) := ⟨⟨by decide +kernel, by decide +kernel⟩, List.mem_of_getElem? (i := 647) (by decide +kernel), List.mem_of_getElem? (i := 1076) (by decide +kernel), List.mem_of_getElem? (i := 1077) (by decide +kernel)⟩
theorem lw_p77 : lw_okq (⟨"PuzzlePartsModel", "meetings", "()I"⟩, 32) := ⟨⟨by decide +kernel, by decide +kernel⟩, List.mem_of_getElem? (i := 647) (by decide +kernel), List.mem_of_getElem? (i := 1084) (by decide +kernel), List.mem_of_getElem? (i := 1085) (by decide +kernel)⟩
def lw_privs_5 : List (MethodName × Nat) := [(⟨"PuzzlePartsModel", "linkOf", "(II)I"⟩, 32), (⟨"PuzzlePartsModel", "freeOf", "(II)I"⟩, 32), (⟨"PuzzlePartsModel", "wrongState", "(II)I"⟩, 32), (⟨"PuzzlePartsModel", "findWays", "(I)V"⟩, 32), (⟨"PuzzlePartsModel", "isLet", "(II)Z"⟩, 32), (⟨"PuzzlePartsModel", "states", "(III)V"⟩, 32), (⟨"PuzzlePartsModel", "howOf", "(II)J"⟩, 32), (⟨"PuzzlePartsModel", "overlapped", "()I"⟩, 32), (⟨"PuzzlePartsModel", "on", "(III)I"⟩, 32), (⟨"PuzzlePartsModel", "met", "(III)I"⟩, 32), (⟨"PuzzlePartsModel", "place", "(II)I"⟩, 32), (⟨"PuzzlePartsModel", "leaks", "()I"⟩, 32), (⟨"PuzzlePartsModel", "isOther", "(III)Z"⟩, 32), (⟨"PuzzlePartsModel", "meetings", "()I"⟩, 32)]
theorem lw_r5 : ∀ q ∈ lw_privs_5, lw_okq q := List.forall_mem_cons.mpr ⟨lw_p64, List.forall_mem_cons.mpr ⟨lw_p65, List.forall_mem_cons.mpr ⟨lw_p66, List.forall_mem_cons.mpr ⟨lw_p67, List.forall_mem_cons.mpr ⟨lw_p68, List.forall_mem_cons.mpr ⟨lw_p69, List.forall_mem_cons.mpr ⟨lw_p70, List.forall_mem_cons.mpr ⟨lw_p71, List.forall_mem_cons.mpr ⟨lw_p72, List.forall_mem_cons.mpr ⟨lw_p73, List.forall_mem_cons.mpr ⟨lw_p74, List.forall_mem_cons.mpr ⟨lw_p75, List.forall_mem_cons.mpr ⟨lw_p76, List.forall_mem_cons.mpr ⟨lw_p77, fun _ h => absurd h List.not_mem_nil⟩⟩⟩⟩⟩⟩⟩⟩⟩⟩⟩⟩⟩⟩
def lw_privs : List (MethodName × Nat) := lw_privs_1 ++ (lw_privs_2 ++ (lw_privs_3 ++ (lw_privs_4 ++ (lw_privs_5))))
def lw_tbl : List Cond := k2_sels lw_privs ++ tables_1
theorem lw_privs_ok : ∀ q ∈ lw_privs, lw_okq q := by
  show ∀ q ∈ lw_privs_1 ++ (lw_privs_2 ++ (lw_privs_3 ++ (lw_privs_4 ++ (lw_privs_5)))), lw_okq q
  exact List.forall_mem_append.mpr ⟨lw_r1, List.forall_mem_append.mpr ⟨lw_r2, List.forall_mem_append.mpr ⟨lw_r3, List.forall_mem_append.mpr ⟨lw_r4, lw_r5⟩⟩⟩⟩
-- ===== end of PART A; then your names; then what follows =====
end
section
def RX0 : String := "PuzzleParts$Board"
def TX0 : u_T := fun k => match k with
  | 0 => ("PuzzleParts$Board", "wide", "I", true)
  | 1 => ("PuzzleParts$Board", "high", "I", true)
  | 2 => ("PuzzleParts$Board", "cells", "[I", true)
  | 3 => ("PuzzleParts$Board", "open", "I", false)
  | 4 => ("PuzzleParts$Board", "faces", "I", false)
  | 5 => ("PuzzleParts$Board", "facePlaces", "[I", true)
  | 6 => ("PuzzleParts$Board", "tilings", "[I", true)
  | 7 => ("PuzzleParts$Board", "letStates", "J", false)
  | _ => ("PuzzleParts$Board", "barredStates", "J", false)
def tyX0 : Nat → FieldType := fun k => match k with
  | 0 => .int
  | 1 => .int
  | 2 => .array .int
  | 3 => .int
  | 4 => .int
  | 5 => .array .int
  | 6 => .array .int
  | 7 => .long
  | _ => .long
abbrev wsX00 : List Cond := u_ws RX0 TX0 9
theorem nmX0 : ∀ a, a < 9 → ∀ b, b < 9 → a ≠ b → (TX0 a).2.1 ≠ (TX0 b).2.1 := by decide +kernel
theorem tyX0_ok : ∀ k, k < 9 → parseFieldDescriptor (TX0 k).2.2.1 = some (tyX0 k) := by decide +kernel
abbrev cX0_init : ByteArray := prog_2_method_1_code
def yX0_init : MethodName := ⟨RX0, "<init>", "(II)V"⟩
abbrev cX0_bitOf : ByteArray := prog_2_method_2_code
def yX0_bitOf : MethodName := ⟨RX0, "bitOf", "(II)I"⟩
abbrev cX0_set : ByteArray := prog_2_method_3_code
def yX0_set : MethodName := ⟨RX0, "set", "(III)V"⟩
abbrev cX0_isWithin : ByteArray := prog_2_method_4_code
def yX0_isWithin : MethodName := ⟨RX0, "isWithin", "(II)Z"⟩
abbrev cX0_hasCell : ByteArray := prog_2_method_5_code
def yX0_hasCell : MethodName := ⟨RX0, "hasCell", "(I)Z"⟩
abbrev cX0_codeAt : ByteArray := prog_2_method_6_code
def yX0_codeAt : MethodName := ⟨RX0, "codeAt", "(II)I"⟩
abbrev cX0_states : ByteArray := prog_2_method_7_code
def yX0_states : MethodName := ⟨RX0, "states", "()I"⟩
abbrev cX0_hasState : ByteArray := prog_2_method_8_code
def yX0_hasState : MethodName := ⟨RX0, "hasState", "(I)Z"⟩
abbrev cX0_countTilings : ByteArray := prog_2_method_9_code
def yX0_countTilings : MethodName := ⟨RX0, "countTilings", "()V"⟩
abbrev cX0_toCover : ByteArray := prog_2_method_10_code
def yX0_toCover : MethodName := ⟨RX0, "toCover", "(II)I"⟩
abbrev cX0_letWith : ByteArray := prog_2_method_11_code
def yX0_letWith : MethodName := ⟨RX0, "letWith", "(I)J"⟩
abbrev cX0_needlessCells : ByteArray := prog_2_method_12_code
def yX0_needlessCells : MethodName := ⟨RX0, "needlessCells", "()I"⟩
abbrev cX0_coverAt : ByteArray := prog_2_method_13_code
def yX0_coverAt : MethodName := ⟨RX0, "coverAt", "(III)I"⟩
abbrev cX0_turned : ByteArray := prog_2_method_14_code
def yX0_turned : MethodName := ⟨RX0, "turned", "()LPuzzleParts$Board;"⟩
abbrev cX0_mirrored : ByteArray := prog_2_method_15_code
def yX0_mirrored : MethodName := ⟨RX0, "mirrored", "()LPuzzleParts$Board;"⟩
abbrev cX0_without : ByteArray := prog_2_method_16_code
def yX0_without : MethodName := ⟨RX0, "without", "(I)LPuzzleParts$Board;"⟩
abbrev cX0_renamed : ByteArray := prog_2_method_17_code
def yX0_renamed : MethodName := ⟨RX0, "renamed", "(I)LPuzzleParts$Board;"⟩
abbrev cX0_same : ByteArray := prog_2_method_18_code
def yX0_same : MethodName := ⟨RX0, "same", "(LPuzzleParts$Board;LPuzzleParts$Board;ZI)Z"⟩
abbrev cX0_codeAfter : ByteArray := prog_2_method_19_code
def yX0_codeAfter : MethodName := ⟨RX0, "codeAfter", "(LPuzzleParts$Board;III)I"⟩
def RX1 : String := "PuzzleParts$BoardText"
def TX1 : u_T := fun k => match k with
  | _ => ("", "", "", false)
def tyX1 : Nat → FieldType := fun k => match k with
  | _ => .int
abbrev wsX10 : List Cond := u_ws RX1 TX1 0
theorem nmX1 : ∀ a, a < 0 → ∀ b, b < 0 → a ≠ b → (TX1 a).2.1 ≠ (TX1 b).2.1 := by decide +kernel
theorem tyX1_ok : ∀ k, k < 0 → parseFieldDescriptor (TX1 k).2.2.1 = some (tyX1 k) := by decide +kernel
abbrev cX1_faultOf : ByteArray := prog_3_method_2_code
def yX1_faultOf : MethodName := ⟨RX1, "faultOf", "([II)I"⟩
abbrev cX1_boardOf : ByteArray := prog_3_method_3_code
def yX1_boardOf : MethodName := ⟨RX1, "boardOf", "([II)LPuzzleParts$Board;"⟩
abbrev cX1_wideOf : ByteArray := prog_3_method_4_code
def yX1_wideOf : MethodName := ⟨RX1, "wideOf", "([II)I"⟩
abbrev cX1_faceOf : ByteArray := prog_3_method_5_code
def yX1_faceOf : MethodName := ⟨RX1, "faceOf", "(I)I"⟩
abbrev cX1_codeOf : ByteArray := prog_3_method_6_code
def yX1_codeOf : MethodName := ⟨RX1, "codeOf", "(I)I"⟩
def RX2 : String := "PuzzleParts$Floor"
def TX2 : u_T := fun k => match k with
  | 0 => ("PuzzleParts$Floor", "boards", "[LPuzzleParts$Board;", true)
  | 1 => ("PuzzleParts$Floor", "lefts", "[I", true)
  | 2 => ("PuzzleParts$Floor", "tops", "[I", true)
  | _ => ("PuzzleParts$Floor", "laidCount", "I", false)
def tyX2 : Nat → FieldType := fun k => match k with
  | 0 => .array (.object "PuzzleParts$Board")
  | 1 => .array .int
  | 2 => .array .int
  | _ => .int
abbrev wsX20 : List Cond := u_ws RX2 TX2 4
theorem nmX2 : ∀ a, a < 4 → ∀ b, b < 4 → a ≠ b → (TX2 a).2.1 ≠ (TX2 b).2.1 := by decide +kernel
theorem tyX2_ok : ∀ k, k < 4 → parseFieldDescriptor (TX2 k).2.2.1 = some (tyX2 k) := by decide +kernel
abbrev cX2_init : ByteArray := prog_4_method_1_code
def yX2_init : MethodName := ⟨RX2, "<init>", "()V"⟩
abbrev cX2_add : ByteArray := prog_4_method_2_code
def yX2_add : MethodName := ⟨RX2, "add", "(LPuzzleParts$Board;II)I"⟩
abbrev cX2_hasFace : ByteArray := prog_4_method_3_code
def yX2_hasFace : MethodName := ⟨RX2, "hasFace", "(II)Z"⟩
abbrev cX2_firstOverlap : ByteArray := prog_4_method_4_code
def yX2_firstOverlap : MethodName := ⟨RX2, "firstOverlap", "()I"⟩
abbrev cX2_metBy : ByteArray := prog_4_method_5_code
def yX2_metBy : MethodName := ⟨RX2, "metBy", "(III)I"⟩
abbrev cX2_firstLeak : ByteArray := prog_4_method_6_code
def yX2_firstLeak : MethodName := ⟨RX2, "firstLeak", "()I"⟩
abbrev cX2_meetings : ByteArray := prog_4_method_7_code
def yX2_meetings : MethodName := ⟨RX2, "meetings", "()I"⟩
abbrev cX2_asNet : ByteArray := prog_4_method_8_code
def yX2_asNet : MethodName := ⟨RX2, "asNet", "()LPuzzleParts$Net;"⟩
abbrev cX2_facesOf : ByteArray := prog_4_method_9_code
def yX2_facesOf : MethodName := ⟨RX2, "facesOf", "(I)I"⟩
abbrev cX2_codeOn : ByteArray := prog_4_method_10_code
def yX2_codeOn : MethodName := ⟨RX2, "codeOn", "(III)I"⟩
abbrev cX2_overlaps : ByteArray := prog_4_method_11_code
def yX2_overlaps : MethodName := ⟨RX2, "overlaps", "(II)Z"⟩
abbrev cX2_distance : ByteArray := prog_4_method_12_code
def yX2_distance : MethodName := ⟨RX2, "distance", "(IIII)I"⟩
abbrev cX2_faceX : ByteArray := prog_4_method_13_code
def yX2_faceX : MethodName := ⟨RX2, "faceX", "(II)I"⟩
abbrev cX2_faceY : ByteArray := prog_4_method_14_code
def yX2_faceY : MethodName := ⟨RX2, "faceY", "(II)I"⟩
abbrev cX2_hasCrowdedFace : ByteArray := prog_4_method_15_code
def yX2_hasCrowdedFace : MethodName := ⟨RX2, "hasCrowdedFace", "(I)Z"⟩
abbrev cX2_hasOpenSide : ByteArray := prog_4_method_16_code
def yX2_hasOpenSide : MethodName := ⟨RX2, "hasOpenSide", "(I)Z"⟩
abbrev cX2_isOthers : ByteArray := prog_4_method_17_code
def yX2_isOthers : MethodName := ⟨RX2, "isOthers", "(III)Z"⟩
def RX3 : String := "PuzzleParts$FormulaText"
def TX3 : u_T := fun k => match k with
  | 0 => ("PuzzleParts$FormulaText", "text", "[I", true)
  | 1 => ("PuzzleParts$FormulaText", "length", "I", true)
  | 2 => ("PuzzleParts$FormulaText", "place", "I", false)
  | _ => ("PuzzleParts$FormulaText", "fault", "I", false)
def tyX3 : Nat → FieldType := fun k => match k with
  | 0 => .array .int
  | 1 => .int
  | 2 => .int
  | _ => .int
abbrev wsX30 : List Cond := u_ws RX3 TX3 4
theorem nmX3 : ∀ a, a < 4 → ∀ b, b < 4 → a ≠ b → (TX3 a).2.1 ≠ (TX3 b).2.1 := by decide +kernel
theorem tyX3_ok : ∀ k, k < 4 → parseFieldDescriptor (TX3 k).2.2.1 = some (tyX3 k) := by decide +kernel
abbrev cX3_init : ByteArray := prog_5_method_1_code
def yX3_init : MethodName := ⟨RX3, "<init>", "([II)V"⟩
abbrev cX3_truthOfAll : ByteArray := prog_5_method_2_code
def yX3_truthOfAll : MethodName := ⟨RX3, "truthOfAll", "()J"⟩
abbrev cX3_next : ByteArray := prog_5_method_3_code
def yX3_next : MethodName := ⟨RX3, "next", "()I"⟩
abbrev cX3_fail : ByteArray := prog_5_method_4_code
def yX3_fail : MethodName := ⟨RX3, "fail", "()J"⟩
abbrev cX3_readOr : ByteArray := prog_5_method_5_code
def yX3_readOr : MethodName := ⟨RX3, "readOr", "(I)J"⟩
abbrev cX3_readAnd : ByteArray := prog_5_method_6_code
def yX3_readAnd : MethodName := ⟨RX3, "readAnd", "(I)J"⟩
abbrev cX3_readUnit : ByteArray := prog_5_method_7_code
def yX3_readUnit : MethodName := ⟨RX3, "readUnit", "(I)J"⟩
abbrev cX3_readToBracket : ByteArray := prog_5_method_8_code
def yX3_readToBracket : MethodName := ⟨RX3, "readToBracket", "(I)J"⟩
def RX4 : String := "PuzzleParts$Net"
def TX4 : u_T := fun k => match k with
  | 0 => ("PuzzleParts$Net", "pieces", "[LPuzzleParts$Board;", true)
  | 1 => ("PuzzleParts$Net", "pieceCount", "I", false)
  | 2 => ("PuzzleParts$Net", "linkCount", "I", false)
  | 3 => ("PuzzleParts$Net", "links", "[I", true)
  | _ => ("PuzzleParts$Net", "slots", "[I", true)
def tyX4 : Nat → FieldType := fun k => match k with
  | 0 => .array (.object "PuzzleParts$Board")
  | 1 => .int
  | 2 => .int
  | 3 => .array .int
  | _ => .array .int
abbrev wsX40 : List Cond := u_ws RX4 TX4 5
theorem nmX4 : ∀ a, a < 5 → ∀ b, b < 5 → a ≠ b → (TX4 a).2.1 ≠ (TX4 b).2.1 := by decide +kernel
theorem tyX4_ok : ∀ k, k < 5 → parseFieldDescriptor (TX4 k).2.2.1 = some (tyX4 k) := by decide +kernel
abbrev cX4_init : ByteArray := prog_6_method_1_code
def yX4_init : MethodName := ⟨RX4, "<init>", "()V"⟩
abbrev cX4_addPiece : ByteArray := prog_6_method_2_code
def yX4_addPiece : MethodName := ⟨RX4, "addPiece", "(LPuzzleParts$Board;)I"⟩
abbrev cX4_addLink : ByteArray := prog_6_method_3_code
def yX4_addLink : MethodName := ⟨RX4, "addLink", "(II)I"⟩
abbrev cX4_hasFace : ByteArray := prog_6_method_4_code
def yX4_hasFace : MethodName := ⟨RX4, "hasFace", "(I)Z"⟩
abbrev cX4_isLinked : ByteArray := prog_6_method_5_code
def yX4_isLinked : MethodName := ⟨RX4, "isLinked", "(I)Z"⟩
abbrev cX4_freeCount : ByteArray := prog_6_method_6_code
def yX4_freeCount : MethodName := ⟨RX4, "freeCount", "()I"⟩
abbrev cX4_freeFace : ByteArray := prog_6_method_7_code
def yX4_freeFace : MethodName := ⟨RX4, "freeFace", "(I)I"⟩
abbrev cX4_letsState : ByteArray := prog_6_method_8_code
def yX4_letsState : MethodName := ⟨RX4, "letsState", "(I)Z"⟩
abbrev cX4_waysInState : ByteArray := prog_6_method_9_code
def yX4_waysInState : MethodName := ⟨RX4, "waysInState", "(I)I"⟩
abbrev cX4_placeOf : ByteArray := prog_6_method_10_code
def yX4_placeOf : MethodName := ⟨RX4, "placeOf", "(I)I"⟩
abbrev cX4_facesOf : ByteArray := prog_6_method_11_code
def yX4_facesOf : MethodName := ⟨RX4, "facesOf", "(I)I"⟩
abbrev cX4_sumInState : ByteArray := prog_6_method_12_code
def yX4_sumInState : MethodName := ⟨RX4, "sumInState", "(IZ)J"⟩
abbrev cX4_giveSlots : ByteArray := prog_6_method_13_code
def yX4_giveSlots : MethodName := ⟨RX4, "giveSlots", "()V"⟩
abbrev cX4_sumFrom : ByteArray := prog_6_method_14_code
def yX4_sumFrom : MethodName := ⟨RX4, "sumFrom", "(LPuzzleParts$Net;IIIZ)J"⟩
abbrev cX4_slotsOf : ByteArray := prog_6_method_15_code
def yX4_slotsOf : MethodName := ⟨RX4, "slotsOf", "(I)I"⟩
abbrev cX4_bitsIn : ByteArray := prog_6_method_16_code
def yX4_bitsIn : MethodName := ⟨RX4, "bitsIn", "(II)I"⟩
def RX5 : String := "PuzzleParts$Tilings"
def TX5 : u_T := fun k => match k with
  | _ => ("", "", "", false)
def tyX5 : Nat → FieldType := fun k => match k with
  | _ => .int
abbrev wsX50 : List Cond := u_ws RX5 TX5 0
theorem nmX5 : ∀ a, a < 0 → ∀ b, b < 0 → a ≠ b → (TX5 a).2.1 ≠ (TX5 b).2.1 := by decide +kernel
theorem tyX5_ok : ∀ k, k < 0 → parseFieldDescriptor (TX5 k).2.2.1 = some (tyX5 k) := by decide +kernel
abbrev cX5_isBalanced : ByteArray := prog_7_method_2_code
def yX5_isBalanced : MethodName := ⟨RX5, "isBalanced", "(I)Z"⟩
abbrev cX5_number : ByteArray := prog_7_method_3_code
def yX5_number : MethodName := ⟨RX5, "number", "(I)I"⟩
abbrev cX5_numberFrom : ByteArray := prog_7_method_4_code
def yX5_numberFrom : MethodName := ⟨RX5, "numberFrom", "(II)I"⟩
abbrev cX5_goesRight : ByteArray := prog_7_method_5_code
def yX5_goesRight : MethodName := ⟨RX5, "goesRight", "(II)Z"⟩
abbrev cX5_firstCoverOf : ByteArray := prog_7_method_6_code
def yX5_firstCoverOf : MethodName := ⟨RX5, "firstCoverOf", "(II)I"⟩
def RX6 : String := "PuzzleParts"
def TX6 : u_T := fun k => match k with
  | 0 => ("PuzzleParts", "tape", "[I", true)
  | 1 => ("PuzzleParts", "tapeLength", "I", false)
  | 2 => ("PuzzleParts", "parts", "[LPuzzleParts$Board;", true)
  | 3 => ("PuzzleParts", "partCount", "I", false)
  | 4 => ("PuzzleParts", "formulas", "[J", true)
  | 5 => ("PuzzleParts", "formulaCount", "I", false)
  | 6 => ("PuzzleParts", "nets", "[LPuzzleParts$Net;", true)
  | 7 => ("PuzzleParts", "netCount", "I", false)
  | 8 => ("PuzzleParts", "row", "[I", true)
  | 9 => ("PuzzleParts", "rowLength", "I", false)
  | 10 => ("PuzzleParts", "floor", "LPuzzleParts$Floor;", true)
  | _ => ("PuzzleParts", "refusals", "[I", true)
def tyX6 : Nat → FieldType := fun k => match k with
  | 0 => .array .int
  | 1 => .int
  | 2 => .array (.object "PuzzleParts$Board")
  | 3 => .int
  | 4 => .array .long
  | 5 => .int
  | 6 => .array (.object "PuzzleParts$Net")
  | 7 => .int
  | 8 => .array .int
  | 9 => .int
  | 10 => .object "PuzzleParts$Floor"
  | _ => .array .int
abbrev wsX60 : List Cond := u_ws RX6 TX6 12
theorem nmX6 : ∀ a, a < 12 → ∀ b, b < 12 → a ≠ b → (TX6 a).2.1 ≠ (TX6 b).2.1 := by decide +kernel
theorem tyX6_ok : ∀ k, k < 12 → parseFieldDescriptor (TX6 k).2.2.1 = some (tyX6 k) := by decide +kernel
abbrev cX6_init : ByteArray := prog_1_method_1_code
def yX6_init : MethodName := ⟨RX6, "<init>", "()V"⟩
abbrev cX6_feed : ByteArray := prog_1_method_2_code
def yX6_feed : MethodName := ⟨RX6, "feed", "(IJ)I"⟩
abbrev cX6_part : ByteArray := prog_1_method_3_code
def yX6_part : MethodName := ⟨RX6, "part", "()I"⟩
abbrev cX6_partOf : ByteArray := prog_1_method_4_code
def yX6_partOf : MethodName := ⟨RX6, "partOf", "(II)I"⟩
abbrev cX6_cell : ByteArray := prog_1_method_5_code
def yX6_cell : MethodName := ⟨RX6, "cell", "(II)I"⟩
abbrev cX6_lets : ByteArray := prog_1_method_6_code
def yX6_lets : MethodName := ⟨RX6, "lets", "(I)J"⟩
abbrev cX6_ways : ByteArray := prog_1_method_7_code
def yX6_ways : MethodName := ⟨RX6, "ways", "(II)I"⟩
abbrev cX6_covered : ByteArray := prog_1_method_8_code
def yX6_covered : MethodName := ⟨RX6, "covered", "(III)I"⟩
abbrev cX6_barred : ByteArray := prog_1_method_9_code
def yX6_barred : MethodName := ⟨RX6, "barred", "(I)J"⟩
abbrev cX6_formula : ByteArray := prog_1_method_10_code
def yX6_formula : MethodName := ⟨RX6, "formula", "()I"⟩
abbrev cX6_means : ByteArray := prog_1_method_11_code
def yX6_means : MethodName := ⟨RX6, "means", "(II)J"⟩
abbrev cX6_does : ByteArray := prog_1_method_12_code
def yX6_does : MethodName := ⟨RX6, "does", "(II)I"⟩
abbrev cX6_misses : ByteArray := prog_1_method_13_code
def yX6_misses : MethodName := ⟨RX6, "misses", "(II)I"⟩
abbrev cX6_turn : ByteArray := prog_1_method_14_code
def yX6_turn : MethodName := ⟨RX6, "turn", "(I)I"⟩
abbrev cX6_mirror : ByteArray := prog_1_method_15_code
def yX6_mirror : MethodName := ⟨RX6, "mirror", "(I)I"⟩
abbrev cX6_less : ByteArray := prog_1_method_16_code
def yX6_less : MethodName := ⟨RX6, "less", "(II)I"⟩
abbrev cX6_rename : ByteArray := prog_1_method_17_code
def yX6_rename : MethodName := ⟨RX6, "rename", "(II)I"⟩
abbrev cX6_alike : ByteArray := prog_1_method_18_code
def yX6_alike : MethodName := ⟨RX6, "alike", "(II)I"⟩
abbrev cX6_needless : ByteArray := prog_1_method_19_code
def yX6_needless : MethodName := ⟨RX6, "needless", "(I)I"⟩
abbrev cX6_put : ByteArray := prog_1_method_20_code
def yX6_put : MethodName := ⟨RX6, "put", "(I)I"⟩
abbrev cX6_find : ByteArray := prog_1_method_21_code
def yX6_find : MethodName := ⟨RX6, "find", "(III)I"⟩
abbrev cX6_net : ByteArray := prog_1_method_22_code
def yX6_net : MethodName := ⟨RX6, "net", "()I"⟩
abbrev cX6_piece : ByteArray := prog_1_method_23_code
def yX6_piece : MethodName := ⟨RX6, "piece", "(II)I"⟩
abbrev cX6_link : ByteArray := prog_1_method_24_code
def yX6_link : MethodName := ⟨RX6, "link", "(III)I"⟩
abbrev cX6_free : ByteArray := prog_1_method_25_code
def yX6_free : MethodName := ⟨RX6, "free", "(II)I"⟩
abbrev cX6_netLets : ByteArray := prog_1_method_26_code
def yX6_netLets : MethodName := ⟨RX6, "netLets", "(II)I"⟩
abbrev cX6_howMany : ByteArray := prog_1_method_27_code
def yX6_howMany : MethodName := ⟨RX6, "howMany", "(II)I"⟩
abbrev cX6_netDoes : ByteArray := prog_1_method_28_code
def yX6_netDoes : MethodName := ⟨RX6, "netDoes", "(II)I"⟩
abbrev cX6_lay : ByteArray := prog_1_method_29_code
def yX6_lay : MethodName := ⟨RX6, "lay", "(III)I"⟩
abbrev cX6_overlap : ByteArray := prog_1_method_30_code
def yX6_overlap : MethodName := ⟨RX6, "overlap", "()I"⟩
abbrev cX6_meets : ByteArray := prog_1_method_31_code
def yX6_meets : MethodName := ⟨RX6, "meets", "(II)I"⟩
abbrev cX6_leak : ByteArray := prog_1_method_32_code
def yX6_leak : MethodName := ⟨RX6, "leak", "()I"⟩
abbrev cX6_floorNet : ByteArray := prog_1_method_33_code
def yX6_floorNet : MethodName := ⟨RX6, "floorNet", "()I"⟩
abbrev cX6_clear : ByteArray := prog_1_method_34_code
def yX6_clear : MethodName := ⟨RX6, "clear", "()I"⟩
abbrev cX6_count : ByteArray := prog_1_method_35_code
def yX6_count : MethodName := ⟨RX6, "count", "(I)I"⟩
abbrev cX6_refuse : ByteArray := prog_1_method_36_code
def yX6_refuse : MethodName := ⟨RX6, "refuse", "(I)I"⟩
abbrev cX6_refuseLong : ByteArray := prog_1_method_37_code
def yX6_refuseLong : MethodName := ⟨RX6, "refuseLong", "(I)J"⟩
abbrev cX6_partAt : ByteArray := prog_1_method_38_code
def yX6_partAt : MethodName := ⟨RX6, "partAt", "(I)LPuzzleParts$Board;"⟩
abbrev cX6_netAt : ByteArray := prog_1_method_39_code
def yX6_netAt : MethodName := ⟨RX6, "netAt", "(I)LPuzzleParts$Net;"⟩
abbrev cX6_isFormula : ByteArray := prog_1_method_40_code
def yX6_isFormula : MethodName := ⟨RX6, "isFormula", "(I)Z"⟩
abbrev cX6_keep : ByteArray := prog_1_method_41_code
def yX6_keep : MethodName := ⟨RX6, "keep", "(LPuzzleParts$Board;)I"⟩
abbrev cX6_keepNet : ByteArray := prog_1_method_42_code
def yX6_keepNet : MethodName := ⟨RX6, "keepNet", "(LPuzzleParts$Net;)I"⟩
abbrev cX6_meaning : ByteArray := prog_1_method_43_code
def yX6_meaning : MethodName := ⟨RX6, "meaning", "(II)J"⟩
abbrev cX6_refusalOfNetState : ByteArray := prog_1_method_44_code
def yX6_refusalOfNetState : MethodName := ⟨RX6, "refusalOfNetState", "(II)I"⟩
abbrev cX6_isPermutation : ByteArray := prog_1_method_45_code
def yX6_isPermutation : MethodName := ⟨RX6, "isPermutation", "(II)Z"⟩
abbrev cX6_rowStandsOn : ByteArray := prog_1_method_46_code
def yX6_rowStandsOn : MethodName := ⟨RX6, "rowStandsOn", "(II)Z"⟩
abbrev cX6_boardOfRow : ByteArray := prog_1_method_47_code
def yX6_boardOfRow : MethodName := ⟨RX6, "boardOfRow", "(II)LPuzzleParts$Board;"⟩
abbrev cX6_firstThatLets : ByteArray := prog_1_method_48_code
def yX6_firstThatLets : MethodName := ⟨RX6, "firstThatLets", "(LPuzzleParts$Board;J)LPuzzleParts$Board;"⟩
def RX7 : String := "PuzzlePartsModel"
def TX7 : u_T := fun k => match k with
  | 0 => ("PuzzlePartsModel", "refusals", "[I", true)
  | 1 => ("PuzzlePartsModel", "wide", "[I", true)
  | 2 => ("PuzzlePartsModel", "high", "[I", true)
  | 3 => ("PuzzlePartsModel", "faces", "[I", true)
  | 4 => ("PuzzlePartsModel", "cells", "[I", true)
  | 5 => ("PuzzlePartsModel", "formula", "[I", true)
  | 6 => ("PuzzlePartsModel", "formulaSize", "[I", true)
  | 7 => ("PuzzlePartsModel", "pieces", "[I", true)
  | 8 => ("PuzzlePartsModel", "links", "[I", true)
  | 9 => ("PuzzlePartsModel", "piecePart", "[I", true)
  | 10 => ("PuzzlePartsModel", "linkA", "[I", true)
  | 11 => ("PuzzlePartsModel", "linkB", "[I", true)
  | 12 => ("PuzzlePartsModel", "laidPart", "[I", true)
  | 13 => ("PuzzlePartsModel", "laidX", "[I", true)
  | 14 => ("PuzzlePartsModel", "laidY", "[I", true)
  | 15 => ("PuzzlePartsModel", "row", "[I", true)
  | 16 => ("PuzzlePartsModel", "parts", "I", false)
  | 17 => ("PuzzlePartsModel", "formulas", "I", false)
  | 18 => ("PuzzlePartsModel", "nets", "I", false)
  | 19 => ("PuzzlePartsModel", "laid", "I", false)
  | 20 => ("PuzzlePartsModel", "rowed", "I", false)
  | 21 => ("PuzzlePartsModel", "tape", "[I", true)
  | 22 => ("PuzzlePartsModel", "taped", "I", false)
  | 23 => ("PuzzlePartsModel", "pos", "I", false)
  | 24 => ("PuzzlePartsModel", "size", "I", false)
  | 25 => ("PuzzlePartsModel", "base", "I", false)
  | 26 => ("PuzzlePartsModel", "deep", "I", false)
  | 27 => ("PuzzlePartsModel", "asked", "I", false)
  | 28 => ("PuzzlePartsModel", "text", "[I", false)
  | 29 => ("PuzzlePartsModel", "isWell", "Z", false)
  | 30 => ("PuzzlePartsModel", "pieceState", "[I", true)
  | _ => ("PuzzlePartsModel", "wayOf", "[I", true)
def tyX7 : Nat → FieldType := fun k => match k with
  | 0 => .array .int
  | 1 => .array .int
  | 2 => .array .int
  | 3 => .array .int
  | 4 => .array .int
  | 5 => .array .int
  | 6 => .array .int
  | 7 => .array .int
  | 8 => .array .int
  | 9 => .array .int
  | 10 => .array .int
  | 11 => .array .int
  | 12 => .array .int
  | 13 => .array .int
  | 14 => .array .int
  | 15 => .array .int
  | 16 => .int
  | 17 => .int
  | 18 => .int
  | 19 => .int
  | 20 => .int
  | 21 => .array .int
  | 22 => .int
  | 23 => .int
  | 24 => .int
  | 25 => .int
  | 26 => .int
  | 27 => .int
  | 28 => .array .int
  | 29 => .boolean
  | 30 => .array .int
  | _ => .array .int
abbrev wsX70 : List Cond := u_ws RX7 TX7 32
theorem nmX7 : ∀ a, a < 32 → ∀ b, b < 32 → a ≠ b → (TX7 a).2.1 ≠ (TX7 b).2.1 := by decide +kernel
theorem tyX7_ok : ∀ k, k < 32 → parseFieldDescriptor (TX7 k).2.2.1 = some (tyX7 k) := by decide +kernel
abbrev cX7_init : ByteArray := prog_9_method_1_code
def yX7_init : MethodName := ⟨RX7, "<init>", "()V"⟩
abbrev cX7_refuse : ByteArray := prog_9_method_2_code
def yX7_refuse : MethodName := ⟨RX7, "refuse", "(I)I"⟩
abbrev cX7_refuseFar : ByteArray := prog_9_method_3_code
def yX7_refuseFar : MethodName := ⟨RX7, "refuseFar", "(I)J"⟩
abbrev cX7_isIn : ByteArray := prog_9_method_4_code
def yX7_isIn : MethodName := ⟨RX7, "isIn", "(II)Z"⟩
abbrev cX7_within : ByteArray := prog_9_method_5_code
def yX7_within : MethodName := ⟨RX7, "within", "(III)I"⟩
abbrev cX7_isPart : ByteArray := prog_9_method_6_code
def yX7_isPart : MethodName := ⟨RX7, "isPart", "(I)Z"⟩
abbrev cX7_at : ByteArray := prog_9_method_7_code
def yX7_at : MethodName := ⟨RX7, "at", "(III)I"⟩
abbrev cX7_puts : ByteArray := prog_9_method_8_code
def yX7_puts : MethodName := ⟨RX7, "puts", "(IIII)V"⟩
abbrev cX7_isCell : ByteArray := prog_9_method_9_code
def yX7_isCell : MethodName := ⟨RX7, "isCell", "(II)Z"⟩
abbrev cX7_begins : ByteArray := prog_9_method_10_code
def yX7_begins : MethodName := ⟨RX7, "begins", "(IIII)V"⟩
abbrev cX7_feed : ByteArray := prog_9_method_11_code
def yX7_feed : MethodName := ⟨RX7, "feed", "(IJ)I"⟩
abbrev cX7_readsBoard : ByteArray := prog_9_method_12_code
def yX7_readsBoard : MethodName := ⟨RX7, "readsBoard", "(I)Z"⟩
abbrev cX7_part : ByteArray := prog_9_method_13_code
def yX7_part : MethodName := ⟨RX7, "part", "()I"⟩
abbrev cX7_open : ByteArray := prog_9_method_14_code
def yX7_open : MethodName := ⟨RX7, "open", "(I)I"⟩
abbrev cX7_partOf : ByteArray := prog_9_method_15_code
def yX7_partOf : MethodName := ⟨RX7, "partOf", "(II)I"⟩
abbrev cX7_cell : ByteArray := prog_9_method_16_code
def yX7_cell : MethodName := ⟨RX7, "cell", "(II)I"⟩
abbrev cX7_toCover : ByteArray := prog_9_method_17_code
def yX7_toCover : MethodName := ⟨RX7, "toCover", "(II)I"⟩
abbrev cX7_first : ByteArray := prog_9_method_18_code
def yX7_first : MethodName := ⟨RX7, "first", "(I)I"⟩
abbrev cX7_isRight : ByteArray := prog_9_method_19_code
def yX7_isRight : MethodName := ⟨RX7, "isRight", "(II)Z"⟩
abbrev cX7_isDown : ByteArray := prog_9_method_20_code
def yX7_isDown : MethodName := ⟨RX7, "isDown", "(II)Z"⟩
abbrev cX7_tilings : ByteArray := prog_9_method_21_code
def yX7_tilings : MethodName := ⟨RX7, "tilings", "(I)I"⟩
abbrev cX7_isTiled : ByteArray := prog_9_method_22_code
def yX7_isTiled : MethodName := ⟨RX7, "isTiled", "(I)Z"⟩
abbrev cX7_states : ByteArray := prog_9_method_23_code
def yX7_states : MethodName := ⟨RX7, "states", "(I)I"⟩
abbrev cX7_letsOf : ByteArray := prog_9_method_24_code
def yX7_letsOf : MethodName := ⟨RX7, "letsOf", "(I)J"⟩
abbrev cX7_lets : ByteArray := prog_9_method_25_code
def yX7_lets : MethodName := ⟨RX7, "lets", "(I)J"⟩
abbrev cX7_ways : ByteArray := prog_9_method_26_code
def yX7_ways : MethodName := ⟨RX7, "ways", "(II)I"⟩
abbrev cX7_covered : ByteArray := prog_9_method_27_code
def yX7_covered : MethodName := ⟨RX7, "covered", "(III)I"⟩
abbrev cX7_barred : ByteArray := prog_9_method_28_code
def yX7_barred : MethodName := ⟨RX7, "barred", "(I)J"⟩
abbrev cX7_sign : ByteArray := prog_9_method_29_code
def yX7_sign : MethodName := ⟨RX7, "sign", "()I"⟩
abbrev cX7_takes : ByteArray := prog_9_method_30_code
def yX7_takes : MethodName := ⟨RX7, "takes", "(I)Z"⟩
abbrev cX7_or : ByteArray := prog_9_method_31_code
def yX7_or : MethodName := ⟨RX7, "or", "()Z"⟩
abbrev cX7_and : ByteArray := prog_9_method_32_code
def yX7_and : MethodName := ⟨RX7, "and", "()Z"⟩
abbrev cX7_breaks : ByteArray := prog_9_method_33_code
def yX7_breaks : MethodName := ⟨RX7, "breaks", "()Z"⟩
abbrev cX7_unit : ByteArray := prog_9_method_34_code
def yX7_unit : MethodName := ⟨RX7, "unit", "()Z"⟩
abbrev cX7_goesThrough : ByteArray := prog_9_method_35_code
def yX7_goesThrough : MethodName := ⟨RX7, "goesThrough", "([IIII)Z"⟩
abbrev cX7_formula : ByteArray := prog_9_method_36_code
def yX7_formula : MethodName := ⟨RX7, "formula", "()I"⟩
abbrev cX7_isFormula : ByteArray := prog_9_method_37_code
def yX7_isFormula : MethodName := ⟨RX7, "isFormula", "(I)Z"⟩
abbrev cX7_isTrue : ByteArray := prog_9_method_38_code
def yX7_isTrue : MethodName := ⟨RX7, "isTrue", "(II)Z"⟩
abbrev cX7_meansOf : ByteArray := prog_9_method_39_code
def yX7_meansOf : MethodName := ⟨RX7, "meansOf", "(II)J"⟩
abbrev cX7_means : ByteArray := prog_9_method_40_code
def yX7_means : MethodName := ⟨RX7, "means", "(II)J"⟩
abbrev cX7_does : ByteArray := prog_9_method_41_code
def yX7_does : MethodName := ⟨RX7, "does", "(II)I"⟩
abbrev cX7_misses : ByteArray := prog_9_method_42_code
def yX7_misses : MethodName := ⟨RX7, "misses", "(II)I"⟩
abbrev cX7_turned : ByteArray := prog_9_method_43_code
def yX7_turned : MethodName := ⟨RX7, "turned", "(IIIZI)I"⟩
abbrev cX7_copies : ByteArray := prog_9_method_44_code
def yX7_copies : MethodName := ⟨RX7, "copies", "(IZI)I"⟩
abbrev cX7_turn : ByteArray := prog_9_method_45_code
def yX7_turn : MethodName := ⟨RX7, "turn", "(I)I"⟩
abbrev cX7_mirror : ByteArray := prog_9_method_46_code
def yX7_mirror : MethodName := ⟨RX7, "mirror", "(I)I"⟩
abbrev cX7_less : ByteArray := prog_9_method_47_code
def yX7_less : MethodName := ⟨RX7, "less", "(II)I"⟩
abbrev cX7_rename : ByteArray := prog_9_method_48_code
def yX7_rename : MethodName := ⟨RX7, "rename", "(II)I"⟩
abbrev cX7_isAs : ByteArray := prog_9_method_49_code
def yX7_isAs : MethodName := ⟨RX7, "isAs", "(IIZI)Z"⟩
abbrev cX7_alike : ByteArray := prog_9_method_50_code
def yX7_alike : MethodName := ⟨RX7, "alike", "(II)I"⟩
abbrev cX7_needless : ByteArray := prog_9_method_51_code
def yX7_needless : MethodName := ⟨RX7, "needless", "(I)I"⟩
abbrev cX7_put : ByteArray := prog_9_method_52_code
def yX7_put : MethodName := ⟨RX7, "put", "(I)I"⟩
abbrev cX7_isRow : ByteArray := prog_9_method_53_code
def yX7_isRow : MethodName := ⟨RX7, "isRow", "(II)Z"⟩
abbrev cX7_faceAt : ByteArray := prog_9_method_54_code
def yX7_faceAt : MethodName := ⟨RX7, "faceAt", "(I)I"⟩
abbrev cX7_lays : ByteArray := prog_9_method_55_code
def yX7_lays : MethodName := ⟨RX7, "lays", "(IIII)V"⟩
abbrev cX7_find : ByteArray := prog_9_method_56_code
def yX7_find : MethodName := ⟨RX7, "find", "(III)I"⟩
abbrev cX7_isNet : ByteArray := prog_9_method_57_code
def yX7_isNet : MethodName := ⟨RX7, "isNet", "(I)Z"⟩
abbrev cX7_net : ByteArray := prog_9_method_58_code
def yX7_net : MethodName := ⟨RX7, "net", "()I"⟩
abbrev cX7_partAt : ByteArray := prog_9_method_59_code
def yX7_partAt : MethodName := ⟨RX7, "partAt", "(II)I"⟩
abbrev cX7_piece : ByteArray := prog_9_method_60_code
def yX7_piece : MethodName := ⟨RX7, "piece", "(II)I"⟩
abbrev cX7_isFace : ByteArray := prog_9_method_61_code
def yX7_isFace : MethodName := ⟨RX7, "isFace", "(II)Z"⟩
abbrev cX7_linkOf : ByteArray := prog_9_method_62_code
def yX7_linkOf : MethodName := ⟨RX7, "linkOf", "(II)I"⟩
abbrev cX7_link : ByteArray := prog_9_method_63_code
def yX7_link : MethodName := ⟨RX7, "link", "(III)I"⟩
abbrev cX7_freeOf : ByteArray := prog_9_method_64_code
def yX7_freeOf : MethodName := ⟨RX7, "freeOf", "(II)I"⟩
abbrev cX7_free : ByteArray := prog_9_method_65_code
def yX7_free : MethodName := ⟨RX7, "free", "(II)I"⟩
abbrev cX7_states_ : ByteArray := prog_9_method_66_code
def yX7_states_ : MethodName := ⟨RX7, "states", "(III)V"⟩
abbrev cX7_findWays : ByteArray := prog_9_method_67_code
def yX7_findWays : MethodName := ⟨RX7, "findWays", "(I)V"⟩
abbrev cX7_howOf : ByteArray := prog_9_method_68_code
def yX7_howOf : MethodName := ⟨RX7, "howOf", "(II)J"⟩
abbrev cX7_isLet : ByteArray := prog_9_method_69_code
def yX7_isLet : MethodName := ⟨RX7, "isLet", "(II)Z"⟩
abbrev cX7_wrongState : ByteArray := prog_9_method_70_code
def yX7_wrongState : MethodName := ⟨RX7, "wrongState", "(II)I"⟩
abbrev cX7_netLets : ByteArray := prog_9_method_71_code
def yX7_netLets : MethodName := ⟨RX7, "netLets", "(II)I"⟩
abbrev cX7_howMany : ByteArray := prog_9_method_72_code
def yX7_howMany : MethodName := ⟨RX7, "howMany", "(II)I"⟩
abbrev cX7_netDoes : ByteArray := prog_9_method_73_code
def yX7_netDoes : MethodName := ⟨RX7, "netDoes", "(II)I"⟩
abbrev cX7_lay : ByteArray := prog_9_method_74_code
def yX7_lay : MethodName := ⟨RX7, "lay", "(III)I"⟩
abbrev cX7_on : ByteArray := prog_9_method_75_code
def yX7_on : MethodName := ⟨RX7, "on", "(III)I"⟩
abbrev cX7_overlapped : ByteArray := prog_9_method_76_code
def yX7_overlapped : MethodName := ⟨RX7, "overlapped", "()I"⟩
abbrev cX7_overlap : ByteArray := prog_9_method_77_code
def yX7_overlap : MethodName := ⟨RX7, "overlap", "()I"⟩
abbrev cX7_place : ByteArray := prog_9_method_78_code
def yX7_place : MethodName := ⟨RX7, "place", "(II)I"⟩
abbrev cX7_isBeside : ByteArray := prog_9_method_79_code
def yX7_isBeside : MethodName := ⟨RX7, "isBeside", "(II)Z"⟩
abbrev cX7_met : ByteArray := prog_9_method_80_code
def yX7_met : MethodName := ⟨RX7, "met", "(III)I"⟩
abbrev cX7_meets : ByteArray := prog_9_method_81_code
def yX7_meets : MethodName := ⟨RX7, "meets", "(II)I"⟩
abbrev cX7_isOther : ByteArray := prog_9_method_82_code
def yX7_isOther : MethodName := ⟨RX7, "isOther", "(III)Z"⟩
abbrev cX7_leaks : ByteArray := prog_9_method_83_code
def yX7_leaks : MethodName := ⟨RX7, "leaks", "()I"⟩
abbrev cX7_leak : ByteArray := prog_9_method_84_code
def yX7_leak : MethodName := ⟨RX7, "leak", "()I"⟩
abbrev cX7_meetings : ByteArray := prog_9_method_85_code
def yX7_meetings : MethodName := ⟨RX7, "meetings", "()I"⟩
abbrev cX7_floorNet : ByteArray := prog_9_method_86_code
def yX7_floorNet : MethodName := ⟨RX7, "floorNet", "()I"⟩
abbrev cX7_clear : ByteArray := prog_9_method_87_code
def yX7_clear : MethodName := ⟨RX7, "clear", "()I"⟩
abbrev cX7_count : ByteArray := prog_9_method_88_code
def yX7_count : MethodName := ⟨RX7, "count", "(I)I"⟩
def RJ6 : String := "java/lang/Integer"
def TJ6 : u_T := fun k => match k with
  | _ => ("", "", "", false)
def tyJ6 : Nat → FieldType := fun k => match k with
  | _ => .int
abbrev wsJ60 : List Cond := u_ws RJ6 TJ6 0
theorem nmJ6 : ∀ a, a < 0 → ∀ b, b < 0 → a ≠ b → (TJ6 a).2.1 ≠ (TJ6 b).2.1 := by decide +kernel
theorem tyJ6_ok : ∀ k, k < 0 → parseFieldDescriptor (TJ6 k).2.2.1 = some (tyJ6 k) := by decide +kernel
abbrev cJ6_bitCount_0f7a4 : ByteArray := prog_10_method_49_code
def yJ6_bitCount_0f7a4 : MethodName := ⟨RJ6, "bitCount", "(I)I"⟩
def RJ9 : String := "java/lang/Math"
def TJ9 : u_T := fun k => match k with
  | _ => ("", "", "", false)
def tyJ9 : Nat → FieldType := fun k => match k with
  | _ => .int
abbrev wsJ90 : List Cond := u_ws RJ9 TJ9 0
theorem nmJ9 : ∀ a, a < 0 → ∀ b, b < 0 → a ≠ b → (TJ9 a).2.1 ≠ (TJ9 b).2.1 := by decide +kernel
theorem tyJ9_ok : ∀ k, k < 0 → parseFieldDescriptor (TJ9 k).2.2.1 = some (tyJ9 k) := by decide +kernel
abbrev cJ9_abs_0f7a4 : ByteArray := prog_11_method_59_code
def yJ9_abs_0f7a4 : MethodName := ⟨RJ9, "abs", "(I)I"⟩
def RL : String := "PuzzlePartsLaw"
abbrev cL_law : ByteArray := code
def yL_law : MethodName := ⟨RL, "law", "([I)Z"⟩
theorem dX0_init_0 : decode cX0_init 0 = .ok (.aload_n 0, 1) := by decide +kernel
theorem dX0_init_1 : decode cX0_init 1 = .ok (.invokespecial 3, 3) := by decide +kernel
theorem dX0_init_4 : decode cX0_init 4 = .ok (.aload_n 0, 1) := by decide +kernel
theorem dX0_init_5 : decode cX0_init 5 = .ok (.bipush 20, 2) := by decide +kernel
theorem dX0_init_7 : decode cX0_init 7 = .ok (.newarray .int, 2) := by decide +kernel
theorem dX0_init_9 : decode cX0_init 9 = .ok (.putfield 9, 3) := by decide +kernel
theorem dX0_init_12 : decode cX0_init 12 = .ok (.aload_n 0, 1) := by decide +kernel
theorem dX0_init_13 : decode cX0_init 13 = .ok (.iconst 5, 1) := by decide +kernel
theorem dX0_init_14 : decode cX0_init 14 = .ok (.newarray .int, 2) := by decide +kernel
theorem dX0_init_16 : decode cX0_init 16 = .ok (.putfield 13, 3) := by decide +kernel
theorem dX0_init_19 : decode cX0_init 19 = .ok (.aload_n 0, 1) := by decide +kernel
theorem dX0_init_20 : decode cX0_init 20 = .ok (.bipush 32, 2) := by decide +kernel
theorem dX0_init_22 : decode cX0_init 22 = .ok (.newarray .int, 2) := by decide +kernel
theorem dX0_init_24 : decode cX0_init 24 = .ok (.putfield 16, 3) := by decide +kernel
theorem dX0_init_27 : decode cX0_init 27 = .ok (.aload_n 0, 1) := by decide +kernel
theorem dX0_init_28 : decode cX0_init 28 = .ok (.iload_n 1, 1) := by decide +kernel
theorem dX0_init_29 : decode cX0_init 29 = .ok (.putfield 19, 3) := by decide +kernel
theorem dX0_init_32 : decode cX0_init 32 = .ok (.aload_n 0, 1) := by decide +kernel
theorem dX0_init_33 : decode cX0_init 33 = .ok (.iload_n 2, 1) := by decide +kernel
theorem dX0_init_34 : decode cX0_init 34 = .ok (.putfield 23, 3) := by decide +kernel
theorem dX0_init_37 : decode cX0_init 37 = .ok (.return_, 1) := by decide +kernel
theorem dX0_bitOf_0 : decode cX0_bitOf 0 = .ok (.iconst 1, 1) := by decide +kernel
theorem dX0_bitOf_1 : decode cX0_bitOf 1 = .ok (.iconst 5, 1) := by decide +kernel
theorem dX0_bitOf_2 : decode cX0_bitOf 2 = .ok (.iload_n 1, 1) := by decide +kernel
theorem dX0_bitOf_3 : decode cX0_bitOf 3 = .ok (.imul, 1) := by decide +kernel
theorem dX0_bitOf_4 : decode cX0_bitOf 4 = .ok (.iload_n 0, 1) := by decide +kernel
theorem dX0_bitOf_5 : decode cX0_bitOf 5 = .ok (.iadd, 1) := by decide +kernel
theorem dX0_bitOf_6 : decode cX0_bitOf 6 = .ok (.ishl, 1) := by decide +kernel
theorem dX0_bitOf_7 : decode cX0_bitOf 7 = .ok (.ireturn, 1) := by decide +kernel
theorem dX0_set_0 : decode cX0_set 0 = .ok (.aload_n 0, 1) := by decide +kernel
theorem dX0_set_1 : decode cX0_set 1 = .ok (.iload_n 1, 1) := by decide +kernel
theorem dX0_set_2 : decode cX0_set 2 = .ok (.iload_n 2, 1) := by decide +kernel
theorem dX0_set_3 : decode cX0_set 3 = .ok (.invokevirtual 26, 3) := by decide +kernel
theorem dX0_set_6 : decode cX0_set 6 = .ok (.ifCond .ne 4, 3) := by decide +kernel
theorem dX0_set_9 : decode cX0_set 9 = .ok (.return_, 1) := by decide +kernel
theorem dX0_set_10 : decode cX0_set 10 = .ok (.iconst 5, 1) := by decide +kernel
theorem dX0_set_11 : decode cX0_set 11 = .ok (.iload_n 2, 1) := by decide +kernel
theorem dX0_set_12 : decode cX0_set 12 = .ok (.imul, 1) := by decide +kernel
theorem dX0_set_13 : decode cX0_set 13 = .ok (.iload_n 1, 1) := by decide +kernel
theorem dX0_set_14 : decode cX0_set 14 = .ok (.iadd, 1) := by decide +kernel
theorem dX0_set_15 : decode cX0_set 15 = .ok (.istore 4, 2) := by decide +kernel
theorem dX0_set_17 : decode cX0_set 17 = .ok (.aload_n 0, 1) := by decide +kernel
theorem dX0_set_18 : decode cX0_set 18 = .ok (.getfield 9, 3) := by decide +kernel
theorem dX0_set_21 : decode cX0_set 21 = .ok (.iload 4, 2) := by decide +kernel
theorem dX0_set_23 : decode cX0_set 23 = .ok (.iload_n 3, 1) := by decide +kernel
theorem dX0_set_24 : decode cX0_set 24 = .ok (.iastore, 1) := by decide +kernel
theorem dX0_set_25 : decode cX0_set 25 = .ok (.iload_n 3, 1) := by decide +kernel
theorem dX0_set_26 : decode cX0_set 26 = .ok (.iconst 1, 1) := by decide +kernel
theorem dX0_set_27 : decode cX0_set 27 = .ok (.if_icmp .ne 16, 3) := by decide +kernel
theorem dX0_set_30 : decode cX0_set 30 = .ok (.aload_n 0, 1) := by decide +kernel
theorem dX0_set_31 : decode cX0_set 31 = .ok (.dup, 1) := by decide +kernel
theorem dX0_set_32 : decode cX0_set 32 = .ok (.getfield 30, 3) := by decide +kernel
theorem dX0_set_35 : decode cX0_set 35 = .ok (.iconst 1, 1) := by decide +kernel
theorem dX0_set_36 : decode cX0_set 36 = .ok (.iload 4, 2) := by decide +kernel
theorem dX0_set_38 : decode cX0_set 38 = .ok (.ishl, 1) := by decide +kernel
theorem dX0_set_39 : decode cX0_set 39 = .ok (.ior, 1) := by decide +kernel
theorem dX0_set_40 : decode cX0_set 40 = .ok (.putfield 30, 3) := by decide +kernel
theorem dX0_set_43 : decode cX0_set 43 = .ok (.iload_n 3, 1) := by decide +kernel
theorem dX0_set_44 : decode cX0_set 44 = .ok (.bipush 10, 2) := by decide +kernel
theorem dX0_set_46 : decode cX0_set 46 = .ok (.isub, 1) := by decide +kernel
theorem dX0_set_47 : decode cX0_set 47 = .ok (.istore 5, 2) := by decide +kernel
theorem dX0_set_49 : decode cX0_set 49 = .ok (.iload 5, 2) := by decide +kernel
theorem dX0_set_51 : decode cX0_set 51 = .ok (.ifCond .lt 28, 3) := by decide +kernel
theorem dX0_set_54 : decode cX0_set 54 = .ok (.iload 5, 2) := by decide +kernel
theorem dX0_set_56 : decode cX0_set 56 = .ok (.iconst 5, 1) := by decide +kernel
theorem dX0_set_57 : decode cX0_set 57 = .ok (.if_icmp .ge 22, 3) := by decide +kernel
theorem dX0_set_60 : decode cX0_set 60 = .ok (.aload_n 0, 1) := by decide +kernel
theorem dX0_set_61 : decode cX0_set 61 = .ok (.getfield 13, 3) := by decide +kernel
theorem dX0_set_64 : decode cX0_set 64 = .ok (.iload 5, 2) := by decide +kernel
theorem dX0_set_66 : decode cX0_set 66 = .ok (.iload 4, 2) := by decide +kernel
theorem dX0_set_68 : decode cX0_set 68 = .ok (.iastore, 1) := by decide +kernel
theorem dX0_set_69 : decode cX0_set 69 = .ok (.aload_n 0, 1) := by decide +kernel
theorem dX0_set_70 : decode cX0_set 70 = .ok (.dup, 1) := by decide +kernel
theorem dX0_set_71 : decode cX0_set 71 = .ok (.getfield 33, 3) := by decide +kernel
theorem dX0_set_74 : decode cX0_set 74 = .ok (.iconst 1, 1) := by decide +kernel
theorem dX0_set_75 : decode cX0_set 75 = .ok (.iadd, 1) := by decide +kernel
theorem dX0_set_76 : decode cX0_set 76 = .ok (.putfield 33, 3) := by decide +kernel
theorem dX0_set_79 : decode cX0_set 79 = .ok (.return_, 1) := by decide +kernel
theorem dX0_isWithin_0 : decode cX0_isWithin 0 = .ok (.iload_n 1, 1) := by decide +kernel
theorem dX0_isWithin_1 : decode cX0_isWithin 1 = .ok (.ifCond .lt 27, 3) := by decide +kernel
theorem dX0_isWithin_4 : decode cX0_isWithin 4 = .ok (.iload_n 1, 1) := by decide +kernel
theorem dX0_isWithin_5 : decode cX0_isWithin 5 = .ok (.aload_n 0, 1) := by decide +kernel
theorem dX0_isWithin_6 : decode cX0_isWithin 6 = .ok (.getfield 19, 3) := by decide +kernel
theorem dX0_isWithin_9 : decode cX0_isWithin 9 = .ok (.if_icmp .ge 19, 3) := by decide +kernel
theorem dX0_isWithin_12 : decode cX0_isWithin 12 = .ok (.iload_n 2, 1) := by decide +kernel
theorem dX0_isWithin_13 : decode cX0_isWithin 13 = .ok (.ifCond .lt 15, 3) := by decide +kernel
theorem dX0_isWithin_16 : decode cX0_isWithin 16 = .ok (.iload_n 2, 1) := by decide +kernel
theorem dX0_isWithin_17 : decode cX0_isWithin 17 = .ok (.aload_n 0, 1) := by decide +kernel
theorem dX0_isWithin_18 : decode cX0_isWithin 18 = .ok (.getfield 23, 3) := by decide +kernel
theorem dX0_isWithin_21 : decode cX0_isWithin 21 = .ok (.if_icmp .ge 7, 3) := by decide +kernel
theorem dX0_isWithin_24 : decode cX0_isWithin 24 = .ok (.iconst 1, 1) := by decide +kernel
theorem dX0_isWithin_25 : decode cX0_isWithin 25 = .ok (.goto 4, 3) := by decide +kernel
theorem dX0_isWithin_28 : decode cX0_isWithin 28 = .ok (.iconst 0, 1) := by decide +kernel
theorem dX0_isWithin_29 : decode cX0_isWithin 29 = .ok (.ireturn, 1) := by decide +kernel
theorem dX0_hasCell_0 : decode cX0_hasCell 0 = .ok (.iload_n 1, 1) := by decide +kernel
theorem dX0_hasCell_1 : decode cX0_hasCell 1 = .ok (.ifCond .lt 22, 3) := by decide +kernel
theorem dX0_hasCell_4 : decode cX0_hasCell 4 = .ok (.aload_n 0, 1) := by decide +kernel
theorem dX0_hasCell_5 : decode cX0_hasCell 5 = .ok (.iload_n 1, 1) := by decide +kernel
theorem dX0_hasCell_6 : decode cX0_hasCell 6 = .ok (.bipush 10, 2) := by decide +kernel
theorem dX0_hasCell_8 : decode cX0_hasCell 8 = .ok (.idiv, 1) := by decide +kernel
theorem dX0_hasCell_9 : decode cX0_hasCell 9 = .ok (.iload_n 1, 1) := by decide +kernel
theorem dX0_hasCell_10 : decode cX0_hasCell 10 = .ok (.bipush 10, 2) := by decide +kernel
theorem dX0_hasCell_12 : decode cX0_hasCell 12 = .ok (.irem, 1) := by decide +kernel
theorem dX0_hasCell_13 : decode cX0_hasCell 13 = .ok (.invokevirtual 26, 3) := by decide +kernel
theorem dX0_hasCell_16 : decode cX0_hasCell 16 = .ok (.ifCond .eq 7, 3) := by decide +kernel
theorem dX0_hasCell_19 : decode cX0_hasCell 19 = .ok (.iconst 1, 1) := by decide +kernel
theorem dX0_hasCell_20 : decode cX0_hasCell 20 = .ok (.goto 4, 3) := by decide +kernel
theorem dX0_hasCell_23 : decode cX0_hasCell 23 = .ok (.iconst 0, 1) := by decide +kernel
theorem dX0_hasCell_24 : decode cX0_hasCell 24 = .ok (.ireturn, 1) := by decide +kernel
theorem dX0_codeAt_0 : decode cX0_codeAt 0 = .ok (.aload_n 0, 1) := by decide +kernel
theorem dX0_codeAt_1 : decode cX0_codeAt 1 = .ok (.iload_n 1, 1) := by decide +kernel
theorem dX0_codeAt_2 : decode cX0_codeAt 2 = .ok (.iload_n 2, 1) := by decide +kernel
theorem dX0_codeAt_3 : decode cX0_codeAt 3 = .ok (.invokevirtual 26, 3) := by decide +kernel
theorem dX0_codeAt_6 : decode cX0_codeAt 6 = .ok (.ifCond .eq 16, 3) := by decide +kernel
theorem dX0_codeAt_9 : decode cX0_codeAt 9 = .ok (.aload_n 0, 1) := by decide +kernel
theorem dX0_codeAt_10 : decode cX0_codeAt 10 = .ok (.getfield 9, 3) := by decide +kernel
theorem dX0_codeAt_13 : decode cX0_codeAt 13 = .ok (.iconst 5, 1) := by decide +kernel
theorem dX0_codeAt_14 : decode cX0_codeAt 14 = .ok (.iload_n 2, 1) := by decide +kernel
theorem dX0_codeAt_15 : decode cX0_codeAt 15 = .ok (.imul, 1) := by decide +kernel
theorem dX0_codeAt_16 : decode cX0_codeAt 16 = .ok (.iload_n 1, 1) := by decide +kernel
theorem dX0_codeAt_17 : decode cX0_codeAt 17 = .ok (.iadd, 1) := by decide +kernel
theorem dX0_codeAt_18 : decode cX0_codeAt 18 = .ok (.iaload, 1) := by decide +kernel
theorem dX0_codeAt_19 : decode cX0_codeAt 19 = .ok (.goto 4, 3) := by decide +kernel
theorem dX0_codeAt_22 : decode cX0_codeAt 22 = .ok (.iconst 0, 1) := by decide +kernel
theorem dX0_codeAt_23 : decode cX0_codeAt 23 = .ok (.ireturn, 1) := by decide +kernel
theorem dX0_states_0 : decode cX0_states 0 = .ok (.iconst 1, 1) := by decide +kernel
theorem dX0_states_1 : decode cX0_states 1 = .ok (.aload_n 0, 1) := by decide +kernel
theorem dX0_states_2 : decode cX0_states 2 = .ok (.getfield 33, 3) := by decide +kernel
theorem dX0_states_5 : decode cX0_states 5 = .ok (.ishl, 1) := by decide +kernel
theorem dX0_states_6 : decode cX0_states 6 = .ok (.ireturn, 1) := by decide +kernel
theorem dX0_hasState_0 : decode cX0_hasState 0 = .ok (.iload_n 1, 1) := by decide +kernel
theorem dX0_hasState_1 : decode cX0_hasState 1 = .ok (.ifCond .lt 15, 3) := by decide +kernel
theorem dX0_hasState_4 : decode cX0_hasState 4 = .ok (.iload_n 1, 1) := by decide +kernel
theorem dX0_hasState_5 : decode cX0_hasState 5 = .ok (.aload_n 0, 1) := by decide +kernel
theorem dX0_hasState_6 : decode cX0_hasState 6 = .ok (.invokevirtual 36, 3) := by decide +kernel
theorem dX0_hasState_9 : decode cX0_hasState 9 = .ok (.if_icmp .ge 7, 3) := by decide +kernel
theorem dX0_hasState_12 : decode cX0_hasState 12 = .ok (.iconst 1, 1) := by decide +kernel
theorem dX0_hasState_13 : decode cX0_hasState 13 = .ok (.goto 4, 3) := by decide +kernel
theorem dX0_hasState_16 : decode cX0_hasState 16 = .ok (.iconst 0, 1) := by decide +kernel
theorem dX0_hasState_17 : decode cX0_hasState 17 = .ok (.ireturn, 1) := by decide +kernel
theorem dX0_countTilings_0 : decode cX0_countTilings 0 = .ok (.iconst 0, 1) := by decide +kernel
theorem dX0_countTilings_1 : decode cX0_countTilings 1 = .ok (.istore_n 1, 1) := by decide +kernel
theorem dX0_countTilings_2 : decode cX0_countTilings 2 = .ok (.iload_n 1, 1) := by decide +kernel
theorem dX0_countTilings_3 : decode cX0_countTilings 3 = .ok (.aload_n 0, 1) := by decide +kernel
theorem dX0_countTilings_4 : decode cX0_countTilings 4 = .ok (.invokevirtual 36, 3) := by decide +kernel
theorem dX0_countTilings_7 : decode cX0_countTilings 7 = .ok (.if_icmp .ge 69, 3) := by decide +kernel
theorem dX0_countTilings_10 : decode cX0_countTilings 10 = .ok (.aload_n 0, 1) := by decide +kernel
theorem dX0_countTilings_11 : decode cX0_countTilings 11 = .ok (.aload_n 0, 1) := by decide +kernel
theorem dX0_countTilings_12 : decode cX0_countTilings 12 = .ok (.getfield 30, 3) := by decide +kernel
theorem dX0_countTilings_15 : decode cX0_countTilings 15 = .ok (.iload_n 1, 1) := by decide +kernel
theorem dX0_countTilings_16 : decode cX0_countTilings 16 = .ok (.invokevirtual 40, 3) := by decide +kernel
theorem dX0_countTilings_19 : decode cX0_countTilings 19 = .ok (.istore_n 2, 1) := by decide +kernel
theorem dX0_countTilings_20 : decode cX0_countTilings 20 = .ok (.aload_n 0, 1) := by decide +kernel
theorem dX0_countTilings_21 : decode cX0_countTilings 21 = .ok (.getfield 16, 3) := by decide +kernel
theorem dX0_countTilings_24 : decode cX0_countTilings 24 = .ok (.iload_n 1, 1) := by decide +kernel
theorem dX0_countTilings_25 : decode cX0_countTilings 25 = .ok (.iload_n 2, 1) := by decide +kernel
theorem dX0_countTilings_26 : decode cX0_countTilings 26 = .ok (.invokestatic 44, 3) := by decide +kernel
theorem dX0_countTilings_29 : decode cX0_countTilings 29 = .ok (.iastore, 1) := by decide +kernel
theorem dX0_countTilings_30 : decode cX0_countTilings 30 = .ok (.aload_n 0, 1) := by decide +kernel
theorem dX0_countTilings_31 : decode cX0_countTilings 31 = .ok (.getfield 16, 3) := by decide +kernel
theorem dX0_countTilings_34 : decode cX0_countTilings 34 = .ok (.iload_n 1, 1) := by decide +kernel
theorem dX0_countTilings_35 : decode cX0_countTilings 35 = .ok (.iaload, 1) := by decide +kernel
theorem dX0_countTilings_36 : decode cX0_countTilings 36 = .ok (.ifCond .le 15, 3) := by decide +kernel
theorem dX0_countTilings_39 : decode cX0_countTilings 39 = .ok (.aload_n 0, 1) := by decide +kernel
theorem dX0_countTilings_40 : decode cX0_countTilings 40 = .ok (.dup, 1) := by decide +kernel
theorem dX0_countTilings_41 : decode cX0_countTilings 41 = .ok (.getfield 50, 3) := by decide +kernel
theorem dX0_countTilings_44 : decode cX0_countTilings 44 = .ok (.lconst 1, 1) := by decide +kernel
theorem dX0_countTilings_45 : decode cX0_countTilings 45 = .ok (.iload_n 1, 1) := by decide +kernel
theorem dX0_countTilings_46 : decode cX0_countTilings 46 = .ok (.lshl, 1) := by decide +kernel
theorem dX0_countTilings_47 : decode cX0_countTilings 47 = .ok (.lor, 1) := by decide +kernel
theorem dX0_countTilings_48 : decode cX0_countTilings 48 = .ok (.putfield 50, 3) := by decide +kernel
theorem dX0_countTilings_51 : decode cX0_countTilings 51 = .ok (.iload_n 2, 1) := by decide +kernel
theorem dX0_countTilings_52 : decode cX0_countTilings 52 = .ok (.invokestatic 54, 3) := by decide +kernel
theorem dX0_countTilings_55 : decode cX0_countTilings 55 = .ok (.ifCond .ne 15, 3) := by decide +kernel
theorem dX0_countTilings_58 : decode cX0_countTilings 58 = .ok (.aload_n 0, 1) := by decide +kernel
theorem dX0_countTilings_59 : decode cX0_countTilings 59 = .ok (.dup, 1) := by decide +kernel
theorem dX0_countTilings_60 : decode cX0_countTilings 60 = .ok (.getfield 58, 3) := by decide +kernel
theorem dX0_countTilings_63 : decode cX0_countTilings 63 = .ok (.lconst 1, 1) := by decide +kernel
theorem dX0_countTilings_64 : decode cX0_countTilings 64 = .ok (.iload_n 1, 1) := by decide +kernel
theorem dX0_countTilings_65 : decode cX0_countTilings 65 = .ok (.lshl, 1) := by decide +kernel
theorem dX0_countTilings_66 : decode cX0_countTilings 66 = .ok (.lor, 1) := by decide +kernel
theorem dX0_countTilings_67 : decode cX0_countTilings 67 = .ok (.putfield 58, 3) := by decide +kernel
theorem dX0_countTilings_70 : decode cX0_countTilings 70 = .ok (.iinc 1 1, 3) := by decide +kernel
theorem dX0_countTilings_73 : decode cX0_countTilings 73 = .ok (.goto (-71), 3) := by decide +kernel
theorem dX0_countTilings_76 : decode cX0_countTilings 76 = .ok (.return_, 1) := by decide +kernel
theorem dX0_toCover_0 : decode cX0_toCover 0 = .ok (.iload_n 1, 1) := by decide +kernel
theorem dX0_toCover_1 : decode cX0_toCover 1 = .ok (.istore_n 3, 1) := by decide +kernel
theorem dX0_toCover_2 : decode cX0_toCover 2 = .ok (.iconst 0, 1) := by decide +kernel
theorem dX0_toCover_3 : decode cX0_toCover 3 = .ok (.istore 4, 2) := by decide +kernel
theorem dX0_toCover_5 : decode cX0_toCover 5 = .ok (.iload 4, 2) := by decide +kernel
theorem dX0_toCover_7 : decode cX0_toCover 7 = .ok (.aload_n 0, 1) := by decide +kernel
theorem dX0_toCover_8 : decode cX0_toCover 8 = .ok (.getfield 33, 3) := by decide +kernel
theorem dX0_toCover_11 : decode cX0_toCover 11 = .ok (.if_icmp .ge 30, 3) := by decide +kernel
theorem dX0_toCover_14 : decode cX0_toCover 14 = .ok (.iload_n 2, 1) := by decide +kernel
theorem dX0_toCover_15 : decode cX0_toCover 15 = .ok (.iload 4, 2) := by decide +kernel
theorem dX0_toCover_17 : decode cX0_toCover 17 = .ok (.ishr, 1) := by decide +kernel
theorem dX0_toCover_18 : decode cX0_toCover 18 = .ok (.iconst 1, 1) := by decide +kernel
theorem dX0_toCover_19 : decode cX0_toCover 19 = .ok (.iand, 1) := by decide +kernel
theorem dX0_toCover_20 : decode cX0_toCover 20 = .ok (.ifCond .ne 15, 3) := by decide +kernel
theorem dX0_toCover_23 : decode cX0_toCover 23 = .ok (.iload_n 3, 1) := by decide +kernel
theorem dX0_toCover_24 : decode cX0_toCover 24 = .ok (.iconst 1, 1) := by decide +kernel
theorem dX0_toCover_25 : decode cX0_toCover 25 = .ok (.aload_n 0, 1) := by decide +kernel
theorem dX0_toCover_26 : decode cX0_toCover 26 = .ok (.getfield 13, 3) := by decide +kernel
theorem dX0_toCover_29 : decode cX0_toCover 29 = .ok (.iload 4, 2) := by decide +kernel
theorem dX0_toCover_31 : decode cX0_toCover 31 = .ok (.iaload, 1) := by decide +kernel
theorem dX0_toCover_32 : decode cX0_toCover 32 = .ok (.ishl, 1) := by decide +kernel
theorem dX0_toCover_33 : decode cX0_toCover 33 = .ok (.ior, 1) := by decide +kernel
theorem dX0_toCover_34 : decode cX0_toCover 34 = .ok (.istore_n 3, 1) := by decide +kernel
theorem dX0_toCover_35 : decode cX0_toCover 35 = .ok (.iinc 4 1, 3) := by decide +kernel
theorem dX0_toCover_38 : decode cX0_toCover 38 = .ok (.goto (-33), 3) := by decide +kernel
theorem dX0_toCover_41 : decode cX0_toCover 41 = .ok (.iload_n 3, 1) := by decide +kernel
theorem dX0_toCover_42 : decode cX0_toCover 42 = .ok (.ireturn, 1) := by decide +kernel
theorem dX0_letWith_0 : decode cX0_letWith 0 = .ok (.lconst 0, 1) := by decide +kernel
theorem dX0_letWith_1 : decode cX0_letWith 1 = .ok (.lstore_n 2, 1) := by decide +kernel
theorem dX0_letWith_2 : decode cX0_letWith 2 = .ok (.iconst 0, 1) := by decide +kernel
theorem dX0_letWith_3 : decode cX0_letWith 3 = .ok (.istore 4, 2) := by decide +kernel
theorem dX0_letWith_5 : decode cX0_letWith 5 = .ok (.iload 4, 2) := by decide +kernel
theorem dX0_letWith_7 : decode cX0_letWith 7 = .ok (.aload_n 0, 1) := by decide +kernel
theorem dX0_letWith_8 : decode cX0_letWith 8 = .ok (.invokevirtual 36, 3) := by decide +kernel
theorem dX0_letWith_11 : decode cX0_letWith 11 = .ok (.if_icmp .ge 29, 3) := by decide +kernel
theorem dX0_letWith_14 : decode cX0_letWith 14 = .ok (.aload_n 0, 1) := by decide +kernel
theorem dX0_letWith_15 : decode cX0_letWith 15 = .ok (.iload_n 1, 1) := by decide +kernel
theorem dX0_letWith_16 : decode cX0_letWith 16 = .ok (.iload 4, 2) := by decide +kernel
theorem dX0_letWith_18 : decode cX0_letWith 18 = .ok (.invokevirtual 40, 3) := by decide +kernel
theorem dX0_letWith_21 : decode cX0_letWith 21 = .ok (.invokestatic 44, 3) := by decide +kernel
theorem dX0_letWith_24 : decode cX0_letWith 24 = .ok (.ifCond .le 10, 3) := by decide +kernel
theorem dX0_letWith_27 : decode cX0_letWith 27 = .ok (.lload_n 2, 1) := by decide +kernel
theorem dX0_letWith_28 : decode cX0_letWith 28 = .ok (.lconst 1, 1) := by decide +kernel
theorem dX0_letWith_29 : decode cX0_letWith 29 = .ok (.iload 4, 2) := by decide +kernel
theorem dX0_letWith_31 : decode cX0_letWith 31 = .ok (.lshl, 1) := by decide +kernel
theorem dX0_letWith_32 : decode cX0_letWith 32 = .ok (.lor, 1) := by decide +kernel
theorem dX0_letWith_33 : decode cX0_letWith 33 = .ok (.lstore_n 2, 1) := by decide +kernel
theorem dX0_letWith_34 : decode cX0_letWith 34 = .ok (.iinc 4 1, 3) := by decide +kernel
theorem dX0_letWith_37 : decode cX0_letWith 37 = .ok (.goto (-32), 3) := by decide +kernel
theorem dX0_letWith_40 : decode cX0_letWith 40 = .ok (.lload_n 2, 1) := by decide +kernel
theorem dX0_letWith_41 : decode cX0_letWith 41 = .ok (.lreturn, 1) := by decide +kernel
theorem dX0_needlessCells_0 : decode cX0_needlessCells 0 = .ok (.iconst 0, 1) := by decide +kernel
theorem dX0_needlessCells_1 : decode cX0_needlessCells 1 = .ok (.istore_n 1, 1) := by decide +kernel
theorem dX0_needlessCells_2 : decode cX0_needlessCells 2 = .ok (.iconst 0, 1) := by decide +kernel
theorem dX0_needlessCells_3 : decode cX0_needlessCells 3 = .ok (.istore_n 2, 1) := by decide +kernel
theorem dX0_needlessCells_4 : decode cX0_needlessCells 4 = .ok (.iload_n 2, 1) := by decide +kernel
theorem dX0_needlessCells_5 : decode cX0_needlessCells 5 = .ok (.aload_n 0, 1) := by decide +kernel
theorem dX0_needlessCells_6 : decode cX0_needlessCells 6 = .ok (.getfield 9, 3) := by decide +kernel
theorem dX0_needlessCells_9 : decode cX0_needlessCells 9 = .ok (.arraylength, 1) := by decide +kernel
theorem dX0_needlessCells_10 : decode cX0_needlessCells 10 = .ok (.if_icmp .ge 47, 3) := by decide +kernel
theorem dX0_needlessCells_13 : decode cX0_needlessCells 13 = .ok (.aload_n 0, 1) := by decide +kernel
theorem dX0_needlessCells_14 : decode cX0_needlessCells 14 = .ok (.getfield 9, 3) := by decide +kernel
theorem dX0_needlessCells_17 : decode cX0_needlessCells 17 = .ok (.iload_n 2, 1) := by decide +kernel
theorem dX0_needlessCells_18 : decode cX0_needlessCells 18 = .ok (.iaload, 1) := by decide +kernel
theorem dX0_needlessCells_19 : decode cX0_needlessCells 19 = .ok (.iconst 1, 1) := by decide +kernel
theorem dX0_needlessCells_20 : decode cX0_needlessCells 20 = .ok (.if_icmp .ne 31, 3) := by decide +kernel
theorem dX0_needlessCells_23 : decode cX0_needlessCells 23 = .ok (.aload_n 0, 1) := by decide +kernel
theorem dX0_needlessCells_24 : decode cX0_needlessCells 24 = .ok (.aload_n 0, 1) := by decide +kernel
theorem dX0_needlessCells_25 : decode cX0_needlessCells 25 = .ok (.getfield 30, 3) := by decide +kernel
theorem dX0_needlessCells_28 : decode cX0_needlessCells 28 = .ok (.iconst 1, 1) := by decide +kernel
theorem dX0_needlessCells_29 : decode cX0_needlessCells 29 = .ok (.iload_n 2, 1) := by decide +kernel
theorem dX0_needlessCells_30 : decode cX0_needlessCells 30 = .ok (.ishl, 1) := by decide +kernel
theorem dX0_needlessCells_31 : decode cX0_needlessCells 31 = .ok (.iconst (-1), 1) := by decide +kernel
theorem dX0_needlessCells_32 : decode cX0_needlessCells 32 = .ok (.ixor, 1) := by decide +kernel
theorem dX0_needlessCells_33 : decode cX0_needlessCells 33 = .ok (.iand, 1) := by decide +kernel
theorem dX0_needlessCells_34 : decode cX0_needlessCells 34 = .ok (.invokevirtual 61, 3) := by decide +kernel
theorem dX0_needlessCells_37 : decode cX0_needlessCells 37 = .ok (.aload_n 0, 1) := by decide +kernel
theorem dX0_needlessCells_38 : decode cX0_needlessCells 38 = .ok (.getfield 50, 3) := by decide +kernel
theorem dX0_needlessCells_41 : decode cX0_needlessCells 41 = .ok (.lcmp, 1) := by decide +kernel
theorem dX0_needlessCells_42 : decode cX0_needlessCells 42 = .ok (.ifCond .ne 9, 3) := by decide +kernel
theorem dX0_needlessCells_45 : decode cX0_needlessCells 45 = .ok (.iload_n 1, 1) := by decide +kernel
theorem dX0_needlessCells_46 : decode cX0_needlessCells 46 = .ok (.iconst 1, 1) := by decide +kernel
theorem dX0_needlessCells_47 : decode cX0_needlessCells 47 = .ok (.iload_n 2, 1) := by decide +kernel
theorem dX0_needlessCells_48 : decode cX0_needlessCells 48 = .ok (.ishl, 1) := by decide +kernel
theorem dX0_needlessCells_49 : decode cX0_needlessCells 49 = .ok (.ior, 1) := by decide +kernel
theorem dX0_needlessCells_50 : decode cX0_needlessCells 50 = .ok (.istore_n 1, 1) := by decide +kernel
theorem dX0_needlessCells_51 : decode cX0_needlessCells 51 = .ok (.iinc 2 1, 3) := by decide +kernel
theorem dX0_needlessCells_54 : decode cX0_needlessCells 54 = .ok (.goto (-50), 3) := by decide +kernel
theorem dX0_needlessCells_57 : decode cX0_needlessCells 57 = .ok (.iload_n 1, 1) := by decide +kernel
theorem dX0_needlessCells_58 : decode cX0_needlessCells 58 = .ok (.ireturn, 1) := by decide +kernel
theorem dX0_coverAt_0 : decode cX0_coverAt 0 = .ok (.aload_n 0, 1) := by decide +kernel
theorem dX0_coverAt_1 : decode cX0_coverAt 1 = .ok (.iload_n 2, 1) := by decide +kernel
theorem dX0_coverAt_2 : decode cX0_coverAt 2 = .ok (.iload_n 3, 1) := by decide +kernel
theorem dX0_coverAt_3 : decode cX0_coverAt 3 = .ok (.invokevirtual 65, 3) := by decide +kernel
theorem dX0_coverAt_6 : decode cX0_coverAt 6 = .ok (.istore 4, 2) := by decide +kernel
theorem dX0_coverAt_8 : decode cX0_coverAt 8 = .ok (.iload 4, 2) := by decide +kernel
theorem dX0_coverAt_10 : decode cX0_coverAt 10 = .ok (.bipush 10, 2) := by decide +kernel
theorem dX0_coverAt_12 : decode cX0_coverAt 12 = .ok (.if_icmp .lt 17, 3) := by decide +kernel
theorem dX0_coverAt_15 : decode cX0_coverAt 15 = .ok (.iload_n 1, 1) := by decide +kernel
theorem dX0_coverAt_16 : decode cX0_coverAt 16 = .ok (.iload 4, 2) := by decide +kernel
theorem dX0_coverAt_18 : decode cX0_coverAt 18 = .ok (.bipush 10, 2) := by decide +kernel
theorem dX0_coverAt_20 : decode cX0_coverAt 20 = .ok (.isub, 1) := by decide +kernel
theorem dX0_coverAt_21 : decode cX0_coverAt 21 = .ok (.ishr, 1) := by decide +kernel
theorem dX0_coverAt_22 : decode cX0_coverAt 22 = .ok (.iconst 1, 1) := by decide +kernel
theorem dX0_coverAt_23 : decode cX0_coverAt 23 = .ok (.iand, 1) := by decide +kernel
theorem dX0_coverAt_24 : decode cX0_coverAt 24 = .ok (.ifCond .eq 5, 3) := by decide +kernel
theorem dX0_coverAt_27 : decode cX0_coverAt 27 = .ok (.iconst 5, 1) := by decide +kernel
theorem dX0_coverAt_28 : decode cX0_coverAt 28 = .ok (.ireturn, 1) := by decide +kernel
theorem dX0_coverAt_29 : decode cX0_coverAt 29 = .ok (.iload 4, 2) := by decide +kernel
theorem dX0_coverAt_31 : decode cX0_coverAt 31 = .ok (.ifCond .ne 7, 3) := by decide +kernel
theorem dX0_coverAt_34 : decode cX0_coverAt 34 = .ok (.iconst 0, 1) := by decide +kernel
theorem dX0_coverAt_35 : decode cX0_coverAt 35 = .ok (.goto 20, 3) := by decide +kernel
theorem dX0_coverAt_38 : decode cX0_coverAt 38 = .ok (.aload_n 0, 1) := by decide +kernel
theorem dX0_coverAt_39 : decode cX0_coverAt 39 = .ok (.aload_n 0, 1) := by decide +kernel
theorem dX0_coverAt_40 : decode cX0_coverAt 40 = .ok (.getfield 30, 3) := by decide +kernel
theorem dX0_coverAt_43 : decode cX0_coverAt 43 = .ok (.iload_n 1, 1) := by decide +kernel
theorem dX0_coverAt_44 : decode cX0_coverAt 44 = .ok (.invokevirtual 40, 3) := by decide +kernel
theorem dX0_coverAt_47 : decode cX0_coverAt 47 = .ok (.iload_n 2, 1) := by decide +kernel
theorem dX0_coverAt_48 : decode cX0_coverAt 48 = .ok (.iload_n 3, 1) := by decide +kernel
theorem dX0_coverAt_49 : decode cX0_coverAt 49 = .ok (.invokestatic 68, 3) := by decide +kernel
theorem dX0_coverAt_52 : decode cX0_coverAt 52 = .ok (.invokestatic 71, 3) := by decide +kernel
theorem dX0_coverAt_55 : decode cX0_coverAt 55 = .ok (.ireturn, 1) := by decide +kernel
theorem dX0_turned_0 : decode cX0_turned 0 = .ok (.new 1, 3) := by decide +kernel
theorem dX0_turned_3 : decode cX0_turned 3 = .ok (.dup, 1) := by decide +kernel
theorem dX0_turned_4 : decode cX0_turned 4 = .ok (.aload_n 0, 1) := by decide +kernel
theorem dX0_turned_5 : decode cX0_turned 5 = .ok (.getfield 23, 3) := by decide +kernel
theorem dX0_turned_8 : decode cX0_turned 8 = .ok (.aload_n 0, 1) := by decide +kernel
theorem dX0_turned_9 : decode cX0_turned 9 = .ok (.getfield 19, 3) := by decide +kernel
theorem dX0_turned_12 : decode cX0_turned 12 = .ok (.invokespecial 74, 3) := by decide +kernel
theorem dX0_turned_15 : decode cX0_turned 15 = .ok (.astore_n 1, 1) := by decide +kernel
theorem dX0_turned_16 : decode cX0_turned 16 = .ok (.iconst 0, 1) := by decide +kernel
theorem dX0_turned_17 : decode cX0_turned 17 = .ok (.istore_n 2, 1) := by decide +kernel
theorem dX0_turned_18 : decode cX0_turned 18 = .ok (.iload_n 2, 1) := by decide +kernel
theorem dX0_turned_19 : decode cX0_turned 19 = .ok (.aload_n 0, 1) := by decide +kernel
theorem dX0_turned_20 : decode cX0_turned 20 = .ok (.getfield 23, 3) := by decide +kernel
theorem dX0_turned_23 : decode cX0_turned 23 = .ok (.if_icmp .ge 44, 3) := by decide +kernel
theorem dX0_turned_26 : decode cX0_turned 26 = .ok (.iconst 0, 1) := by decide +kernel
theorem dX0_turned_27 : decode cX0_turned 27 = .ok (.istore_n 3, 1) := by decide +kernel
theorem dX0_turned_28 : decode cX0_turned 28 = .ok (.iload_n 3, 1) := by decide +kernel
theorem dX0_turned_29 : decode cX0_turned 29 = .ok (.aload_n 0, 1) := by decide +kernel
theorem dX0_turned_30 : decode cX0_turned 30 = .ok (.getfield 19, 3) := by decide +kernel
theorem dX0_turned_33 : decode cX0_turned 33 = .ok (.if_icmp .ge 28, 3) := by decide +kernel
theorem dX0_turned_36 : decode cX0_turned 36 = .ok (.aload_n 1, 1) := by decide +kernel
theorem dX0_turned_37 : decode cX0_turned 37 = .ok (.aload_n 0, 1) := by decide +kernel
theorem dX0_turned_38 : decode cX0_turned 38 = .ok (.getfield 23, 3) := by decide +kernel
theorem dX0_turned_41 : decode cX0_turned 41 = .ok (.iconst 1, 1) := by decide +kernel
theorem dX0_turned_42 : decode cX0_turned 42 = .ok (.isub, 1) := by decide +kernel
theorem dX0_turned_43 : decode cX0_turned 43 = .ok (.iload_n 2, 1) := by decide +kernel
theorem dX0_turned_44 : decode cX0_turned 44 = .ok (.isub, 1) := by decide +kernel
theorem dX0_turned_45 : decode cX0_turned 45 = .ok (.iload_n 3, 1) := by decide +kernel
theorem dX0_turned_46 : decode cX0_turned 46 = .ok (.aload_n 0, 1) := by decide +kernel
theorem dX0_turned_47 : decode cX0_turned 47 = .ok (.iload_n 3, 1) := by decide +kernel
theorem dX0_turned_48 : decode cX0_turned 48 = .ok (.iload_n 2, 1) := by decide +kernel
theorem dX0_turned_49 : decode cX0_turned 49 = .ok (.invokevirtual 65, 3) := by decide +kernel
theorem dX0_turned_52 : decode cX0_turned 52 = .ok (.invokevirtual 77, 3) := by decide +kernel
theorem dX0_turned_55 : decode cX0_turned 55 = .ok (.iinc 3 1, 3) := by decide +kernel
theorem dX0_turned_58 : decode cX0_turned 58 = .ok (.goto (-30), 3) := by decide +kernel
theorem dX0_turned_61 : decode cX0_turned 61 = .ok (.iinc 2 1, 3) := by decide +kernel
theorem dX0_turned_64 : decode cX0_turned 64 = .ok (.goto (-46), 3) := by decide +kernel
theorem dX0_turned_67 : decode cX0_turned 67 = .ok (.aload_n 1, 1) := by decide +kernel
theorem dX0_turned_68 : decode cX0_turned 68 = .ok (.areturn, 1) := by decide +kernel
theorem dX0_mirrored_0 : decode cX0_mirrored 0 = .ok (.new 1, 3) := by decide +kernel
theorem dX0_mirrored_3 : decode cX0_mirrored 3 = .ok (.dup, 1) := by decide +kernel
theorem dX0_mirrored_4 : decode cX0_mirrored 4 = .ok (.aload_n 0, 1) := by decide +kernel
theorem dX0_mirrored_5 : decode cX0_mirrored 5 = .ok (.getfield 19, 3) := by decide +kernel
theorem dX0_mirrored_8 : decode cX0_mirrored 8 = .ok (.aload_n 0, 1) := by decide +kernel
theorem dX0_mirrored_9 : decode cX0_mirrored 9 = .ok (.getfield 23, 3) := by decide +kernel
theorem dX0_mirrored_12 : decode cX0_mirrored 12 = .ok (.invokespecial 74, 3) := by decide +kernel
theorem dX0_mirrored_15 : decode cX0_mirrored 15 = .ok (.astore_n 1, 1) := by decide +kernel
theorem dX0_mirrored_16 : decode cX0_mirrored 16 = .ok (.iconst 0, 1) := by decide +kernel
theorem dX0_mirrored_17 : decode cX0_mirrored 17 = .ok (.istore_n 2, 1) := by decide +kernel
theorem dX0_mirrored_18 : decode cX0_mirrored 18 = .ok (.iload_n 2, 1) := by decide +kernel
theorem dX0_mirrored_19 : decode cX0_mirrored 19 = .ok (.aload_n 0, 1) := by decide +kernel
theorem dX0_mirrored_20 : decode cX0_mirrored 20 = .ok (.getfield 23, 3) := by decide +kernel
theorem dX0_mirrored_23 : decode cX0_mirrored 23 = .ok (.if_icmp .ge 44, 3) := by decide +kernel
theorem dX0_mirrored_26 : decode cX0_mirrored 26 = .ok (.iconst 0, 1) := by decide +kernel
theorem dX0_mirrored_27 : decode cX0_mirrored 27 = .ok (.istore_n 3, 1) := by decide +kernel
theorem dX0_mirrored_28 : decode cX0_mirrored 28 = .ok (.iload_n 3, 1) := by decide +kernel
theorem dX0_mirrored_29 : decode cX0_mirrored 29 = .ok (.aload_n 0, 1) := by decide +kernel
theorem dX0_mirrored_30 : decode cX0_mirrored 30 = .ok (.getfield 19, 3) := by decide +kernel
theorem dX0_mirrored_33 : decode cX0_mirrored 33 = .ok (.if_icmp .ge 28, 3) := by decide +kernel
theorem dX0_mirrored_36 : decode cX0_mirrored 36 = .ok (.aload_n 1, 1) := by decide +kernel
theorem dX0_mirrored_37 : decode cX0_mirrored 37 = .ok (.aload_n 0, 1) := by decide +kernel
theorem dX0_mirrored_38 : decode cX0_mirrored 38 = .ok (.getfield 19, 3) := by decide +kernel
theorem dX0_mirrored_41 : decode cX0_mirrored 41 = .ok (.iconst 1, 1) := by decide +kernel
theorem dX0_mirrored_42 : decode cX0_mirrored 42 = .ok (.isub, 1) := by decide +kernel
theorem dX0_mirrored_43 : decode cX0_mirrored 43 = .ok (.iload_n 3, 1) := by decide +kernel
theorem dX0_mirrored_44 : decode cX0_mirrored 44 = .ok (.isub, 1) := by decide +kernel
theorem dX0_mirrored_45 : decode cX0_mirrored 45 = .ok (.iload_n 2, 1) := by decide +kernel
theorem dX0_mirrored_46 : decode cX0_mirrored 46 = .ok (.aload_n 0, 1) := by decide +kernel
theorem dX0_mirrored_47 : decode cX0_mirrored 47 = .ok (.iload_n 3, 1) := by decide +kernel
theorem dX0_mirrored_48 : decode cX0_mirrored 48 = .ok (.iload_n 2, 1) := by decide +kernel
theorem dX0_mirrored_49 : decode cX0_mirrored 49 = .ok (.invokevirtual 65, 3) := by decide +kernel
theorem dX0_mirrored_52 : decode cX0_mirrored 52 = .ok (.invokevirtual 77, 3) := by decide +kernel
theorem dX0_mirrored_55 : decode cX0_mirrored 55 = .ok (.iinc 3 1, 3) := by decide +kernel
theorem dX0_mirrored_58 : decode cX0_mirrored 58 = .ok (.goto (-30), 3) := by decide +kernel
theorem dX0_mirrored_61 : decode cX0_mirrored 61 = .ok (.iinc 2 1, 3) := by decide +kernel
theorem dX0_mirrored_64 : decode cX0_mirrored 64 = .ok (.goto (-46), 3) := by decide +kernel
theorem dX0_mirrored_67 : decode cX0_mirrored 67 = .ok (.aload_n 1, 1) := by decide +kernel
theorem dX0_mirrored_68 : decode cX0_mirrored 68 = .ok (.areturn, 1) := by decide +kernel
theorem dX0_without_0 : decode cX0_without 0 = .ok (.new 1, 3) := by decide +kernel
theorem dX0_without_3 : decode cX0_without 3 = .ok (.dup, 1) := by decide +kernel
theorem dX0_without_4 : decode cX0_without 4 = .ok (.aload_n 0, 1) := by decide +kernel
theorem dX0_without_5 : decode cX0_without 5 = .ok (.getfield 19, 3) := by decide +kernel
theorem dX0_without_8 : decode cX0_without 8 = .ok (.aload_n 0, 1) := by decide +kernel
theorem dX0_without_9 : decode cX0_without 9 = .ok (.getfield 23, 3) := by decide +kernel
theorem dX0_without_12 : decode cX0_without 12 = .ok (.invokespecial 74, 3) := by decide +kernel
theorem dX0_without_15 : decode cX0_without 15 = .ok (.astore_n 2, 1) := by decide +kernel
theorem dX0_without_16 : decode cX0_without 16 = .ok (.iconst 0, 1) := by decide +kernel
theorem dX0_without_17 : decode cX0_without 17 = .ok (.istore_n 3, 1) := by decide +kernel
theorem dX0_without_18 : decode cX0_without 18 = .ok (.iload_n 3, 1) := by decide +kernel
theorem dX0_without_19 : decode cX0_without 19 = .ok (.aload_n 0, 1) := by decide +kernel
theorem dX0_without_20 : decode cX0_without 20 = .ok (.getfield 23, 3) := by decide +kernel
theorem dX0_without_23 : decode cX0_without 23 = .ok (.if_icmp .ge 56, 3) := by decide +kernel
theorem dX0_without_26 : decode cX0_without 26 = .ok (.iconst 0, 1) := by decide +kernel
theorem dX0_without_27 : decode cX0_without 27 = .ok (.istore 4, 2) := by decide +kernel
theorem dX0_without_29 : decode cX0_without 29 = .ok (.iload 4, 2) := by decide +kernel
theorem dX0_without_31 : decode cX0_without 31 = .ok (.aload_n 0, 1) := by decide +kernel
theorem dX0_without_32 : decode cX0_without 32 = .ok (.getfield 19, 3) := by decide +kernel
theorem dX0_without_35 : decode cX0_without 35 = .ok (.if_icmp .ge 38, 3) := by decide +kernel
theorem dX0_without_38 : decode cX0_without 38 = .ok (.aload_n 2, 1) := by decide +kernel
theorem dX0_without_39 : decode cX0_without 39 = .ok (.iload 4, 2) := by decide +kernel
theorem dX0_without_41 : decode cX0_without 41 = .ok (.iload_n 3, 1) := by decide +kernel
theorem dX0_without_42 : decode cX0_without 42 = .ok (.iload_n 1, 1) := by decide +kernel
theorem dX0_without_43 : decode cX0_without 43 = .ok (.iload 4, 2) := by decide +kernel
theorem dX0_without_45 : decode cX0_without 45 = .ok (.iload_n 3, 1) := by decide +kernel
theorem dX0_without_46 : decode cX0_without 46 = .ok (.invokestatic 68, 3) := by decide +kernel
theorem dX0_without_49 : decode cX0_without 49 = .ok (.iand, 1) := by decide +kernel
theorem dX0_without_50 : decode cX0_without 50 = .ok (.ifCond .ne 13, 3) := by decide +kernel
theorem dX0_without_53 : decode cX0_without 53 = .ok (.aload_n 0, 1) := by decide +kernel
theorem dX0_without_54 : decode cX0_without 54 = .ok (.iload 4, 2) := by decide +kernel
theorem dX0_without_56 : decode cX0_without 56 = .ok (.iload_n 3, 1) := by decide +kernel
theorem dX0_without_57 : decode cX0_without 57 = .ok (.invokevirtual 65, 3) := by decide +kernel
theorem dX0_without_60 : decode cX0_without 60 = .ok (.goto 4, 3) := by decide +kernel
theorem dX0_without_63 : decode cX0_without 63 = .ok (.iconst 0, 1) := by decide +kernel
theorem dX0_without_64 : decode cX0_without 64 = .ok (.invokevirtual 77, 3) := by decide +kernel
theorem dX0_without_67 : decode cX0_without 67 = .ok (.iinc 4 1, 3) := by decide +kernel
theorem dX0_without_70 : decode cX0_without 70 = .ok (.goto (-41), 3) := by decide +kernel
theorem dX0_without_73 : decode cX0_without 73 = .ok (.iinc 3 1, 3) := by decide +kernel
theorem dX0_without_76 : decode cX0_without 76 = .ok (.goto (-58), 3) := by decide +kernel
theorem dX0_without_79 : decode cX0_without 79 = .ok (.aload_n 2, 1) := by decide +kernel
theorem dX0_without_80 : decode cX0_without 80 = .ok (.areturn, 1) := by decide +kernel
theorem dX0_renamed_0 : decode cX0_renamed 0 = .ok (.new 1, 3) := by decide +kernel
theorem dX0_renamed_3 : decode cX0_renamed 3 = .ok (.dup, 1) := by decide +kernel
theorem dX0_renamed_4 : decode cX0_renamed 4 = .ok (.aload_n 0, 1) := by decide +kernel
theorem dX0_renamed_5 : decode cX0_renamed 5 = .ok (.getfield 19, 3) := by decide +kernel
theorem dX0_renamed_8 : decode cX0_renamed 8 = .ok (.aload_n 0, 1) := by decide +kernel
theorem dX0_renamed_9 : decode cX0_renamed 9 = .ok (.getfield 23, 3) := by decide +kernel
theorem dX0_renamed_12 : decode cX0_renamed 12 = .ok (.invokespecial 74, 3) := by decide +kernel
theorem dX0_renamed_15 : decode cX0_renamed 15 = .ok (.astore_n 2, 1) := by decide +kernel
theorem dX0_renamed_16 : decode cX0_renamed 16 = .ok (.iconst 5, 1) := by decide +kernel
theorem dX0_renamed_17 : decode cX0_renamed 17 = .ok (.newarray .int, 2) := by decide +kernel
theorem dX0_renamed_19 : decode cX0_renamed 19 = .ok (.astore_n 3, 1) := by decide +kernel
theorem dX0_renamed_20 : decode cX0_renamed 20 = .ok (.iload_n 1, 1) := by decide +kernel
theorem dX0_renamed_21 : decode cX0_renamed 21 = .ok (.istore 4, 2) := by decide +kernel
theorem dX0_renamed_23 : decode cX0_renamed 23 = .ok (.aload_n 0, 1) := by decide +kernel
theorem dX0_renamed_24 : decode cX0_renamed 24 = .ok (.getfield 33, 3) := by decide +kernel
theorem dX0_renamed_27 : decode cX0_renamed 27 = .ok (.iconst 1, 1) := by decide +kernel
theorem dX0_renamed_28 : decode cX0_renamed 28 = .ok (.isub, 1) := by decide +kernel
theorem dX0_renamed_29 : decode cX0_renamed 29 = .ok (.istore 5, 2) := by decide +kernel
theorem dX0_renamed_31 : decode cX0_renamed 31 = .ok (.iload 5, 2) := by decide +kernel
theorem dX0_renamed_33 : decode cX0_renamed 33 = .ok (.ifCond .lt 25, 3) := by decide +kernel
theorem dX0_renamed_36 : decode cX0_renamed 36 = .ok (.aload_n 3, 1) := by decide +kernel
theorem dX0_renamed_37 : decode cX0_renamed 37 = .ok (.iload 5, 2) := by decide +kernel
theorem dX0_renamed_39 : decode cX0_renamed 39 = .ok (.iload 4, 2) := by decide +kernel
theorem dX0_renamed_41 : decode cX0_renamed 41 = .ok (.bipush 10, 2) := by decide +kernel
theorem dX0_renamed_43 : decode cX0_renamed 43 = .ok (.irem, 1) := by decide +kernel
theorem dX0_renamed_44 : decode cX0_renamed 44 = .ok (.iastore, 1) := by decide +kernel
theorem dX0_renamed_45 : decode cX0_renamed 45 = .ok (.iload 4, 2) := by decide +kernel
theorem dX0_renamed_47 : decode cX0_renamed 47 = .ok (.bipush 10, 2) := by decide +kernel
theorem dX0_renamed_49 : decode cX0_renamed 49 = .ok (.idiv, 1) := by decide +kernel
theorem dX0_renamed_50 : decode cX0_renamed 50 = .ok (.istore 4, 2) := by decide +kernel
theorem dX0_renamed_52 : decode cX0_renamed 52 = .ok (.iinc 5 (-1), 3) := by decide +kernel
theorem dX0_renamed_55 : decode cX0_renamed 55 = .ok (.goto (-24), 3) := by decide +kernel
theorem dX0_renamed_58 : decode cX0_renamed 58 = .ok (.iconst 0, 1) := by decide +kernel
theorem dX0_renamed_59 : decode cX0_renamed 59 = .ok (.istore 5, 2) := by decide +kernel
theorem dX0_renamed_61 : decode cX0_renamed 61 = .ok (.iload 5, 2) := by decide +kernel
theorem dX0_renamed_63 : decode cX0_renamed 63 = .ok (.aload_n 0, 1) := by decide +kernel
theorem dX0_renamed_64 : decode cX0_renamed 64 = .ok (.getfield 23, 3) := by decide +kernel
theorem dX0_renamed_67 : decode cX0_renamed 67 = .ok (.if_icmp .ge 67, 3) := by decide +kernel
theorem dX0_renamed_70 : decode cX0_renamed 70 = .ok (.iconst 0, 1) := by decide +kernel
theorem dX0_renamed_71 : decode cX0_renamed 71 = .ok (.istore 6, 2) := by decide +kernel
theorem dX0_renamed_73 : decode cX0_renamed 73 = .ok (.iload 6, 2) := by decide +kernel
theorem dX0_renamed_75 : decode cX0_renamed 75 = .ok (.aload_n 0, 1) := by decide +kernel
theorem dX0_renamed_76 : decode cX0_renamed 76 = .ok (.getfield 19, 3) := by decide +kernel
theorem dX0_renamed_79 : decode cX0_renamed 79 = .ok (.if_icmp .ge 49, 3) := by decide +kernel
theorem dX0_renamed_82 : decode cX0_renamed 82 = .ok (.aload_n 0, 1) := by decide +kernel
theorem dX0_renamed_83 : decode cX0_renamed 83 = .ok (.iload 6, 2) := by decide +kernel
theorem dX0_renamed_85 : decode cX0_renamed 85 = .ok (.iload 5, 2) := by decide +kernel
theorem dX0_renamed_87 : decode cX0_renamed 87 = .ok (.invokevirtual 65, 3) := by decide +kernel
theorem dX0_renamed_90 : decode cX0_renamed 90 = .ok (.istore 7, 2) := by decide +kernel
theorem dX0_renamed_92 : decode cX0_renamed 92 = .ok (.aload_n 2, 1) := by decide +kernel
theorem dX0_renamed_93 : decode cX0_renamed 93 = .ok (.iload 6, 2) := by decide +kernel
theorem dX0_renamed_95 : decode cX0_renamed 95 = .ok (.iload 5, 2) := by decide +kernel
theorem dX0_renamed_97 : decode cX0_renamed 97 = .ok (.iload 7, 2) := by decide +kernel
theorem dX0_renamed_99 : decode cX0_renamed 99 = .ok (.bipush 10, 2) := by decide +kernel
theorem dX0_renamed_101 : decode cX0_renamed 101 = .ok (.if_icmp .ge 8, 3) := by decide +kernel
theorem dX0_renamed_104 : decode cX0_renamed 104 = .ok (.iload 7, 2) := by decide +kernel
theorem dX0_renamed_106 : decode cX0_renamed 106 = .ok (.goto 13, 3) := by decide +kernel
theorem dX0_renamed_109 : decode cX0_renamed 109 = .ok (.bipush 10, 2) := by decide +kernel
theorem dX0_renamed_111 : decode cX0_renamed 111 = .ok (.aload_n 3, 1) := by decide +kernel
theorem dX0_renamed_112 : decode cX0_renamed 112 = .ok (.iload 7, 2) := by decide +kernel
theorem dX0_renamed_114 : decode cX0_renamed 114 = .ok (.bipush 10, 2) := by decide +kernel
theorem dX0_renamed_116 : decode cX0_renamed 116 = .ok (.isub, 1) := by decide +kernel
theorem dX0_renamed_117 : decode cX0_renamed 117 = .ok (.iaload, 1) := by decide +kernel
theorem dX0_renamed_118 : decode cX0_renamed 118 = .ok (.iadd, 1) := by decide +kernel
theorem dX0_renamed_119 : decode cX0_renamed 119 = .ok (.invokevirtual 77, 3) := by decide +kernel
theorem dX0_renamed_122 : decode cX0_renamed 122 = .ok (.iinc 6 1, 3) := by decide +kernel
theorem dX0_renamed_125 : decode cX0_renamed 125 = .ok (.goto (-52), 3) := by decide +kernel
theorem dX0_renamed_128 : decode cX0_renamed 128 = .ok (.iinc 5 1, 3) := by decide +kernel
theorem dX0_renamed_131 : decode cX0_renamed 131 = .ok (.goto (-70), 3) := by decide +kernel
theorem dX0_renamed_134 : decode cX0_renamed 134 = .ok (.aload_n 2, 1) := by decide +kernel
theorem dX0_renamed_135 : decode cX0_renamed 135 = .ok (.areturn, 1) := by decide +kernel
theorem dX0_same_0 : decode cX0_same 0 = .ok (.iload_n 3, 1) := by decide +kernel
theorem dX0_same_1 : decode cX0_same 1 = .ok (.iconst 2, 1) := by decide +kernel
theorem dX0_same_2 : decode cX0_same 2 = .ok (.irem, 1) := by decide +kernel
theorem dX0_same_3 : decode cX0_same 3 = .ok (.ifCond .ne 7, 3) := by decide +kernel
theorem dX0_same_6 : decode cX0_same 6 = .ok (.iconst 1, 1) := by decide +kernel
theorem dX0_same_7 : decode cX0_same 7 = .ok (.goto 4, 3) := by decide +kernel
theorem dX0_same_10 : decode cX0_same 10 = .ok (.iconst 0, 1) := by decide +kernel
theorem dX0_same_11 : decode cX0_same 11 = .ok (.istore 4, 2) := by decide +kernel
theorem dX0_same_13 : decode cX0_same 13 = .ok (.aload_n 1, 1) := by decide +kernel
theorem dX0_same_14 : decode cX0_same 14 = .ok (.getfield 19, 3) := by decide +kernel
theorem dX0_same_17 : decode cX0_same 17 = .ok (.iload 4, 2) := by decide +kernel
theorem dX0_same_19 : decode cX0_same 19 = .ok (.ifCond .eq 10, 3) := by decide +kernel
theorem dX0_same_22 : decode cX0_same 22 = .ok (.aload_n 0, 1) := by decide +kernel
theorem dX0_same_23 : decode cX0_same 23 = .ok (.getfield 19, 3) := by decide +kernel
theorem dX0_same_26 : decode cX0_same 26 = .ok (.goto 7, 3) := by decide +kernel
theorem dX0_same_29 : decode cX0_same 29 = .ok (.aload_n 0, 1) := by decide +kernel
theorem dX0_same_30 : decode cX0_same 30 = .ok (.getfield 23, 3) := by decide +kernel
theorem dX0_same_33 : decode cX0_same 33 = .ok (.if_icmp .ne 26, 3) := by decide +kernel
theorem dX0_same_36 : decode cX0_same 36 = .ok (.aload_n 1, 1) := by decide +kernel
theorem dX0_same_37 : decode cX0_same 37 = .ok (.getfield 23, 3) := by decide +kernel
theorem dX0_same_40 : decode cX0_same 40 = .ok (.iload 4, 2) := by decide +kernel
theorem dX0_same_42 : decode cX0_same 42 = .ok (.ifCond .eq 10, 3) := by decide +kernel
theorem dX0_same_45 : decode cX0_same 45 = .ok (.aload_n 0, 1) := by decide +kernel
theorem dX0_same_46 : decode cX0_same 46 = .ok (.getfield 23, 3) := by decide +kernel
theorem dX0_same_49 : decode cX0_same 49 = .ok (.goto 7, 3) := by decide +kernel
theorem dX0_same_52 : decode cX0_same 52 = .ok (.aload_n 0, 1) := by decide +kernel
theorem dX0_same_53 : decode cX0_same 53 = .ok (.getfield 19, 3) := by decide +kernel
theorem dX0_same_56 : decode cX0_same 56 = .ok (.if_icmp .eq 5, 3) := by decide +kernel
theorem dX0_same_59 : decode cX0_same 59 = .ok (.iconst 0, 1) := by decide +kernel
theorem dX0_same_60 : decode cX0_same 60 = .ok (.ireturn, 1) := by decide +kernel
theorem dX0_same_61 : decode cX0_same 61 = .ok (.iconst 0, 1) := by decide +kernel
theorem dX0_same_62 : decode cX0_same 62 = .ok (.istore 5, 2) := by decide +kernel
theorem dX0_same_64 : decode cX0_same 64 = .ok (.iload 5, 2) := by decide +kernel
theorem dX0_same_66 : decode cX0_same 66 = .ok (.aload_n 0, 1) := by decide +kernel
theorem dX0_same_67 : decode cX0_same 67 = .ok (.getfield 23, 3) := by decide +kernel
theorem dX0_same_70 : decode cX0_same 70 = .ok (.if_icmp .ge 66, 3) := by decide +kernel
theorem dX0_same_73 : decode cX0_same 73 = .ok (.iconst 0, 1) := by decide +kernel
theorem dX0_same_74 : decode cX0_same 74 = .ok (.istore 6, 2) := by decide +kernel
theorem dX0_same_76 : decode cX0_same 76 = .ok (.iload 6, 2) := by decide +kernel
theorem dX0_same_78 : decode cX0_same 78 = .ok (.aload_n 0, 1) := by decide +kernel
theorem dX0_same_79 : decode cX0_same 79 = .ok (.getfield 19, 3) := by decide +kernel
theorem dX0_same_82 : decode cX0_same 82 = .ok (.if_icmp .ge 48, 3) := by decide +kernel
theorem dX0_same_85 : decode cX0_same 85 = .ok (.aload_n 1, 1) := by decide +kernel
theorem dX0_same_86 : decode cX0_same 86 = .ok (.aload_n 0, 1) := by decide +kernel
theorem dX0_same_87 : decode cX0_same 87 = .ok (.iload_n 2, 1) := by decide +kernel
theorem dX0_same_88 : decode cX0_same 88 = .ok (.ifCond .eq 15, 3) := by decide +kernel
theorem dX0_same_91 : decode cX0_same 91 = .ok (.aload_n 0, 1) := by decide +kernel
theorem dX0_same_92 : decode cX0_same 92 = .ok (.getfield 19, 3) := by decide +kernel
theorem dX0_same_95 : decode cX0_same 95 = .ok (.iconst 1, 1) := by decide +kernel
theorem dX0_same_96 : decode cX0_same 96 = .ok (.isub, 1) := by decide +kernel
theorem dX0_same_97 : decode cX0_same 97 = .ok (.iload 6, 2) := by decide +kernel
theorem dX0_same_99 : decode cX0_same 99 = .ok (.isub, 1) := by decide +kernel
theorem dX0_same_100 : decode cX0_same 100 = .ok (.goto 5, 3) := by decide +kernel
theorem dX0_same_103 : decode cX0_same 103 = .ok (.iload 6, 2) := by decide +kernel
theorem dX0_same_105 : decode cX0_same 105 = .ok (.iload 5, 2) := by decide +kernel
theorem dX0_same_107 : decode cX0_same 107 = .ok (.iload_n 3, 1) := by decide +kernel
theorem dX0_same_108 : decode cX0_same 108 = .ok (.invokevirtual 81, 3) := by decide +kernel
theorem dX0_same_111 : decode cX0_same 111 = .ok (.aload_n 0, 1) := by decide +kernel
theorem dX0_same_112 : decode cX0_same 112 = .ok (.iload 6, 2) := by decide +kernel
theorem dX0_same_114 : decode cX0_same 114 = .ok (.iload 5, 2) := by decide +kernel
theorem dX0_same_116 : decode cX0_same 116 = .ok (.invokevirtual 65, 3) := by decide +kernel
theorem dX0_same_119 : decode cX0_same 119 = .ok (.if_icmp .eq 5, 3) := by decide +kernel
theorem dX0_same_122 : decode cX0_same 122 = .ok (.iconst 0, 1) := by decide +kernel
theorem dX0_same_123 : decode cX0_same 123 = .ok (.ireturn, 1) := by decide +kernel
theorem dX0_same_124 : decode cX0_same 124 = .ok (.iinc 6 1, 3) := by decide +kernel
theorem dX0_same_127 : decode cX0_same 127 = .ok (.goto (-51), 3) := by decide +kernel
theorem dX0_same_130 : decode cX0_same 130 = .ok (.iinc 5 1, 3) := by decide +kernel
theorem dX0_same_133 : decode cX0_same 133 = .ok (.goto (-69), 3) := by decide +kernel
theorem dX0_same_136 : decode cX0_same 136 = .ok (.iconst 1, 1) := by decide +kernel
theorem dX0_same_137 : decode cX0_same 137 = .ok (.ireturn, 1) := by decide +kernel
theorem dX0_codeAfter_0 : decode cX0_codeAfter 0 = .ok (.iload_n 2, 1) := by decide +kernel
theorem dX0_codeAfter_1 : decode cX0_codeAfter 1 = .ok (.istore 5, 2) := by decide +kernel
theorem dX0_codeAfter_3 : decode cX0_codeAfter 3 = .ok (.iload_n 3, 1) := by decide +kernel
theorem dX0_codeAfter_4 : decode cX0_codeAfter 4 = .ok (.istore 6, 2) := by decide +kernel
theorem dX0_codeAfter_6 : decode cX0_codeAfter 6 = .ok (.iconst 0, 1) := by decide +kernel
theorem dX0_codeAfter_7 : decode cX0_codeAfter 7 = .ok (.istore 7, 2) := by decide +kernel
theorem dX0_codeAfter_9 : decode cX0_codeAfter 9 = .ok (.iload 7, 2) := by decide +kernel
theorem dX0_codeAfter_11 : decode cX0_codeAfter 11 = .ok (.iload 4, 2) := by decide +kernel
theorem dX0_codeAfter_13 : decode cX0_codeAfter 13 = .ok (.if_icmp .ge 46, 3) := by decide +kernel
theorem dX0_codeAfter_16 : decode cX0_codeAfter 16 = .ok (.iload 7, 2) := by decide +kernel
theorem dX0_codeAfter_18 : decode cX0_codeAfter 18 = .ok (.iconst 2, 1) := by decide +kernel
theorem dX0_codeAfter_19 : decode cX0_codeAfter 19 = .ok (.irem, 1) := by decide +kernel
theorem dX0_codeAfter_20 : decode cX0_codeAfter 20 = .ok (.ifCond .ne 10, 3) := by decide +kernel
theorem dX0_codeAfter_23 : decode cX0_codeAfter 23 = .ok (.aload_n 1, 1) := by decide +kernel
theorem dX0_codeAfter_24 : decode cX0_codeAfter 24 = .ok (.getfield 23, 3) := by decide +kernel
theorem dX0_codeAfter_27 : decode cX0_codeAfter 27 = .ok (.goto 7, 3) := by decide +kernel
theorem dX0_codeAfter_30 : decode cX0_codeAfter 30 = .ok (.aload_n 1, 1) := by decide +kernel
theorem dX0_codeAfter_31 : decode cX0_codeAfter 31 = .ok (.getfield 19, 3) := by decide +kernel
theorem dX0_codeAfter_34 : decode cX0_codeAfter 34 = .ok (.istore 8, 2) := by decide +kernel
theorem dX0_codeAfter_36 : decode cX0_codeAfter 36 = .ok (.iload 5, 2) := by decide +kernel
theorem dX0_codeAfter_38 : decode cX0_codeAfter 38 = .ok (.istore 9, 2) := by decide +kernel
theorem dX0_codeAfter_40 : decode cX0_codeAfter 40 = .ok (.iload 8, 2) := by decide +kernel
theorem dX0_codeAfter_42 : decode cX0_codeAfter 42 = .ok (.iconst 1, 1) := by decide +kernel
theorem dX0_codeAfter_43 : decode cX0_codeAfter 43 = .ok (.isub, 1) := by decide +kernel
theorem dX0_codeAfter_44 : decode cX0_codeAfter 44 = .ok (.iload 6, 2) := by decide +kernel
theorem dX0_codeAfter_46 : decode cX0_codeAfter 46 = .ok (.isub, 1) := by decide +kernel
theorem dX0_codeAfter_47 : decode cX0_codeAfter 47 = .ok (.istore 5, 2) := by decide +kernel
theorem dX0_codeAfter_49 : decode cX0_codeAfter 49 = .ok (.iload 9, 2) := by decide +kernel
theorem dX0_codeAfter_51 : decode cX0_codeAfter 51 = .ok (.istore 6, 2) := by decide +kernel
theorem dX0_codeAfter_53 : decode cX0_codeAfter 53 = .ok (.iinc 7 1, 3) := by decide +kernel
theorem dX0_codeAfter_56 : decode cX0_codeAfter 56 = .ok (.goto (-47), 3) := by decide +kernel
theorem dX0_codeAfter_59 : decode cX0_codeAfter 59 = .ok (.aload_n 0, 1) := by decide +kernel
theorem dX0_codeAfter_60 : decode cX0_codeAfter 60 = .ok (.iload 5, 2) := by decide +kernel
theorem dX0_codeAfter_62 : decode cX0_codeAfter 62 = .ok (.iload 6, 2) := by decide +kernel
theorem dX0_codeAfter_64 : decode cX0_codeAfter 64 = .ok (.invokevirtual 65, 3) := by decide +kernel
theorem dX0_codeAfter_67 : decode cX0_codeAfter 67 = .ok (.ireturn, 1) := by decide +kernel
theorem dX1_faultOf_0 : decode cX1_faultOf 0 = .ok (.iconst 5, 1) := by decide +kernel
theorem dX1_faultOf_1 : decode cX1_faultOf 1 = .ok (.istore_n 2, 1) := by decide +kernel
theorem dX1_faultOf_2 : decode cX1_faultOf 2 = .ok (.iconst 0, 1) := by decide +kernel
theorem dX1_faultOf_3 : decode cX1_faultOf 3 = .ok (.istore_n 3, 1) := by decide +kernel
theorem dX1_faultOf_4 : decode cX1_faultOf 4 = .ok (.iconst 0, 1) := by decide +kernel
theorem dX1_faultOf_5 : decode cX1_faultOf 5 = .ok (.istore 4, 2) := by decide +kernel
theorem dX1_faultOf_7 : decode cX1_faultOf 7 = .ok (.iconst 0, 1) := by decide +kernel
theorem dX1_faultOf_8 : decode cX1_faultOf 8 = .ok (.istore 5, 2) := by decide +kernel
theorem dX1_faultOf_10 : decode cX1_faultOf 10 = .ok (.iconst 0, 1) := by decide +kernel
theorem dX1_faultOf_11 : decode cX1_faultOf 11 = .ok (.istore 6, 2) := by decide +kernel
theorem dX1_faultOf_13 : decode cX1_faultOf 13 = .ok (.iload 6, 2) := by decide +kernel
theorem dX1_faultOf_15 : decode cX1_faultOf 15 = .ok (.iload_n 1, 1) := by decide +kernel
theorem dX1_faultOf_16 : decode cX1_faultOf 16 = .ok (.if_icmp .ge 123, 3) := by decide +kernel
theorem dX1_faultOf_19 : decode cX1_faultOf 19 = .ok (.iload 6, 2) := by decide +kernel
theorem dX1_faultOf_21 : decode cX1_faultOf 21 = .ok (.aload_n 0, 1) := by decide +kernel
theorem dX1_faultOf_22 : decode cX1_faultOf 22 = .ok (.arraylength, 1) := by decide +kernel
theorem dX1_faultOf_23 : decode cX1_faultOf 23 = .ok (.if_icmp .ge 116, 3) := by decide +kernel
theorem dX1_faultOf_26 : decode cX1_faultOf 26 = .ok (.aload_n 0, 1) := by decide +kernel
theorem dX1_faultOf_27 : decode cX1_faultOf 27 = .ok (.iload 6, 2) := by decide +kernel
theorem dX1_faultOf_29 : decode cX1_faultOf 29 = .ok (.iaload, 1) := by decide +kernel
theorem dX1_faultOf_30 : decode cX1_faultOf 30 = .ok (.istore 7, 2) := by decide +kernel
theorem dX1_faultOf_32 : decode cX1_faultOf 32 = .ok (.iload 7, 2) := by decide +kernel
theorem dX1_faultOf_34 : decode cX1_faultOf 34 = .ok (.bipush 47, 2) := by decide +kernel
theorem dX1_faultOf_36 : decode cX1_faultOf 36 = .ok (.if_icmp .ne 38, 3) := by decide +kernel
theorem dX1_faultOf_39 : decode cX1_faultOf 39 = .ok (.iload_n 3, 1) := by decide +kernel
theorem dX1_faultOf_40 : decode cX1_faultOf 40 = .ok (.ifCond .eq 21, 3) := by decide +kernel
theorem dX1_faultOf_43 : decode cX1_faultOf 43 = .ok (.iload 4, 2) := by decide +kernel
theorem dX1_faultOf_45 : decode cX1_faultOf 45 = .ok (.ifCond .le 8, 3) := by decide +kernel
theorem dX1_faultOf_48 : decode cX1_faultOf 48 = .ok (.iload_n 3, 1) := by decide +kernel
theorem dX1_faultOf_49 : decode cX1_faultOf 49 = .ok (.iload_n 2, 1) := by decide +kernel
theorem dX1_faultOf_50 : decode cX1_faultOf 50 = .ok (.if_icmp .lt 11, 3) := by decide +kernel
theorem dX1_faultOf_53 : decode cX1_faultOf 53 = .ok (.iload 4, 2) := by decide +kernel
theorem dX1_faultOf_55 : decode cX1_faultOf 55 = .ok (.iconst 1, 1) := by decide +kernel
theorem dX1_faultOf_56 : decode cX1_faultOf 56 = .ok (.iadd, 1) := by decide +kernel
theorem dX1_faultOf_57 : decode cX1_faultOf 57 = .ok (.iconst 4, 1) := by decide +kernel
theorem dX1_faultOf_58 : decode cX1_faultOf 58 = .ok (.if_icmp .lt 6, 3) := by decide +kernel
theorem dX1_faultOf_61 : decode cX1_faultOf 61 = .ok (.iload 6, 2) := by decide +kernel
theorem dX1_faultOf_63 : decode cX1_faultOf 63 = .ok (.ireturn, 1) := by decide +kernel
theorem dX1_faultOf_64 : decode cX1_faultOf 64 = .ok (.iload_n 3, 1) := by decide +kernel
theorem dX1_faultOf_65 : decode cX1_faultOf 65 = .ok (.istore_n 2, 1) := by decide +kernel
theorem dX1_faultOf_66 : decode cX1_faultOf 66 = .ok (.iconst 0, 1) := by decide +kernel
theorem dX1_faultOf_67 : decode cX1_faultOf 67 = .ok (.istore_n 3, 1) := by decide +kernel
theorem dX1_faultOf_68 : decode cX1_faultOf 68 = .ok (.iinc 4 1, 3) := by decide +kernel
theorem dX1_faultOf_71 : decode cX1_faultOf 71 = .ok (.goto 62, 3) := by decide +kernel
theorem dX1_faultOf_74 : decode cX1_faultOf 74 = .ok (.iload 7, 2) := by decide +kernel
theorem dX1_faultOf_76 : decode cX1_faultOf 76 = .ok (.invokestatic 9, 3) := by decide +kernel
theorem dX1_faultOf_79 : decode cX1_faultOf 79 = .ok (.istore 8, 2) := by decide +kernel
theorem dX1_faultOf_81 : decode cX1_faultOf 81 = .ok (.iload_n 3, 1) := by decide +kernel
theorem dX1_faultOf_82 : decode cX1_faultOf 82 = .ok (.iload_n 2, 1) := by decide +kernel
theorem dX1_faultOf_83 : decode cX1_faultOf 83 = .ok (.if_icmp .ge 26, 3) := by decide +kernel
theorem dX1_faultOf_86 : decode cX1_faultOf 86 = .ok (.iload 7, 2) := by decide +kernel
theorem dX1_faultOf_88 : decode cX1_faultOf 88 = .ok (.invokestatic 15, 3) := by decide +kernel
theorem dX1_faultOf_91 : decode cX1_faultOf 91 = .ok (.ifCond .lt 18, 3) := by decide +kernel
theorem dX1_faultOf_94 : decode cX1_faultOf 94 = .ok (.iload 8, 2) := by decide +kernel
theorem dX1_faultOf_96 : decode cX1_faultOf 96 = .ok (.ifCond .lt 16, 3) := by decide +kernel
theorem dX1_faultOf_99 : decode cX1_faultOf 99 = .ok (.iload 5, 2) := by decide +kernel
theorem dX1_faultOf_101 : decode cX1_faultOf 101 = .ok (.iload 8, 2) := by decide +kernel
theorem dX1_faultOf_103 : decode cX1_faultOf 103 = .ok (.ishr, 1) := by decide +kernel
theorem dX1_faultOf_104 : decode cX1_faultOf 104 = .ok (.iconst 1, 1) := by decide +kernel
theorem dX1_faultOf_105 : decode cX1_faultOf 105 = .ok (.iand, 1) := by decide +kernel
theorem dX1_faultOf_106 : decode cX1_faultOf 106 = .ok (.ifCond .eq 6, 3) := by decide +kernel
theorem dX1_faultOf_109 : decode cX1_faultOf 109 = .ok (.iload 6, 2) := by decide +kernel
theorem dX1_faultOf_111 : decode cX1_faultOf 111 = .ok (.ireturn, 1) := by decide +kernel
theorem dX1_faultOf_112 : decode cX1_faultOf 112 = .ok (.iload 5, 2) := by decide +kernel
theorem dX1_faultOf_114 : decode cX1_faultOf 114 = .ok (.iload 8, 2) := by decide +kernel
theorem dX1_faultOf_116 : decode cX1_faultOf 116 = .ok (.ifCond .lt 10, 3) := by decide +kernel
theorem dX1_faultOf_119 : decode cX1_faultOf 119 = .ok (.iconst 1, 1) := by decide +kernel
theorem dX1_faultOf_120 : decode cX1_faultOf 120 = .ok (.iload 8, 2) := by decide +kernel
theorem dX1_faultOf_122 : decode cX1_faultOf 122 = .ok (.ishl, 1) := by decide +kernel
theorem dX1_faultOf_123 : decode cX1_faultOf 123 = .ok (.goto 4, 3) := by decide +kernel
theorem dX1_faultOf_126 : decode cX1_faultOf 126 = .ok (.iconst 0, 1) := by decide +kernel
theorem dX1_faultOf_127 : decode cX1_faultOf 127 = .ok (.ior, 1) := by decide +kernel
theorem dX1_faultOf_128 : decode cX1_faultOf 128 = .ok (.istore 5, 2) := by decide +kernel
theorem dX1_faultOf_130 : decode cX1_faultOf 130 = .ok (.iinc 3 1, 3) := by decide +kernel
theorem dX1_faultOf_133 : decode cX1_faultOf 133 = .ok (.iinc 6 1, 3) := by decide +kernel
theorem dX1_faultOf_136 : decode cX1_faultOf 136 = .ok (.goto (-123), 3) := by decide +kernel
theorem dX1_faultOf_139 : decode cX1_faultOf 139 = .ok (.iload_n 3, 1) := by decide +kernel
theorem dX1_faultOf_140 : decode cX1_faultOf 140 = .ok (.ifCond .eq 13, 3) := by decide +kernel
theorem dX1_faultOf_143 : decode cX1_faultOf 143 = .ok (.iload 4, 2) := by decide +kernel
theorem dX1_faultOf_145 : decode cX1_faultOf 145 = .ok (.ifCond .le 12, 3) := by decide +kernel
theorem dX1_faultOf_148 : decode cX1_faultOf 148 = .ok (.iload_n 3, 1) := by decide +kernel
theorem dX1_faultOf_149 : decode cX1_faultOf 149 = .ok (.iload_n 2, 1) := by decide +kernel
theorem dX1_faultOf_150 : decode cX1_faultOf 150 = .ok (.if_icmp .ge 7, 3) := by decide +kernel
theorem dX1_faultOf_153 : decode cX1_faultOf 153 = .ok (.iconst 1, 1) := by decide +kernel
theorem dX1_faultOf_154 : decode cX1_faultOf 154 = .ok (.goto 4, 3) := by decide +kernel
theorem dX1_faultOf_157 : decode cX1_faultOf 157 = .ok (.iconst 0, 1) := by decide +kernel
theorem dX1_faultOf_158 : decode cX1_faultOf 158 = .ok (.istore 6, 2) := by decide +kernel
theorem dX1_faultOf_160 : decode cX1_faultOf 160 = .ok (.iload 5, 2) := by decide +kernel
theorem dX1_faultOf_162 : decode cX1_faultOf 162 = .ok (.iload 5, 2) := by decide +kernel
theorem dX1_faultOf_164 : decode cX1_faultOf 164 = .ok (.iconst 1, 1) := by decide +kernel
theorem dX1_faultOf_165 : decode cX1_faultOf 165 = .ok (.iadd, 1) := by decide +kernel
theorem dX1_faultOf_166 : decode cX1_faultOf 166 = .ok (.iand, 1) := by decide +kernel
theorem dX1_faultOf_167 : decode cX1_faultOf 167 = .ok (.ifCond .eq 7, 3) := by decide +kernel
theorem dX1_faultOf_170 : decode cX1_faultOf 170 = .ok (.iconst 1, 1) := by decide +kernel
theorem dX1_faultOf_171 : decode cX1_faultOf 171 = .ok (.goto 4, 3) := by decide +kernel
theorem dX1_faultOf_174 : decode cX1_faultOf 174 = .ok (.iconst 0, 1) := by decide +kernel
theorem dX1_faultOf_175 : decode cX1_faultOf 175 = .ok (.istore 7, 2) := by decide +kernel
theorem dX1_faultOf_177 : decode cX1_faultOf 177 = .ok (.iload 6, 2) := by decide +kernel
theorem dX1_faultOf_179 : decode cX1_faultOf 179 = .ok (.ifCond .ne 8, 3) := by decide +kernel
theorem dX1_faultOf_182 : decode cX1_faultOf 182 = .ok (.iload 7, 2) := by decide +kernel
theorem dX1_faultOf_184 : decode cX1_faultOf 184 = .ok (.ifCond .eq 7, 3) := by decide +kernel
theorem dX1_faultOf_187 : decode cX1_faultOf 187 = .ok (.iload_n 1, 1) := by decide +kernel
theorem dX1_faultOf_188 : decode cX1_faultOf 188 = .ok (.goto 4, 3) := by decide +kernel
theorem dX1_faultOf_191 : decode cX1_faultOf 191 = .ok (.iconst (-1), 1) := by decide +kernel
theorem dX1_faultOf_192 : decode cX1_faultOf 192 = .ok (.ireturn, 1) := by decide +kernel
theorem dX1_boardOf_0 : decode cX1_boardOf 0 = .ok (.aload_n 0, 1) := by decide +kernel
theorem dX1_boardOf_1 : decode cX1_boardOf 1 = .ok (.iload_n 1, 1) := by decide +kernel
theorem dX1_boardOf_2 : decode cX1_boardOf 2 = .ok (.invokestatic 18, 3) := by decide +kernel
theorem dX1_boardOf_5 : decode cX1_boardOf 5 = .ok (.istore_n 2, 1) := by decide +kernel
theorem dX1_boardOf_6 : decode cX1_boardOf 6 = .ok (.new 7, 3) := by decide +kernel
theorem dX1_boardOf_9 : decode cX1_boardOf 9 = .ok (.dup, 1) := by decide +kernel
theorem dX1_boardOf_10 : decode cX1_boardOf 10 = .ok (.iload_n 2, 1) := by decide +kernel
theorem dX1_boardOf_11 : decode cX1_boardOf 11 = .ok (.iload_n 1, 1) := by decide +kernel
theorem dX1_boardOf_12 : decode cX1_boardOf 12 = .ok (.iconst 1, 1) := by decide +kernel
theorem dX1_boardOf_13 : decode cX1_boardOf 13 = .ok (.iadd, 1) := by decide +kernel
theorem dX1_boardOf_14 : decode cX1_boardOf 14 = .ok (.iload_n 2, 1) := by decide +kernel
theorem dX1_boardOf_15 : decode cX1_boardOf 15 = .ok (.iconst 1, 1) := by decide +kernel
theorem dX1_boardOf_16 : decode cX1_boardOf 16 = .ok (.iadd, 1) := by decide +kernel
theorem dX1_boardOf_17 : decode cX1_boardOf 17 = .ok (.idiv, 1) := by decide +kernel
theorem dX1_boardOf_18 : decode cX1_boardOf 18 = .ok (.invokespecial 22, 3) := by decide +kernel
theorem dX1_boardOf_21 : decode cX1_boardOf 21 = .ok (.astore_n 3, 1) := by decide +kernel
theorem dX1_boardOf_22 : decode cX1_boardOf 22 = .ok (.iconst 0, 1) := by decide +kernel
theorem dX1_boardOf_23 : decode cX1_boardOf 23 = .ok (.istore 4, 2) := by decide +kernel
theorem dX1_boardOf_25 : decode cX1_boardOf 25 = .ok (.iconst 0, 1) := by decide +kernel
theorem dX1_boardOf_26 : decode cX1_boardOf 26 = .ok (.istore 5, 2) := by decide +kernel
theorem dX1_boardOf_28 : decode cX1_boardOf 28 = .ok (.iconst 0, 1) := by decide +kernel
theorem dX1_boardOf_29 : decode cX1_boardOf 29 = .ok (.istore 6, 2) := by decide +kernel
theorem dX1_boardOf_31 : decode cX1_boardOf 31 = .ok (.iload 6, 2) := by decide +kernel
theorem dX1_boardOf_33 : decode cX1_boardOf 33 = .ok (.iload_n 1, 1) := by decide +kernel
theorem dX1_boardOf_34 : decode cX1_boardOf 34 = .ok (.if_icmp .ge 52, 3) := by decide +kernel
theorem dX1_boardOf_37 : decode cX1_boardOf 37 = .ok (.iload 6, 2) := by decide +kernel
theorem dX1_boardOf_39 : decode cX1_boardOf 39 = .ok (.aload_n 0, 1) := by decide +kernel
theorem dX1_boardOf_40 : decode cX1_boardOf 40 = .ok (.arraylength, 1) := by decide +kernel
theorem dX1_boardOf_41 : decode cX1_boardOf 41 = .ok (.if_icmp .ge 45, 3) := by decide +kernel
theorem dX1_boardOf_44 : decode cX1_boardOf 44 = .ok (.aload_n 0, 1) := by decide +kernel
theorem dX1_boardOf_45 : decode cX1_boardOf 45 = .ok (.iload 6, 2) := by decide +kernel
theorem dX1_boardOf_47 : decode cX1_boardOf 47 = .ok (.iaload, 1) := by decide +kernel
theorem dX1_boardOf_48 : decode cX1_boardOf 48 = .ok (.bipush 47, 2) := by decide +kernel
theorem dX1_boardOf_50 : decode cX1_boardOf 50 = .ok (.if_icmp .ne 12, 3) := by decide +kernel
theorem dX1_boardOf_53 : decode cX1_boardOf 53 = .ok (.iconst 0, 1) := by decide +kernel
theorem dX1_boardOf_54 : decode cX1_boardOf 54 = .ok (.istore 4, 2) := by decide +kernel
theorem dX1_boardOf_56 : decode cX1_boardOf 56 = .ok (.iinc 5 1, 3) := by decide +kernel
theorem dX1_boardOf_59 : decode cX1_boardOf 59 = .ok (.goto 21, 3) := by decide +kernel
theorem dX1_boardOf_62 : decode cX1_boardOf 62 = .ok (.aload_n 3, 1) := by decide +kernel
theorem dX1_boardOf_63 : decode cX1_boardOf 63 = .ok (.iload 4, 2) := by decide +kernel
theorem dX1_boardOf_65 : decode cX1_boardOf 65 = .ok (.iload 5, 2) := by decide +kernel
theorem dX1_boardOf_67 : decode cX1_boardOf 67 = .ok (.aload_n 0, 1) := by decide +kernel
theorem dX1_boardOf_68 : decode cX1_boardOf 68 = .ok (.iload 6, 2) := by decide +kernel
theorem dX1_boardOf_70 : decode cX1_boardOf 70 = .ok (.iaload, 1) := by decide +kernel
theorem dX1_boardOf_71 : decode cX1_boardOf 71 = .ok (.invokestatic 15, 3) := by decide +kernel
theorem dX1_boardOf_74 : decode cX1_boardOf 74 = .ok (.invokevirtual 25, 3) := by decide +kernel
theorem dX1_boardOf_77 : decode cX1_boardOf 77 = .ok (.iinc 4 1, 3) := by decide +kernel
theorem dX1_boardOf_80 : decode cX1_boardOf 80 = .ok (.iinc 6 1, 3) := by decide +kernel
theorem dX1_boardOf_83 : decode cX1_boardOf 83 = .ok (.goto (-52), 3) := by decide +kernel
theorem dX1_boardOf_86 : decode cX1_boardOf 86 = .ok (.aload_n 3, 1) := by decide +kernel
theorem dX1_boardOf_87 : decode cX1_boardOf 87 = .ok (.areturn, 1) := by decide +kernel
theorem dX1_wideOf_0 : decode cX1_wideOf 0 = .ok (.iconst 0, 1) := by decide +kernel
theorem dX1_wideOf_1 : decode cX1_wideOf 1 = .ok (.istore_n 2, 1) := by decide +kernel
theorem dX1_wideOf_2 : decode cX1_wideOf 2 = .ok (.iload_n 2, 1) := by decide +kernel
theorem dX1_wideOf_3 : decode cX1_wideOf 3 = .ok (.iload_n 1, 1) := by decide +kernel
theorem dX1_wideOf_4 : decode cX1_wideOf 4 = .ok (.if_icmp .ge 25, 3) := by decide +kernel
theorem dX1_wideOf_7 : decode cX1_wideOf 7 = .ok (.iload_n 2, 1) := by decide +kernel
theorem dX1_wideOf_8 : decode cX1_wideOf 8 = .ok (.aload_n 0, 1) := by decide +kernel
theorem dX1_wideOf_9 : decode cX1_wideOf 9 = .ok (.arraylength, 1) := by decide +kernel
theorem dX1_wideOf_10 : decode cX1_wideOf 10 = .ok (.if_icmp .ge 19, 3) := by decide +kernel
theorem dX1_wideOf_13 : decode cX1_wideOf 13 = .ok (.aload_n 0, 1) := by decide +kernel
theorem dX1_wideOf_14 : decode cX1_wideOf 14 = .ok (.iload_n 2, 1) := by decide +kernel
theorem dX1_wideOf_15 : decode cX1_wideOf 15 = .ok (.iaload, 1) := by decide +kernel
theorem dX1_wideOf_16 : decode cX1_wideOf 16 = .ok (.bipush 47, 2) := by decide +kernel
theorem dX1_wideOf_18 : decode cX1_wideOf 18 = .ok (.if_icmp .ne 5, 3) := by decide +kernel
theorem dX1_wideOf_21 : decode cX1_wideOf 21 = .ok (.iload_n 2, 1) := by decide +kernel
theorem dX1_wideOf_22 : decode cX1_wideOf 22 = .ok (.ireturn, 1) := by decide +kernel
theorem dX1_wideOf_23 : decode cX1_wideOf 23 = .ok (.iinc 2 1, 3) := by decide +kernel
theorem dX1_wideOf_26 : decode cX1_wideOf 26 = .ok (.goto (-24), 3) := by decide +kernel
theorem dX1_wideOf_29 : decode cX1_wideOf 29 = .ok (.iload_n 1, 1) := by decide +kernel
theorem dX1_wideOf_30 : decode cX1_wideOf 30 = .ok (.ireturn, 1) := by decide +kernel
theorem dX1_faceOf_0 : decode cX1_faceOf 0 = .ok (.iload_n 0, 1) := by decide +kernel
theorem dX1_faceOf_1 : decode cX1_faceOf 1 = .ok (.bipush 48, 2) := by decide +kernel
theorem dX1_faceOf_3 : decode cX1_faceOf 3 = .ok (.if_icmp .lt 16, 3) := by decide +kernel
theorem dX1_faceOf_6 : decode cX1_faceOf 6 = .ok (.iload_n 0, 1) := by decide +kernel
theorem dX1_faceOf_7 : decode cX1_faceOf 7 = .ok (.bipush 53, 2) := by decide +kernel
theorem dX1_faceOf_9 : decode cX1_faceOf 9 = .ok (.if_icmp .ge 10, 3) := by decide +kernel
theorem dX1_faceOf_12 : decode cX1_faceOf 12 = .ok (.iload_n 0, 1) := by decide +kernel
theorem dX1_faceOf_13 : decode cX1_faceOf 13 = .ok (.bipush 48, 2) := by decide +kernel
theorem dX1_faceOf_15 : decode cX1_faceOf 15 = .ok (.isub, 1) := by decide +kernel
theorem dX1_faceOf_16 : decode cX1_faceOf 16 = .ok (.goto 4, 3) := by decide +kernel
theorem dX1_faceOf_19 : decode cX1_faceOf 19 = .ok (.iconst (-1), 1) := by decide +kernel
theorem dX1_faceOf_20 : decode cX1_faceOf 20 = .ok (.ireturn, 1) := by decide +kernel
theorem dX1_codeOf_0 : decode cX1_codeOf 0 = .ok (.iload_n 0, 1) := by decide +kernel
theorem dX1_codeOf_1 : decode cX1_codeOf 1 = .ok (.bipush 35, 2) := by decide +kernel
theorem dX1_codeOf_3 : decode cX1_codeOf 3 = .ok (.if_icmp .ne 5, 3) := by decide +kernel
theorem dX1_codeOf_6 : decode cX1_codeOf 6 = .ok (.iconst 0, 1) := by decide +kernel
theorem dX1_codeOf_7 : decode cX1_codeOf 7 = .ok (.ireturn, 1) := by decide +kernel
theorem dX1_codeOf_8 : decode cX1_codeOf 8 = .ok (.iload_n 0, 1) := by decide +kernel
theorem dX1_codeOf_9 : decode cX1_codeOf 9 = .ok (.bipush 46, 2) := by decide +kernel
theorem dX1_codeOf_11 : decode cX1_codeOf 11 = .ok (.if_icmp .ne 5, 3) := by decide +kernel
theorem dX1_codeOf_14 : decode cX1_codeOf 14 = .ok (.iconst 1, 1) := by decide +kernel
theorem dX1_codeOf_15 : decode cX1_codeOf 15 = .ok (.ireturn, 1) := by decide +kernel
theorem dX1_codeOf_16 : decode cX1_codeOf 16 = .ok (.iload_n 0, 1) := by decide +kernel
theorem dX1_codeOf_17 : decode cX1_codeOf 17 = .ok (.invokestatic 9, 3) := by decide +kernel
theorem dX1_codeOf_20 : decode cX1_codeOf 20 = .ok (.ifCond .ge 7, 3) := by decide +kernel
theorem dX1_codeOf_23 : decode cX1_codeOf 23 = .ok (.iconst (-1), 1) := by decide +kernel
theorem dX1_codeOf_24 : decode cX1_codeOf 24 = .ok (.goto 10, 3) := by decide +kernel
theorem dX1_codeOf_27 : decode cX1_codeOf 27 = .ok (.bipush 10, 2) := by decide +kernel
theorem dX1_codeOf_29 : decode cX1_codeOf 29 = .ok (.iload_n 0, 1) := by decide +kernel
theorem dX1_codeOf_30 : decode cX1_codeOf 30 = .ok (.invokestatic 9, 3) := by decide +kernel
theorem dX1_codeOf_33 : decode cX1_codeOf 33 = .ok (.iadd, 1) := by decide +kernel
theorem dX1_codeOf_34 : decode cX1_codeOf 34 = .ok (.ireturn, 1) := by decide +kernel
theorem dX2_init_0 : decode cX2_init 0 = .ok (.aload_n 0, 1) := by decide +kernel
theorem dX2_init_1 : decode cX2_init 1 = .ok (.invokespecial 3, 3) := by decide +kernel
theorem dX2_init_4 : decode cX2_init 4 = .ok (.aload_n 0, 1) := by decide +kernel
theorem dX2_init_5 : decode cX2_init 5 = .ok (.bipush 10, 2) := by decide +kernel
theorem dX2_init_7 : decode cX2_init 7 = .ok (.anewarray 11, 3) := by decide +kernel
theorem dX2_init_10 : decode cX2_init 10 = .ok (.putfield 13, 3) := by decide +kernel
theorem dX2_init_13 : decode cX2_init 13 = .ok (.aload_n 0, 1) := by decide +kernel
theorem dX2_init_14 : decode cX2_init 14 = .ok (.bipush 10, 2) := by decide +kernel
theorem dX2_init_16 : decode cX2_init 16 = .ok (.newarray .int, 2) := by decide +kernel
theorem dX2_init_18 : decode cX2_init 18 = .ok (.putfield 17, 3) := by decide +kernel
theorem dX2_init_21 : decode cX2_init 21 = .ok (.aload_n 0, 1) := by decide +kernel
theorem dX2_init_22 : decode cX2_init 22 = .ok (.bipush 10, 2) := by decide +kernel
theorem dX2_init_24 : decode cX2_init 24 = .ok (.newarray .int, 2) := by decide +kernel
theorem dX2_init_26 : decode cX2_init 26 = .ok (.putfield 21, 3) := by decide +kernel
theorem dX2_init_29 : decode cX2_init 29 = .ok (.return_, 1) := by decide +kernel
theorem dX2_add_0 : decode cX2_add 0 = .ok (.aload_n 0, 1) := by decide +kernel
theorem dX2_add_1 : decode cX2_add 1 = .ok (.getfield 13, 3) := by decide +kernel
theorem dX2_add_4 : decode cX2_add 4 = .ok (.aload_n 0, 1) := by decide +kernel
theorem dX2_add_5 : decode cX2_add 5 = .ok (.getfield 24, 3) := by decide +kernel
theorem dX2_add_8 : decode cX2_add 8 = .ok (.aload_n 1, 1) := by decide +kernel
theorem dX2_add_9 : decode cX2_add 9 = .ok (.aastore, 1) := by decide +kernel
theorem dX2_add_10 : decode cX2_add 10 = .ok (.aload_n 0, 1) := by decide +kernel
theorem dX2_add_11 : decode cX2_add 11 = .ok (.getfield 17, 3) := by decide +kernel
theorem dX2_add_14 : decode cX2_add 14 = .ok (.aload_n 0, 1) := by decide +kernel
theorem dX2_add_15 : decode cX2_add 15 = .ok (.getfield 24, 3) := by decide +kernel
theorem dX2_add_18 : decode cX2_add 18 = .ok (.iload_n 2, 1) := by decide +kernel
theorem dX2_add_19 : decode cX2_add 19 = .ok (.iastore, 1) := by decide +kernel
theorem dX2_add_20 : decode cX2_add 20 = .ok (.aload_n 0, 1) := by decide +kernel
theorem dX2_add_21 : decode cX2_add 21 = .ok (.getfield 21, 3) := by decide +kernel
theorem dX2_add_24 : decode cX2_add 24 = .ok (.aload_n 0, 1) := by decide +kernel
theorem dX2_add_25 : decode cX2_add 25 = .ok (.getfield 24, 3) := by decide +kernel
theorem dX2_add_28 : decode cX2_add 28 = .ok (.iload_n 3, 1) := by decide +kernel
theorem dX2_add_29 : decode cX2_add 29 = .ok (.iastore, 1) := by decide +kernel
theorem dX2_add_30 : decode cX2_add 30 = .ok (.aload_n 0, 1) := by decide +kernel
theorem dX2_add_31 : decode cX2_add 31 = .ok (.dup, 1) := by decide +kernel
theorem dX2_add_32 : decode cX2_add 32 = .ok (.getfield 24, 3) := by decide +kernel
theorem dX2_add_35 : decode cX2_add 35 = .ok (.iconst 1, 1) := by decide +kernel
theorem dX2_add_36 : decode cX2_add 36 = .ok (.iadd, 1) := by decide +kernel
theorem dX2_add_37 : decode cX2_add 37 = .ok (.putfield 24, 3) := by decide +kernel
theorem dX2_add_40 : decode cX2_add 40 = .ok (.aload_n 0, 1) := by decide +kernel
theorem dX2_add_41 : decode cX2_add 41 = .ok (.getfield 24, 3) := by decide +kernel
theorem dX2_add_44 : decode cX2_add 44 = .ok (.iconst 1, 1) := by decide +kernel
theorem dX2_add_45 : decode cX2_add 45 = .ok (.isub, 1) := by decide +kernel
theorem dX2_add_46 : decode cX2_add 46 = .ok (.ireturn, 1) := by decide +kernel
theorem dX2_hasFace_0 : decode cX2_hasFace 0 = .ok (.iload_n 2, 1) := by decide +kernel
theorem dX2_hasFace_1 : decode cX2_hasFace 1 = .ok (.ifCond .lt 16, 3) := by decide +kernel
theorem dX2_hasFace_4 : decode cX2_hasFace 4 = .ok (.iload_n 2, 1) := by decide +kernel
theorem dX2_hasFace_5 : decode cX2_hasFace 5 = .ok (.aload_n 0, 1) := by decide +kernel
theorem dX2_hasFace_6 : decode cX2_hasFace 6 = .ok (.iload_n 1, 1) := by decide +kernel
theorem dX2_hasFace_7 : decode cX2_hasFace 7 = .ok (.invokevirtual 28, 3) := by decide +kernel
theorem dX2_hasFace_10 : decode cX2_hasFace 10 = .ok (.if_icmp .ge 7, 3) := by decide +kernel
theorem dX2_hasFace_13 : decode cX2_hasFace 13 = .ok (.iconst 1, 1) := by decide +kernel
theorem dX2_hasFace_14 : decode cX2_hasFace 14 = .ok (.goto 4, 3) := by decide +kernel
theorem dX2_hasFace_17 : decode cX2_hasFace 17 = .ok (.iconst 0, 1) := by decide +kernel
theorem dX2_hasFace_18 : decode cX2_hasFace 18 = .ok (.ireturn, 1) := by decide +kernel
theorem dX2_firstOverlap_0 : decode cX2_firstOverlap 0 = .ok (.iconst 0, 1) := by decide +kernel
theorem dX2_firstOverlap_1 : decode cX2_firstOverlap 1 = .ok (.istore_n 1, 1) := by decide +kernel
theorem dX2_firstOverlap_2 : decode cX2_firstOverlap 2 = .ok (.iload_n 1, 1) := by decide +kernel
theorem dX2_firstOverlap_3 : decode cX2_firstOverlap 3 = .ok (.aload_n 0, 1) := by decide +kernel
theorem dX2_firstOverlap_4 : decode cX2_firstOverlap 4 = .ok (.getfield 24, 3) := by decide +kernel
theorem dX2_firstOverlap_7 : decode cX2_firstOverlap 7 = .ok (.if_icmp .ge 43, 3) := by decide +kernel
theorem dX2_firstOverlap_10 : decode cX2_firstOverlap 10 = .ok (.iload_n 1, 1) := by decide +kernel
theorem dX2_firstOverlap_11 : decode cX2_firstOverlap 11 = .ok (.iconst 1, 1) := by decide +kernel
theorem dX2_firstOverlap_12 : decode cX2_firstOverlap 12 = .ok (.iadd, 1) := by decide +kernel
theorem dX2_firstOverlap_13 : decode cX2_firstOverlap 13 = .ok (.istore_n 2, 1) := by decide +kernel
theorem dX2_firstOverlap_14 : decode cX2_firstOverlap 14 = .ok (.iload_n 2, 1) := by decide +kernel
theorem dX2_firstOverlap_15 : decode cX2_firstOverlap 15 = .ok (.aload_n 0, 1) := by decide +kernel
theorem dX2_firstOverlap_16 : decode cX2_firstOverlap 16 = .ok (.getfield 24, 3) := by decide +kernel
theorem dX2_firstOverlap_19 : decode cX2_firstOverlap 19 = .ok (.if_icmp .ge 25, 3) := by decide +kernel
theorem dX2_firstOverlap_22 : decode cX2_firstOverlap 22 = .ok (.aload_n 0, 1) := by decide +kernel
theorem dX2_firstOverlap_23 : decode cX2_firstOverlap 23 = .ok (.iload_n 1, 1) := by decide +kernel
theorem dX2_firstOverlap_24 : decode cX2_firstOverlap 24 = .ok (.iload_n 2, 1) := by decide +kernel
theorem dX2_firstOverlap_25 : decode cX2_firstOverlap 25 = .ok (.invokevirtual 32, 3) := by decide +kernel
theorem dX2_firstOverlap_28 : decode cX2_firstOverlap 28 = .ok (.ifCond .eq 10, 3) := by decide +kernel
theorem dX2_firstOverlap_31 : decode cX2_firstOverlap 31 = .ok (.bipush 10, 2) := by decide +kernel
theorem dX2_firstOverlap_33 : decode cX2_firstOverlap 33 = .ok (.iload_n 1, 1) := by decide +kernel
theorem dX2_firstOverlap_34 : decode cX2_firstOverlap 34 = .ok (.imul, 1) := by decide +kernel
theorem dX2_firstOverlap_35 : decode cX2_firstOverlap 35 = .ok (.iload_n 2, 1) := by decide +kernel
theorem dX2_firstOverlap_36 : decode cX2_firstOverlap 36 = .ok (.iadd, 1) := by decide +kernel
theorem dX2_firstOverlap_37 : decode cX2_firstOverlap 37 = .ok (.ireturn, 1) := by decide +kernel
theorem dX2_firstOverlap_38 : decode cX2_firstOverlap 38 = .ok (.iinc 2 1, 3) := by decide +kernel
theorem dX2_firstOverlap_41 : decode cX2_firstOverlap 41 = .ok (.goto (-27), 3) := by decide +kernel
theorem dX2_firstOverlap_44 : decode cX2_firstOverlap 44 = .ok (.iinc 1 1, 3) := by decide +kernel
theorem dX2_firstOverlap_47 : decode cX2_firstOverlap 47 = .ok (.goto (-45), 3) := by decide +kernel
theorem dX2_firstOverlap_50 : decode cX2_firstOverlap 50 = .ok (.bipush (-9), 2) := by decide +kernel
theorem dX2_firstOverlap_52 : decode cX2_firstOverlap 52 = .ok (.ireturn, 1) := by decide +kernel
theorem dX2_metBy_0 : decode cX2_metBy 0 = .ok (.iconst 0, 1) := by decide +kernel
theorem dX2_metBy_1 : decode cX2_metBy 1 = .ok (.istore 4, 2) := by decide +kernel
theorem dX2_metBy_3 : decode cX2_metBy 3 = .ok (.iconst 0, 1) := by decide +kernel
theorem dX2_metBy_4 : decode cX2_metBy 4 = .ok (.istore 5, 2) := by decide +kernel
theorem dX2_metBy_6 : decode cX2_metBy 6 = .ok (.iload 5, 2) := by decide +kernel
theorem dX2_metBy_8 : decode cX2_metBy 8 = .ok (.aload_n 0, 1) := by decide +kernel
theorem dX2_metBy_9 : decode cX2_metBy 9 = .ok (.getfield 24, 3) := by decide +kernel
theorem dX2_metBy_12 : decode cX2_metBy 12 = .ok (.if_icmp .ge 67, 3) := by decide +kernel
theorem dX2_metBy_15 : decode cX2_metBy 15 = .ok (.iconst 0, 1) := by decide +kernel
theorem dX2_metBy_16 : decode cX2_metBy 16 = .ok (.istore 6, 2) := by decide +kernel
theorem dX2_metBy_18 : decode cX2_metBy 18 = .ok (.iload 5, 2) := by decide +kernel
theorem dX2_metBy_20 : decode cX2_metBy 20 = .ok (.iload_n 1, 1) := by decide +kernel
theorem dX2_metBy_21 : decode cX2_metBy 21 = .ok (.if_icmp .eq 52, 3) := by decide +kernel
theorem dX2_metBy_24 : decode cX2_metBy 24 = .ok (.iload 6, 2) := by decide +kernel
theorem dX2_metBy_26 : decode cX2_metBy 26 = .ok (.aload_n 0, 1) := by decide +kernel
theorem dX2_metBy_27 : decode cX2_metBy 27 = .ok (.iload 5, 2) := by decide +kernel
theorem dX2_metBy_29 : decode cX2_metBy 29 = .ok (.invokevirtual 28, 3) := by decide +kernel
theorem dX2_metBy_32 : decode cX2_metBy 32 = .ok (.if_icmp .ge 41, 3) := by decide +kernel
theorem dX2_metBy_35 : decode cX2_metBy 35 = .ok (.aload_n 0, 1) := by decide +kernel
theorem dX2_metBy_36 : decode cX2_metBy 36 = .ok (.iload_n 1, 1) := by decide +kernel
theorem dX2_metBy_37 : decode cX2_metBy 37 = .ok (.iload_n 2, 1) := by decide +kernel
theorem dX2_metBy_38 : decode cX2_metBy 38 = .ok (.iload 5, 2) := by decide +kernel
theorem dX2_metBy_40 : decode cX2_metBy 40 = .ok (.iload 6, 2) := by decide +kernel
theorem dX2_metBy_42 : decode cX2_metBy 42 = .ok (.invokevirtual 36, 3) := by decide +kernel
theorem dX2_metBy_45 : decode cX2_metBy 45 = .ok (.iconst 1, 1) := by decide +kernel
theorem dX2_metBy_46 : decode cX2_metBy 46 = .ok (.if_icmp .ne 21, 3) := by decide +kernel
theorem dX2_metBy_49 : decode cX2_metBy 49 = .ok (.iload 4, 2) := by decide +kernel
theorem dX2_metBy_51 : decode cX2_metBy 51 = .ok (.iload_n 3, 1) := by decide +kernel
theorem dX2_metBy_52 : decode cX2_metBy 52 = .ok (.if_icmp .ne 12, 3) := by decide +kernel
theorem dX2_metBy_55 : decode cX2_metBy 55 = .ok (.bipush 10, 2) := by decide +kernel
theorem dX2_metBy_57 : decode cX2_metBy 57 = .ok (.iload 5, 2) := by decide +kernel
theorem dX2_metBy_59 : decode cX2_metBy 59 = .ok (.imul, 1) := by decide +kernel
theorem dX2_metBy_60 : decode cX2_metBy 60 = .ok (.iload 6, 2) := by decide +kernel
theorem dX2_metBy_62 : decode cX2_metBy 62 = .ok (.iadd, 1) := by decide +kernel
theorem dX2_metBy_63 : decode cX2_metBy 63 = .ok (.ireturn, 1) := by decide +kernel
theorem dX2_metBy_64 : decode cX2_metBy 64 = .ok (.iinc 4 1, 3) := by decide +kernel
theorem dX2_metBy_67 : decode cX2_metBy 67 = .ok (.iinc 6 1, 3) := by decide +kernel
theorem dX2_metBy_70 : decode cX2_metBy 70 = .ok (.goto (-52), 3) := by decide +kernel
theorem dX2_metBy_73 : decode cX2_metBy 73 = .ok (.iinc 5 1, 3) := by decide +kernel
theorem dX2_metBy_76 : decode cX2_metBy 76 = .ok (.goto (-70), 3) := by decide +kernel
theorem dX2_metBy_79 : decode cX2_metBy 79 = .ok (.bipush (-9), 2) := by decide +kernel
theorem dX2_metBy_81 : decode cX2_metBy 81 = .ok (.ireturn, 1) := by decide +kernel
theorem dX2_firstLeak_0 : decode cX2_firstLeak 0 = .ok (.iconst 0, 1) := by decide +kernel
theorem dX2_firstLeak_1 : decode cX2_firstLeak 1 = .ok (.istore_n 1, 1) := by decide +kernel
theorem dX2_firstLeak_2 : decode cX2_firstLeak 2 = .ok (.iload_n 1, 1) := by decide +kernel
theorem dX2_firstLeak_3 : decode cX2_firstLeak 3 = .ok (.aload_n 0, 1) := by decide +kernel
theorem dX2_firstLeak_4 : decode cX2_firstLeak 4 = .ok (.getfield 24, 3) := by decide +kernel
theorem dX2_firstLeak_7 : decode cX2_firstLeak 7 = .ok (.if_icmp .ge 27, 3) := by decide +kernel
theorem dX2_firstLeak_10 : decode cX2_firstLeak 10 = .ok (.aload_n 0, 1) := by decide +kernel
theorem dX2_firstLeak_11 : decode cX2_firstLeak 11 = .ok (.iload_n 1, 1) := by decide +kernel
theorem dX2_firstLeak_12 : decode cX2_firstLeak 12 = .ok (.invokevirtual 40, 3) := by decide +kernel
theorem dX2_firstLeak_15 : decode cX2_firstLeak 15 = .ok (.ifCond .ne 11, 3) := by decide +kernel
theorem dX2_firstLeak_18 : decode cX2_firstLeak 18 = .ok (.aload_n 0, 1) := by decide +kernel
theorem dX2_firstLeak_19 : decode cX2_firstLeak 19 = .ok (.iload_n 1, 1) := by decide +kernel
theorem dX2_firstLeak_20 : decode cX2_firstLeak 20 = .ok (.invokevirtual 44, 3) := by decide +kernel
theorem dX2_firstLeak_23 : decode cX2_firstLeak 23 = .ok (.ifCond .eq 5, 3) := by decide +kernel
theorem dX2_firstLeak_26 : decode cX2_firstLeak 26 = .ok (.iload_n 1, 1) := by decide +kernel
theorem dX2_firstLeak_27 : decode cX2_firstLeak 27 = .ok (.ireturn, 1) := by decide +kernel
theorem dX2_firstLeak_28 : decode cX2_firstLeak 28 = .ok (.iinc 1 1, 3) := by decide +kernel
theorem dX2_firstLeak_31 : decode cX2_firstLeak 31 = .ok (.goto (-29), 3) := by decide +kernel
theorem dX2_firstLeak_34 : decode cX2_firstLeak 34 = .ok (.bipush (-9), 2) := by decide +kernel
theorem dX2_firstLeak_36 : decode cX2_firstLeak 36 = .ok (.ireturn, 1) := by decide +kernel
theorem dX2_meetings_0 : decode cX2_meetings 0 = .ok (.iconst 0, 1) := by decide +kernel
theorem dX2_meetings_1 : decode cX2_meetings 1 = .ok (.istore_n 1, 1) := by decide +kernel
theorem dX2_meetings_2 : decode cX2_meetings 2 = .ok (.iconst 0, 1) := by decide +kernel
theorem dX2_meetings_3 : decode cX2_meetings 3 = .ok (.istore_n 2, 1) := by decide +kernel
theorem dX2_meetings_4 : decode cX2_meetings 4 = .ok (.iload_n 2, 1) := by decide +kernel
theorem dX2_meetings_5 : decode cX2_meetings 5 = .ok (.aload_n 0, 1) := by decide +kernel
theorem dX2_meetings_6 : decode cX2_meetings 6 = .ok (.getfield 24, 3) := by decide +kernel
theorem dX2_meetings_9 : decode cX2_meetings 9 = .ok (.if_icmp .ge 50, 3) := by decide +kernel
theorem dX2_meetings_12 : decode cX2_meetings 12 = .ok (.iconst 0, 1) := by decide +kernel
theorem dX2_meetings_13 : decode cX2_meetings 13 = .ok (.istore_n 3, 1) := by decide +kernel
theorem dX2_meetings_14 : decode cX2_meetings 14 = .ok (.iload_n 3, 1) := by decide +kernel
theorem dX2_meetings_15 : decode cX2_meetings 15 = .ok (.aload_n 0, 1) := by decide +kernel
theorem dX2_meetings_16 : decode cX2_meetings 16 = .ok (.iload_n 2, 1) := by decide +kernel
theorem dX2_meetings_17 : decode cX2_meetings 17 = .ok (.invokevirtual 28, 3) := by decide +kernel
theorem dX2_meetings_20 : decode cX2_meetings 20 = .ok (.if_icmp .ge 33, 3) := by decide +kernel
theorem dX2_meetings_23 : decode cX2_meetings 23 = .ok (.iload_n 1, 1) := by decide +kernel
theorem dX2_meetings_24 : decode cX2_meetings 24 = .ok (.aload_n 0, 1) := by decide +kernel
theorem dX2_meetings_25 : decode cX2_meetings 25 = .ok (.iload_n 2, 1) := by decide +kernel
theorem dX2_meetings_26 : decode cX2_meetings 26 = .ok (.iload_n 3, 1) := by decide +kernel
theorem dX2_meetings_27 : decode cX2_meetings 27 = .ok (.iconst 0, 1) := by decide +kernel
theorem dX2_meetings_28 : decode cX2_meetings 28 = .ok (.invokevirtual 47, 3) := by decide +kernel
theorem dX2_meetings_31 : decode cX2_meetings 31 = .ok (.bipush 10, 2) := by decide +kernel
theorem dX2_meetings_33 : decode cX2_meetings 33 = .ok (.iload_n 2, 1) := by decide +kernel
theorem dX2_meetings_34 : decode cX2_meetings 34 = .ok (.imul, 1) := by decide +kernel
theorem dX2_meetings_35 : decode cX2_meetings 35 = .ok (.iload_n 3, 1) := by decide +kernel
theorem dX2_meetings_36 : decode cX2_meetings 36 = .ok (.iadd, 1) := by decide +kernel
theorem dX2_meetings_37 : decode cX2_meetings 37 = .ok (.if_icmp .le 7, 3) := by decide +kernel
theorem dX2_meetings_40 : decode cX2_meetings 40 = .ok (.iconst 1, 1) := by decide +kernel
theorem dX2_meetings_41 : decode cX2_meetings 41 = .ok (.goto 4, 3) := by decide +kernel
theorem dX2_meetings_44 : decode cX2_meetings 44 = .ok (.iconst 0, 1) := by decide +kernel
theorem dX2_meetings_45 : decode cX2_meetings 45 = .ok (.iadd, 1) := by decide +kernel
theorem dX2_meetings_46 : decode cX2_meetings 46 = .ok (.istore_n 1, 1) := by decide +kernel
theorem dX2_meetings_47 : decode cX2_meetings 47 = .ok (.iinc 3 1, 3) := by decide +kernel
theorem dX2_meetings_50 : decode cX2_meetings 50 = .ok (.goto (-36), 3) := by decide +kernel
theorem dX2_meetings_53 : decode cX2_meetings 53 = .ok (.iinc 2 1, 3) := by decide +kernel
theorem dX2_meetings_56 : decode cX2_meetings 56 = .ok (.goto (-52), 3) := by decide +kernel
theorem dX2_meetings_59 : decode cX2_meetings 59 = .ok (.iload_n 1, 1) := by decide +kernel
theorem dX2_meetings_60 : decode cX2_meetings 60 = .ok (.ireturn, 1) := by decide +kernel
theorem dX2_asNet_0 : decode cX2_asNet 0 = .ok (.new 51, 3) := by decide +kernel
theorem dX2_asNet_3 : decode cX2_asNet 3 = .ok (.dup, 1) := by decide +kernel
theorem dX2_asNet_4 : decode cX2_asNet 4 = .ok (.invokespecial 53, 3) := by decide +kernel
theorem dX2_asNet_7 : decode cX2_asNet 7 = .ok (.astore_n 1, 1) := by decide +kernel
theorem dX2_asNet_8 : decode cX2_asNet 8 = .ok (.iconst 0, 1) := by decide +kernel
theorem dX2_asNet_9 : decode cX2_asNet 9 = .ok (.istore_n 2, 1) := by decide +kernel
theorem dX2_asNet_10 : decode cX2_asNet 10 = .ok (.iload_n 2, 1) := by decide +kernel
theorem dX2_asNet_11 : decode cX2_asNet 11 = .ok (.aload_n 0, 1) := by decide +kernel
theorem dX2_asNet_12 : decode cX2_asNet 12 = .ok (.getfield 24, 3) := by decide +kernel
theorem dX2_asNet_15 : decode cX2_asNet 15 = .ok (.if_icmp .ge 26, 3) := by decide +kernel
theorem dX2_asNet_18 : decode cX2_asNet 18 = .ok (.aload_n 0, 1) := by decide +kernel
theorem dX2_asNet_19 : decode cX2_asNet 19 = .ok (.getfield 13, 3) := by decide +kernel
theorem dX2_asNet_22 : decode cX2_asNet 22 = .ok (.iload_n 2, 1) := by decide +kernel
theorem dX2_asNet_23 : decode cX2_asNet 23 = .ok (.aaload, 1) := by decide +kernel
theorem dX2_asNet_24 : decode cX2_asNet 24 = .ok (.astore_n 3, 1) := by decide +kernel
theorem dX2_asNet_25 : decode cX2_asNet 25 = .ok (.aload_n 3, 1) := by decide +kernel
theorem dX2_asNet_26 : decode cX2_asNet 26 = .ok (.ifnull 9, 3) := by decide +kernel
theorem dX2_asNet_29 : decode cX2_asNet 29 = .ok (.aload_n 1, 1) := by decide +kernel
theorem dX2_asNet_30 : decode cX2_asNet 30 = .ok (.aload_n 3, 1) := by decide +kernel
theorem dX2_asNet_31 : decode cX2_asNet 31 = .ok (.invokevirtual 54, 3) := by decide +kernel
theorem dX2_asNet_34 : decode cX2_asNet 34 = .ok (.pop, 1) := by decide +kernel
theorem dX2_asNet_35 : decode cX2_asNet 35 = .ok (.iinc 2 1, 3) := by decide +kernel
theorem dX2_asNet_38 : decode cX2_asNet 38 = .ok (.goto (-28), 3) := by decide +kernel
theorem dX2_asNet_41 : decode cX2_asNet 41 = .ok (.iconst 0, 1) := by decide +kernel
theorem dX2_asNet_42 : decode cX2_asNet 42 = .ok (.istore_n 2, 1) := by decide +kernel
theorem dX2_asNet_43 : decode cX2_asNet 43 = .ok (.iload_n 2, 1) := by decide +kernel
theorem dX2_asNet_44 : decode cX2_asNet 44 = .ok (.aload_n 0, 1) := by decide +kernel
theorem dX2_asNet_45 : decode cX2_asNet 45 = .ok (.getfield 24, 3) := by decide +kernel
theorem dX2_asNet_48 : decode cX2_asNet 48 = .ok (.if_icmp .ge 59, 3) := by decide +kernel
theorem dX2_asNet_51 : decode cX2_asNet 51 = .ok (.iconst 0, 1) := by decide +kernel
theorem dX2_asNet_52 : decode cX2_asNet 52 = .ok (.istore_n 3, 1) := by decide +kernel
theorem dX2_asNet_53 : decode cX2_asNet 53 = .ok (.iload_n 3, 1) := by decide +kernel
theorem dX2_asNet_54 : decode cX2_asNet 54 = .ok (.aload_n 0, 1) := by decide +kernel
theorem dX2_asNet_55 : decode cX2_asNet 55 = .ok (.iload_n 2, 1) := by decide +kernel
theorem dX2_asNet_56 : decode cX2_asNet 56 = .ok (.invokevirtual 28, 3) := by decide +kernel
theorem dX2_asNet_59 : decode cX2_asNet 59 = .ok (.if_icmp .ge 42, 3) := by decide +kernel
theorem dX2_asNet_62 : decode cX2_asNet 62 = .ok (.aload_n 0, 1) := by decide +kernel
theorem dX2_asNet_63 : decode cX2_asNet 63 = .ok (.iload_n 2, 1) := by decide +kernel
theorem dX2_asNet_64 : decode cX2_asNet 64 = .ok (.iload_n 3, 1) := by decide +kernel
theorem dX2_asNet_65 : decode cX2_asNet 65 = .ok (.iconst 0, 1) := by decide +kernel
theorem dX2_asNet_66 : decode cX2_asNet 66 = .ok (.invokevirtual 47, 3) := by decide +kernel
theorem dX2_asNet_69 : decode cX2_asNet 69 = .ok (.istore 4, 2) := by decide +kernel
theorem dX2_asNet_71 : decode cX2_asNet 71 = .ok (.iload 4, 2) := by decide +kernel
theorem dX2_asNet_73 : decode cX2_asNet 73 = .ok (.bipush 10, 2) := by decide +kernel
theorem dX2_asNet_75 : decode cX2_asNet 75 = .ok (.iload_n 2, 1) := by decide +kernel
theorem dX2_asNet_76 : decode cX2_asNet 76 = .ok (.imul, 1) := by decide +kernel
theorem dX2_asNet_77 : decode cX2_asNet 77 = .ok (.iload_n 3, 1) := by decide +kernel
theorem dX2_asNet_78 : decode cX2_asNet 78 = .ok (.iadd, 1) := by decide +kernel
theorem dX2_asNet_79 : decode cX2_asNet 79 = .ok (.if_icmp .le 16, 3) := by decide +kernel
theorem dX2_asNet_82 : decode cX2_asNet 82 = .ok (.aload_n 1, 1) := by decide +kernel
theorem dX2_asNet_83 : decode cX2_asNet 83 = .ok (.bipush 10, 2) := by decide +kernel
theorem dX2_asNet_85 : decode cX2_asNet 85 = .ok (.iload_n 2, 1) := by decide +kernel
theorem dX2_asNet_86 : decode cX2_asNet 86 = .ok (.imul, 1) := by decide +kernel
theorem dX2_asNet_87 : decode cX2_asNet 87 = .ok (.iload_n 3, 1) := by decide +kernel
theorem dX2_asNet_88 : decode cX2_asNet 88 = .ok (.iadd, 1) := by decide +kernel
theorem dX2_asNet_89 : decode cX2_asNet 89 = .ok (.iload 4, 2) := by decide +kernel
theorem dX2_asNet_91 : decode cX2_asNet 91 = .ok (.invokevirtual 58, 3) := by decide +kernel
theorem dX2_asNet_94 : decode cX2_asNet 94 = .ok (.pop, 1) := by decide +kernel
theorem dX2_asNet_95 : decode cX2_asNet 95 = .ok (.iinc 3 1, 3) := by decide +kernel
theorem dX2_asNet_98 : decode cX2_asNet 98 = .ok (.goto (-45), 3) := by decide +kernel
theorem dX2_asNet_101 : decode cX2_asNet 101 = .ok (.iinc 2 1, 3) := by decide +kernel
theorem dX2_asNet_104 : decode cX2_asNet 104 = .ok (.goto (-61), 3) := by decide +kernel
theorem dX2_asNet_107 : decode cX2_asNet 107 = .ok (.aload_n 1, 1) := by decide +kernel
theorem dX2_asNet_108 : decode cX2_asNet 108 = .ok (.areturn, 1) := by decide +kernel
theorem dX2_facesOf_0 : decode cX2_facesOf 0 = .ok (.iload_n 1, 1) := by decide +kernel
theorem dX2_facesOf_1 : decode cX2_facesOf 1 = .ok (.ifCond .lt 11, 3) := by decide +kernel
theorem dX2_facesOf_4 : decode cX2_facesOf 4 = .ok (.iload_n 1, 1) := by decide +kernel
theorem dX2_facesOf_5 : decode cX2_facesOf 5 = .ok (.aload_n 0, 1) := by decide +kernel
theorem dX2_facesOf_6 : decode cX2_facesOf 6 = .ok (.getfield 24, 3) := by decide +kernel
theorem dX2_facesOf_9 : decode cX2_facesOf 9 = .ok (.if_icmp .lt 5, 3) := by decide +kernel
theorem dX2_facesOf_12 : decode cX2_facesOf 12 = .ok (.iconst 0, 1) := by decide +kernel
theorem dX2_facesOf_13 : decode cX2_facesOf 13 = .ok (.ireturn, 1) := by decide +kernel
theorem dX2_facesOf_14 : decode cX2_facesOf 14 = .ok (.aload_n 0, 1) := by decide +kernel
theorem dX2_facesOf_15 : decode cX2_facesOf 15 = .ok (.getfield 13, 3) := by decide +kernel
theorem dX2_facesOf_18 : decode cX2_facesOf 18 = .ok (.iload_n 1, 1) := by decide +kernel
theorem dX2_facesOf_19 : decode cX2_facesOf 19 = .ok (.aaload, 1) := by decide +kernel
theorem dX2_facesOf_20 : decode cX2_facesOf 20 = .ok (.astore_n 2, 1) := by decide +kernel
theorem dX2_facesOf_21 : decode cX2_facesOf 21 = .ok (.aload_n 2, 1) := by decide +kernel
theorem dX2_facesOf_22 : decode cX2_facesOf 22 = .ok (.ifnonnull 7, 3) := by decide +kernel
theorem dX2_facesOf_25 : decode cX2_facesOf 25 = .ok (.iconst 0, 1) := by decide +kernel
theorem dX2_facesOf_26 : decode cX2_facesOf 26 = .ok (.goto 7, 3) := by decide +kernel
theorem dX2_facesOf_29 : decode cX2_facesOf 29 = .ok (.aload_n 2, 1) := by decide +kernel
theorem dX2_facesOf_30 : decode cX2_facesOf 30 = .ok (.getfield 62, 3) := by decide +kernel
theorem dX2_facesOf_33 : decode cX2_facesOf 33 = .ok (.ireturn, 1) := by decide +kernel
theorem dX2_codeOn_0 : decode cX2_codeOn 0 = .ok (.aload_n 0, 1) := by decide +kernel
theorem dX2_codeOn_1 : decode cX2_codeOn 1 = .ok (.getfield 13, 3) := by decide +kernel
theorem dX2_codeOn_4 : decode cX2_codeOn 4 = .ok (.iload_n 1, 1) := by decide +kernel
theorem dX2_codeOn_5 : decode cX2_codeOn 5 = .ok (.aaload, 1) := by decide +kernel
theorem dX2_codeOn_6 : decode cX2_codeOn 6 = .ok (.astore 4, 2) := by decide +kernel
theorem dX2_codeOn_8 : decode cX2_codeOn 8 = .ok (.aload 4, 2) := by decide +kernel
theorem dX2_codeOn_10 : decode cX2_codeOn 10 = .ok (.ifnonnull 7, 3) := by decide +kernel
theorem dX2_codeOn_13 : decode cX2_codeOn 13 = .ok (.iconst 0, 1) := by decide +kernel
theorem dX2_codeOn_14 : decode cX2_codeOn 14 = .ok (.goto 24, 3) := by decide +kernel
theorem dX2_codeOn_17 : decode cX2_codeOn 17 = .ok (.aload 4, 2) := by decide +kernel
theorem dX2_codeOn_19 : decode cX2_codeOn 19 = .ok (.iload_n 2, 1) := by decide +kernel
theorem dX2_codeOn_20 : decode cX2_codeOn 20 = .ok (.aload_n 0, 1) := by decide +kernel
theorem dX2_codeOn_21 : decode cX2_codeOn 21 = .ok (.getfield 17, 3) := by decide +kernel
theorem dX2_codeOn_24 : decode cX2_codeOn 24 = .ok (.iload_n 1, 1) := by decide +kernel
theorem dX2_codeOn_25 : decode cX2_codeOn 25 = .ok (.iaload, 1) := by decide +kernel
theorem dX2_codeOn_26 : decode cX2_codeOn 26 = .ok (.isub, 1) := by decide +kernel
theorem dX2_codeOn_27 : decode cX2_codeOn 27 = .ok (.iload_n 3, 1) := by decide +kernel
theorem dX2_codeOn_28 : decode cX2_codeOn 28 = .ok (.aload_n 0, 1) := by decide +kernel
theorem dX2_codeOn_29 : decode cX2_codeOn 29 = .ok (.getfield 21, 3) := by decide +kernel
theorem dX2_codeOn_32 : decode cX2_codeOn 32 = .ok (.iload_n 1, 1) := by decide +kernel
theorem dX2_codeOn_33 : decode cX2_codeOn 33 = .ok (.iaload, 1) := by decide +kernel
theorem dX2_codeOn_34 : decode cX2_codeOn 34 = .ok (.isub, 1) := by decide +kernel
theorem dX2_codeOn_35 : decode cX2_codeOn 35 = .ok (.invokevirtual 65, 3) := by decide +kernel
theorem dX2_codeOn_38 : decode cX2_codeOn 38 = .ok (.ireturn, 1) := by decide +kernel
theorem dX2_overlaps_0 : decode cX2_overlaps 0 = .ok (.iconst 0, 1) := by decide +kernel
theorem dX2_overlaps_1 : decode cX2_overlaps 1 = .ok (.istore_n 3, 1) := by decide +kernel
theorem dX2_overlaps_2 : decode cX2_overlaps 2 = .ok (.iload_n 3, 1) := by decide +kernel
theorem dX2_overlaps_3 : decode cX2_overlaps 3 = .ok (.bipush 12, 2) := by decide +kernel
theorem dX2_overlaps_5 : decode cX2_overlaps 5 = .ok (.if_icmp .ge 49, 3) := by decide +kernel
theorem dX2_overlaps_8 : decode cX2_overlaps 8 = .ok (.iconst 0, 1) := by decide +kernel
theorem dX2_overlaps_9 : decode cX2_overlaps 9 = .ok (.istore 4, 2) := by decide +kernel
theorem dX2_overlaps_11 : decode cX2_overlaps 11 = .ok (.iload 4, 2) := by decide +kernel
theorem dX2_overlaps_13 : decode cX2_overlaps 13 = .ok (.bipush 12, 2) := by decide +kernel
theorem dX2_overlaps_15 : decode cX2_overlaps 15 = .ok (.if_icmp .ge 33, 3) := by decide +kernel
theorem dX2_overlaps_18 : decode cX2_overlaps 18 = .ok (.aload_n 0, 1) := by decide +kernel
theorem dX2_overlaps_19 : decode cX2_overlaps 19 = .ok (.iload_n 1, 1) := by decide +kernel
theorem dX2_overlaps_20 : decode cX2_overlaps 20 = .ok (.iload 4, 2) := by decide +kernel
theorem dX2_overlaps_22 : decode cX2_overlaps 22 = .ok (.iload_n 3, 1) := by decide +kernel
theorem dX2_overlaps_23 : decode cX2_overlaps 23 = .ok (.invokevirtual 68, 3) := by decide +kernel
theorem dX2_overlaps_26 : decode cX2_overlaps 26 = .ok (.ifCond .eq 16, 3) := by decide +kernel
theorem dX2_overlaps_29 : decode cX2_overlaps 29 = .ok (.aload_n 0, 1) := by decide +kernel
theorem dX2_overlaps_30 : decode cX2_overlaps 30 = .ok (.iload_n 2, 1) := by decide +kernel
theorem dX2_overlaps_31 : decode cX2_overlaps 31 = .ok (.iload 4, 2) := by decide +kernel
theorem dX2_overlaps_33 : decode cX2_overlaps 33 = .ok (.iload_n 3, 1) := by decide +kernel
theorem dX2_overlaps_34 : decode cX2_overlaps 34 = .ok (.invokevirtual 68, 3) := by decide +kernel
theorem dX2_overlaps_37 : decode cX2_overlaps 37 = .ok (.ifCond .eq 5, 3) := by decide +kernel
theorem dX2_overlaps_40 : decode cX2_overlaps 40 = .ok (.iconst 1, 1) := by decide +kernel
theorem dX2_overlaps_41 : decode cX2_overlaps 41 = .ok (.ireturn, 1) := by decide +kernel
theorem dX2_overlaps_42 : decode cX2_overlaps 42 = .ok (.iinc 4 1, 3) := by decide +kernel
theorem dX2_overlaps_45 : decode cX2_overlaps 45 = .ok (.goto (-34), 3) := by decide +kernel
theorem dX2_overlaps_48 : decode cX2_overlaps 48 = .ok (.iinc 3 1, 3) := by decide +kernel
theorem dX2_overlaps_51 : decode cX2_overlaps 51 = .ok (.goto (-49), 3) := by decide +kernel
theorem dX2_overlaps_54 : decode cX2_overlaps 54 = .ok (.iconst 0, 1) := by decide +kernel
theorem dX2_overlaps_55 : decode cX2_overlaps 55 = .ok (.ireturn, 1) := by decide +kernel
theorem dX2_distance_0 : decode cX2_distance 0 = .ok (.aload_n 0, 1) := by decide +kernel
theorem dX2_distance_1 : decode cX2_distance 1 = .ok (.iload_n 1, 1) := by decide +kernel
theorem dX2_distance_2 : decode cX2_distance 2 = .ok (.iload_n 2, 1) := by decide +kernel
theorem dX2_distance_3 : decode cX2_distance 3 = .ok (.invokevirtual 71, 3) := by decide +kernel
theorem dX2_distance_6 : decode cX2_distance 6 = .ok (.aload_n 0, 1) := by decide +kernel
theorem dX2_distance_7 : decode cX2_distance 7 = .ok (.iload_n 3, 1) := by decide +kernel
theorem dX2_distance_8 : decode cX2_distance 8 = .ok (.iload 4, 2) := by decide +kernel
theorem dX2_distance_10 : decode cX2_distance 10 = .ok (.invokevirtual 71, 3) := by decide +kernel
theorem dX2_distance_13 : decode cX2_distance 13 = .ok (.isub, 1) := by decide +kernel
theorem dX2_distance_14 : decode cX2_distance 14 = .ok (.invokestatic 74, 3) := by decide +kernel
theorem dX2_distance_17 : decode cX2_distance 17 = .ok (.aload_n 0, 1) := by decide +kernel
theorem dX2_distance_18 : decode cX2_distance 18 = .ok (.iload_n 1, 1) := by decide +kernel
theorem dX2_distance_19 : decode cX2_distance 19 = .ok (.iload_n 2, 1) := by decide +kernel
theorem dX2_distance_20 : decode cX2_distance 20 = .ok (.invokevirtual 79, 3) := by decide +kernel
theorem dX2_distance_23 : decode cX2_distance 23 = .ok (.aload_n 0, 1) := by decide +kernel
theorem dX2_distance_24 : decode cX2_distance 24 = .ok (.iload_n 3, 1) := by decide +kernel
theorem dX2_distance_25 : decode cX2_distance 25 = .ok (.iload 4, 2) := by decide +kernel
theorem dX2_distance_27 : decode cX2_distance 27 = .ok (.invokevirtual 79, 3) := by decide +kernel
theorem dX2_distance_30 : decode cX2_distance 30 = .ok (.isub, 1) := by decide +kernel
theorem dX2_distance_31 : decode cX2_distance 31 = .ok (.invokestatic 74, 3) := by decide +kernel
theorem dX2_distance_34 : decode cX2_distance 34 = .ok (.iadd, 1) := by decide +kernel
theorem dX2_distance_35 : decode cX2_distance 35 = .ok (.ireturn, 1) := by decide +kernel
theorem dX2_faceX_0 : decode cX2_faceX 0 = .ok (.aload_n 0, 1) := by decide +kernel
theorem dX2_faceX_1 : decode cX2_faceX 1 = .ok (.getfield 13, 3) := by decide +kernel
theorem dX2_faceX_4 : decode cX2_faceX 4 = .ok (.iload_n 1, 1) := by decide +kernel
theorem dX2_faceX_5 : decode cX2_faceX 5 = .ok (.aaload, 1) := by decide +kernel
theorem dX2_faceX_6 : decode cX2_faceX 6 = .ok (.astore_n 3, 1) := by decide +kernel
theorem dX2_faceX_7 : decode cX2_faceX 7 = .ok (.aload_n 3, 1) := by decide +kernel
theorem dX2_faceX_8 : decode cX2_faceX 8 = .ok (.ifnonnull 7, 3) := by decide +kernel
theorem dX2_faceX_11 : decode cX2_faceX 11 = .ok (.iconst (-1), 1) := by decide +kernel
theorem dX2_faceX_12 : decode cX2_faceX 12 = .ok (.goto 18, 3) := by decide +kernel
theorem dX2_faceX_15 : decode cX2_faceX 15 = .ok (.aload_n 0, 1) := by decide +kernel
theorem dX2_faceX_16 : decode cX2_faceX 16 = .ok (.getfield 17, 3) := by decide +kernel
theorem dX2_faceX_19 : decode cX2_faceX 19 = .ok (.iload_n 1, 1) := by decide +kernel
theorem dX2_faceX_20 : decode cX2_faceX 20 = .ok (.iaload, 1) := by decide +kernel
theorem dX2_faceX_21 : decode cX2_faceX 21 = .ok (.aload_n 3, 1) := by decide +kernel
theorem dX2_faceX_22 : decode cX2_faceX 22 = .ok (.getfield 82, 3) := by decide +kernel
theorem dX2_faceX_25 : decode cX2_faceX 25 = .ok (.iload_n 2, 1) := by decide +kernel
theorem dX2_faceX_26 : decode cX2_faceX 26 = .ok (.iaload, 1) := by decide +kernel
theorem dX2_faceX_27 : decode cX2_faceX 27 = .ok (.iconst 5, 1) := by decide +kernel
theorem dX2_faceX_28 : decode cX2_faceX 28 = .ok (.irem, 1) := by decide +kernel
theorem dX2_faceX_29 : decode cX2_faceX 29 = .ok (.iadd, 1) := by decide +kernel
theorem dX2_faceX_30 : decode cX2_faceX 30 = .ok (.ireturn, 1) := by decide +kernel
theorem dX2_faceY_0 : decode cX2_faceY 0 = .ok (.aload_n 0, 1) := by decide +kernel
theorem dX2_faceY_1 : decode cX2_faceY 1 = .ok (.getfield 13, 3) := by decide +kernel
theorem dX2_faceY_4 : decode cX2_faceY 4 = .ok (.iload_n 1, 1) := by decide +kernel
theorem dX2_faceY_5 : decode cX2_faceY 5 = .ok (.aaload, 1) := by decide +kernel
theorem dX2_faceY_6 : decode cX2_faceY 6 = .ok (.astore_n 3, 1) := by decide +kernel
theorem dX2_faceY_7 : decode cX2_faceY 7 = .ok (.aload_n 3, 1) := by decide +kernel
theorem dX2_faceY_8 : decode cX2_faceY 8 = .ok (.ifnonnull 7, 3) := by decide +kernel
theorem dX2_faceY_11 : decode cX2_faceY 11 = .ok (.iconst (-1), 1) := by decide +kernel
theorem dX2_faceY_12 : decode cX2_faceY 12 = .ok (.goto 18, 3) := by decide +kernel
theorem dX2_faceY_15 : decode cX2_faceY 15 = .ok (.aload_n 0, 1) := by decide +kernel
theorem dX2_faceY_16 : decode cX2_faceY 16 = .ok (.getfield 21, 3) := by decide +kernel
theorem dX2_faceY_19 : decode cX2_faceY 19 = .ok (.iload_n 1, 1) := by decide +kernel
theorem dX2_faceY_20 : decode cX2_faceY 20 = .ok (.iaload, 1) := by decide +kernel
theorem dX2_faceY_21 : decode cX2_faceY 21 = .ok (.aload_n 3, 1) := by decide +kernel
theorem dX2_faceY_22 : decode cX2_faceY 22 = .ok (.getfield 82, 3) := by decide +kernel
theorem dX2_faceY_25 : decode cX2_faceY 25 = .ok (.iload_n 2, 1) := by decide +kernel
theorem dX2_faceY_26 : decode cX2_faceY 26 = .ok (.iaload, 1) := by decide +kernel
theorem dX2_faceY_27 : decode cX2_faceY 27 = .ok (.iconst 5, 1) := by decide +kernel
theorem dX2_faceY_28 : decode cX2_faceY 28 = .ok (.idiv, 1) := by decide +kernel
theorem dX2_faceY_29 : decode cX2_faceY 29 = .ok (.iadd, 1) := by decide +kernel
theorem dX2_faceY_30 : decode cX2_faceY 30 = .ok (.ireturn, 1) := by decide +kernel
theorem dX2_hasCrowdedFace_0 : decode cX2_hasCrowdedFace 0 = .ok (.iconst 0, 1) := by decide +kernel
theorem dX2_hasCrowdedFace_1 : decode cX2_hasCrowdedFace 1 = .ok (.istore_n 2, 1) := by decide +kernel
theorem dX2_hasCrowdedFace_2 : decode cX2_hasCrowdedFace 2 = .ok (.iload_n 2, 1) := by decide +kernel
theorem dX2_hasCrowdedFace_3 : decode cX2_hasCrowdedFace 3 = .ok (.aload_n 0, 1) := by decide +kernel
theorem dX2_hasCrowdedFace_4 : decode cX2_hasCrowdedFace 4 = .ok (.iload_n 1, 1) := by decide +kernel
theorem dX2_hasCrowdedFace_5 : decode cX2_hasCrowdedFace 5 = .ok (.invokevirtual 28, 3) := by decide +kernel
theorem dX2_hasCrowdedFace_8 : decode cX2_hasCrowdedFace 8 = .ok (.if_icmp .ge 23, 3) := by decide +kernel
theorem dX2_hasCrowdedFace_11 : decode cX2_hasCrowdedFace 11 = .ok (.aload_n 0, 1) := by decide +kernel
theorem dX2_hasCrowdedFace_12 : decode cX2_hasCrowdedFace 12 = .ok (.iload_n 1, 1) := by decide +kernel
theorem dX2_hasCrowdedFace_13 : decode cX2_hasCrowdedFace 13 = .ok (.iload_n 2, 1) := by decide +kernel
theorem dX2_hasCrowdedFace_14 : decode cX2_hasCrowdedFace 14 = .ok (.iconst 1, 1) := by decide +kernel
theorem dX2_hasCrowdedFace_15 : decode cX2_hasCrowdedFace 15 = .ok (.invokevirtual 47, 3) := by decide +kernel
theorem dX2_hasCrowdedFace_18 : decode cX2_hasCrowdedFace 18 = .ok (.bipush (-9), 2) := by decide +kernel
theorem dX2_hasCrowdedFace_20 : decode cX2_hasCrowdedFace 20 = .ok (.if_icmp .eq 5, 3) := by decide +kernel
theorem dX2_hasCrowdedFace_23 : decode cX2_hasCrowdedFace 23 = .ok (.iconst 1, 1) := by decide +kernel
theorem dX2_hasCrowdedFace_24 : decode cX2_hasCrowdedFace 24 = .ok (.ireturn, 1) := by decide +kernel
theorem dX2_hasCrowdedFace_25 : decode cX2_hasCrowdedFace 25 = .ok (.iinc 2 1, 3) := by decide +kernel
theorem dX2_hasCrowdedFace_28 : decode cX2_hasCrowdedFace 28 = .ok (.goto (-26), 3) := by decide +kernel
theorem dX2_hasCrowdedFace_31 : decode cX2_hasCrowdedFace 31 = .ok (.iconst 0, 1) := by decide +kernel
theorem dX2_hasCrowdedFace_32 : decode cX2_hasCrowdedFace 32 = .ok (.ireturn, 1) := by decide +kernel
theorem dX2_hasOpenSide_0 : decode cX2_hasOpenSide 0 = .ok (.iconst 0, 1) := by decide +kernel
theorem dX2_hasOpenSide_1 : decode cX2_hasOpenSide 1 = .ok (.istore_n 2, 1) := by decide +kernel
theorem dX2_hasOpenSide_2 : decode cX2_hasOpenSide 2 = .ok (.iload_n 2, 1) := by decide +kernel
theorem dX2_hasOpenSide_3 : decode cX2_hasOpenSide 3 = .ok (.bipush 12, 2) := by decide +kernel
theorem dX2_hasOpenSide_5 : decode cX2_hasOpenSide 5 = .ok (.if_icmp .ge 84, 3) := by decide +kernel
theorem dX2_hasOpenSide_8 : decode cX2_hasOpenSide 8 = .ok (.iconst 0, 1) := by decide +kernel
theorem dX2_hasOpenSide_9 : decode cX2_hasOpenSide 9 = .ok (.istore_n 3, 1) := by decide +kernel
theorem dX2_hasOpenSide_10 : decode cX2_hasOpenSide 10 = .ok (.iload_n 3, 1) := by decide +kernel
theorem dX2_hasOpenSide_11 : decode cX2_hasOpenSide 11 = .ok (.bipush 12, 2) := by decide +kernel
theorem dX2_hasOpenSide_13 : decode cX2_hasOpenSide 13 = .ok (.if_icmp .ge 70, 3) := by decide +kernel
theorem dX2_hasOpenSide_16 : decode cX2_hasOpenSide 16 = .ok (.aload_n 0, 1) := by decide +kernel
theorem dX2_hasOpenSide_17 : decode cX2_hasOpenSide 17 = .ok (.iload_n 1, 1) := by decide +kernel
theorem dX2_hasOpenSide_18 : decode cX2_hasOpenSide 18 = .ok (.iload_n 3, 1) := by decide +kernel
theorem dX2_hasOpenSide_19 : decode cX2_hasOpenSide 19 = .ok (.iload_n 2, 1) := by decide +kernel
theorem dX2_hasOpenSide_20 : decode cX2_hasOpenSide 20 = .ok (.invokevirtual 68, 3) := by decide +kernel
theorem dX2_hasOpenSide_23 : decode cX2_hasOpenSide 23 = .ok (.iconst 1, 1) := by decide +kernel
theorem dX2_hasOpenSide_24 : decode cX2_hasOpenSide 24 = .ok (.if_icmp .ne 53, 3) := by decide +kernel
theorem dX2_hasOpenSide_27 : decode cX2_hasOpenSide 27 = .ok (.aload_n 0, 1) := by decide +kernel
theorem dX2_hasOpenSide_28 : decode cX2_hasOpenSide 28 = .ok (.iload_n 1, 1) := by decide +kernel
theorem dX2_hasOpenSide_29 : decode cX2_hasOpenSide 29 = .ok (.iload_n 3, 1) := by decide +kernel
theorem dX2_hasOpenSide_30 : decode cX2_hasOpenSide 30 = .ok (.iconst 1, 1) := by decide +kernel
theorem dX2_hasOpenSide_31 : decode cX2_hasOpenSide 31 = .ok (.iadd, 1) := by decide +kernel
theorem dX2_hasOpenSide_32 : decode cX2_hasOpenSide 32 = .ok (.iload_n 2, 1) := by decide +kernel
theorem dX2_hasOpenSide_33 : decode cX2_hasOpenSide 33 = .ok (.invokevirtual 85, 3) := by decide +kernel
theorem dX2_hasOpenSide_36 : decode cX2_hasOpenSide 36 = .ok (.ifCond .ne 39, 3) := by decide +kernel
theorem dX2_hasOpenSide_39 : decode cX2_hasOpenSide 39 = .ok (.aload_n 0, 1) := by decide +kernel
theorem dX2_hasOpenSide_40 : decode cX2_hasOpenSide 40 = .ok (.iload_n 1, 1) := by decide +kernel
theorem dX2_hasOpenSide_41 : decode cX2_hasOpenSide 41 = .ok (.iload_n 3, 1) := by decide +kernel
theorem dX2_hasOpenSide_42 : decode cX2_hasOpenSide 42 = .ok (.iconst 1, 1) := by decide +kernel
theorem dX2_hasOpenSide_43 : decode cX2_hasOpenSide 43 = .ok (.isub, 1) := by decide +kernel
theorem dX2_hasOpenSide_44 : decode cX2_hasOpenSide 44 = .ok (.iload_n 2, 1) := by decide +kernel
theorem dX2_hasOpenSide_45 : decode cX2_hasOpenSide 45 = .ok (.invokevirtual 85, 3) := by decide +kernel
theorem dX2_hasOpenSide_48 : decode cX2_hasOpenSide 48 = .ok (.ifCond .ne 27, 3) := by decide +kernel
theorem dX2_hasOpenSide_51 : decode cX2_hasOpenSide 51 = .ok (.aload_n 0, 1) := by decide +kernel
theorem dX2_hasOpenSide_52 : decode cX2_hasOpenSide 52 = .ok (.iload_n 1, 1) := by decide +kernel
theorem dX2_hasOpenSide_53 : decode cX2_hasOpenSide 53 = .ok (.iload_n 3, 1) := by decide +kernel
theorem dX2_hasOpenSide_54 : decode cX2_hasOpenSide 54 = .ok (.iload_n 2, 1) := by decide +kernel
theorem dX2_hasOpenSide_55 : decode cX2_hasOpenSide 55 = .ok (.iconst 1, 1) := by decide +kernel
theorem dX2_hasOpenSide_56 : decode cX2_hasOpenSide 56 = .ok (.iadd, 1) := by decide +kernel
theorem dX2_hasOpenSide_57 : decode cX2_hasOpenSide 57 = .ok (.invokevirtual 85, 3) := by decide +kernel
theorem dX2_hasOpenSide_60 : decode cX2_hasOpenSide 60 = .ok (.ifCond .ne 15, 3) := by decide +kernel
theorem dX2_hasOpenSide_63 : decode cX2_hasOpenSide 63 = .ok (.aload_n 0, 1) := by decide +kernel
theorem dX2_hasOpenSide_64 : decode cX2_hasOpenSide 64 = .ok (.iload_n 1, 1) := by decide +kernel
theorem dX2_hasOpenSide_65 : decode cX2_hasOpenSide 65 = .ok (.iload_n 3, 1) := by decide +kernel
theorem dX2_hasOpenSide_66 : decode cX2_hasOpenSide 66 = .ok (.iload_n 2, 1) := by decide +kernel
theorem dX2_hasOpenSide_67 : decode cX2_hasOpenSide 67 = .ok (.iconst 1, 1) := by decide +kernel
theorem dX2_hasOpenSide_68 : decode cX2_hasOpenSide 68 = .ok (.isub, 1) := by decide +kernel
theorem dX2_hasOpenSide_69 : decode cX2_hasOpenSide 69 = .ok (.invokevirtual 85, 3) := by decide +kernel
theorem dX2_hasOpenSide_72 : decode cX2_hasOpenSide 72 = .ok (.ifCond .eq 5, 3) := by decide +kernel
theorem dX2_hasOpenSide_75 : decode cX2_hasOpenSide 75 = .ok (.iconst 1, 1) := by decide +kernel
theorem dX2_hasOpenSide_76 : decode cX2_hasOpenSide 76 = .ok (.ireturn, 1) := by decide +kernel
theorem dX2_hasOpenSide_77 : decode cX2_hasOpenSide 77 = .ok (.iinc 3 1, 3) := by decide +kernel
theorem dX2_hasOpenSide_80 : decode cX2_hasOpenSide 80 = .ok (.goto (-70), 3) := by decide +kernel
theorem dX2_hasOpenSide_83 : decode cX2_hasOpenSide 83 = .ok (.iinc 2 1, 3) := by decide +kernel
theorem dX2_hasOpenSide_86 : decode cX2_hasOpenSide 86 = .ok (.goto (-84), 3) := by decide +kernel
theorem dX2_hasOpenSide_89 : decode cX2_hasOpenSide 89 = .ok (.iconst 0, 1) := by decide +kernel
theorem dX2_hasOpenSide_90 : decode cX2_hasOpenSide 90 = .ok (.ireturn, 1) := by decide +kernel
theorem dX2_isOthers_0 : decode cX2_isOthers 0 = .ok (.iconst 0, 1) := by decide +kernel
theorem dX2_isOthers_1 : decode cX2_isOthers 1 = .ok (.istore 4, 2) := by decide +kernel
theorem dX2_isOthers_3 : decode cX2_isOthers 3 = .ok (.iload 4, 2) := by decide +kernel
theorem dX2_isOthers_5 : decode cX2_isOthers 5 = .ok (.aload_n 0, 1) := by decide +kernel
theorem dX2_isOthers_6 : decode cX2_isOthers 6 = .ok (.getfield 24, 3) := by decide +kernel
theorem dX2_isOthers_9 : decode cX2_isOthers 9 = .ok (.if_icmp .ge 28, 3) := by decide +kernel
theorem dX2_isOthers_12 : decode cX2_isOthers 12 = .ok (.iload 4, 2) := by decide +kernel
theorem dX2_isOthers_14 : decode cX2_isOthers 14 = .ok (.iload_n 1, 1) := by decide +kernel
theorem dX2_isOthers_15 : decode cX2_isOthers 15 = .ok (.if_icmp .eq 16, 3) := by decide +kernel
theorem dX2_isOthers_18 : decode cX2_isOthers 18 = .ok (.aload_n 0, 1) := by decide +kernel
theorem dX2_isOthers_19 : decode cX2_isOthers 19 = .ok (.iload 4, 2) := by decide +kernel
theorem dX2_isOthers_21 : decode cX2_isOthers 21 = .ok (.iload_n 2, 1) := by decide +kernel
theorem dX2_isOthers_22 : decode cX2_isOthers 22 = .ok (.iload_n 3, 1) := by decide +kernel
theorem dX2_isOthers_23 : decode cX2_isOthers 23 = .ok (.invokevirtual 68, 3) := by decide +kernel
theorem dX2_isOthers_26 : decode cX2_isOthers 26 = .ok (.ifCond .eq 5, 3) := by decide +kernel
theorem dX2_isOthers_29 : decode cX2_isOthers 29 = .ok (.iconst 1, 1) := by decide +kernel
theorem dX2_isOthers_30 : decode cX2_isOthers 30 = .ok (.ireturn, 1) := by decide +kernel
theorem dX2_isOthers_31 : decode cX2_isOthers 31 = .ok (.iinc 4 1, 3) := by decide +kernel
theorem dX2_isOthers_34 : decode cX2_isOthers 34 = .ok (.goto (-31), 3) := by decide +kernel
theorem dX2_isOthers_37 : decode cX2_isOthers 37 = .ok (.iconst 0, 1) := by decide +kernel
theorem dX2_isOthers_38 : decode cX2_isOthers 38 = .ok (.ireturn, 1) := by decide +kernel
theorem dX3_init_0 : decode cX3_init 0 = .ok (.aload_n 0, 1) := by decide +kernel
theorem dX3_init_1 : decode cX3_init 1 = .ok (.invokespecial 1, 3) := by decide +kernel
theorem dX3_init_4 : decode cX3_init 4 = .ok (.aload_n 0, 1) := by decide +kernel
theorem dX3_init_5 : decode cX3_init 5 = .ok (.iconst (-1), 1) := by decide +kernel
theorem dX3_init_6 : decode cX3_init 6 = .ok (.putfield 9, 3) := by decide +kernel
theorem dX3_init_9 : decode cX3_init 9 = .ok (.aload_n 0, 1) := by decide +kernel
theorem dX3_init_10 : decode cX3_init 10 = .ok (.aload_n 1, 1) := by decide +kernel
theorem dX3_init_11 : decode cX3_init 11 = .ok (.putfield 13, 3) := by decide +kernel
theorem dX3_init_14 : decode cX3_init 14 = .ok (.aload_n 0, 1) := by decide +kernel
theorem dX3_init_15 : decode cX3_init 15 = .ok (.iload_n 2, 1) := by decide +kernel
theorem dX3_init_16 : decode cX3_init 16 = .ok (.putfield 17, 3) := by decide +kernel
theorem dX3_init_19 : decode cX3_init 19 = .ok (.return_, 1) := by decide +kernel
theorem dX3_truthOfAll_0 : decode cX3_truthOfAll 0 = .ok (.aload_n 0, 1) := by decide +kernel
theorem dX3_truthOfAll_1 : decode cX3_truthOfAll 1 = .ok (.iconst 0, 1) := by decide +kernel
theorem dX3_truthOfAll_2 : decode cX3_truthOfAll 2 = .ok (.invokevirtual 20, 3) := by decide +kernel
theorem dX3_truthOfAll_5 : decode cX3_truthOfAll 5 = .ok (.lstore_n 1, 1) := by decide +kernel
theorem dX3_truthOfAll_6 : decode cX3_truthOfAll 6 = .ok (.aload_n 0, 1) := by decide +kernel
theorem dX3_truthOfAll_7 : decode cX3_truthOfAll 7 = .ok (.getfield 9, 3) := by decide +kernel
theorem dX3_truthOfAll_10 : decode cX3_truthOfAll 10 = .ok (.iconst (-1), 1) := by decide +kernel
theorem dX3_truthOfAll_11 : decode cX3_truthOfAll 11 = .ok (.if_icmp .ne 22, 3) := by decide +kernel
theorem dX3_truthOfAll_14 : decode cX3_truthOfAll 14 = .ok (.aload_n 0, 1) := by decide +kernel
theorem dX3_truthOfAll_15 : decode cX3_truthOfAll 15 = .ok (.getfield 24, 3) := by decide +kernel
theorem dX3_truthOfAll_18 : decode cX3_truthOfAll 18 = .ok (.aload_n 0, 1) := by decide +kernel
theorem dX3_truthOfAll_19 : decode cX3_truthOfAll 19 = .ok (.getfield 17, 3) := by decide +kernel
theorem dX3_truthOfAll_22 : decode cX3_truthOfAll 22 = .ok (.if_icmp .ge 11, 3) := by decide +kernel
theorem dX3_truthOfAll_25 : decode cX3_truthOfAll 25 = .ok (.aload_n 0, 1) := by decide +kernel
theorem dX3_truthOfAll_26 : decode cX3_truthOfAll 26 = .ok (.aload_n 0, 1) := by decide +kernel
theorem dX3_truthOfAll_27 : decode cX3_truthOfAll 27 = .ok (.getfield 24, 3) := by decide +kernel
theorem dX3_truthOfAll_30 : decode cX3_truthOfAll 30 = .ok (.putfield 9, 3) := by decide +kernel
theorem dX3_truthOfAll_33 : decode cX3_truthOfAll 33 = .ok (.lload_n 1, 1) := by decide +kernel
theorem dX3_truthOfAll_34 : decode cX3_truthOfAll 34 = .ok (.lreturn, 1) := by decide +kernel
theorem dX3_next_0 : decode cX3_next 0 = .ok (.aload_n 0, 1) := by decide +kernel
theorem dX3_next_1 : decode cX3_next 1 = .ok (.getfield 24, 3) := by decide +kernel
theorem dX3_next_4 : decode cX3_next 4 = .ok (.aload_n 0, 1) := by decide +kernel
theorem dX3_next_5 : decode cX3_next 5 = .ok (.getfield 17, 3) := by decide +kernel
theorem dX3_next_8 : decode cX3_next 8 = .ok (.if_icmp .ge 27, 3) := by decide +kernel
theorem dX3_next_11 : decode cX3_next 11 = .ok (.aload_n 0, 1) := by decide +kernel
theorem dX3_next_12 : decode cX3_next 12 = .ok (.getfield 24, 3) := by decide +kernel
theorem dX3_next_15 : decode cX3_next 15 = .ok (.aload_n 0, 1) := by decide +kernel
theorem dX3_next_16 : decode cX3_next 16 = .ok (.getfield 13, 3) := by decide +kernel
theorem dX3_next_19 : decode cX3_next 19 = .ok (.arraylength, 1) := by decide +kernel
theorem dX3_next_20 : decode cX3_next 20 = .ok (.if_icmp .ge 15, 3) := by decide +kernel
theorem dX3_next_23 : decode cX3_next 23 = .ok (.aload_n 0, 1) := by decide +kernel
theorem dX3_next_24 : decode cX3_next 24 = .ok (.getfield 13, 3) := by decide +kernel
theorem dX3_next_27 : decode cX3_next 27 = .ok (.aload_n 0, 1) := by decide +kernel
theorem dX3_next_28 : decode cX3_next 28 = .ok (.getfield 24, 3) := by decide +kernel
theorem dX3_next_31 : decode cX3_next 31 = .ok (.iaload, 1) := by decide +kernel
theorem dX3_next_32 : decode cX3_next 32 = .ok (.goto 4, 3) := by decide +kernel
theorem dX3_next_35 : decode cX3_next 35 = .ok (.iconst (-1), 1) := by decide +kernel
theorem dX3_next_36 : decode cX3_next 36 = .ok (.ireturn, 1) := by decide +kernel
theorem dX3_fail_0 : decode cX3_fail 0 = .ok (.aload_n 0, 1) := by decide +kernel
theorem dX3_fail_1 : decode cX3_fail 1 = .ok (.getfield 9, 3) := by decide +kernel
theorem dX3_fail_4 : decode cX3_fail 4 = .ok (.iconst (-1), 1) := by decide +kernel
theorem dX3_fail_5 : decode cX3_fail 5 = .ok (.if_icmp .ne 11, 3) := by decide +kernel
theorem dX3_fail_8 : decode cX3_fail 8 = .ok (.aload_n 0, 1) := by decide +kernel
theorem dX3_fail_9 : decode cX3_fail 9 = .ok (.aload_n 0, 1) := by decide +kernel
theorem dX3_fail_10 : decode cX3_fail 10 = .ok (.getfield 24, 3) := by decide +kernel
theorem dX3_fail_13 : decode cX3_fail 13 = .ok (.putfield 9, 3) := by decide +kernel
theorem dX3_fail_16 : decode cX3_fail 16 = .ok (.lconst 0, 1) := by decide +kernel
theorem dX3_fail_17 : decode cX3_fail 17 = .ok (.lreturn, 1) := by decide +kernel
theorem dX3_readOr_0 : decode cX3_readOr 0 = .ok (.aload_n 0, 1) := by decide +kernel
theorem dX3_readOr_1 : decode cX3_readOr 1 = .ok (.iload_n 1, 1) := by decide +kernel
theorem dX3_readOr_2 : decode cX3_readOr 2 = .ok (.invokevirtual 27, 3) := by decide +kernel
theorem dX3_readOr_5 : decode cX3_readOr 5 = .ok (.lstore_n 2, 1) := by decide +kernel
theorem dX3_readOr_6 : decode cX3_readOr 6 = .ok (.iconst 0, 1) := by decide +kernel
theorem dX3_readOr_7 : decode cX3_readOr 7 = .ok (.istore 4, 2) := by decide +kernel
theorem dX3_readOr_9 : decode cX3_readOr 9 = .ok (.iload 4, 2) := by decide +kernel
theorem dX3_readOr_11 : decode cX3_readOr 11 = .ok (.aload_n 0, 1) := by decide +kernel
theorem dX3_readOr_12 : decode cX3_readOr 12 = .ok (.getfield 17, 3) := by decide +kernel
theorem dX3_readOr_15 : decode cX3_readOr 15 = .ok (.if_icmp .ge 44, 3) := by decide +kernel
theorem dX3_readOr_18 : decode cX3_readOr 18 = .ok (.aload_n 0, 1) := by decide +kernel
theorem dX3_readOr_19 : decode cX3_readOr 19 = .ok (.getfield 9, 3) := by decide +kernel
theorem dX3_readOr_22 : decode cX3_readOr 22 = .ok (.iconst (-1), 1) := by decide +kernel
theorem dX3_readOr_23 : decode cX3_readOr 23 = .ok (.if_icmp .ne 36, 3) := by decide +kernel
theorem dX3_readOr_26 : decode cX3_readOr 26 = .ok (.aload_n 0, 1) := by decide +kernel
theorem dX3_readOr_27 : decode cX3_readOr 27 = .ok (.invokevirtual 30, 3) := by decide +kernel
theorem dX3_readOr_30 : decode cX3_readOr 30 = .ok (.bipush 124, 2) := by decide +kernel
theorem dX3_readOr_32 : decode cX3_readOr 32 = .ok (.if_icmp .ne 27, 3) := by decide +kernel
theorem dX3_readOr_35 : decode cX3_readOr 35 = .ok (.aload_n 0, 1) := by decide +kernel
theorem dX3_readOr_36 : decode cX3_readOr 36 = .ok (.dup, 1) := by decide +kernel
theorem dX3_readOr_37 : decode cX3_readOr 37 = .ok (.getfield 24, 3) := by decide +kernel
theorem dX3_readOr_40 : decode cX3_readOr 40 = .ok (.iconst 1, 1) := by decide +kernel
theorem dX3_readOr_41 : decode cX3_readOr 41 = .ok (.iadd, 1) := by decide +kernel
theorem dX3_readOr_42 : decode cX3_readOr 42 = .ok (.putfield 24, 3) := by decide +kernel
theorem dX3_readOr_45 : decode cX3_readOr 45 = .ok (.lload_n 2, 1) := by decide +kernel
theorem dX3_readOr_46 : decode cX3_readOr 46 = .ok (.aload_n 0, 1) := by decide +kernel
theorem dX3_readOr_47 : decode cX3_readOr 47 = .ok (.iload_n 1, 1) := by decide +kernel
theorem dX3_readOr_48 : decode cX3_readOr 48 = .ok (.invokevirtual 27, 3) := by decide +kernel
theorem dX3_readOr_51 : decode cX3_readOr 51 = .ok (.lor, 1) := by decide +kernel
theorem dX3_readOr_52 : decode cX3_readOr 52 = .ok (.lstore_n 2, 1) := by decide +kernel
theorem dX3_readOr_53 : decode cX3_readOr 53 = .ok (.iinc 4 1, 3) := by decide +kernel
theorem dX3_readOr_56 : decode cX3_readOr 56 = .ok (.goto (-47), 3) := by decide +kernel
theorem dX3_readOr_59 : decode cX3_readOr 59 = .ok (.lload_n 2, 1) := by decide +kernel
theorem dX3_readOr_60 : decode cX3_readOr 60 = .ok (.lreturn, 1) := by decide +kernel
theorem dX3_readAnd_0 : decode cX3_readAnd 0 = .ok (.aload_n 0, 1) := by decide +kernel
theorem dX3_readAnd_1 : decode cX3_readAnd 1 = .ok (.iload_n 1, 1) := by decide +kernel
theorem dX3_readAnd_2 : decode cX3_readAnd 2 = .ok (.invokevirtual 34, 3) := by decide +kernel
theorem dX3_readAnd_5 : decode cX3_readAnd 5 = .ok (.lstore_n 2, 1) := by decide +kernel
theorem dX3_readAnd_6 : decode cX3_readAnd 6 = .ok (.iconst 0, 1) := by decide +kernel
theorem dX3_readAnd_7 : decode cX3_readAnd 7 = .ok (.istore 4, 2) := by decide +kernel
theorem dX3_readAnd_9 : decode cX3_readAnd 9 = .ok (.iload 4, 2) := by decide +kernel
theorem dX3_readAnd_11 : decode cX3_readAnd 11 = .ok (.aload_n 0, 1) := by decide +kernel
theorem dX3_readAnd_12 : decode cX3_readAnd 12 = .ok (.getfield 17, 3) := by decide +kernel
theorem dX3_readAnd_15 : decode cX3_readAnd 15 = .ok (.if_icmp .ge 44, 3) := by decide +kernel
theorem dX3_readAnd_18 : decode cX3_readAnd 18 = .ok (.aload_n 0, 1) := by decide +kernel
theorem dX3_readAnd_19 : decode cX3_readAnd 19 = .ok (.getfield 9, 3) := by decide +kernel
theorem dX3_readAnd_22 : decode cX3_readAnd 22 = .ok (.iconst (-1), 1) := by decide +kernel
theorem dX3_readAnd_23 : decode cX3_readAnd 23 = .ok (.if_icmp .ne 36, 3) := by decide +kernel
theorem dX3_readAnd_26 : decode cX3_readAnd 26 = .ok (.aload_n 0, 1) := by decide +kernel
theorem dX3_readAnd_27 : decode cX3_readAnd 27 = .ok (.invokevirtual 30, 3) := by decide +kernel
theorem dX3_readAnd_30 : decode cX3_readAnd 30 = .ok (.bipush 38, 2) := by decide +kernel
theorem dX3_readAnd_32 : decode cX3_readAnd 32 = .ok (.if_icmp .ne 27, 3) := by decide +kernel
theorem dX3_readAnd_35 : decode cX3_readAnd 35 = .ok (.aload_n 0, 1) := by decide +kernel
theorem dX3_readAnd_36 : decode cX3_readAnd 36 = .ok (.dup, 1) := by decide +kernel
theorem dX3_readAnd_37 : decode cX3_readAnd 37 = .ok (.getfield 24, 3) := by decide +kernel
theorem dX3_readAnd_40 : decode cX3_readAnd 40 = .ok (.iconst 1, 1) := by decide +kernel
theorem dX3_readAnd_41 : decode cX3_readAnd 41 = .ok (.iadd, 1) := by decide +kernel
theorem dX3_readAnd_42 : decode cX3_readAnd 42 = .ok (.putfield 24, 3) := by decide +kernel
theorem dX3_readAnd_45 : decode cX3_readAnd 45 = .ok (.lload_n 2, 1) := by decide +kernel
theorem dX3_readAnd_46 : decode cX3_readAnd 46 = .ok (.aload_n 0, 1) := by decide +kernel
theorem dX3_readAnd_47 : decode cX3_readAnd 47 = .ok (.iload_n 1, 1) := by decide +kernel
theorem dX3_readAnd_48 : decode cX3_readAnd 48 = .ok (.invokevirtual 34, 3) := by decide +kernel
theorem dX3_readAnd_51 : decode cX3_readAnd 51 = .ok (.land, 1) := by decide +kernel
theorem dX3_readAnd_52 : decode cX3_readAnd 52 = .ok (.lstore_n 2, 1) := by decide +kernel
theorem dX3_readAnd_53 : decode cX3_readAnd 53 = .ok (.iinc 4 1, 3) := by decide +kernel
theorem dX3_readAnd_56 : decode cX3_readAnd 56 = .ok (.goto (-47), 3) := by decide +kernel
theorem dX3_readAnd_59 : decode cX3_readAnd 59 = .ok (.lload_n 2, 1) := by decide +kernel
theorem dX3_readAnd_60 : decode cX3_readAnd 60 = .ok (.lreturn, 1) := by decide +kernel
theorem dX3_readUnit_0 : decode cX3_readUnit 0 = .ok (.aload_n 0, 1) := by decide +kernel
theorem dX3_readUnit_1 : decode cX3_readUnit 1 = .ok (.invokevirtual 30, 3) := by decide +kernel
theorem dX3_readUnit_4 : decode cX3_readUnit 4 = .ok (.istore_n 2, 1) := by decide +kernel
theorem dX3_readUnit_5 : decode cX3_readUnit 5 = .ok (.iload_n 2, 1) := by decide +kernel
theorem dX3_readUnit_6 : decode cX3_readUnit 6 = .ok (.bipush 33, 2) := by decide +kernel
theorem dX3_readUnit_8 : decode cX3_readUnit 8 = .ok (.if_icmp .eq 9, 3) := by decide +kernel
theorem dX3_readUnit_11 : decode cX3_readUnit 11 = .ok (.iload_n 2, 1) := by decide +kernel
theorem dX3_readUnit_12 : decode cX3_readUnit 12 = .ok (.bipush 40, 2) := by decide +kernel
theorem dX3_readUnit_14 : decode cX3_readUnit 14 = .ok (.if_icmp .ne 55, 3) := by decide +kernel
theorem dX3_readUnit_17 : decode cX3_readUnit 17 = .ok (.iload_n 1, 1) := by decide +kernel
theorem dX3_readUnit_18 : decode cX3_readUnit 18 = .ok (.iconst 5, 1) := by decide +kernel
theorem dX3_readUnit_19 : decode cX3_readUnit 19 = .ok (.if_icmp .lt 8, 3) := by decide +kernel
theorem dX3_readUnit_22 : decode cX3_readUnit 22 = .ok (.aload_n 0, 1) := by decide +kernel
theorem dX3_readUnit_23 : decode cX3_readUnit 23 = .ok (.invokevirtual 37, 3) := by decide +kernel
theorem dX3_readUnit_26 : decode cX3_readUnit 26 = .ok (.lreturn, 1) := by decide +kernel
theorem dX3_readUnit_27 : decode cX3_readUnit 27 = .ok (.aload_n 0, 1) := by decide +kernel
theorem dX3_readUnit_28 : decode cX3_readUnit 28 = .ok (.dup, 1) := by decide +kernel
theorem dX3_readUnit_29 : decode cX3_readUnit 29 = .ok (.getfield 24, 3) := by decide +kernel
theorem dX3_readUnit_32 : decode cX3_readUnit 32 = .ok (.iconst 1, 1) := by decide +kernel
theorem dX3_readUnit_33 : decode cX3_readUnit 33 = .ok (.iadd, 1) := by decide +kernel
theorem dX3_readUnit_34 : decode cX3_readUnit 34 = .ok (.putfield 24, 3) := by decide +kernel
theorem dX3_readUnit_37 : decode cX3_readUnit 37 = .ok (.iload_n 2, 1) := by decide +kernel
theorem dX3_readUnit_38 : decode cX3_readUnit 38 = .ok (.bipush 33, 2) := by decide +kernel
theorem dX3_readUnit_40 : decode cX3_readUnit 40 = .ok (.if_icmp .ne 21, 3) := by decide +kernel
theorem dX3_readUnit_43 : decode cX3_readUnit 43 = .ok (.ldc2_w 41, 3) := by decide +kernel
theorem dX3_readUnit_46 : decode cX3_readUnit 46 = .ok (.aload_n 0, 1) := by decide +kernel
theorem dX3_readUnit_47 : decode cX3_readUnit 47 = .ok (.iload_n 1, 1) := by decide +kernel
theorem dX3_readUnit_48 : decode cX3_readUnit 48 = .ok (.iconst 1, 1) := by decide +kernel
theorem dX3_readUnit_49 : decode cX3_readUnit 49 = .ok (.iadd, 1) := by decide +kernel
theorem dX3_readUnit_50 : decode cX3_readUnit 50 = .ok (.invokevirtual 34, 3) := by decide +kernel
theorem dX3_readUnit_53 : decode cX3_readUnit 53 = .ok (.ldc2_w 43, 3) := by decide +kernel
theorem dX3_readUnit_56 : decode cX3_readUnit 56 = .ok (.lxor, 1) := by decide +kernel
theorem dX3_readUnit_57 : decode cX3_readUnit 57 = .ok (.land, 1) := by decide +kernel
theorem dX3_readUnit_58 : decode cX3_readUnit 58 = .ok (.goto 10, 3) := by decide +kernel
theorem dX3_readUnit_61 : decode cX3_readUnit 61 = .ok (.aload_n 0, 1) := by decide +kernel
theorem dX3_readUnit_62 : decode cX3_readUnit 62 = .ok (.iload_n 1, 1) := by decide +kernel
theorem dX3_readUnit_63 : decode cX3_readUnit 63 = .ok (.iconst 1, 1) := by decide +kernel
theorem dX3_readUnit_64 : decode cX3_readUnit 64 = .ok (.iadd, 1) := by decide +kernel
theorem dX3_readUnit_65 : decode cX3_readUnit 65 = .ok (.invokevirtual 45, 3) := by decide +kernel
theorem dX3_readUnit_68 : decode cX3_readUnit 68 = .ok (.lreturn, 1) := by decide +kernel
theorem dX3_readUnit_69 : decode cX3_readUnit 69 = .ok (.iload_n 2, 1) := by decide +kernel
theorem dX3_readUnit_70 : decode cX3_readUnit 70 = .ok (.bipush 97, 2) := by decide +kernel
theorem dX3_readUnit_72 : decode cX3_readUnit 72 = .ok (.isub, 1) := by decide +kernel
theorem dX3_readUnit_73 : decode cX3_readUnit 73 = .ok (.istore_n 3, 1) := by decide +kernel
theorem dX3_readUnit_74 : decode cX3_readUnit 74 = .ok (.iload_n 3, 1) := by decide +kernel
theorem dX3_readUnit_75 : decode cX3_readUnit 75 = .ok (.ifCond .lt 27, 3) := by decide +kernel
theorem dX3_readUnit_78 : decode cX3_readUnit 78 = .ok (.iload_n 3, 1) := by decide +kernel
theorem dX3_readUnit_79 : decode cX3_readUnit 79 = .ok (.getstatic 48, 3) := by decide +kernel
theorem dX3_readUnit_82 : decode cX3_readUnit 82 = .ok (.arraylength, 1) := by decide +kernel
theorem dX3_readUnit_83 : decode cX3_readUnit 83 = .ok (.if_icmp .ge 19, 3) := by decide +kernel
theorem dX3_readUnit_86 : decode cX3_readUnit 86 = .ok (.aload_n 0, 1) := by decide +kernel
theorem dX3_readUnit_87 : decode cX3_readUnit 87 = .ok (.dup, 1) := by decide +kernel
theorem dX3_readUnit_88 : decode cX3_readUnit 88 = .ok (.getfield 24, 3) := by decide +kernel
theorem dX3_readUnit_91 : decode cX3_readUnit 91 = .ok (.iconst 1, 1) := by decide +kernel
theorem dX3_readUnit_92 : decode cX3_readUnit 92 = .ok (.iadd, 1) := by decide +kernel
theorem dX3_readUnit_93 : decode cX3_readUnit 93 = .ok (.putfield 24, 3) := by decide +kernel
theorem dX3_readUnit_96 : decode cX3_readUnit 96 = .ok (.getstatic 48, 3) := by decide +kernel
theorem dX3_readUnit_99 : decode cX3_readUnit 99 = .ok (.iload_n 3, 1) := by decide +kernel
theorem dX3_readUnit_100 : decode cX3_readUnit 100 = .ok (.laload, 1) := by decide +kernel
theorem dX3_readUnit_101 : decode cX3_readUnit 101 = .ok (.lreturn, 1) := by decide +kernel
theorem dX3_readUnit_102 : decode cX3_readUnit 102 = .ok (.iload_n 2, 1) := by decide +kernel
theorem dX3_readUnit_103 : decode cX3_readUnit 103 = .ok (.bipush 48, 2) := by decide +kernel
theorem dX3_readUnit_105 : decode cX3_readUnit 105 = .ok (.if_icmp .eq 14, 3) := by decide +kernel
theorem dX3_readUnit_108 : decode cX3_readUnit 108 = .ok (.iload_n 2, 1) := by decide +kernel
theorem dX3_readUnit_109 : decode cX3_readUnit 109 = .ok (.bipush 49, 2) := by decide +kernel
theorem dX3_readUnit_111 : decode cX3_readUnit 111 = .ok (.if_icmp .eq 8, 3) := by decide +kernel
theorem dX3_readUnit_114 : decode cX3_readUnit 114 = .ok (.aload_n 0, 1) := by decide +kernel
theorem dX3_readUnit_115 : decode cX3_readUnit 115 = .ok (.invokevirtual 37, 3) := by decide +kernel
theorem dX3_readUnit_118 : decode cX3_readUnit 118 = .ok (.lreturn, 1) := by decide +kernel
theorem dX3_readUnit_119 : decode cX3_readUnit 119 = .ok (.aload_n 0, 1) := by decide +kernel
theorem dX3_readUnit_120 : decode cX3_readUnit 120 = .ok (.dup, 1) := by decide +kernel
theorem dX3_readUnit_121 : decode cX3_readUnit 121 = .ok (.getfield 24, 3) := by decide +kernel
theorem dX3_readUnit_124 : decode cX3_readUnit 124 = .ok (.iconst 1, 1) := by decide +kernel
theorem dX3_readUnit_125 : decode cX3_readUnit 125 = .ok (.iadd, 1) := by decide +kernel
theorem dX3_readUnit_126 : decode cX3_readUnit 126 = .ok (.putfield 24, 3) := by decide +kernel
theorem dX3_readUnit_129 : decode cX3_readUnit 129 = .ok (.iload_n 2, 1) := by decide +kernel
theorem dX3_readUnit_130 : decode cX3_readUnit 130 = .ok (.bipush 49, 2) := by decide +kernel
theorem dX3_readUnit_132 : decode cX3_readUnit 132 = .ok (.if_icmp .ne 9, 3) := by decide +kernel
theorem dX3_readUnit_135 : decode cX3_readUnit 135 = .ok (.ldc2_w 41, 3) := by decide +kernel
theorem dX3_readUnit_138 : decode cX3_readUnit 138 = .ok (.goto 4, 3) := by decide +kernel
theorem dX3_readUnit_141 : decode cX3_readUnit 141 = .ok (.lconst 0, 1) := by decide +kernel
theorem dX3_readUnit_142 : decode cX3_readUnit 142 = .ok (.lreturn, 1) := by decide +kernel
theorem dX3_readToBracket_0 : decode cX3_readToBracket 0 = .ok (.aload_n 0, 1) := by decide +kernel
theorem dX3_readToBracket_1 : decode cX3_readToBracket 1 = .ok (.iload_n 1, 1) := by decide +kernel
theorem dX3_readToBracket_2 : decode cX3_readToBracket 2 = .ok (.invokevirtual 20, 3) := by decide +kernel
theorem dX3_readToBracket_5 : decode cX3_readToBracket 5 = .ok (.lstore_n 2, 1) := by decide +kernel
theorem dX3_readToBracket_6 : decode cX3_readToBracket 6 = .ok (.aload_n 0, 1) := by decide +kernel
theorem dX3_readToBracket_7 : decode cX3_readToBracket 7 = .ok (.getfield 9, 3) := by decide +kernel
theorem dX3_readToBracket_10 : decode cX3_readToBracket 10 = .ok (.iconst (-1), 1) := by decide +kernel
theorem dX3_readToBracket_11 : decode cX3_readToBracket 11 = .ok (.if_icmp .ne 12, 3) := by decide +kernel
theorem dX3_readToBracket_14 : decode cX3_readToBracket 14 = .ok (.aload_n 0, 1) := by decide +kernel
theorem dX3_readToBracket_15 : decode cX3_readToBracket 15 = .ok (.invokevirtual 30, 3) := by decide +kernel
theorem dX3_readToBracket_18 : decode cX3_readToBracket 18 = .ok (.bipush 41, 2) := by decide +kernel
theorem dX3_readToBracket_20 : decode cX3_readToBracket 20 = .ok (.if_icmp .eq 8, 3) := by decide +kernel
theorem dX3_readToBracket_23 : decode cX3_readToBracket 23 = .ok (.aload_n 0, 1) := by decide +kernel
theorem dX3_readToBracket_24 : decode cX3_readToBracket 24 = .ok (.invokevirtual 37, 3) := by decide +kernel
theorem dX3_readToBracket_27 : decode cX3_readToBracket 27 = .ok (.lreturn, 1) := by decide +kernel
theorem dX3_readToBracket_28 : decode cX3_readToBracket 28 = .ok (.aload_n 0, 1) := by decide +kernel
theorem dX3_readToBracket_29 : decode cX3_readToBracket 29 = .ok (.dup, 1) := by decide +kernel
theorem dX3_readToBracket_30 : decode cX3_readToBracket 30 = .ok (.getfield 24, 3) := by decide +kernel
theorem dX3_readToBracket_33 : decode cX3_readToBracket 33 = .ok (.iconst 1, 1) := by decide +kernel
theorem dX3_readToBracket_34 : decode cX3_readToBracket 34 = .ok (.iadd, 1) := by decide +kernel
theorem dX3_readToBracket_35 : decode cX3_readToBracket 35 = .ok (.putfield 24, 3) := by decide +kernel
theorem dX3_readToBracket_38 : decode cX3_readToBracket 38 = .ok (.lload_n 2, 1) := by decide +kernel
theorem dX3_readToBracket_39 : decode cX3_readToBracket 39 = .ok (.lreturn, 1) := by decide +kernel
theorem dX4_init_0 : decode cX4_init 0 = .ok (.aload_n 0, 1) := by decide +kernel
theorem dX4_init_1 : decode cX4_init 1 = .ok (.invokespecial 5, 3) := by decide +kernel
theorem dX4_init_4 : decode cX4_init 4 = .ok (.aload_n 0, 1) := by decide +kernel
theorem dX4_init_5 : decode cX4_init 5 = .ok (.bipush 8, 2) := by decide +kernel
theorem dX4_init_7 : decode cX4_init 7 = .ok (.anewarray 1, 3) := by decide +kernel
theorem dX4_init_10 : decode cX4_init 10 = .ok (.putfield 13, 3) := by decide +kernel
theorem dX4_init_13 : decode cX4_init 13 = .ok (.aload_n 0, 1) := by decide +kernel
theorem dX4_init_14 : decode cX4_init 14 = .ok (.bipush 40, 2) := by decide +kernel
theorem dX4_init_16 : decode cX4_init 16 = .ok (.newarray .int, 2) := by decide +kernel
theorem dX4_init_18 : decode cX4_init 18 = .ok (.putfield 17, 3) := by decide +kernel
theorem dX4_init_21 : decode cX4_init 21 = .ok (.aload_n 0, 1) := by decide +kernel
theorem dX4_init_22 : decode cX4_init 22 = .ok (.bipush 40, 2) := by decide +kernel
theorem dX4_init_24 : decode cX4_init 24 = .ok (.newarray .int, 2) := by decide +kernel
theorem dX4_init_26 : decode cX4_init 26 = .ok (.putfield 21, 3) := by decide +kernel
theorem dX4_init_29 : decode cX4_init 29 = .ok (.return_, 1) := by decide +kernel
theorem dX4_addPiece_0 : decode cX4_addPiece 0 = .ok (.aload_n 0, 1) := by decide +kernel
theorem dX4_addPiece_1 : decode cX4_addPiece 1 = .ok (.getfield 13, 3) := by decide +kernel
theorem dX4_addPiece_4 : decode cX4_addPiece 4 = .ok (.aload_n 0, 1) := by decide +kernel
theorem dX4_addPiece_5 : decode cX4_addPiece 5 = .ok (.getfield 24, 3) := by decide +kernel
theorem dX4_addPiece_8 : decode cX4_addPiece 8 = .ok (.aload_n 1, 1) := by decide +kernel
theorem dX4_addPiece_9 : decode cX4_addPiece 9 = .ok (.aastore, 1) := by decide +kernel
theorem dX4_addPiece_10 : decode cX4_addPiece 10 = .ok (.aload_n 0, 1) := by decide +kernel
theorem dX4_addPiece_11 : decode cX4_addPiece 11 = .ok (.dup, 1) := by decide +kernel
theorem dX4_addPiece_12 : decode cX4_addPiece 12 = .ok (.getfield 24, 3) := by decide +kernel
theorem dX4_addPiece_15 : decode cX4_addPiece 15 = .ok (.iconst 1, 1) := by decide +kernel
theorem dX4_addPiece_16 : decode cX4_addPiece 16 = .ok (.iadd, 1) := by decide +kernel
theorem dX4_addPiece_17 : decode cX4_addPiece 17 = .ok (.putfield 24, 3) := by decide +kernel
theorem dX4_addPiece_20 : decode cX4_addPiece 20 = .ok (.aload_n 0, 1) := by decide +kernel
theorem dX4_addPiece_21 : decode cX4_addPiece 21 = .ok (.getfield 24, 3) := by decide +kernel
theorem dX4_addPiece_24 : decode cX4_addPiece 24 = .ok (.iconst 1, 1) := by decide +kernel
theorem dX4_addPiece_25 : decode cX4_addPiece 25 = .ok (.isub, 1) := by decide +kernel
theorem dX4_addPiece_26 : decode cX4_addPiece 26 = .ok (.ireturn, 1) := by decide +kernel
theorem dX4_addLink_0 : decode cX4_addLink 0 = .ok (.aload_n 0, 1) := by decide +kernel
theorem dX4_addLink_1 : decode cX4_addLink 1 = .ok (.dup, 1) := by decide +kernel
theorem dX4_addLink_2 : decode cX4_addLink 2 = .ok (.getfield 28, 3) := by decide +kernel
theorem dX4_addLink_5 : decode cX4_addLink 5 = .ok (.iconst 1, 1) := by decide +kernel
theorem dX4_addLink_6 : decode cX4_addLink 6 = .ok (.iadd, 1) := by decide +kernel
theorem dX4_addLink_7 : decode cX4_addLink 7 = .ok (.putfield 28, 3) := by decide +kernel
theorem dX4_addLink_10 : decode cX4_addLink 10 = .ok (.aload_n 0, 1) := by decide +kernel
theorem dX4_addLink_11 : decode cX4_addLink 11 = .ok (.getfield 17, 3) := by decide +kernel
theorem dX4_addLink_14 : decode cX4_addLink 14 = .ok (.iload_n 1, 1) := by decide +kernel
theorem dX4_addLink_15 : decode cX4_addLink 15 = .ok (.invokestatic 31, 3) := by decide +kernel
theorem dX4_addLink_18 : decode cX4_addLink 18 = .ok (.aload_n 0, 1) := by decide +kernel
theorem dX4_addLink_19 : decode cX4_addLink 19 = .ok (.getfield 28, 3) := by decide +kernel
theorem dX4_addLink_22 : decode cX4_addLink 22 = .ok (.iastore, 1) := by decide +kernel
theorem dX4_addLink_23 : decode cX4_addLink 23 = .ok (.aload_n 0, 1) := by decide +kernel
theorem dX4_addLink_24 : decode cX4_addLink 24 = .ok (.getfield 17, 3) := by decide +kernel
theorem dX4_addLink_27 : decode cX4_addLink 27 = .ok (.iload_n 2, 1) := by decide +kernel
theorem dX4_addLink_28 : decode cX4_addLink 28 = .ok (.invokestatic 31, 3) := by decide +kernel
theorem dX4_addLink_31 : decode cX4_addLink 31 = .ok (.aload_n 0, 1) := by decide +kernel
theorem dX4_addLink_32 : decode cX4_addLink 32 = .ok (.getfield 28, 3) := by decide +kernel
theorem dX4_addLink_35 : decode cX4_addLink 35 = .ok (.iastore, 1) := by decide +kernel
theorem dX4_addLink_36 : decode cX4_addLink 36 = .ok (.aload_n 0, 1) := by decide +kernel
theorem dX4_addLink_37 : decode cX4_addLink 37 = .ok (.getfield 28, 3) := by decide +kernel
theorem dX4_addLink_40 : decode cX4_addLink 40 = .ok (.ireturn, 1) := by decide +kernel
theorem dX4_hasFace_0 : decode cX4_hasFace 0 = .ok (.iload_n 1, 1) := by decide +kernel
theorem dX4_hasFace_1 : decode cX4_hasFace 1 = .ok (.ifCond .lt 22, 3) := by decide +kernel
theorem dX4_hasFace_4 : decode cX4_hasFace 4 = .ok (.iload_n 1, 1) := by decide +kernel
theorem dX4_hasFace_5 : decode cX4_hasFace 5 = .ok (.bipush 10, 2) := by decide +kernel
theorem dX4_hasFace_7 : decode cX4_hasFace 7 = .ok (.irem, 1) := by decide +kernel
theorem dX4_hasFace_8 : decode cX4_hasFace 8 = .ok (.aload_n 0, 1) := by decide +kernel
theorem dX4_hasFace_9 : decode cX4_hasFace 9 = .ok (.iload_n 1, 1) := by decide +kernel
theorem dX4_hasFace_10 : decode cX4_hasFace 10 = .ok (.bipush 10, 2) := by decide +kernel
theorem dX4_hasFace_12 : decode cX4_hasFace 12 = .ok (.idiv, 1) := by decide +kernel
theorem dX4_hasFace_13 : decode cX4_hasFace 13 = .ok (.invokevirtual 35, 3) := by decide +kernel
theorem dX4_hasFace_16 : decode cX4_hasFace 16 = .ok (.if_icmp .ge 7, 3) := by decide +kernel
theorem dX4_hasFace_19 : decode cX4_hasFace 19 = .ok (.iconst 1, 1) := by decide +kernel
theorem dX4_hasFace_20 : decode cX4_hasFace 20 = .ok (.goto 4, 3) := by decide +kernel
theorem dX4_hasFace_23 : decode cX4_hasFace 23 = .ok (.iconst 0, 1) := by decide +kernel
theorem dX4_hasFace_24 : decode cX4_hasFace 24 = .ok (.ireturn, 1) := by decide +kernel
theorem dX4_isLinked_0 : decode cX4_isLinked 0 = .ok (.aload_n 0, 1) := by decide +kernel
theorem dX4_isLinked_1 : decode cX4_isLinked 1 = .ok (.iload_n 1, 1) := by decide +kernel
theorem dX4_isLinked_2 : decode cX4_isLinked 2 = .ok (.invokevirtual 38, 3) := by decide +kernel
theorem dX4_isLinked_5 : decode cX4_isLinked 5 = .ok (.ifCond .eq 19, 3) := by decide +kernel
theorem dX4_isLinked_8 : decode cX4_isLinked 8 = .ok (.aload_n 0, 1) := by decide +kernel
theorem dX4_isLinked_9 : decode cX4_isLinked 9 = .ok (.getfield 17, 3) := by decide +kernel
theorem dX4_isLinked_12 : decode cX4_isLinked 12 = .ok (.iload_n 1, 1) := by decide +kernel
theorem dX4_isLinked_13 : decode cX4_isLinked 13 = .ok (.invokestatic 31, 3) := by decide +kernel
theorem dX4_isLinked_16 : decode cX4_isLinked 16 = .ok (.iaload, 1) := by decide +kernel
theorem dX4_isLinked_17 : decode cX4_isLinked 17 = .ok (.ifCond .eq 7, 3) := by decide +kernel
theorem dX4_isLinked_20 : decode cX4_isLinked 20 = .ok (.iconst 1, 1) := by decide +kernel
theorem dX4_isLinked_21 : decode cX4_isLinked 21 = .ok (.goto 4, 3) := by decide +kernel
theorem dX4_isLinked_24 : decode cX4_isLinked 24 = .ok (.iconst 0, 1) := by decide +kernel
theorem dX4_isLinked_25 : decode cX4_isLinked 25 = .ok (.ireturn, 1) := by decide +kernel
theorem dX4_freeCount_0 : decode cX4_freeCount 0 = .ok (.iconst 0, 1) := by decide +kernel
theorem dX4_freeCount_1 : decode cX4_freeCount 1 = .ok (.istore_n 1, 1) := by decide +kernel
theorem dX4_freeCount_2 : decode cX4_freeCount 2 = .ok (.iconst 0, 1) := by decide +kernel
theorem dX4_freeCount_3 : decode cX4_freeCount 3 = .ok (.istore_n 2, 1) := by decide +kernel
theorem dX4_freeCount_4 : decode cX4_freeCount 4 = .ok (.iload_n 2, 1) := by decide +kernel
theorem dX4_freeCount_5 : decode cX4_freeCount 5 = .ok (.aload_n 0, 1) := by decide +kernel
theorem dX4_freeCount_6 : decode cX4_freeCount 6 = .ok (.getfield 24, 3) := by decide +kernel
theorem dX4_freeCount_9 : decode cX4_freeCount 9 = .ok (.if_icmp .ge 47, 3) := by decide +kernel
theorem dX4_freeCount_12 : decode cX4_freeCount 12 = .ok (.iconst 0, 1) := by decide +kernel
theorem dX4_freeCount_13 : decode cX4_freeCount 13 = .ok (.istore_n 3, 1) := by decide +kernel
theorem dX4_freeCount_14 : decode cX4_freeCount 14 = .ok (.iload_n 3, 1) := by decide +kernel
theorem dX4_freeCount_15 : decode cX4_freeCount 15 = .ok (.aload_n 0, 1) := by decide +kernel
theorem dX4_freeCount_16 : decode cX4_freeCount 16 = .ok (.iload_n 2, 1) := by decide +kernel
theorem dX4_freeCount_17 : decode cX4_freeCount 17 = .ok (.invokevirtual 35, 3) := by decide +kernel
theorem dX4_freeCount_20 : decode cX4_freeCount 20 = .ok (.if_icmp .ge 30, 3) := by decide +kernel
theorem dX4_freeCount_23 : decode cX4_freeCount 23 = .ok (.iload_n 1, 1) := by decide +kernel
theorem dX4_freeCount_24 : decode cX4_freeCount 24 = .ok (.aload_n 0, 1) := by decide +kernel
theorem dX4_freeCount_25 : decode cX4_freeCount 25 = .ok (.getfield 17, 3) := by decide +kernel
theorem dX4_freeCount_28 : decode cX4_freeCount 28 = .ok (.iconst 5, 1) := by decide +kernel
theorem dX4_freeCount_29 : decode cX4_freeCount 29 = .ok (.iload_n 2, 1) := by decide +kernel
theorem dX4_freeCount_30 : decode cX4_freeCount 30 = .ok (.imul, 1) := by decide +kernel
theorem dX4_freeCount_31 : decode cX4_freeCount 31 = .ok (.iload_n 3, 1) := by decide +kernel
theorem dX4_freeCount_32 : decode cX4_freeCount 32 = .ok (.iadd, 1) := by decide +kernel
theorem dX4_freeCount_33 : decode cX4_freeCount 33 = .ok (.iaload, 1) := by decide +kernel
theorem dX4_freeCount_34 : decode cX4_freeCount 34 = .ok (.ifCond .ne 7, 3) := by decide +kernel
theorem dX4_freeCount_37 : decode cX4_freeCount 37 = .ok (.iconst 1, 1) := by decide +kernel
theorem dX4_freeCount_38 : decode cX4_freeCount 38 = .ok (.goto 4, 3) := by decide +kernel
theorem dX4_freeCount_41 : decode cX4_freeCount 41 = .ok (.iconst 0, 1) := by decide +kernel
theorem dX4_freeCount_42 : decode cX4_freeCount 42 = .ok (.iadd, 1) := by decide +kernel
theorem dX4_freeCount_43 : decode cX4_freeCount 43 = .ok (.istore_n 1, 1) := by decide +kernel
theorem dX4_freeCount_44 : decode cX4_freeCount 44 = .ok (.iinc 3 1, 3) := by decide +kernel
theorem dX4_freeCount_47 : decode cX4_freeCount 47 = .ok (.goto (-33), 3) := by decide +kernel
theorem dX4_freeCount_50 : decode cX4_freeCount 50 = .ok (.iinc 2 1, 3) := by decide +kernel
theorem dX4_freeCount_53 : decode cX4_freeCount 53 = .ok (.goto (-49), 3) := by decide +kernel
theorem dX4_freeCount_56 : decode cX4_freeCount 56 = .ok (.iload_n 1, 1) := by decide +kernel
theorem dX4_freeCount_57 : decode cX4_freeCount 57 = .ok (.ireturn, 1) := by decide +kernel
theorem dX4_freeFace_0 : decode cX4_freeFace 0 = .ok (.iconst 0, 1) := by decide +kernel
theorem dX4_freeFace_1 : decode cX4_freeFace 1 = .ok (.istore_n 2, 1) := by decide +kernel
theorem dX4_freeFace_2 : decode cX4_freeFace 2 = .ok (.iconst 0, 1) := by decide +kernel
theorem dX4_freeFace_3 : decode cX4_freeFace 3 = .ok (.istore_n 3, 1) := by decide +kernel
theorem dX4_freeFace_4 : decode cX4_freeFace 4 = .ok (.iload_n 3, 1) := by decide +kernel
theorem dX4_freeFace_5 : decode cX4_freeFace 5 = .ok (.aload_n 0, 1) := by decide +kernel
theorem dX4_freeFace_6 : decode cX4_freeFace 6 = .ok (.getfield 24, 3) := by decide +kernel
theorem dX4_freeFace_9 : decode cX4_freeFace 9 = .ok (.if_icmp .ge 58, 3) := by decide +kernel
theorem dX4_freeFace_12 : decode cX4_freeFace 12 = .ok (.iconst 0, 1) := by decide +kernel
theorem dX4_freeFace_13 : decode cX4_freeFace 13 = .ok (.istore 4, 2) := by decide +kernel
theorem dX4_freeFace_15 : decode cX4_freeFace 15 = .ok (.iload 4, 2) := by decide +kernel
theorem dX4_freeFace_17 : decode cX4_freeFace 17 = .ok (.aload_n 0, 1) := by decide +kernel
theorem dX4_freeFace_18 : decode cX4_freeFace 18 = .ok (.iload_n 3, 1) := by decide +kernel
theorem dX4_freeFace_19 : decode cX4_freeFace 19 = .ok (.invokevirtual 35, 3) := by decide +kernel
theorem dX4_freeFace_22 : decode cX4_freeFace 22 = .ok (.if_icmp .ge 39, 3) := by decide +kernel
theorem dX4_freeFace_25 : decode cX4_freeFace 25 = .ok (.aload_n 0, 1) := by decide +kernel
theorem dX4_freeFace_26 : decode cX4_freeFace 26 = .ok (.getfield 17, 3) := by decide +kernel
theorem dX4_freeFace_29 : decode cX4_freeFace 29 = .ok (.iconst 5, 1) := by decide +kernel
theorem dX4_freeFace_30 : decode cX4_freeFace 30 = .ok (.iload_n 3, 1) := by decide +kernel
theorem dX4_freeFace_31 : decode cX4_freeFace 31 = .ok (.imul, 1) := by decide +kernel
theorem dX4_freeFace_32 : decode cX4_freeFace 32 = .ok (.iload 4, 2) := by decide +kernel
theorem dX4_freeFace_34 : decode cX4_freeFace 34 = .ok (.iadd, 1) := by decide +kernel
theorem dX4_freeFace_35 : decode cX4_freeFace 35 = .ok (.iaload, 1) := by decide +kernel
theorem dX4_freeFace_36 : decode cX4_freeFace 36 = .ok (.ifCond .ne 19, 3) := by decide +kernel
theorem dX4_freeFace_39 : decode cX4_freeFace 39 = .ok (.iload_n 2, 1) := by decide +kernel
theorem dX4_freeFace_40 : decode cX4_freeFace 40 = .ok (.iload_n 1, 1) := by decide +kernel
theorem dX4_freeFace_41 : decode cX4_freeFace 41 = .ok (.if_icmp .ne 11, 3) := by decide +kernel
theorem dX4_freeFace_44 : decode cX4_freeFace 44 = .ok (.bipush 10, 2) := by decide +kernel
theorem dX4_freeFace_46 : decode cX4_freeFace 46 = .ok (.iload_n 3, 1) := by decide +kernel
theorem dX4_freeFace_47 : decode cX4_freeFace 47 = .ok (.imul, 1) := by decide +kernel
theorem dX4_freeFace_48 : decode cX4_freeFace 48 = .ok (.iload 4, 2) := by decide +kernel
theorem dX4_freeFace_50 : decode cX4_freeFace 50 = .ok (.iadd, 1) := by decide +kernel
theorem dX4_freeFace_51 : decode cX4_freeFace 51 = .ok (.ireturn, 1) := by decide +kernel
theorem dX4_freeFace_52 : decode cX4_freeFace 52 = .ok (.iinc 2 1, 3) := by decide +kernel
theorem dX4_freeFace_55 : decode cX4_freeFace 55 = .ok (.iinc 4 1, 3) := by decide +kernel
theorem dX4_freeFace_58 : decode cX4_freeFace 58 = .ok (.goto (-43), 3) := by decide +kernel
theorem dX4_freeFace_61 : decode cX4_freeFace 61 = .ok (.iinc 3 1, 3) := by decide +kernel
theorem dX4_freeFace_64 : decode cX4_freeFace 64 = .ok (.goto (-60), 3) := by decide +kernel
theorem dX4_freeFace_67 : decode cX4_freeFace 67 = .ok (.bipush (-9), 2) := by decide +kernel
theorem dX4_freeFace_69 : decode cX4_freeFace 69 = .ok (.ireturn, 1) := by decide +kernel
theorem dX4_letsState_0 : decode cX4_letsState 0 = .ok (.aload_n 0, 1) := by decide +kernel
theorem dX4_letsState_1 : decode cX4_letsState 1 = .ok (.iload_n 1, 1) := by decide +kernel
theorem dX4_letsState_2 : decode cX4_letsState 2 = .ok (.iconst 1, 1) := by decide +kernel
theorem dX4_letsState_3 : decode cX4_letsState 3 = .ok (.invokevirtual 42, 3) := by decide +kernel
theorem dX4_letsState_6 : decode cX4_letsState 6 = .ok (.lconst 0, 1) := by decide +kernel
theorem dX4_letsState_7 : decode cX4_letsState 7 = .ok (.lcmp, 1) := by decide +kernel
theorem dX4_letsState_8 : decode cX4_letsState 8 = .ok (.ifCond .le 7, 3) := by decide +kernel
theorem dX4_letsState_11 : decode cX4_letsState 11 = .ok (.iconst 1, 1) := by decide +kernel
theorem dX4_letsState_12 : decode cX4_letsState 12 = .ok (.goto 4, 3) := by decide +kernel
theorem dX4_letsState_15 : decode cX4_letsState 15 = .ok (.iconst 0, 1) := by decide +kernel
theorem dX4_letsState_16 : decode cX4_letsState 16 = .ok (.ireturn, 1) := by decide +kernel
theorem dX4_waysInState_0 : decode cX4_waysInState 0 = .ok (.aload_n 0, 1) := by decide +kernel
theorem dX4_waysInState_1 : decode cX4_waysInState 1 = .ok (.iload_n 1, 1) := by decide +kernel
theorem dX4_waysInState_2 : decode cX4_waysInState 2 = .ok (.iconst 0, 1) := by decide +kernel
theorem dX4_waysInState_3 : decode cX4_waysInState 3 = .ok (.invokevirtual 42, 3) := by decide +kernel
theorem dX4_waysInState_6 : decode cX4_waysInState 6 = .ok (.l2i, 1) := by decide +kernel
theorem dX4_waysInState_7 : decode cX4_waysInState 7 = .ok (.ireturn, 1) := by decide +kernel
theorem dX4_placeOf_0 : decode cX4_placeOf 0 = .ok (.iconst 5, 1) := by decide +kernel
theorem dX4_placeOf_1 : decode cX4_placeOf 1 = .ok (.iload_n 0, 1) := by decide +kernel
theorem dX4_placeOf_2 : decode cX4_placeOf 2 = .ok (.bipush 10, 2) := by decide +kernel
theorem dX4_placeOf_4 : decode cX4_placeOf 4 = .ok (.idiv, 1) := by decide +kernel
theorem dX4_placeOf_5 : decode cX4_placeOf 5 = .ok (.imul, 1) := by decide +kernel
theorem dX4_placeOf_6 : decode cX4_placeOf 6 = .ok (.iload_n 0, 1) := by decide +kernel
theorem dX4_placeOf_7 : decode cX4_placeOf 7 = .ok (.bipush 10, 2) := by decide +kernel
theorem dX4_placeOf_9 : decode cX4_placeOf 9 = .ok (.irem, 1) := by decide +kernel
theorem dX4_placeOf_10 : decode cX4_placeOf 10 = .ok (.iadd, 1) := by decide +kernel
theorem dX4_placeOf_11 : decode cX4_placeOf 11 = .ok (.ireturn, 1) := by decide +kernel
theorem dX4_facesOf_0 : decode cX4_facesOf 0 = .ok (.iload_n 1, 1) := by decide +kernel
theorem dX4_facesOf_1 : decode cX4_facesOf 1 = .ok (.ifCond .lt 11, 3) := by decide +kernel
theorem dX4_facesOf_4 : decode cX4_facesOf 4 = .ok (.iload_n 1, 1) := by decide +kernel
theorem dX4_facesOf_5 : decode cX4_facesOf 5 = .ok (.aload_n 0, 1) := by decide +kernel
theorem dX4_facesOf_6 : decode cX4_facesOf 6 = .ok (.getfield 24, 3) := by decide +kernel
theorem dX4_facesOf_9 : decode cX4_facesOf 9 = .ok (.if_icmp .lt 5, 3) := by decide +kernel
theorem dX4_facesOf_12 : decode cX4_facesOf 12 = .ok (.iconst 0, 1) := by decide +kernel
theorem dX4_facesOf_13 : decode cX4_facesOf 13 = .ok (.ireturn, 1) := by decide +kernel
theorem dX4_facesOf_14 : decode cX4_facesOf 14 = .ok (.aload_n 0, 1) := by decide +kernel
theorem dX4_facesOf_15 : decode cX4_facesOf 15 = .ok (.getfield 13, 3) := by decide +kernel
theorem dX4_facesOf_18 : decode cX4_facesOf 18 = .ok (.iload_n 1, 1) := by decide +kernel
theorem dX4_facesOf_19 : decode cX4_facesOf 19 = .ok (.aaload, 1) := by decide +kernel
theorem dX4_facesOf_20 : decode cX4_facesOf 20 = .ok (.astore_n 2, 1) := by decide +kernel
theorem dX4_facesOf_21 : decode cX4_facesOf 21 = .ok (.aload_n 2, 1) := by decide +kernel
theorem dX4_facesOf_22 : decode cX4_facesOf 22 = .ok (.ifnonnull 7, 3) := by decide +kernel
theorem dX4_facesOf_25 : decode cX4_facesOf 25 = .ok (.iconst 0, 1) := by decide +kernel
theorem dX4_facesOf_26 : decode cX4_facesOf 26 = .ok (.goto 7, 3) := by decide +kernel
theorem dX4_facesOf_29 : decode cX4_facesOf 29 = .ok (.aload_n 2, 1) := by decide +kernel
theorem dX4_facesOf_30 : decode cX4_facesOf 30 = .ok (.getfield 46, 3) := by decide +kernel
theorem dX4_facesOf_33 : decode cX4_facesOf 33 = .ok (.ireturn, 1) := by decide +kernel
theorem dX4_sumInState_0 : decode cX4_sumInState 0 = .ok (.aload_n 0, 1) := by decide +kernel
theorem dX4_sumInState_1 : decode cX4_sumInState 1 = .ok (.invokevirtual 49, 3) := by decide +kernel
theorem dX4_sumInState_4 : decode cX4_sumInState 4 = .ok (.iconst 1, 1) := by decide +kernel
theorem dX4_sumInState_5 : decode cX4_sumInState 5 = .ok (.aload_n 0, 1) := by decide +kernel
theorem dX4_sumInState_6 : decode cX4_sumInState 6 = .ok (.invokevirtual 52, 3) := by decide +kernel
theorem dX4_sumInState_9 : decode cX4_sumInState 9 = .ok (.ishl, 1) := by decide +kernel
theorem dX4_sumInState_10 : decode cX4_sumInState 10 = .ok (.iconst 1, 1) := by decide +kernel
theorem dX4_sumInState_11 : decode cX4_sumInState 11 = .ok (.isub, 1) := by decide +kernel
theorem dX4_sumInState_12 : decode cX4_sumInState 12 = .ok (.bipush 12, 2) := by decide +kernel
theorem dX4_sumInState_14 : decode cX4_sumInState 14 = .ok (.ishl, 1) := by decide +kernel
theorem dX4_sumInState_15 : decode cX4_sumInState 15 = .ok (.istore_n 3, 1) := by decide +kernel
theorem dX4_sumInState_16 : decode cX4_sumInState 16 = .ok (.aload_n 0, 1) := by decide +kernel
theorem dX4_sumInState_17 : decode cX4_sumInState 17 = .ok (.iconst 0, 1) := by decide +kernel
theorem dX4_sumInState_18 : decode cX4_sumInState 18 = .ok (.iload_n 3, 1) := by decide +kernel
theorem dX4_sumInState_19 : decode cX4_sumInState 19 = .ok (.iload_n 1, 1) := by decide +kernel
theorem dX4_sumInState_20 : decode cX4_sumInState 20 = .ok (.bipush 12, 2) := by decide +kernel
theorem dX4_sumInState_22 : decode cX4_sumInState 22 = .ok (.ishl, 1) := by decide +kernel
theorem dX4_sumInState_23 : decode cX4_sumInState 23 = .ok (.iload_n 2, 1) := by decide +kernel
theorem dX4_sumInState_24 : decode cX4_sumInState 24 = .ok (.invokestatic 56, 3) := by decide +kernel
theorem dX4_sumInState_27 : decode cX4_sumInState 27 = .ok (.lreturn, 1) := by decide +kernel
theorem dX4_giveSlots_0 : decode cX4_giveSlots 0 = .ok (.bipush 12, 2) := by decide +kernel
theorem dX4_giveSlots_2 : decode cX4_giveSlots 2 = .ok (.istore_n 1, 1) := by decide +kernel
theorem dX4_giveSlots_3 : decode cX4_giveSlots 3 = .ok (.iconst 0, 1) := by decide +kernel
theorem dX4_giveSlots_4 : decode cX4_giveSlots 4 = .ok (.istore_n 2, 1) := by decide +kernel
theorem dX4_giveSlots_5 : decode cX4_giveSlots 5 = .ok (.iload_n 2, 1) := by decide +kernel
theorem dX4_giveSlots_6 : decode cX4_giveSlots 6 = .ok (.aload_n 0, 1) := by decide +kernel
theorem dX4_giveSlots_7 : decode cX4_giveSlots 7 = .ok (.getfield 24, 3) := by decide +kernel
theorem dX4_giveSlots_10 : decode cX4_giveSlots 10 = .ok (.if_icmp .ge 81, 3) := by decide +kernel
theorem dX4_giveSlots_13 : decode cX4_giveSlots 13 = .ok (.iconst 0, 1) := by decide +kernel
theorem dX4_giveSlots_14 : decode cX4_giveSlots 14 = .ok (.istore_n 3, 1) := by decide +kernel
theorem dX4_giveSlots_15 : decode cX4_giveSlots 15 = .ok (.iload_n 3, 1) := by decide +kernel
theorem dX4_giveSlots_16 : decode cX4_giveSlots 16 = .ok (.aload_n 0, 1) := by decide +kernel
theorem dX4_giveSlots_17 : decode cX4_giveSlots 17 = .ok (.iload_n 2, 1) := by decide +kernel
theorem dX4_giveSlots_18 : decode cX4_giveSlots 18 = .ok (.invokevirtual 35, 3) := by decide +kernel
theorem dX4_giveSlots_21 : decode cX4_giveSlots 21 = .ok (.if_icmp .ge 64, 3) := by decide +kernel
theorem dX4_giveSlots_24 : decode cX4_giveSlots 24 = .ok (.iconst 5, 1) := by decide +kernel
theorem dX4_giveSlots_25 : decode cX4_giveSlots 25 = .ok (.iload_n 2, 1) := by decide +kernel
theorem dX4_giveSlots_26 : decode cX4_giveSlots 26 = .ok (.imul, 1) := by decide +kernel
theorem dX4_giveSlots_27 : decode cX4_giveSlots 27 = .ok (.iload_n 3, 1) := by decide +kernel
theorem dX4_giveSlots_28 : decode cX4_giveSlots 28 = .ok (.iadd, 1) := by decide +kernel
theorem dX4_giveSlots_29 : decode cX4_giveSlots 29 = .ok (.istore 4, 2) := by decide +kernel
theorem dX4_giveSlots_31 : decode cX4_giveSlots 31 = .ok (.aload_n 0, 1) := by decide +kernel
theorem dX4_giveSlots_32 : decode cX4_giveSlots 32 = .ok (.getfield 21, 3) := by decide +kernel
theorem dX4_giveSlots_35 : decode cX4_giveSlots 35 = .ok (.iload 4, 2) := by decide +kernel
theorem dX4_giveSlots_37 : decode cX4_giveSlots 37 = .ok (.aload_n 0, 1) := by decide +kernel
theorem dX4_giveSlots_38 : decode cX4_giveSlots 38 = .ok (.getfield 17, 3) := by decide +kernel
theorem dX4_giveSlots_41 : decode cX4_giveSlots 41 = .ok (.iload 4, 2) := by decide +kernel
theorem dX4_giveSlots_43 : decode cX4_giveSlots 43 = .ok (.iaload, 1) := by decide +kernel
theorem dX4_giveSlots_44 : decode cX4_giveSlots 44 = .ok (.ifCond .ne 7, 3) := by decide +kernel
theorem dX4_giveSlots_47 : decode cX4_giveSlots 47 = .ok (.iload_n 1, 1) := by decide +kernel
theorem dX4_giveSlots_48 : decode cX4_giveSlots 48 = .ok (.goto 12, 3) := by decide +kernel
theorem dX4_giveSlots_51 : decode cX4_giveSlots 51 = .ok (.aload_n 0, 1) := by decide +kernel
theorem dX4_giveSlots_52 : decode cX4_giveSlots 52 = .ok (.getfield 17, 3) := by decide +kernel
theorem dX4_giveSlots_55 : decode cX4_giveSlots 55 = .ok (.iload 4, 2) := by decide +kernel
theorem dX4_giveSlots_57 : decode cX4_giveSlots 57 = .ok (.iaload, 1) := by decide +kernel
theorem dX4_giveSlots_58 : decode cX4_giveSlots 58 = .ok (.iconst 1, 1) := by decide +kernel
theorem dX4_giveSlots_59 : decode cX4_giveSlots 59 = .ok (.isub, 1) := by decide +kernel
theorem dX4_giveSlots_60 : decode cX4_giveSlots 60 = .ok (.iastore, 1) := by decide +kernel
theorem dX4_giveSlots_61 : decode cX4_giveSlots 61 = .ok (.iload_n 1, 1) := by decide +kernel
theorem dX4_giveSlots_62 : decode cX4_giveSlots 62 = .ok (.aload_n 0, 1) := by decide +kernel
theorem dX4_giveSlots_63 : decode cX4_giveSlots 63 = .ok (.getfield 17, 3) := by decide +kernel
theorem dX4_giveSlots_66 : decode cX4_giveSlots 66 = .ok (.iload 4, 2) := by decide +kernel
theorem dX4_giveSlots_68 : decode cX4_giveSlots 68 = .ok (.iaload, 1) := by decide +kernel
theorem dX4_giveSlots_69 : decode cX4_giveSlots 69 = .ok (.ifCond .ne 7, 3) := by decide +kernel
theorem dX4_giveSlots_72 : decode cX4_giveSlots 72 = .ok (.iconst 1, 1) := by decide +kernel
theorem dX4_giveSlots_73 : decode cX4_giveSlots 73 = .ok (.goto 4, 3) := by decide +kernel
theorem dX4_giveSlots_76 : decode cX4_giveSlots 76 = .ok (.iconst 0, 1) := by decide +kernel
theorem dX4_giveSlots_77 : decode cX4_giveSlots 77 = .ok (.iadd, 1) := by decide +kernel
theorem dX4_giveSlots_78 : decode cX4_giveSlots 78 = .ok (.istore_n 1, 1) := by decide +kernel
theorem dX4_giveSlots_79 : decode cX4_giveSlots 79 = .ok (.iinc 3 1, 3) := by decide +kernel
theorem dX4_giveSlots_82 : decode cX4_giveSlots 82 = .ok (.goto (-67), 3) := by decide +kernel
theorem dX4_giveSlots_85 : decode cX4_giveSlots 85 = .ok (.iinc 2 1, 3) := by decide +kernel
theorem dX4_giveSlots_88 : decode cX4_giveSlots 88 = .ok (.goto (-83), 3) := by decide +kernel
theorem dX4_giveSlots_91 : decode cX4_giveSlots 91 = .ok (.return_, 1) := by decide +kernel
theorem dX4_sumFrom_0 : decode cX4_sumFrom 0 = .ok (.iload_n 1, 1) := by decide +kernel
theorem dX4_sumFrom_1 : decode cX4_sumFrom 1 = .ok (.aload_n 0, 1) := by decide +kernel
theorem dX4_sumFrom_2 : decode cX4_sumFrom 2 = .ok (.getfield 24, 3) := by decide +kernel
theorem dX4_sumFrom_5 : decode cX4_sumFrom 5 = .ok (.if_icmp .ge 9, 3) := by decide +kernel
theorem dX4_sumFrom_8 : decode cX4_sumFrom 8 = .ok (.iload_n 1, 1) := by decide +kernel
theorem dX4_sumFrom_9 : decode cX4_sumFrom 9 = .ok (.bipush 8, 2) := by decide +kernel
theorem dX4_sumFrom_11 : decode cX4_sumFrom 11 = .ok (.if_icmp .lt 5, 3) := by decide +kernel
theorem dX4_sumFrom_14 : decode cX4_sumFrom 14 = .ok (.lconst 1, 1) := by decide +kernel
theorem dX4_sumFrom_15 : decode cX4_sumFrom 15 = .ok (.lreturn, 1) := by decide +kernel
theorem dX4_sumFrom_16 : decode cX4_sumFrom 16 = .ok (.aload_n 0, 1) := by decide +kernel
theorem dX4_sumFrom_17 : decode cX4_sumFrom 17 = .ok (.getfield 13, 3) := by decide +kernel
theorem dX4_sumFrom_20 : decode cX4_sumFrom 20 = .ok (.iload_n 1, 1) := by decide +kernel
theorem dX4_sumFrom_21 : decode cX4_sumFrom 21 = .ok (.aaload, 1) := by decide +kernel
theorem dX4_sumFrom_22 : decode cX4_sumFrom 22 = .ok (.astore 5, 2) := by decide +kernel
theorem dX4_sumFrom_24 : decode cX4_sumFrom 24 = .ok (.aload 5, 2) := by decide +kernel
theorem dX4_sumFrom_26 : decode cX4_sumFrom 26 = .ok (.ifnonnull 5, 3) := by decide +kernel
theorem dX4_sumFrom_29 : decode cX4_sumFrom 29 = .ok (.lconst 0, 1) := by decide +kernel
theorem dX4_sumFrom_30 : decode cX4_sumFrom 30 = .ok (.lreturn, 1) := by decide +kernel
theorem dX4_sumFrom_31 : decode cX4_sumFrom 31 = .ok (.aload_n 0, 1) := by decide +kernel
theorem dX4_sumFrom_32 : decode cX4_sumFrom 32 = .ok (.iload_n 1, 1) := by decide +kernel
theorem dX4_sumFrom_33 : decode cX4_sumFrom 33 = .ok (.invokevirtual 60, 3) := by decide +kernel
theorem dX4_sumFrom_36 : decode cX4_sumFrom 36 = .ok (.istore 6, 2) := by decide +kernel
theorem dX4_sumFrom_38 : decode cX4_sumFrom 38 = .ok (.lconst 0, 1) := by decide +kernel
theorem dX4_sumFrom_39 : decode cX4_sumFrom 39 = .ok (.lstore 7, 2) := by decide +kernel
theorem dX4_sumFrom_41 : decode cX4_sumFrom 41 = .ok (.iconst 0, 1) := by decide +kernel
theorem dX4_sumFrom_42 : decode cX4_sumFrom 42 = .ok (.istore 9, 2) := by decide +kernel
theorem dX4_sumFrom_44 : decode cX4_sumFrom 44 = .ok (.iload 9, 2) := by decide +kernel
theorem dX4_sumFrom_46 : decode cX4_sumFrom 46 = .ok (.aload 5, 2) := by decide +kernel
theorem dX4_sumFrom_48 : decode cX4_sumFrom 48 = .ok (.invokevirtual 63, 3) := by decide +kernel
theorem dX4_sumFrom_51 : decode cX4_sumFrom 51 = .ok (.if_icmp .ge 108, 3) := by decide +kernel
theorem dX4_sumFrom_54 : decode cX4_sumFrom 54 = .ok (.aload 5, 2) := by decide +kernel
theorem dX4_sumFrom_56 : decode cX4_sumFrom 56 = .ok (.getfield 66, 3) := by decide +kernel
theorem dX4_sumFrom_59 : decode cX4_sumFrom 59 = .ok (.iload 9, 2) := by decide +kernel
theorem dX4_sumFrom_61 : decode cX4_sumFrom 61 = .ok (.iaload, 1) := by decide +kernel
theorem dX4_sumFrom_62 : decode cX4_sumFrom 62 = .ok (.i2l, 1) := by decide +kernel
theorem dX4_sumFrom_63 : decode cX4_sumFrom 63 = .ok (.lstore 10, 2) := by decide +kernel
theorem dX4_sumFrom_65 : decode cX4_sumFrom 65 = .ok (.lload 10, 2) := by decide +kernel
theorem dX4_sumFrom_67 : decode cX4_sumFrom 67 = .ok (.lconst 0, 1) := by decide +kernel
theorem dX4_sumFrom_68 : decode cX4_sumFrom 68 = .ok (.lcmp, 1) := by decide +kernel
theorem dX4_sumFrom_69 : decode cX4_sumFrom 69 = .ok (.ifCond .ne 7, 3) := by decide +kernel
theorem dX4_sumFrom_72 : decode cX4_sumFrom 72 = .ok (.iconst (-1), 1) := by decide +kernel
theorem dX4_sumFrom_73 : decode cX4_sumFrom 73 = .ok (.goto 10, 3) := by decide +kernel
theorem dX4_sumFrom_76 : decode cX4_sumFrom 76 = .ok (.aload_n 0, 1) := by decide +kernel
theorem dX4_sumFrom_77 : decode cX4_sumFrom 77 = .ok (.iload_n 1, 1) := by decide +kernel
theorem dX4_sumFrom_78 : decode cX4_sumFrom 78 = .ok (.iload 9, 2) := by decide +kernel
theorem dX4_sumFrom_80 : decode cX4_sumFrom 80 = .ok (.invokevirtual 69, 3) := by decide +kernel
theorem dX4_sumFrom_83 : decode cX4_sumFrom 83 = .ok (.istore 12, 2) := by decide +kernel
theorem dX4_sumFrom_85 : decode cX4_sumFrom 85 = .ok (.iload 12, 2) := by decide +kernel
theorem dX4_sumFrom_87 : decode cX4_sumFrom 87 = .ok (.iconst (-1), 1) := by decide +kernel
theorem dX4_sumFrom_88 : decode cX4_sumFrom 88 = .ok (.if_icmp .eq 65, 3) := by decide +kernel
theorem dX4_sumFrom_91 : decode cX4_sumFrom 91 = .ok (.iload 12, 2) := by decide +kernel
theorem dX4_sumFrom_93 : decode cX4_sumFrom 93 = .ok (.iload_n 3, 1) := by decide +kernel
theorem dX4_sumFrom_94 : decode cX4_sumFrom 94 = .ok (.ixor, 1) := by decide +kernel
theorem dX4_sumFrom_95 : decode cX4_sumFrom 95 = .ok (.iload 6, 2) := by decide +kernel
theorem dX4_sumFrom_97 : decode cX4_sumFrom 97 = .ok (.iand, 1) := by decide +kernel
theorem dX4_sumFrom_98 : decode cX4_sumFrom 98 = .ok (.iload_n 2, 1) := by decide +kernel
theorem dX4_sumFrom_99 : decode cX4_sumFrom 99 = .ok (.iand, 1) := by decide +kernel
theorem dX4_sumFrom_100 : decode cX4_sumFrom 100 = .ok (.ifCond .eq 6, 3) := by decide +kernel
theorem dX4_sumFrom_103 : decode cX4_sumFrom 103 = .ok (.goto 50, 3) := by decide +kernel
theorem dX4_sumFrom_106 : decode cX4_sumFrom 106 = .ok (.aload_n 0, 1) := by decide +kernel
theorem dX4_sumFrom_107 : decode cX4_sumFrom 107 = .ok (.iload_n 1, 1) := by decide +kernel
theorem dX4_sumFrom_108 : decode cX4_sumFrom 108 = .ok (.iconst 1, 1) := by decide +kernel
theorem dX4_sumFrom_109 : decode cX4_sumFrom 109 = .ok (.iadd, 1) := by decide +kernel
theorem dX4_sumFrom_110 : decode cX4_sumFrom 110 = .ok (.iload_n 2, 1) := by decide +kernel
theorem dX4_sumFrom_111 : decode cX4_sumFrom 111 = .ok (.iload 6, 2) := by decide +kernel
theorem dX4_sumFrom_113 : decode cX4_sumFrom 113 = .ok (.ior, 1) := by decide +kernel
theorem dX4_sumFrom_114 : decode cX4_sumFrom 114 = .ok (.iload_n 3, 1) := by decide +kernel
theorem dX4_sumFrom_115 : decode cX4_sumFrom 115 = .ok (.iload 12, 2) := by decide +kernel
theorem dX4_sumFrom_117 : decode cX4_sumFrom 117 = .ok (.ior, 1) := by decide +kernel
theorem dX4_sumFrom_118 : decode cX4_sumFrom 118 = .ok (.iload 4, 2) := by decide +kernel
theorem dX4_sumFrom_120 : decode cX4_sumFrom 120 = .ok (.invokestatic 56, 3) := by decide +kernel
theorem dX4_sumFrom_123 : decode cX4_sumFrom 123 = .ok (.lstore 13, 2) := by decide +kernel
theorem dX4_sumFrom_125 : decode cX4_sumFrom 125 = .ok (.iload 4, 2) := by decide +kernel
theorem dX4_sumFrom_127 : decode cX4_sumFrom 127 = .ok (.ifCond .eq 12, 3) := by decide +kernel
theorem dX4_sumFrom_130 : decode cX4_sumFrom 130 = .ok (.lload 13, 2) := by decide +kernel
theorem dX4_sumFrom_132 : decode cX4_sumFrom 132 = .ok (.lconst 0, 1) := by decide +kernel
theorem dX4_sumFrom_133 : decode cX4_sumFrom 133 = .ok (.lcmp, 1) := by decide +kernel
theorem dX4_sumFrom_134 : decode cX4_sumFrom 134 = .ok (.ifCond .le 5, 3) := by decide +kernel
theorem dX4_sumFrom_137 : decode cX4_sumFrom 137 = .ok (.lconst 1, 1) := by decide +kernel
theorem dX4_sumFrom_138 : decode cX4_sumFrom 138 = .ok (.lreturn, 1) := by decide +kernel
theorem dX4_sumFrom_139 : decode cX4_sumFrom 139 = .ok (.lload 7, 2) := by decide +kernel
theorem dX4_sumFrom_141 : decode cX4_sumFrom 141 = .ok (.lload 10, 2) := by decide +kernel
theorem dX4_sumFrom_143 : decode cX4_sumFrom 143 = .ok (.lload 13, 2) := by decide +kernel
theorem dX4_sumFrom_145 : decode cX4_sumFrom 145 = .ok (.lmul, 1) := by decide +kernel
theorem dX4_sumFrom_146 : decode cX4_sumFrom 146 = .ok (.ladd, 1) := by decide +kernel
theorem dX4_sumFrom_147 : decode cX4_sumFrom 147 = .ok (.ldc2_w 73, 3) := by decide +kernel
theorem dX4_sumFrom_150 : decode cX4_sumFrom 150 = .ok (.lrem, 1) := by decide +kernel
theorem dX4_sumFrom_151 : decode cX4_sumFrom 151 = .ok (.lstore 7, 2) := by decide +kernel
theorem dX4_sumFrom_153 : decode cX4_sumFrom 153 = .ok (.iinc 9 1, 3) := by decide +kernel
theorem dX4_sumFrom_156 : decode cX4_sumFrom 156 = .ok (.goto (-112), 3) := by decide +kernel
theorem dX4_sumFrom_159 : decode cX4_sumFrom 159 = .ok (.lload 7, 2) := by decide +kernel
theorem dX4_sumFrom_161 : decode cX4_sumFrom 161 = .ok (.lreturn, 1) := by decide +kernel
theorem dX4_slotsOf_0 : decode cX4_slotsOf 0 = .ok (.iconst 0, 1) := by decide +kernel
theorem dX4_slotsOf_1 : decode cX4_slotsOf 1 = .ok (.istore_n 2, 1) := by decide +kernel
theorem dX4_slotsOf_2 : decode cX4_slotsOf 2 = .ok (.iconst 0, 1) := by decide +kernel
theorem dX4_slotsOf_3 : decode cX4_slotsOf 3 = .ok (.istore_n 3, 1) := by decide +kernel
theorem dX4_slotsOf_4 : decode cX4_slotsOf 4 = .ok (.iload_n 3, 1) := by decide +kernel
theorem dX4_slotsOf_5 : decode cX4_slotsOf 5 = .ok (.aload_n 0, 1) := by decide +kernel
theorem dX4_slotsOf_6 : decode cX4_slotsOf 6 = .ok (.iload_n 1, 1) := by decide +kernel
theorem dX4_slotsOf_7 : decode cX4_slotsOf 7 = .ok (.invokevirtual 35, 3) := by decide +kernel
theorem dX4_slotsOf_10 : decode cX4_slotsOf 10 = .ok (.if_icmp .ge 24, 3) := by decide +kernel
theorem dX4_slotsOf_13 : decode cX4_slotsOf 13 = .ok (.iload_n 2, 1) := by decide +kernel
theorem dX4_slotsOf_14 : decode cX4_slotsOf 14 = .ok (.iconst 1, 1) := by decide +kernel
theorem dX4_slotsOf_15 : decode cX4_slotsOf 15 = .ok (.aload_n 0, 1) := by decide +kernel
theorem dX4_slotsOf_16 : decode cX4_slotsOf 16 = .ok (.getfield 21, 3) := by decide +kernel
theorem dX4_slotsOf_19 : decode cX4_slotsOf 19 = .ok (.iconst 5, 1) := by decide +kernel
theorem dX4_slotsOf_20 : decode cX4_slotsOf 20 = .ok (.iload_n 1, 1) := by decide +kernel
theorem dX4_slotsOf_21 : decode cX4_slotsOf 21 = .ok (.imul, 1) := by decide +kernel
theorem dX4_slotsOf_22 : decode cX4_slotsOf 22 = .ok (.iload_n 3, 1) := by decide +kernel
theorem dX4_slotsOf_23 : decode cX4_slotsOf 23 = .ok (.iadd, 1) := by decide +kernel
theorem dX4_slotsOf_24 : decode cX4_slotsOf 24 = .ok (.iaload, 1) := by decide +kernel
theorem dX4_slotsOf_25 : decode cX4_slotsOf 25 = .ok (.ishl, 1) := by decide +kernel
theorem dX4_slotsOf_26 : decode cX4_slotsOf 26 = .ok (.ior, 1) := by decide +kernel
theorem dX4_slotsOf_27 : decode cX4_slotsOf 27 = .ok (.istore_n 2, 1) := by decide +kernel
theorem dX4_slotsOf_28 : decode cX4_slotsOf 28 = .ok (.iinc 3 1, 3) := by decide +kernel
theorem dX4_slotsOf_31 : decode cX4_slotsOf 31 = .ok (.goto (-27), 3) := by decide +kernel
theorem dX4_slotsOf_34 : decode cX4_slotsOf 34 = .ok (.iload_n 2, 1) := by decide +kernel
theorem dX4_slotsOf_35 : decode cX4_slotsOf 35 = .ok (.ireturn, 1) := by decide +kernel
theorem dX4_bitsIn_0 : decode cX4_bitsIn 0 = .ok (.iconst 0, 1) := by decide +kernel
theorem dX4_bitsIn_1 : decode cX4_bitsIn 1 = .ok (.istore_n 3, 1) := by decide +kernel
theorem dX4_bitsIn_2 : decode cX4_bitsIn 2 = .ok (.iconst 0, 1) := by decide +kernel
theorem dX4_bitsIn_3 : decode cX4_bitsIn 3 = .ok (.istore 4, 2) := by decide +kernel
theorem dX4_bitsIn_5 : decode cX4_bitsIn 5 = .ok (.iconst 0, 1) := by decide +kernel
theorem dX4_bitsIn_6 : decode cX4_bitsIn 6 = .ok (.istore 5, 2) := by decide +kernel
theorem dX4_bitsIn_8 : decode cX4_bitsIn 8 = .ok (.iload 5, 2) := by decide +kernel
theorem dX4_bitsIn_10 : decode cX4_bitsIn 10 = .ok (.aload_n 0, 1) := by decide +kernel
theorem dX4_bitsIn_11 : decode cX4_bitsIn 11 = .ok (.iload_n 1, 1) := by decide +kernel
theorem dX4_bitsIn_12 : decode cX4_bitsIn 12 = .ok (.invokevirtual 35, 3) := by decide +kernel
theorem dX4_bitsIn_15 : decode cX4_bitsIn 15 = .ok (.if_icmp .ge 48, 3) := by decide +kernel
theorem dX4_bitsIn_18 : decode cX4_bitsIn 18 = .ok (.iconst 1, 1) := by decide +kernel
theorem dX4_bitsIn_19 : decode cX4_bitsIn 19 = .ok (.aload_n 0, 1) := by decide +kernel
theorem dX4_bitsIn_20 : decode cX4_bitsIn 20 = .ok (.getfield 21, 3) := by decide +kernel
theorem dX4_bitsIn_23 : decode cX4_bitsIn 23 = .ok (.iconst 5, 1) := by decide +kernel
theorem dX4_bitsIn_24 : decode cX4_bitsIn 24 = .ok (.iload_n 1, 1) := by decide +kernel
theorem dX4_bitsIn_25 : decode cX4_bitsIn 25 = .ok (.imul, 1) := by decide +kernel
theorem dX4_bitsIn_26 : decode cX4_bitsIn 26 = .ok (.iload 5, 2) := by decide +kernel
theorem dX4_bitsIn_28 : decode cX4_bitsIn 28 = .ok (.iadd, 1) := by decide +kernel
theorem dX4_bitsIn_29 : decode cX4_bitsIn 29 = .ok (.iaload, 1) := by decide +kernel
theorem dX4_bitsIn_30 : decode cX4_bitsIn 30 = .ok (.ishl, 1) := by decide +kernel
theorem dX4_bitsIn_31 : decode cX4_bitsIn 31 = .ok (.istore 6, 2) := by decide +kernel
theorem dX4_bitsIn_33 : decode cX4_bitsIn 33 = .ok (.iload_n 2, 1) := by decide +kernel
theorem dX4_bitsIn_34 : decode cX4_bitsIn 34 = .ok (.iload 5, 2) := by decide +kernel
theorem dX4_bitsIn_36 : decode cX4_bitsIn 36 = .ok (.ishr, 1) := by decide +kernel
theorem dX4_bitsIn_37 : decode cX4_bitsIn 37 = .ok (.iconst 1, 1) := by decide +kernel
theorem dX4_bitsIn_38 : decode cX4_bitsIn 38 = .ok (.iand, 1) := by decide +kernel
theorem dX4_bitsIn_39 : decode cX4_bitsIn 39 = .ok (.ifCond .eq 11, 3) := by decide +kernel
theorem dX4_bitsIn_42 : decode cX4_bitsIn 42 = .ok (.iload_n 3, 1) := by decide +kernel
theorem dX4_bitsIn_43 : decode cX4_bitsIn 43 = .ok (.iload 6, 2) := by decide +kernel
theorem dX4_bitsIn_45 : decode cX4_bitsIn 45 = .ok (.ior, 1) := by decide +kernel
theorem dX4_bitsIn_46 : decode cX4_bitsIn 46 = .ok (.istore_n 3, 1) := by decide +kernel
theorem dX4_bitsIn_47 : decode cX4_bitsIn 47 = .ok (.goto 10, 3) := by decide +kernel
theorem dX4_bitsIn_50 : decode cX4_bitsIn 50 = .ok (.iload 4, 2) := by decide +kernel
theorem dX4_bitsIn_52 : decode cX4_bitsIn 52 = .ok (.iload 6, 2) := by decide +kernel
theorem dX4_bitsIn_54 : decode cX4_bitsIn 54 = .ok (.ior, 1) := by decide +kernel
theorem dX4_bitsIn_55 : decode cX4_bitsIn 55 = .ok (.istore 4, 2) := by decide +kernel
theorem dX4_bitsIn_57 : decode cX4_bitsIn 57 = .ok (.iinc 5 1, 3) := by decide +kernel
theorem dX4_bitsIn_60 : decode cX4_bitsIn 60 = .ok (.goto (-52), 3) := by decide +kernel
theorem dX4_bitsIn_63 : decode cX4_bitsIn 63 = .ok (.iload_n 3, 1) := by decide +kernel
theorem dX4_bitsIn_64 : decode cX4_bitsIn 64 = .ok (.iload 4, 2) := by decide +kernel
theorem dX4_bitsIn_66 : decode cX4_bitsIn 66 = .ok (.iand, 1) := by decide +kernel
theorem dX4_bitsIn_67 : decode cX4_bitsIn 67 = .ok (.ifCond .ne 7, 3) := by decide +kernel
theorem dX4_bitsIn_70 : decode cX4_bitsIn 70 = .ok (.iload_n 3, 1) := by decide +kernel
theorem dX4_bitsIn_71 : decode cX4_bitsIn 71 = .ok (.goto 4, 3) := by decide +kernel
theorem dX4_bitsIn_74 : decode cX4_bitsIn 74 = .ok (.iconst (-1), 1) := by decide +kernel
theorem dX4_bitsIn_75 : decode cX4_bitsIn 75 = .ok (.ireturn, 1) := by decide +kernel
theorem dX5_isBalanced_0 : decode cX5_isBalanced 0 = .ok (.iconst 2, 1) := by decide +kernel
theorem dX5_isBalanced_1 : decode cX5_isBalanced 1 = .ok (.iload_n 0, 1) := by decide +kernel
theorem dX5_isBalanced_2 : decode cX5_isBalanced 2 = .ok (.ldc 11, 2) := by decide +kernel
theorem dX5_isBalanced_4 : decode cX5_isBalanced 4 = .ok (.iand, 1) := by decide +kernel
theorem dX5_isBalanced_5 : decode cX5_isBalanced 5 = .ok (.invokestatic 12, 3) := by decide +kernel
theorem dX5_isBalanced_8 : decode cX5_isBalanced 8 = .ok (.imul, 1) := by decide +kernel
theorem dX5_isBalanced_9 : decode cX5_isBalanced 9 = .ok (.iload_n 0, 1) := by decide +kernel
theorem dX5_isBalanced_10 : decode cX5_isBalanced 10 = .ok (.invokestatic 12, 3) := by decide +kernel
theorem dX5_isBalanced_13 : decode cX5_isBalanced 13 = .ok (.if_icmp .ne 7, 3) := by decide +kernel
theorem dX5_isBalanced_16 : decode cX5_isBalanced 16 = .ok (.iconst 1, 1) := by decide +kernel
theorem dX5_isBalanced_17 : decode cX5_isBalanced 17 = .ok (.goto 4, 3) := by decide +kernel
theorem dX5_isBalanced_20 : decode cX5_isBalanced 20 = .ok (.iconst 0, 1) := by decide +kernel
theorem dX5_isBalanced_21 : decode cX5_isBalanced 21 = .ok (.ireturn, 1) := by decide +kernel
theorem dX5_number_0 : decode cX5_number 0 = .ok (.iload_n 0, 1) := by decide +kernel
theorem dX5_number_1 : decode cX5_number 1 = .ok (.invokestatic 18, 3) := by decide +kernel
theorem dX5_number_4 : decode cX5_number 4 = .ok (.ifCond .eq 11, 3) := by decide +kernel
theorem dX5_number_7 : decode cX5_number 7 = .ok (.iload_n 0, 1) := by decide +kernel
theorem dX5_number_8 : decode cX5_number 8 = .ok (.iconst 0, 1) := by decide +kernel
theorem dX5_number_9 : decode cX5_number 9 = .ok (.invokestatic 22, 3) := by decide +kernel
theorem dX5_number_12 : decode cX5_number 12 = .ok (.goto 4, 3) := by decide +kernel
theorem dX5_number_15 : decode cX5_number 15 = .ok (.iconst 0, 1) := by decide +kernel
theorem dX5_number_16 : decode cX5_number 16 = .ok (.ireturn, 1) := by decide +kernel
theorem dX5_numberFrom_0 : decode cX5_numberFrom 0 = .ok (.iload_n 0, 1) := by decide +kernel
theorem dX5_numberFrom_1 : decode cX5_numberFrom 1 = .ok (.ifCond .ne 5, 3) := by decide +kernel
theorem dX5_numberFrom_4 : decode cX5_numberFrom 4 = .ok (.iconst 1, 1) := by decide +kernel
theorem dX5_numberFrom_5 : decode cX5_numberFrom 5 = .ok (.ireturn, 1) := by decide +kernel
theorem dX5_numberFrom_6 : decode cX5_numberFrom 6 = .ok (.iload_n 1, 1) := by decide +kernel
theorem dX5_numberFrom_7 : decode cX5_numberFrom 7 = .ok (.bipush 10, 2) := by decide +kernel
theorem dX5_numberFrom_9 : decode cX5_numberFrom 9 = .ok (.if_icmp .lt 5, 3) := by decide +kernel
theorem dX5_numberFrom_12 : decode cX5_numberFrom 12 = .ok (.iconst 0, 1) := by decide +kernel
theorem dX5_numberFrom_13 : decode cX5_numberFrom 13 = .ok (.ireturn, 1) := by decide +kernel
theorem dX5_numberFrom_14 : decode cX5_numberFrom 14 = .ok (.iload_n 0, 1) := by decide +kernel
theorem dX5_numberFrom_15 : decode cX5_numberFrom 15 = .ok (.iload_n 0, 1) := by decide +kernel
theorem dX5_numberFrom_16 : decode cX5_numberFrom 16 = .ok (.ineg, 1) := by decide +kernel
theorem dX5_numberFrom_17 : decode cX5_numberFrom 17 = .ok (.iand, 1) := by decide +kernel
theorem dX5_numberFrom_18 : decode cX5_numberFrom 18 = .ok (.istore_n 2, 1) := by decide +kernel
theorem dX5_numberFrom_19 : decode cX5_numberFrom 19 = .ok (.iconst 0, 1) := by decide +kernel
theorem dX5_numberFrom_20 : decode cX5_numberFrom 20 = .ok (.istore_n 3, 1) := by decide +kernel
theorem dX5_numberFrom_21 : decode cX5_numberFrom 21 = .ok (.iload_n 0, 1) := by decide +kernel
theorem dX5_numberFrom_22 : decode cX5_numberFrom 22 = .ok (.iload_n 2, 1) := by decide +kernel
theorem dX5_numberFrom_23 : decode cX5_numberFrom 23 = .ok (.invokestatic 26, 3) := by decide +kernel
theorem dX5_numberFrom_26 : decode cX5_numberFrom 26 = .ok (.ifCond .eq 21, 3) := by decide +kernel
theorem dX5_numberFrom_29 : decode cX5_numberFrom 29 = .ok (.iload_n 3, 1) := by decide +kernel
theorem dX5_numberFrom_30 : decode cX5_numberFrom 30 = .ok (.iload_n 0, 1) := by decide +kernel
theorem dX5_numberFrom_31 : decode cX5_numberFrom 31 = .ok (.iload_n 2, 1) := by decide +kernel
theorem dX5_numberFrom_32 : decode cX5_numberFrom 32 = .ok (.iload_n 2, 1) := by decide +kernel
theorem dX5_numberFrom_33 : decode cX5_numberFrom 33 = .ok (.iconst 1, 1) := by decide +kernel
theorem dX5_numberFrom_34 : decode cX5_numberFrom 34 = .ok (.ishl, 1) := by decide +kernel
theorem dX5_numberFrom_35 : decode cX5_numberFrom 35 = .ok (.ior, 1) := by decide +kernel
theorem dX5_numberFrom_36 : decode cX5_numberFrom 36 = .ok (.iconst (-1), 1) := by decide +kernel
theorem dX5_numberFrom_37 : decode cX5_numberFrom 37 = .ok (.ixor, 1) := by decide +kernel
theorem dX5_numberFrom_38 : decode cX5_numberFrom 38 = .ok (.iand, 1) := by decide +kernel
theorem dX5_numberFrom_39 : decode cX5_numberFrom 39 = .ok (.iload_n 1, 1) := by decide +kernel
theorem dX5_numberFrom_40 : decode cX5_numberFrom 40 = .ok (.iconst 1, 1) := by decide +kernel
theorem dX5_numberFrom_41 : decode cX5_numberFrom 41 = .ok (.iadd, 1) := by decide +kernel
theorem dX5_numberFrom_42 : decode cX5_numberFrom 42 = .ok (.invokestatic 22, 3) := by decide +kernel
theorem dX5_numberFrom_45 : decode cX5_numberFrom 45 = .ok (.iadd, 1) := by decide +kernel
theorem dX5_numberFrom_46 : decode cX5_numberFrom 46 = .ok (.istore_n 3, 1) := by decide +kernel
theorem dX5_numberFrom_47 : decode cX5_numberFrom 47 = .ok (.iload_n 0, 1) := by decide +kernel
theorem dX5_numberFrom_48 : decode cX5_numberFrom 48 = .ok (.iload_n 2, 1) := by decide +kernel
theorem dX5_numberFrom_49 : decode cX5_numberFrom 49 = .ok (.iconst 5, 1) := by decide +kernel
theorem dX5_numberFrom_50 : decode cX5_numberFrom 50 = .ok (.ishl, 1) := by decide +kernel
theorem dX5_numberFrom_51 : decode cX5_numberFrom 51 = .ok (.iand, 1) := by decide +kernel
theorem dX5_numberFrom_52 : decode cX5_numberFrom 52 = .ok (.ifCond .eq 21, 3) := by decide +kernel
theorem dX5_numberFrom_55 : decode cX5_numberFrom 55 = .ok (.iload_n 3, 1) := by decide +kernel
theorem dX5_numberFrom_56 : decode cX5_numberFrom 56 = .ok (.iload_n 0, 1) := by decide +kernel
theorem dX5_numberFrom_57 : decode cX5_numberFrom 57 = .ok (.iload_n 2, 1) := by decide +kernel
theorem dX5_numberFrom_58 : decode cX5_numberFrom 58 = .ok (.iload_n 2, 1) := by decide +kernel
theorem dX5_numberFrom_59 : decode cX5_numberFrom 59 = .ok (.iconst 5, 1) := by decide +kernel
theorem dX5_numberFrom_60 : decode cX5_numberFrom 60 = .ok (.ishl, 1) := by decide +kernel
theorem dX5_numberFrom_61 : decode cX5_numberFrom 61 = .ok (.ior, 1) := by decide +kernel
theorem dX5_numberFrom_62 : decode cX5_numberFrom 62 = .ok (.iconst (-1), 1) := by decide +kernel
theorem dX5_numberFrom_63 : decode cX5_numberFrom 63 = .ok (.ixor, 1) := by decide +kernel
theorem dX5_numberFrom_64 : decode cX5_numberFrom 64 = .ok (.iand, 1) := by decide +kernel
theorem dX5_numberFrom_65 : decode cX5_numberFrom 65 = .ok (.iload_n 1, 1) := by decide +kernel
theorem dX5_numberFrom_66 : decode cX5_numberFrom 66 = .ok (.iconst 1, 1) := by decide +kernel
theorem dX5_numberFrom_67 : decode cX5_numberFrom 67 = .ok (.iadd, 1) := by decide +kernel
theorem dX5_numberFrom_68 : decode cX5_numberFrom 68 = .ok (.invokestatic 22, 3) := by decide +kernel
theorem dX5_numberFrom_71 : decode cX5_numberFrom 71 = .ok (.iadd, 1) := by decide +kernel
theorem dX5_numberFrom_72 : decode cX5_numberFrom 72 = .ok (.istore_n 3, 1) := by decide +kernel
theorem dX5_numberFrom_73 : decode cX5_numberFrom 73 = .ok (.iload_n 3, 1) := by decide +kernel
theorem dX5_numberFrom_74 : decode cX5_numberFrom 74 = .ok (.ireturn, 1) := by decide +kernel
theorem dX5_goesRight_0 : decode cX5_goesRight 0 = .ok (.iload_n 1, 1) := by decide +kernel
theorem dX5_goesRight_1 : decode cX5_goesRight 1 = .ok (.ldc 30, 2) := by decide +kernel
theorem dX5_goesRight_3 : decode cX5_goesRight 3 = .ok (.iand, 1) := by decide +kernel
theorem dX5_goesRight_4 : decode cX5_goesRight 4 = .ok (.ifCond .ne 15, 3) := by decide +kernel
theorem dX5_goesRight_7 : decode cX5_goesRight 7 = .ok (.iload_n 0, 1) := by decide +kernel
theorem dX5_goesRight_8 : decode cX5_goesRight 8 = .ok (.iload_n 1, 1) := by decide +kernel
theorem dX5_goesRight_9 : decode cX5_goesRight 9 = .ok (.iconst 1, 1) := by decide +kernel
theorem dX5_goesRight_10 : decode cX5_goesRight 10 = .ok (.ishl, 1) := by decide +kernel
theorem dX5_goesRight_11 : decode cX5_goesRight 11 = .ok (.iand, 1) := by decide +kernel
theorem dX5_goesRight_12 : decode cX5_goesRight 12 = .ok (.ifCond .eq 7, 3) := by decide +kernel
theorem dX5_goesRight_15 : decode cX5_goesRight 15 = .ok (.iconst 1, 1) := by decide +kernel
theorem dX5_goesRight_16 : decode cX5_goesRight 16 = .ok (.goto 4, 3) := by decide +kernel
theorem dX5_goesRight_19 : decode cX5_goesRight 19 = .ok (.iconst 0, 1) := by decide +kernel
theorem dX5_goesRight_20 : decode cX5_goesRight 20 = .ok (.ireturn, 1) := by decide +kernel
theorem dX5_firstCoverOf_0 : decode cX5_firstCoverOf 0 = .ok (.iload_n 0, 1) := by decide +kernel
theorem dX5_firstCoverOf_1 : decode cX5_firstCoverOf 1 = .ok (.istore_n 2, 1) := by decide +kernel
theorem dX5_firstCoverOf_2 : decode cX5_firstCoverOf 2 = .ok (.iconst 0, 1) := by decide +kernel
theorem dX5_firstCoverOf_3 : decode cX5_firstCoverOf 3 = .ok (.istore_n 3, 1) := by decide +kernel
theorem dX5_firstCoverOf_4 : decode cX5_firstCoverOf 4 = .ok (.iload_n 3, 1) := by decide +kernel
theorem dX5_firstCoverOf_5 : decode cX5_firstCoverOf 5 = .ok (.bipush 10, 2) := by decide +kernel
theorem dX5_firstCoverOf_7 : decode cX5_firstCoverOf 7 = .ok (.if_icmp .ge 114, 3) := by decide +kernel
theorem dX5_firstCoverOf_10 : decode cX5_firstCoverOf 10 = .ok (.iload_n 2, 1) := by decide +kernel
theorem dX5_firstCoverOf_11 : decode cX5_firstCoverOf 11 = .ok (.ifCond .eq 110, 3) := by decide +kernel
theorem dX5_firstCoverOf_14 : decode cX5_firstCoverOf 14 = .ok (.iload_n 2, 1) := by decide +kernel
theorem dX5_firstCoverOf_15 : decode cX5_firstCoverOf 15 = .ok (.iload_n 2, 1) := by decide +kernel
theorem dX5_firstCoverOf_16 : decode cX5_firstCoverOf 16 = .ok (.ineg, 1) := by decide +kernel
theorem dX5_firstCoverOf_17 : decode cX5_firstCoverOf 17 = .ok (.iand, 1) := by decide +kernel
theorem dX5_firstCoverOf_18 : decode cX5_firstCoverOf 18 = .ok (.istore 4, 2) := by decide +kernel
theorem dX5_firstCoverOf_20 : decode cX5_firstCoverOf 20 = .ok (.iload_n 2, 1) := by decide +kernel
theorem dX5_firstCoverOf_21 : decode cX5_firstCoverOf 21 = .ok (.iload 4, 2) := by decide +kernel
theorem dX5_firstCoverOf_23 : decode cX5_firstCoverOf 23 = .ok (.invokestatic 26, 3) := by decide +kernel
theorem dX5_firstCoverOf_26 : decode cX5_firstCoverOf 26 = .ok (.ifCond .eq 24, 3) := by decide +kernel
theorem dX5_firstCoverOf_29 : decode cX5_firstCoverOf 29 = .ok (.iload_n 2, 1) := by decide +kernel
theorem dX5_firstCoverOf_30 : decode cX5_firstCoverOf 30 = .ok (.iload 4, 2) := by decide +kernel
theorem dX5_firstCoverOf_32 : decode cX5_firstCoverOf 32 = .ok (.iload 4, 2) := by decide +kernel
theorem dX5_firstCoverOf_34 : decode cX5_firstCoverOf 34 = .ok (.iconst 1, 1) := by decide +kernel
theorem dX5_firstCoverOf_35 : decode cX5_firstCoverOf 35 = .ok (.ishl, 1) := by decide +kernel
theorem dX5_firstCoverOf_36 : decode cX5_firstCoverOf 36 = .ok (.ior, 1) := by decide +kernel
theorem dX5_firstCoverOf_37 : decode cX5_firstCoverOf 37 = .ok (.iconst (-1), 1) := by decide +kernel
theorem dX5_firstCoverOf_38 : decode cX5_firstCoverOf 38 = .ok (.ixor, 1) := by decide +kernel
theorem dX5_firstCoverOf_39 : decode cX5_firstCoverOf 39 = .ok (.iand, 1) := by decide +kernel
theorem dX5_firstCoverOf_40 : decode cX5_firstCoverOf 40 = .ok (.invokestatic 31, 3) := by decide +kernel
theorem dX5_firstCoverOf_43 : decode cX5_firstCoverOf 43 = .ok (.ifCond .le 7, 3) := by decide +kernel
theorem dX5_firstCoverOf_46 : decode cX5_firstCoverOf 46 = .ok (.iconst 1, 1) := by decide +kernel
theorem dX5_firstCoverOf_47 : decode cX5_firstCoverOf 47 = .ok (.goto 4, 3) := by decide +kernel
theorem dX5_firstCoverOf_50 : decode cX5_firstCoverOf 50 = .ok (.iconst 0, 1) := by decide +kernel
theorem dX5_firstCoverOf_51 : decode cX5_firstCoverOf 51 = .ok (.istore 5, 2) := by decide +kernel
theorem dX5_firstCoverOf_53 : decode cX5_firstCoverOf 53 = .ok (.iload 5, 2) := by decide +kernel
theorem dX5_firstCoverOf_55 : decode cX5_firstCoverOf 55 = .ok (.ifCond .eq 10, 3) := by decide +kernel
theorem dX5_firstCoverOf_58 : decode cX5_firstCoverOf 58 = .ok (.iload 4, 2) := by decide +kernel
theorem dX5_firstCoverOf_60 : decode cX5_firstCoverOf 60 = .ok (.iconst 1, 1) := by decide +kernel
theorem dX5_firstCoverOf_61 : decode cX5_firstCoverOf 61 = .ok (.ishl, 1) := by decide +kernel
theorem dX5_firstCoverOf_62 : decode cX5_firstCoverOf 62 = .ok (.goto 7, 3) := by decide +kernel
theorem dX5_firstCoverOf_65 : decode cX5_firstCoverOf 65 = .ok (.iload 4, 2) := by decide +kernel
theorem dX5_firstCoverOf_67 : decode cX5_firstCoverOf 67 = .ok (.iconst 5, 1) := by decide +kernel
theorem dX5_firstCoverOf_68 : decode cX5_firstCoverOf 68 = .ok (.ishl, 1) := by decide +kernel
theorem dX5_firstCoverOf_69 : decode cX5_firstCoverOf 69 = .ok (.istore 6, 2) := by decide +kernel
theorem dX5_firstCoverOf_71 : decode cX5_firstCoverOf 71 = .ok (.iload_n 1, 1) := by decide +kernel
theorem dX5_firstCoverOf_72 : decode cX5_firstCoverOf 72 = .ok (.iload 4, 2) := by decide +kernel
theorem dX5_firstCoverOf_74 : decode cX5_firstCoverOf 74 = .ok (.if_icmp .ne 14, 3) := by decide +kernel
theorem dX5_firstCoverOf_77 : decode cX5_firstCoverOf 77 = .ok (.iload 5, 2) := by decide +kernel
theorem dX5_firstCoverOf_79 : decode cX5_firstCoverOf 79 = .ok (.ifCond .eq 7, 3) := by decide +kernel
theorem dX5_firstCoverOf_82 : decode cX5_firstCoverOf 82 = .ok (.iconst 1, 1) := by decide +kernel
theorem dX5_firstCoverOf_83 : decode cX5_firstCoverOf 83 = .ok (.goto 4, 3) := by decide +kernel
theorem dX5_firstCoverOf_86 : decode cX5_firstCoverOf 86 = .ok (.iconst 2, 1) := by decide +kernel
theorem dX5_firstCoverOf_87 : decode cX5_firstCoverOf 87 = .ok (.ireturn, 1) := by decide +kernel
theorem dX5_firstCoverOf_88 : decode cX5_firstCoverOf 88 = .ok (.iload_n 1, 1) := by decide +kernel
theorem dX5_firstCoverOf_89 : decode cX5_firstCoverOf 89 = .ok (.iload 6, 2) := by decide +kernel
theorem dX5_firstCoverOf_91 : decode cX5_firstCoverOf 91 = .ok (.if_icmp .ne 14, 3) := by decide +kernel
theorem dX5_firstCoverOf_94 : decode cX5_firstCoverOf 94 = .ok (.iload 5, 2) := by decide +kernel
theorem dX5_firstCoverOf_96 : decode cX5_firstCoverOf 96 = .ok (.ifCond .eq 7, 3) := by decide +kernel
theorem dX5_firstCoverOf_99 : decode cX5_firstCoverOf 99 = .ok (.iconst 3, 1) := by decide +kernel
theorem dX5_firstCoverOf_100 : decode cX5_firstCoverOf 100 = .ok (.goto 4, 3) := by decide +kernel
theorem dX5_firstCoverOf_103 : decode cX5_firstCoverOf 103 = .ok (.iconst 4, 1) := by decide +kernel
theorem dX5_firstCoverOf_104 : decode cX5_firstCoverOf 104 = .ok (.ireturn, 1) := by decide +kernel
theorem dX5_firstCoverOf_105 : decode cX5_firstCoverOf 105 = .ok (.iload_n 2, 1) := by decide +kernel
theorem dX5_firstCoverOf_106 : decode cX5_firstCoverOf 106 = .ok (.iload 4, 2) := by decide +kernel
theorem dX5_firstCoverOf_108 : decode cX5_firstCoverOf 108 = .ok (.iload 6, 2) := by decide +kernel
theorem dX5_firstCoverOf_110 : decode cX5_firstCoverOf 110 = .ok (.ior, 1) := by decide +kernel
theorem dX5_firstCoverOf_111 : decode cX5_firstCoverOf 111 = .ok (.iconst (-1), 1) := by decide +kernel
theorem dX5_firstCoverOf_112 : decode cX5_firstCoverOf 112 = .ok (.ixor, 1) := by decide +kernel
theorem dX5_firstCoverOf_113 : decode cX5_firstCoverOf 113 = .ok (.iand, 1) := by decide +kernel
theorem dX5_firstCoverOf_114 : decode cX5_firstCoverOf 114 = .ok (.istore_n 2, 1) := by decide +kernel
theorem dX5_firstCoverOf_115 : decode cX5_firstCoverOf 115 = .ok (.iinc 3 1, 3) := by decide +kernel
theorem dX5_firstCoverOf_118 : decode cX5_firstCoverOf 118 = .ok (.goto (-114), 3) := by decide +kernel
theorem dX5_firstCoverOf_121 : decode cX5_firstCoverOf 121 = .ok (.iconst 0, 1) := by decide +kernel
theorem dX5_firstCoverOf_122 : decode cX5_firstCoverOf 122 = .ok (.ireturn, 1) := by decide +kernel
theorem dX6_init_0 : decode cX6_init 0 = .ok (.aload_n 0, 1) := by decide +kernel
theorem dX6_init_1 : decode cX6_init 1 = .ok (.invokespecial 1, 3) := by decide +kernel
theorem dX6_init_4 : decode cX6_init 4 = .ok (.aload_n 0, 1) := by decide +kernel
theorem dX6_init_5 : decode cX6_init 5 = .ok (.bipush 40, 2) := by decide +kernel
theorem dX6_init_7 : decode cX6_init 7 = .ok (.newarray .int, 2) := by decide +kernel
theorem dX6_init_9 : decode cX6_init 9 = .ok (.putfield 9, 3) := by decide +kernel
theorem dX6_init_12 : decode cX6_init 12 = .ok (.aload_n 0, 1) := by decide +kernel
theorem dX6_init_13 : decode cX6_init 13 = .ok (.bipush 24, 2) := by decide +kernel
theorem dX6_init_15 : decode cX6_init 15 = .ok (.anewarray 13, 3) := by decide +kernel
theorem dX6_init_18 : decode cX6_init 18 = .ok (.putfield 15, 3) := by decide +kernel
theorem dX6_init_21 : decode cX6_init 21 = .ok (.aload_n 0, 1) := by decide +kernel
theorem dX6_init_22 : decode cX6_init 22 = .ok (.bipush 20, 2) := by decide +kernel
theorem dX6_init_24 : decode cX6_init 24 = .ok (.newarray .long, 2) := by decide +kernel
theorem dX6_init_26 : decode cX6_init 26 = .ok (.putfield 19, 3) := by decide +kernel
theorem dX6_init_29 : decode cX6_init 29 = .ok (.aload_n 0, 1) := by decide +kernel
theorem dX6_init_30 : decode cX6_init 30 = .ok (.bipush 6, 2) := by decide +kernel
theorem dX6_init_32 : decode cX6_init 32 = .ok (.anewarray 23, 3) := by decide +kernel
theorem dX6_init_35 : decode cX6_init 35 = .ok (.putfield 25, 3) := by decide +kernel
theorem dX6_init_38 : decode cX6_init 38 = .ok (.aload_n 0, 1) := by decide +kernel
theorem dX6_init_39 : decode cX6_init 39 = .ok (.iconst 3, 1) := by decide +kernel
theorem dX6_init_40 : decode cX6_init 40 = .ok (.newarray .int, 2) := by decide +kernel
theorem dX6_init_42 : decode cX6_init 42 = .ok (.putfield 29, 3) := by decide +kernel
theorem dX6_init_45 : decode cX6_init 45 = .ok (.aload_n 0, 1) := by decide +kernel
theorem dX6_init_46 : decode cX6_init 46 = .ok (.new 32, 3) := by decide +kernel
theorem dX6_init_49 : decode cX6_init 49 = .ok (.dup, 1) := by decide +kernel
theorem dX6_init_50 : decode cX6_init 50 = .ok (.invokespecial 34, 3) := by decide +kernel
theorem dX6_init_53 : decode cX6_init 53 = .ok (.putfield 35, 3) := by decide +kernel
theorem dX6_init_56 : decode cX6_init 56 = .ok (.aload_n 0, 1) := by decide +kernel
theorem dX6_init_57 : decode cX6_init 57 = .ok (.bipush 7, 2) := by decide +kernel
theorem dX6_init_59 : decode cX6_init 59 = .ok (.newarray .int, 2) := by decide +kernel
theorem dX6_init_61 : decode cX6_init 61 = .ok (.putfield 39, 3) := by decide +kernel
theorem dX6_init_64 : decode cX6_init 64 = .ok (.return_, 1) := by decide +kernel
theorem dX6_feed_0 : decode cX6_feed 0 = .ok (.iload_n 1, 1) := by decide +kernel
theorem dX6_feed_1 : decode cX6_feed 1 = .ok (.iconst 1, 1) := by decide +kernel
theorem dX6_feed_2 : decode cX6_feed 2 = .ok (.if_icmp .ge 10, 3) := by decide +kernel
theorem dX6_feed_5 : decode cX6_feed 5 = .ok (.aload_n 0, 1) := by decide +kernel
theorem dX6_feed_6 : decode cX6_feed 6 = .ok (.bipush (-4), 2) := by decide +kernel
theorem dX6_feed_8 : decode cX6_feed 8 = .ok (.invokevirtual 42, 3) := by decide +kernel
theorem dX6_feed_11 : decode cX6_feed 11 = .ok (.ireturn, 1) := by decide +kernel
theorem dX6_feed_12 : decode cX6_feed 12 = .ok (.iload_n 1, 1) := by decide +kernel
theorem dX6_feed_13 : decode cX6_feed 13 = .ok (.bipush 8, 2) := by decide +kernel
theorem dX6_feed_15 : decode cX6_feed 15 = .ok (.if_icmp .gt 14, 3) := by decide +kernel
theorem dX6_feed_18 : decode cX6_feed 18 = .ok (.iload_n 1, 1) := by decide +kernel
theorem dX6_feed_19 : decode cX6_feed 19 = .ok (.bipush 40, 2) := by decide +kernel
theorem dX6_feed_21 : decode cX6_feed 21 = .ok (.aload_n 0, 1) := by decide +kernel
theorem dX6_feed_22 : decode cX6_feed 22 = .ok (.getfield 46, 3) := by decide +kernel
theorem dX6_feed_25 : decode cX6_feed 25 = .ok (.isub, 1) := by decide +kernel
theorem dX6_feed_26 : decode cX6_feed 26 = .ok (.if_icmp .le 10, 3) := by decide +kernel
theorem dX6_feed_29 : decode cX6_feed 29 = .ok (.aload_n 0, 1) := by decide +kernel
theorem dX6_feed_30 : decode cX6_feed 30 = .ok (.bipush (-6), 2) := by decide +kernel
theorem dX6_feed_32 : decode cX6_feed 32 = .ok (.invokevirtual 42, 3) := by decide +kernel
theorem dX6_feed_35 : decode cX6_feed 35 = .ok (.ireturn, 1) := by decide +kernel
theorem dX6_feed_36 : decode cX6_feed 36 = .ok (.iconst 0, 1) := by decide +kernel
theorem dX6_feed_37 : decode cX6_feed 37 = .ok (.istore 4, 2) := by decide +kernel
theorem dX6_feed_39 : decode cX6_feed 39 = .ok (.iload 4, 2) := by decide +kernel
theorem dX6_feed_41 : decode cX6_feed 41 = .ok (.iload_n 1, 1) := by decide +kernel
theorem dX6_feed_42 : decode cX6_feed 42 = .ok (.if_icmp .ge 40, 3) := by decide +kernel
theorem dX6_feed_45 : decode cX6_feed 45 = .ok (.aload_n 0, 1) := by decide +kernel
theorem dX6_feed_46 : decode cX6_feed 46 = .ok (.getfield 9, 3) := by decide +kernel
theorem dX6_feed_49 : decode cX6_feed 49 = .ok (.aload_n 0, 1) := by decide +kernel
theorem dX6_feed_50 : decode cX6_feed 50 = .ok (.getfield 46, 3) := by decide +kernel
theorem dX6_feed_53 : decode cX6_feed 53 = .ok (.lload_n 2, 1) := by decide +kernel
theorem dX6_feed_54 : decode cX6_feed 54 = .ok (.bipush 8, 2) := by decide +kernel
theorem dX6_feed_56 : decode cX6_feed 56 = .ok (.iload 4, 2) := by decide +kernel
theorem dX6_feed_58 : decode cX6_feed 58 = .ok (.imul, 1) := by decide +kernel
theorem dX6_feed_59 : decode cX6_feed 59 = .ok (.lushr, 1) := by decide +kernel
theorem dX6_feed_60 : decode cX6_feed 60 = .ok (.l2i, 1) := by decide +kernel
theorem dX6_feed_61 : decode cX6_feed 61 = .ok (.sipush 255, 3) := by decide +kernel
theorem dX6_feed_64 : decode cX6_feed 64 = .ok (.iand, 1) := by decide +kernel
theorem dX6_feed_65 : decode cX6_feed 65 = .ok (.iastore, 1) := by decide +kernel
theorem dX6_feed_66 : decode cX6_feed 66 = .ok (.aload_n 0, 1) := by decide +kernel
theorem dX6_feed_67 : decode cX6_feed 67 = .ok (.dup, 1) := by decide +kernel
theorem dX6_feed_68 : decode cX6_feed 68 = .ok (.getfield 46, 3) := by decide +kernel
theorem dX6_feed_71 : decode cX6_feed 71 = .ok (.iconst 1, 1) := by decide +kernel
theorem dX6_feed_72 : decode cX6_feed 72 = .ok (.iadd, 1) := by decide +kernel
theorem dX6_feed_73 : decode cX6_feed 73 = .ok (.putfield 46, 3) := by decide +kernel
theorem dX6_feed_76 : decode cX6_feed 76 = .ok (.iinc 4 1, 3) := by decide +kernel
theorem dX6_feed_79 : decode cX6_feed 79 = .ok (.goto (-40), 3) := by decide +kernel
theorem dX6_feed_82 : decode cX6_feed 82 = .ok (.aload_n 0, 1) := by decide +kernel
theorem dX6_feed_83 : decode cX6_feed 83 = .ok (.getfield 46, 3) := by decide +kernel
theorem dX6_feed_86 : decode cX6_feed 86 = .ok (.ireturn, 1) := by decide +kernel
theorem dX6_part_0 : decode cX6_part 0 = .ok (.aload_n 0, 1) := by decide +kernel
theorem dX6_part_1 : decode cX6_part 1 = .ok (.getfield 50, 3) := by decide +kernel
theorem dX6_part_4 : decode cX6_part 4 = .ok (.bipush 24, 2) := by decide +kernel
theorem dX6_part_6 : decode cX6_part 6 = .ok (.if_icmp .lt 10, 3) := by decide +kernel
theorem dX6_part_9 : decode cX6_part 9 = .ok (.aload_n 0, 1) := by decide +kernel
theorem dX6_part_10 : decode cX6_part 10 = .ok (.bipush (-6), 2) := by decide +kernel
theorem dX6_part_12 : decode cX6_part 12 = .ok (.invokevirtual 42, 3) := by decide +kernel
theorem dX6_part_15 : decode cX6_part 15 = .ok (.ireturn, 1) := by decide +kernel
theorem dX6_part_16 : decode cX6_part 16 = .ok (.aload_n 0, 1) := by decide +kernel
theorem dX6_part_17 : decode cX6_part 17 = .ok (.getfield 46, 3) := by decide +kernel
theorem dX6_part_20 : decode cX6_part 20 = .ok (.istore_n 1, 1) := by decide +kernel
theorem dX6_part_21 : decode cX6_part 21 = .ok (.aload_n 0, 1) := by decide +kernel
theorem dX6_part_22 : decode cX6_part 22 = .ok (.iconst 0, 1) := by decide +kernel
theorem dX6_part_23 : decode cX6_part 23 = .ok (.putfield 46, 3) := by decide +kernel
theorem dX6_part_26 : decode cX6_part 26 = .ok (.aload_n 0, 1) := by decide +kernel
theorem dX6_part_27 : decode cX6_part 27 = .ok (.getfield 9, 3) := by decide +kernel
theorem dX6_part_30 : decode cX6_part 30 = .ok (.iload_n 1, 1) := by decide +kernel
theorem dX6_part_31 : decode cX6_part 31 = .ok (.invokestatic 53, 3) := by decide +kernel
theorem dX6_part_34 : decode cX6_part 34 = .ok (.istore_n 2, 1) := by decide +kernel
theorem dX6_part_35 : decode cX6_part 35 = .ok (.iload_n 2, 1) := by decide +kernel
theorem dX6_part_36 : decode cX6_part 36 = .ok (.iconst (-1), 1) := by decide +kernel
theorem dX6_part_37 : decode cX6_part 37 = .ok (.if_icmp .ne 18, 3) := by decide +kernel
theorem dX6_part_40 : decode cX6_part 40 = .ok (.aload_n 0, 1) := by decide +kernel
theorem dX6_part_41 : decode cX6_part 41 = .ok (.aload_n 0, 1) := by decide +kernel
theorem dX6_part_42 : decode cX6_part 42 = .ok (.getfield 9, 3) := by decide +kernel
theorem dX6_part_45 : decode cX6_part 45 = .ok (.iload_n 1, 1) := by decide +kernel
theorem dX6_part_46 : decode cX6_part 46 = .ok (.invokestatic 59, 3) := by decide +kernel
theorem dX6_part_49 : decode cX6_part 49 = .ok (.invokevirtual 63, 3) := by decide +kernel
theorem dX6_part_52 : decode cX6_part 52 = .ok (.goto 7, 3) := by decide +kernel
theorem dX6_part_55 : decode cX6_part 55 = .ok (.bipush (-20), 2) := by decide +kernel
theorem dX6_part_57 : decode cX6_part 57 = .ok (.iload_n 2, 1) := by decide +kernel
theorem dX6_part_58 : decode cX6_part 58 = .ok (.isub, 1) := by decide +kernel
theorem dX6_part_59 : decode cX6_part 59 = .ok (.ireturn, 1) := by decide +kernel
theorem dX6_partOf_0 : decode cX6_partOf 0 = .ok (.aload_n 0, 1) := by decide +kernel
theorem dX6_partOf_1 : decode cX6_partOf 1 = .ok (.iload_n 1, 1) := by decide +kernel
theorem dX6_partOf_2 : decode cX6_partOf 2 = .ok (.invokevirtual 67, 3) := by decide +kernel
theorem dX6_partOf_5 : decode cX6_partOf 5 = .ok (.astore_n 3, 1) := by decide +kernel
theorem dX6_partOf_6 : decode cX6_partOf 6 = .ok (.aload_n 3, 1) := by decide +kernel
theorem dX6_partOf_7 : decode cX6_partOf 7 = .ok (.ifnonnull 9, 3) := by decide +kernel
theorem dX6_partOf_10 : decode cX6_partOf 10 = .ok (.aload_n 0, 1) := by decide +kernel
theorem dX6_partOf_11 : decode cX6_partOf 11 = .ok (.iconst (-1), 1) := by decide +kernel
theorem dX6_partOf_12 : decode cX6_partOf 12 = .ok (.invokevirtual 42, 3) := by decide +kernel
theorem dX6_partOf_15 : decode cX6_partOf 15 = .ok (.ireturn, 1) := by decide +kernel
theorem dX6_partOf_16 : decode cX6_partOf 16 = .ok (.iload_n 2, 1) := by decide +kernel
theorem dX6_partOf_17 : decode cX6_partOf 17 = .ok (.tableswitch 59 0 3 #[31, 36, 41, 46], 31) := by decide +kernel
theorem dX6_partOf_48 : decode cX6_partOf 48 = .ok (.aload_n 3, 1) := by decide +kernel
theorem dX6_partOf_49 : decode cX6_partOf 49 = .ok (.getfield 71, 3) := by decide +kernel
theorem dX6_partOf_52 : decode cX6_partOf 52 = .ok (.ireturn, 1) := by decide +kernel
theorem dX6_partOf_53 : decode cX6_partOf 53 = .ok (.aload_n 3, 1) := by decide +kernel
theorem dX6_partOf_54 : decode cX6_partOf 54 = .ok (.getfield 74, 3) := by decide +kernel
theorem dX6_partOf_57 : decode cX6_partOf 57 = .ok (.ireturn, 1) := by decide +kernel
theorem dX6_partOf_58 : decode cX6_partOf 58 = .ok (.aload_n 3, 1) := by decide +kernel
theorem dX6_partOf_59 : decode cX6_partOf 59 = .ok (.getfield 77, 3) := by decide +kernel
theorem dX6_partOf_62 : decode cX6_partOf 62 = .ok (.ireturn, 1) := by decide +kernel
theorem dX6_partOf_63 : decode cX6_partOf 63 = .ok (.aload_n 3, 1) := by decide +kernel
theorem dX6_partOf_64 : decode cX6_partOf 64 = .ok (.getfield 80, 3) := by decide +kernel
theorem dX6_partOf_67 : decode cX6_partOf 67 = .ok (.invokestatic 83, 3) := by decide +kernel
theorem dX6_partOf_70 : decode cX6_partOf 70 = .ok (.aload_n 3, 1) := by decide +kernel
theorem dX6_partOf_71 : decode cX6_partOf 71 = .ok (.getfield 77, 3) := by decide +kernel
theorem dX6_partOf_74 : decode cX6_partOf 74 = .ok (.iadd, 1) := by decide +kernel
theorem dX6_partOf_75 : decode cX6_partOf 75 = .ok (.ireturn, 1) := by decide +kernel
theorem dX6_partOf_76 : decode cX6_partOf 76 = .ok (.aload_n 0, 1) := by decide +kernel
theorem dX6_partOf_77 : decode cX6_partOf 77 = .ok (.bipush (-2), 2) := by decide +kernel
theorem dX6_partOf_79 : decode cX6_partOf 79 = .ok (.invokevirtual 42, 3) := by decide +kernel
theorem dX6_partOf_82 : decode cX6_partOf 82 = .ok (.ireturn, 1) := by decide +kernel
theorem dX6_cell_0 : decode cX6_cell 0 = .ok (.aload_n 0, 1) := by decide +kernel
theorem dX6_cell_1 : decode cX6_cell 1 = .ok (.iload_n 1, 1) := by decide +kernel
theorem dX6_cell_2 : decode cX6_cell 2 = .ok (.invokevirtual 67, 3) := by decide +kernel
theorem dX6_cell_5 : decode cX6_cell 5 = .ok (.astore_n 3, 1) := by decide +kernel
theorem dX6_cell_6 : decode cX6_cell 6 = .ok (.aload_n 3, 1) := by decide +kernel
theorem dX6_cell_7 : decode cX6_cell 7 = .ok (.ifnull 11, 3) := by decide +kernel
theorem dX6_cell_10 : decode cX6_cell 10 = .ok (.aload_n 3, 1) := by decide +kernel
theorem dX6_cell_11 : decode cX6_cell 11 = .ok (.iload_n 2, 1) := by decide +kernel
theorem dX6_cell_12 : decode cX6_cell 12 = .ok (.invokevirtual 88, 3) := by decide +kernel
theorem dX6_cell_15 : decode cX6_cell 15 = .ok (.ifCond .ne 9, 3) := by decide +kernel
theorem dX6_cell_18 : decode cX6_cell 18 = .ok (.aload_n 0, 1) := by decide +kernel
theorem dX6_cell_19 : decode cX6_cell 19 = .ok (.iconst (-1), 1) := by decide +kernel
theorem dX6_cell_20 : decode cX6_cell 20 = .ok (.invokevirtual 42, 3) := by decide +kernel
theorem dX6_cell_23 : decode cX6_cell 23 = .ok (.ireturn, 1) := by decide +kernel
theorem dX6_cell_24 : decode cX6_cell 24 = .ok (.aload_n 3, 1) := by decide +kernel
theorem dX6_cell_25 : decode cX6_cell 25 = .ok (.iload_n 2, 1) := by decide +kernel
theorem dX6_cell_26 : decode cX6_cell 26 = .ok (.bipush 10, 2) := by decide +kernel
theorem dX6_cell_28 : decode cX6_cell 28 = .ok (.idiv, 1) := by decide +kernel
theorem dX6_cell_29 : decode cX6_cell 29 = .ok (.iload_n 2, 1) := by decide +kernel
theorem dX6_cell_30 : decode cX6_cell 30 = .ok (.bipush 10, 2) := by decide +kernel
theorem dX6_cell_32 : decode cX6_cell 32 = .ok (.irem, 1) := by decide +kernel
theorem dX6_cell_33 : decode cX6_cell 33 = .ok (.invokevirtual 92, 3) := by decide +kernel
theorem dX6_cell_36 : decode cX6_cell 36 = .ok (.ireturn, 1) := by decide +kernel
theorem dX6_lets_0 : decode cX6_lets 0 = .ok (.aload_n 0, 1) := by decide +kernel
theorem dX6_lets_1 : decode cX6_lets 1 = .ok (.iload_n 1, 1) := by decide +kernel
theorem dX6_lets_2 : decode cX6_lets 2 = .ok (.invokevirtual 67, 3) := by decide +kernel
theorem dX6_lets_5 : decode cX6_lets 5 = .ok (.astore_n 2, 1) := by decide +kernel
theorem dX6_lets_6 : decode cX6_lets 6 = .ok (.aload_n 2, 1) := by decide +kernel
theorem dX6_lets_7 : decode cX6_lets 7 = .ok (.ifnonnull 11, 3) := by decide +kernel
theorem dX6_lets_10 : decode cX6_lets 10 = .ok (.aload_n 0, 1) := by decide +kernel
theorem dX6_lets_11 : decode cX6_lets 11 = .ok (.iconst (-1), 1) := by decide +kernel
theorem dX6_lets_12 : decode cX6_lets 12 = .ok (.invokevirtual 96, 3) := by decide +kernel
theorem dX6_lets_15 : decode cX6_lets 15 = .ok (.goto 7, 3) := by decide +kernel
theorem dX6_lets_18 : decode cX6_lets 18 = .ok (.aload_n 2, 1) := by decide +kernel
theorem dX6_lets_19 : decode cX6_lets 19 = .ok (.getfield 100, 3) := by decide +kernel
theorem dX6_lets_22 : decode cX6_lets 22 = .ok (.lreturn, 1) := by decide +kernel
theorem dX6_ways_0 : decode cX6_ways 0 = .ok (.aload_n 0, 1) := by decide +kernel
theorem dX6_ways_1 : decode cX6_ways 1 = .ok (.iload_n 1, 1) := by decide +kernel
theorem dX6_ways_2 : decode cX6_ways 2 = .ok (.invokevirtual 67, 3) := by decide +kernel
theorem dX6_ways_5 : decode cX6_ways 5 = .ok (.astore_n 3, 1) := by decide +kernel
theorem dX6_ways_6 : decode cX6_ways 6 = .ok (.aload_n 3, 1) := by decide +kernel
theorem dX6_ways_7 : decode cX6_ways 7 = .ok (.ifnull 11, 3) := by decide +kernel
theorem dX6_ways_10 : decode cX6_ways 10 = .ok (.aload_n 3, 1) := by decide +kernel
theorem dX6_ways_11 : decode cX6_ways 11 = .ok (.iload_n 2, 1) := by decide +kernel
theorem dX6_ways_12 : decode cX6_ways 12 = .ok (.invokevirtual 104, 3) := by decide +kernel
theorem dX6_ways_15 : decode cX6_ways 15 = .ok (.ifCond .ne 9, 3) := by decide +kernel
theorem dX6_ways_18 : decode cX6_ways 18 = .ok (.aload_n 0, 1) := by decide +kernel
theorem dX6_ways_19 : decode cX6_ways 19 = .ok (.iconst (-1), 1) := by decide +kernel
theorem dX6_ways_20 : decode cX6_ways 20 = .ok (.invokevirtual 42, 3) := by decide +kernel
theorem dX6_ways_23 : decode cX6_ways 23 = .ok (.ireturn, 1) := by decide +kernel
theorem dX6_ways_24 : decode cX6_ways 24 = .ok (.aload_n 3, 1) := by decide +kernel
theorem dX6_ways_25 : decode cX6_ways 25 = .ok (.getfield 107, 3) := by decide +kernel
theorem dX6_ways_28 : decode cX6_ways 28 = .ok (.iload_n 2, 1) := by decide +kernel
theorem dX6_ways_29 : decode cX6_ways 29 = .ok (.iaload, 1) := by decide +kernel
theorem dX6_ways_30 : decode cX6_ways 30 = .ok (.ireturn, 1) := by decide +kernel
theorem dX6_covered_0 : decode cX6_covered 0 = .ok (.aload_n 0, 1) := by decide +kernel
theorem dX6_covered_1 : decode cX6_covered 1 = .ok (.iload_n 1, 1) := by decide +kernel
theorem dX6_covered_2 : decode cX6_covered 2 = .ok (.invokevirtual 67, 3) := by decide +kernel
theorem dX6_covered_5 : decode cX6_covered 5 = .ok (.astore 4, 2) := by decide +kernel
theorem dX6_covered_7 : decode cX6_covered 7 = .ok (.aload 4, 2) := by decide +kernel
theorem dX6_covered_9 : decode cX6_covered 9 = .ok (.ifnull 21, 3) := by decide +kernel
theorem dX6_covered_12 : decode cX6_covered 12 = .ok (.aload 4, 2) := by decide +kernel
theorem dX6_covered_14 : decode cX6_covered 14 = .ok (.iload_n 2, 1) := by decide +kernel
theorem dX6_covered_15 : decode cX6_covered 15 = .ok (.invokevirtual 104, 3) := by decide +kernel
theorem dX6_covered_18 : decode cX6_covered 18 = .ok (.ifCond .eq 12, 3) := by decide +kernel
theorem dX6_covered_21 : decode cX6_covered 21 = .ok (.aload 4, 2) := by decide +kernel
theorem dX6_covered_23 : decode cX6_covered 23 = .ok (.iload_n 3, 1) := by decide +kernel
theorem dX6_covered_24 : decode cX6_covered 24 = .ok (.invokevirtual 88, 3) := by decide +kernel
theorem dX6_covered_27 : decode cX6_covered 27 = .ok (.ifCond .ne 9, 3) := by decide +kernel
theorem dX6_covered_30 : decode cX6_covered 30 = .ok (.aload_n 0, 1) := by decide +kernel
theorem dX6_covered_31 : decode cX6_covered 31 = .ok (.iconst (-1), 1) := by decide +kernel
theorem dX6_covered_32 : decode cX6_covered 32 = .ok (.invokevirtual 42, 3) := by decide +kernel
theorem dX6_covered_35 : decode cX6_covered 35 = .ok (.ireturn, 1) := by decide +kernel
theorem dX6_covered_36 : decode cX6_covered 36 = .ok (.aload 4, 2) := by decide +kernel
theorem dX6_covered_38 : decode cX6_covered 38 = .ok (.getfield 107, 3) := by decide +kernel
theorem dX6_covered_41 : decode cX6_covered 41 = .ok (.iload_n 2, 1) := by decide +kernel
theorem dX6_covered_42 : decode cX6_covered 42 = .ok (.iaload, 1) := by decide +kernel
theorem dX6_covered_43 : decode cX6_covered 43 = .ok (.ifCond .ne 6, 3) := by decide +kernel
theorem dX6_covered_46 : decode cX6_covered 46 = .ok (.bipush (-9), 2) := by decide +kernel
theorem dX6_covered_48 : decode cX6_covered 48 = .ok (.ireturn, 1) := by decide +kernel
theorem dX6_covered_49 : decode cX6_covered 49 = .ok (.aload 4, 2) := by decide +kernel
theorem dX6_covered_51 : decode cX6_covered 51 = .ok (.iload_n 2, 1) := by decide +kernel
theorem dX6_covered_52 : decode cX6_covered 52 = .ok (.iload_n 3, 1) := by decide +kernel
theorem dX6_covered_53 : decode cX6_covered 53 = .ok (.bipush 10, 2) := by decide +kernel
theorem dX6_covered_55 : decode cX6_covered 55 = .ok (.idiv, 1) := by decide +kernel
theorem dX6_covered_56 : decode cX6_covered 56 = .ok (.iload_n 3, 1) := by decide +kernel
theorem dX6_covered_57 : decode cX6_covered 57 = .ok (.bipush 10, 2) := by decide +kernel
theorem dX6_covered_59 : decode cX6_covered 59 = .ok (.irem, 1) := by decide +kernel
theorem dX6_covered_60 : decode cX6_covered 60 = .ok (.invokevirtual 110, 3) := by decide +kernel
theorem dX6_covered_63 : decode cX6_covered 63 = .ok (.ireturn, 1) := by decide +kernel
theorem dX6_barred_0 : decode cX6_barred 0 = .ok (.aload_n 0, 1) := by decide +kernel
theorem dX6_barred_1 : decode cX6_barred 1 = .ok (.iload_n 1, 1) := by decide +kernel
theorem dX6_barred_2 : decode cX6_barred 2 = .ok (.invokevirtual 67, 3) := by decide +kernel
theorem dX6_barred_5 : decode cX6_barred 5 = .ok (.astore_n 2, 1) := by decide +kernel
theorem dX6_barred_6 : decode cX6_barred 6 = .ok (.aload_n 2, 1) := by decide +kernel
theorem dX6_barred_7 : decode cX6_barred 7 = .ok (.ifnonnull 11, 3) := by decide +kernel
theorem dX6_barred_10 : decode cX6_barred 10 = .ok (.aload_n 0, 1) := by decide +kernel
theorem dX6_barred_11 : decode cX6_barred 11 = .ok (.iconst (-1), 1) := by decide +kernel
theorem dX6_barred_12 : decode cX6_barred 12 = .ok (.invokevirtual 96, 3) := by decide +kernel
theorem dX6_barred_15 : decode cX6_barred 15 = .ok (.goto 7, 3) := by decide +kernel
theorem dX6_barred_18 : decode cX6_barred 18 = .ok (.aload_n 2, 1) := by decide +kernel
theorem dX6_barred_19 : decode cX6_barred 19 = .ok (.getfield 114, 3) := by decide +kernel
theorem dX6_barred_22 : decode cX6_barred 22 = .ok (.lreturn, 1) := by decide +kernel
theorem dX6_formula_0 : decode cX6_formula 0 = .ok (.aload_n 0, 1) := by decide +kernel
theorem dX6_formula_1 : decode cX6_formula 1 = .ok (.getfield 117, 3) := by decide +kernel
theorem dX6_formula_4 : decode cX6_formula 4 = .ok (.bipush 20, 2) := by decide +kernel
theorem dX6_formula_6 : decode cX6_formula 6 = .ok (.if_icmp .lt 10, 3) := by decide +kernel
theorem dX6_formula_9 : decode cX6_formula 9 = .ok (.aload_n 0, 1) := by decide +kernel
theorem dX6_formula_10 : decode cX6_formula 10 = .ok (.bipush (-6), 2) := by decide +kernel
theorem dX6_formula_12 : decode cX6_formula 12 = .ok (.invokevirtual 42, 3) := by decide +kernel
theorem dX6_formula_15 : decode cX6_formula 15 = .ok (.ireturn, 1) := by decide +kernel
theorem dX6_formula_16 : decode cX6_formula 16 = .ok (.new 120, 3) := by decide +kernel
theorem dX6_formula_19 : decode cX6_formula 19 = .ok (.dup, 1) := by decide +kernel
theorem dX6_formula_20 : decode cX6_formula 20 = .ok (.aload_n 0, 1) := by decide +kernel
theorem dX6_formula_21 : decode cX6_formula 21 = .ok (.getfield 9, 3) := by decide +kernel
theorem dX6_formula_24 : decode cX6_formula 24 = .ok (.aload_n 0, 1) := by decide +kernel
theorem dX6_formula_25 : decode cX6_formula 25 = .ok (.getfield 46, 3) := by decide +kernel
theorem dX6_formula_28 : decode cX6_formula 28 = .ok (.invokespecial 122, 3) := by decide +kernel
theorem dX6_formula_31 : decode cX6_formula 31 = .ok (.astore_n 1, 1) := by decide +kernel
theorem dX6_formula_32 : decode cX6_formula 32 = .ok (.aload_n 0, 1) := by decide +kernel
theorem dX6_formula_33 : decode cX6_formula 33 = .ok (.iconst 0, 1) := by decide +kernel
theorem dX6_formula_34 : decode cX6_formula 34 = .ok (.putfield 46, 3) := by decide +kernel
theorem dX6_formula_37 : decode cX6_formula 37 = .ok (.aload_n 1, 1) := by decide +kernel
theorem dX6_formula_38 : decode cX6_formula 38 = .ok (.invokevirtual 125, 3) := by decide +kernel
theorem dX6_formula_41 : decode cX6_formula 41 = .ok (.lstore_n 2, 1) := by decide +kernel
theorem dX6_formula_42 : decode cX6_formula 42 = .ok (.aload_n 1, 1) := by decide +kernel
theorem dX6_formula_43 : decode cX6_formula 43 = .ok (.getfield 129, 3) := by decide +kernel
theorem dX6_formula_46 : decode cX6_formula 46 = .ok (.iconst (-1), 1) := by decide +kernel
theorem dX6_formula_47 : decode cX6_formula 47 = .ok (.if_icmp .eq 11, 3) := by decide +kernel
theorem dX6_formula_50 : decode cX6_formula 50 = .ok (.bipush (-20), 2) := by decide +kernel
theorem dX6_formula_52 : decode cX6_formula 52 = .ok (.aload_n 1, 1) := by decide +kernel
theorem dX6_formula_53 : decode cX6_formula 53 = .ok (.getfield 129, 3) := by decide +kernel
theorem dX6_formula_56 : decode cX6_formula 56 = .ok (.isub, 1) := by decide +kernel
theorem dX6_formula_57 : decode cX6_formula 57 = .ok (.ireturn, 1) := by decide +kernel
theorem dX6_formula_58 : decode cX6_formula 58 = .ok (.aload_n 0, 1) := by decide +kernel
theorem dX6_formula_59 : decode cX6_formula 59 = .ok (.getfield 19, 3) := by decide +kernel
theorem dX6_formula_62 : decode cX6_formula 62 = .ok (.aload_n 0, 1) := by decide +kernel
theorem dX6_formula_63 : decode cX6_formula 63 = .ok (.getfield 117, 3) := by decide +kernel
theorem dX6_formula_66 : decode cX6_formula 66 = .ok (.lload_n 2, 1) := by decide +kernel
theorem dX6_formula_67 : decode cX6_formula 67 = .ok (.lastore, 1) := by decide +kernel
theorem dX6_formula_68 : decode cX6_formula 68 = .ok (.aload_n 0, 1) := by decide +kernel
theorem dX6_formula_69 : decode cX6_formula 69 = .ok (.dup, 1) := by decide +kernel
theorem dX6_formula_70 : decode cX6_formula 70 = .ok (.getfield 117, 3) := by decide +kernel
theorem dX6_formula_73 : decode cX6_formula 73 = .ok (.iconst 1, 1) := by decide +kernel
theorem dX6_formula_74 : decode cX6_formula 74 = .ok (.iadd, 1) := by decide +kernel
theorem dX6_formula_75 : decode cX6_formula 75 = .ok (.putfield 117, 3) := by decide +kernel
theorem dX6_formula_78 : decode cX6_formula 78 = .ok (.aload_n 0, 1) := by decide +kernel
theorem dX6_formula_79 : decode cX6_formula 79 = .ok (.getfield 117, 3) := by decide +kernel
theorem dX6_formula_82 : decode cX6_formula 82 = .ok (.iconst 1, 1) := by decide +kernel
theorem dX6_formula_83 : decode cX6_formula 83 = .ok (.isub, 1) := by decide +kernel
theorem dX6_formula_84 : decode cX6_formula 84 = .ok (.ireturn, 1) := by decide +kernel
theorem dX6_means_0 : decode cX6_means 0 = .ok (.aload_n 0, 1) := by decide +kernel
theorem dX6_means_1 : decode cX6_means 1 = .ok (.iload_n 1, 1) := by decide +kernel
theorem dX6_means_2 : decode cX6_means 2 = .ok (.invokevirtual 132, 3) := by decide +kernel
theorem dX6_means_5 : decode cX6_means 5 = .ok (.ifCond .ne 9, 3) := by decide +kernel
theorem dX6_means_8 : decode cX6_means 8 = .ok (.aload_n 0, 1) := by decide +kernel
theorem dX6_means_9 : decode cX6_means 9 = .ok (.iconst (-1), 1) := by decide +kernel
theorem dX6_means_10 : decode cX6_means 10 = .ok (.invokevirtual 96, 3) := by decide +kernel
theorem dX6_means_13 : decode cX6_means 13 = .ok (.lreturn, 1) := by decide +kernel
theorem dX6_means_14 : decode cX6_means 14 = .ok (.iload_n 2, 1) := by decide +kernel
theorem dX6_means_15 : decode cX6_means 15 = .ok (.ifCond .ge 10, 3) := by decide +kernel
theorem dX6_means_18 : decode cX6_means 18 = .ok (.aload_n 0, 1) := by decide +kernel
theorem dX6_means_19 : decode cX6_means 19 = .ok (.bipush (-4), 2) := by decide +kernel
theorem dX6_means_21 : decode cX6_means 21 = .ok (.invokevirtual 96, 3) := by decide +kernel
theorem dX6_means_24 : decode cX6_means 24 = .ok (.lreturn, 1) := by decide +kernel
theorem dX6_means_25 : decode cX6_means 25 = .ok (.iload_n 2, 1) := by decide +kernel
theorem dX6_means_26 : decode cX6_means 26 = .ok (.iconst 5, 1) := by decide +kernel
theorem dX6_means_27 : decode cX6_means 27 = .ok (.if_icmp .le 10, 3) := by decide +kernel
theorem dX6_means_30 : decode cX6_means 30 = .ok (.aload_n 0, 1) := by decide +kernel
theorem dX6_means_31 : decode cX6_means 31 = .ok (.bipush (-6), 2) := by decide +kernel
theorem dX6_means_33 : decode cX6_means 33 = .ok (.invokevirtual 96, 3) := by decide +kernel
theorem dX6_means_36 : decode cX6_means 36 = .ok (.lreturn, 1) := by decide +kernel
theorem dX6_means_37 : decode cX6_means 37 = .ok (.aload_n 0, 1) := by decide +kernel
theorem dX6_means_38 : decode cX6_means 38 = .ok (.iload_n 1, 1) := by decide +kernel
theorem dX6_means_39 : decode cX6_means 39 = .ok (.iload_n 2, 1) := by decide +kernel
theorem dX6_means_40 : decode cX6_means 40 = .ok (.invokevirtual 135, 3) := by decide +kernel
theorem dX6_means_43 : decode cX6_means 43 = .ok (.lreturn, 1) := by decide +kernel
theorem dX6_does_0 : decode cX6_does 0 = .ok (.aload_n 0, 1) := by decide +kernel
theorem dX6_does_1 : decode cX6_does 1 = .ok (.iload_n 1, 1) := by decide +kernel
theorem dX6_does_2 : decode cX6_does 2 = .ok (.invokevirtual 67, 3) := by decide +kernel
theorem dX6_does_5 : decode cX6_does 5 = .ok (.astore_n 3, 1) := by decide +kernel
theorem dX6_does_6 : decode cX6_does 6 = .ok (.aload_n 3, 1) := by decide +kernel
theorem dX6_does_7 : decode cX6_does 7 = .ok (.ifnull 11, 3) := by decide +kernel
theorem dX6_does_10 : decode cX6_does 10 = .ok (.aload_n 0, 1) := by decide +kernel
theorem dX6_does_11 : decode cX6_does 11 = .ok (.iload_n 2, 1) := by decide +kernel
theorem dX6_does_12 : decode cX6_does 12 = .ok (.invokevirtual 132, 3) := by decide +kernel
theorem dX6_does_15 : decode cX6_does 15 = .ok (.ifCond .ne 9, 3) := by decide +kernel
theorem dX6_does_18 : decode cX6_does 18 = .ok (.aload_n 0, 1) := by decide +kernel
theorem dX6_does_19 : decode cX6_does 19 = .ok (.iconst (-1), 1) := by decide +kernel
theorem dX6_does_20 : decode cX6_does 20 = .ok (.invokevirtual 42, 3) := by decide +kernel
theorem dX6_does_23 : decode cX6_does 23 = .ok (.ireturn, 1) := by decide +kernel
theorem dX6_does_24 : decode cX6_does 24 = .ok (.aload_n 3, 1) := by decide +kernel
theorem dX6_does_25 : decode cX6_does 25 = .ok (.getfield 100, 3) := by decide +kernel
theorem dX6_does_28 : decode cX6_does 28 = .ok (.aload_n 0, 1) := by decide +kernel
theorem dX6_does_29 : decode cX6_does 29 = .ok (.iload_n 2, 1) := by decide +kernel
theorem dX6_does_30 : decode cX6_does 30 = .ok (.aload_n 3, 1) := by decide +kernel
theorem dX6_does_31 : decode cX6_does 31 = .ok (.getfield 77, 3) := by decide +kernel
theorem dX6_does_34 : decode cX6_does 34 = .ok (.invokevirtual 135, 3) := by decide +kernel
theorem dX6_does_37 : decode cX6_does 37 = .ok (.lcmp, 1) := by decide +kernel
theorem dX6_does_38 : decode cX6_does 38 = .ok (.ifCond .ne 7, 3) := by decide +kernel
theorem dX6_does_41 : decode cX6_does 41 = .ok (.iconst 1, 1) := by decide +kernel
theorem dX6_does_42 : decode cX6_does 42 = .ok (.goto 4, 3) := by decide +kernel
theorem dX6_does_45 : decode cX6_does 45 = .ok (.iconst 0, 1) := by decide +kernel
theorem dX6_does_46 : decode cX6_does 46 = .ok (.ireturn, 1) := by decide +kernel
theorem dX6_misses_0 : decode cX6_misses 0 = .ok (.aload_n 0, 1) := by decide +kernel
theorem dX6_misses_1 : decode cX6_misses 1 = .ok (.iload_n 1, 1) := by decide +kernel
theorem dX6_misses_2 : decode cX6_misses 2 = .ok (.invokevirtual 67, 3) := by decide +kernel
theorem dX6_misses_5 : decode cX6_misses 5 = .ok (.astore_n 3, 1) := by decide +kernel
theorem dX6_misses_6 : decode cX6_misses 6 = .ok (.aload_n 3, 1) := by decide +kernel
theorem dX6_misses_7 : decode cX6_misses 7 = .ok (.ifnull 11, 3) := by decide +kernel
theorem dX6_misses_10 : decode cX6_misses 10 = .ok (.aload_n 0, 1) := by decide +kernel
theorem dX6_misses_11 : decode cX6_misses 11 = .ok (.iload_n 2, 1) := by decide +kernel
theorem dX6_misses_12 : decode cX6_misses 12 = .ok (.invokevirtual 132, 3) := by decide +kernel
theorem dX6_misses_15 : decode cX6_misses 15 = .ok (.ifCond .ne 9, 3) := by decide +kernel
theorem dX6_misses_18 : decode cX6_misses 18 = .ok (.aload_n 0, 1) := by decide +kernel
theorem dX6_misses_19 : decode cX6_misses 19 = .ok (.iconst (-1), 1) := by decide +kernel
theorem dX6_misses_20 : decode cX6_misses 20 = .ok (.invokevirtual 42, 3) := by decide +kernel
theorem dX6_misses_23 : decode cX6_misses 23 = .ok (.ireturn, 1) := by decide +kernel
theorem dX6_misses_24 : decode cX6_misses 24 = .ok (.aload_n 3, 1) := by decide +kernel
theorem dX6_misses_25 : decode cX6_misses 25 = .ok (.getfield 100, 3) := by decide +kernel
theorem dX6_misses_28 : decode cX6_misses 28 = .ok (.aload_n 0, 1) := by decide +kernel
theorem dX6_misses_29 : decode cX6_misses 29 = .ok (.iload_n 2, 1) := by decide +kernel
theorem dX6_misses_30 : decode cX6_misses 30 = .ok (.aload_n 3, 1) := by decide +kernel
theorem dX6_misses_31 : decode cX6_misses 31 = .ok (.getfield 77, 3) := by decide +kernel
theorem dX6_misses_34 : decode cX6_misses 34 = .ok (.invokevirtual 135, 3) := by decide +kernel
theorem dX6_misses_37 : decode cX6_misses 37 = .ok (.lxor, 1) := by decide +kernel
theorem dX6_misses_38 : decode cX6_misses 38 = .ok (.lstore 4, 2) := by decide +kernel
theorem dX6_misses_40 : decode cX6_misses 40 = .ok (.iconst 0, 1) := by decide +kernel
theorem dX6_misses_41 : decode cX6_misses 41 = .ok (.istore 6, 2) := by decide +kernel
theorem dX6_misses_43 : decode cX6_misses 43 = .ok (.iload 6, 2) := by decide +kernel
theorem dX6_misses_45 : decode cX6_misses 45 = .ok (.aload_n 3, 1) := by decide +kernel
theorem dX6_misses_46 : decode cX6_misses 46 = .ok (.invokevirtual 139, 3) := by decide +kernel
theorem dX6_misses_49 : decode cX6_misses 49 = .ok (.if_icmp .ge 24, 3) := by decide +kernel
theorem dX6_misses_52 : decode cX6_misses 52 = .ok (.lload 4, 2) := by decide +kernel
theorem dX6_misses_54 : decode cX6_misses 54 = .ok (.iload 6, 2) := by decide +kernel
theorem dX6_misses_56 : decode cX6_misses 56 = .ok (.lshr, 1) := by decide +kernel
theorem dX6_misses_57 : decode cX6_misses 57 = .ok (.lconst 1, 1) := by decide +kernel
theorem dX6_misses_58 : decode cX6_misses 58 = .ok (.land, 1) := by decide +kernel
theorem dX6_misses_59 : decode cX6_misses 59 = .ok (.lconst 0, 1) := by decide +kernel
theorem dX6_misses_60 : decode cX6_misses 60 = .ok (.lcmp, 1) := by decide +kernel
theorem dX6_misses_61 : decode cX6_misses 61 = .ok (.ifCond .eq 6, 3) := by decide +kernel
theorem dX6_misses_64 : decode cX6_misses 64 = .ok (.iload 6, 2) := by decide +kernel
theorem dX6_misses_66 : decode cX6_misses 66 = .ok (.ireturn, 1) := by decide +kernel
theorem dX6_misses_67 : decode cX6_misses 67 = .ok (.iinc 6 1, 3) := by decide +kernel
theorem dX6_misses_70 : decode cX6_misses 70 = .ok (.goto (-27), 3) := by decide +kernel
theorem dX6_misses_73 : decode cX6_misses 73 = .ok (.bipush (-9), 2) := by decide +kernel
theorem dX6_misses_75 : decode cX6_misses 75 = .ok (.ireturn, 1) := by decide +kernel
theorem dX6_turn_0 : decode cX6_turn 0 = .ok (.aload_n 0, 1) := by decide +kernel
theorem dX6_turn_1 : decode cX6_turn 1 = .ok (.iload_n 1, 1) := by decide +kernel
theorem dX6_turn_2 : decode cX6_turn 2 = .ok (.invokevirtual 67, 3) := by decide +kernel
theorem dX6_turn_5 : decode cX6_turn 5 = .ok (.astore_n 2, 1) := by decide +kernel
theorem dX6_turn_6 : decode cX6_turn 6 = .ok (.aload_n 2, 1) := by decide +kernel
theorem dX6_turn_7 : decode cX6_turn 7 = .ok (.ifnonnull 9, 3) := by decide +kernel
theorem dX6_turn_10 : decode cX6_turn 10 = .ok (.aload_n 0, 1) := by decide +kernel
theorem dX6_turn_11 : decode cX6_turn 11 = .ok (.iconst (-1), 1) := by decide +kernel
theorem dX6_turn_12 : decode cX6_turn 12 = .ok (.invokevirtual 42, 3) := by decide +kernel
theorem dX6_turn_15 : decode cX6_turn 15 = .ok (.ireturn, 1) := by decide +kernel
theorem dX6_turn_16 : decode cX6_turn 16 = .ok (.aload_n 0, 1) := by decide +kernel
theorem dX6_turn_17 : decode cX6_turn 17 = .ok (.getfield 50, 3) := by decide +kernel
theorem dX6_turn_20 : decode cX6_turn 20 = .ok (.bipush 24, 2) := by decide +kernel
theorem dX6_turn_22 : decode cX6_turn 22 = .ok (.if_icmp .lt 10, 3) := by decide +kernel
theorem dX6_turn_25 : decode cX6_turn 25 = .ok (.aload_n 0, 1) := by decide +kernel
theorem dX6_turn_26 : decode cX6_turn 26 = .ok (.bipush (-6), 2) := by decide +kernel
theorem dX6_turn_28 : decode cX6_turn 28 = .ok (.invokevirtual 42, 3) := by decide +kernel
theorem dX6_turn_31 : decode cX6_turn 31 = .ok (.ireturn, 1) := by decide +kernel
theorem dX6_turn_32 : decode cX6_turn 32 = .ok (.aload_n 2, 1) := by decide +kernel
theorem dX6_turn_33 : decode cX6_turn 33 = .ok (.getfield 71, 3) := by decide +kernel
theorem dX6_turn_36 : decode cX6_turn 36 = .ok (.iconst 4, 1) := by decide +kernel
theorem dX6_turn_37 : decode cX6_turn 37 = .ok (.if_icmp .le 10, 3) := by decide +kernel
theorem dX6_turn_40 : decode cX6_turn 40 = .ok (.aload_n 0, 1) := by decide +kernel
theorem dX6_turn_41 : decode cX6_turn 41 = .ok (.bipush (-3), 2) := by decide +kernel
theorem dX6_turn_43 : decode cX6_turn 43 = .ok (.invokevirtual 42, 3) := by decide +kernel
theorem dX6_turn_46 : decode cX6_turn 46 = .ok (.ireturn, 1) := by decide +kernel
theorem dX6_turn_47 : decode cX6_turn 47 = .ok (.aload_n 0, 1) := by decide +kernel
theorem dX6_turn_48 : decode cX6_turn 48 = .ok (.aload_n 2, 1) := by decide +kernel
theorem dX6_turn_49 : decode cX6_turn 49 = .ok (.invokevirtual 143, 3) := by decide +kernel
theorem dX6_turn_52 : decode cX6_turn 52 = .ok (.invokevirtual 63, 3) := by decide +kernel
theorem dX6_turn_55 : decode cX6_turn 55 = .ok (.ireturn, 1) := by decide +kernel
theorem dX6_mirror_0 : decode cX6_mirror 0 = .ok (.aload_n 0, 1) := by decide +kernel
theorem dX6_mirror_1 : decode cX6_mirror 1 = .ok (.iload_n 1, 1) := by decide +kernel
theorem dX6_mirror_2 : decode cX6_mirror 2 = .ok (.invokevirtual 67, 3) := by decide +kernel
theorem dX6_mirror_5 : decode cX6_mirror 5 = .ok (.astore_n 2, 1) := by decide +kernel
theorem dX6_mirror_6 : decode cX6_mirror 6 = .ok (.aload_n 2, 1) := by decide +kernel
theorem dX6_mirror_7 : decode cX6_mirror 7 = .ok (.ifnonnull 11, 3) := by decide +kernel
theorem dX6_mirror_10 : decode cX6_mirror 10 = .ok (.aload_n 0, 1) := by decide +kernel
theorem dX6_mirror_11 : decode cX6_mirror 11 = .ok (.iconst (-1), 1) := by decide +kernel
theorem dX6_mirror_12 : decode cX6_mirror 12 = .ok (.invokevirtual 42, 3) := by decide +kernel
theorem dX6_mirror_15 : decode cX6_mirror 15 = .ok (.goto 11, 3) := by decide +kernel
theorem dX6_mirror_18 : decode cX6_mirror 18 = .ok (.aload_n 0, 1) := by decide +kernel
theorem dX6_mirror_19 : decode cX6_mirror 19 = .ok (.aload_n 2, 1) := by decide +kernel
theorem dX6_mirror_20 : decode cX6_mirror 20 = .ok (.invokevirtual 147, 3) := by decide +kernel
theorem dX6_mirror_23 : decode cX6_mirror 23 = .ok (.invokevirtual 63, 3) := by decide +kernel
theorem dX6_mirror_26 : decode cX6_mirror 26 = .ok (.ireturn, 1) := by decide +kernel
theorem dX6_less_0 : decode cX6_less 0 = .ok (.aload_n 0, 1) := by decide +kernel
theorem dX6_less_1 : decode cX6_less 1 = .ok (.iload_n 1, 1) := by decide +kernel
theorem dX6_less_2 : decode cX6_less 2 = .ok (.invokevirtual 67, 3) := by decide +kernel
theorem dX6_less_5 : decode cX6_less 5 = .ok (.astore_n 3, 1) := by decide +kernel
theorem dX6_less_6 : decode cX6_less 6 = .ok (.aload_n 3, 1) := by decide +kernel
theorem dX6_less_7 : decode cX6_less 7 = .ok (.ifnull 11, 3) := by decide +kernel
theorem dX6_less_10 : decode cX6_less 10 = .ok (.aload_n 3, 1) := by decide +kernel
theorem dX6_less_11 : decode cX6_less 11 = .ok (.iload_n 2, 1) := by decide +kernel
theorem dX6_less_12 : decode cX6_less 12 = .ok (.invokevirtual 88, 3) := by decide +kernel
theorem dX6_less_15 : decode cX6_less 15 = .ok (.ifCond .ne 9, 3) := by decide +kernel
theorem dX6_less_18 : decode cX6_less 18 = .ok (.aload_n 0, 1) := by decide +kernel
theorem dX6_less_19 : decode cX6_less 19 = .ok (.iconst (-1), 1) := by decide +kernel
theorem dX6_less_20 : decode cX6_less 20 = .ok (.invokevirtual 42, 3) := by decide +kernel
theorem dX6_less_23 : decode cX6_less 23 = .ok (.ireturn, 1) := by decide +kernel
theorem dX6_less_24 : decode cX6_less 24 = .ok (.aload_n 3, 1) := by decide +kernel
theorem dX6_less_25 : decode cX6_less 25 = .ok (.iload_n 2, 1) := by decide +kernel
theorem dX6_less_26 : decode cX6_less 26 = .ok (.bipush 10, 2) := by decide +kernel
theorem dX6_less_28 : decode cX6_less 28 = .ok (.idiv, 1) := by decide +kernel
theorem dX6_less_29 : decode cX6_less 29 = .ok (.iload_n 2, 1) := by decide +kernel
theorem dX6_less_30 : decode cX6_less 30 = .ok (.bipush 10, 2) := by decide +kernel
theorem dX6_less_32 : decode cX6_less 32 = .ok (.irem, 1) := by decide +kernel
theorem dX6_less_33 : decode cX6_less 33 = .ok (.invokevirtual 92, 3) := by decide +kernel
theorem dX6_less_36 : decode cX6_less 36 = .ok (.iconst 1, 1) := by decide +kernel
theorem dX6_less_37 : decode cX6_less 37 = .ok (.if_icmp .eq 10, 3) := by decide +kernel
theorem dX6_less_40 : decode cX6_less 40 = .ok (.aload_n 0, 1) := by decide +kernel
theorem dX6_less_41 : decode cX6_less 41 = .ok (.bipush (-3), 2) := by decide +kernel
theorem dX6_less_43 : decode cX6_less 43 = .ok (.invokevirtual 42, 3) := by decide +kernel
theorem dX6_less_46 : decode cX6_less 46 = .ok (.ireturn, 1) := by decide +kernel
theorem dX6_less_47 : decode cX6_less 47 = .ok (.aload_n 0, 1) := by decide +kernel
theorem dX6_less_48 : decode cX6_less 48 = .ok (.aload_n 3, 1) := by decide +kernel
theorem dX6_less_49 : decode cX6_less 49 = .ok (.iload_n 2, 1) := by decide +kernel
theorem dX6_less_50 : decode cX6_less 50 = .ok (.bipush 10, 2) := by decide +kernel
theorem dX6_less_52 : decode cX6_less 52 = .ok (.idiv, 1) := by decide +kernel
theorem dX6_less_53 : decode cX6_less 53 = .ok (.iload_n 2, 1) := by decide +kernel
theorem dX6_less_54 : decode cX6_less 54 = .ok (.bipush 10, 2) := by decide +kernel
theorem dX6_less_56 : decode cX6_less 56 = .ok (.irem, 1) := by decide +kernel
theorem dX6_less_57 : decode cX6_less 57 = .ok (.invokestatic 150, 3) := by decide +kernel
theorem dX6_less_60 : decode cX6_less 60 = .ok (.invokevirtual 153, 3) := by decide +kernel
theorem dX6_less_63 : decode cX6_less 63 = .ok (.invokevirtual 63, 3) := by decide +kernel
theorem dX6_less_66 : decode cX6_less 66 = .ok (.ireturn, 1) := by decide +kernel
theorem dX6_rename_0 : decode cX6_rename 0 = .ok (.aload_n 0, 1) := by decide +kernel
theorem dX6_rename_1 : decode cX6_rename 1 = .ok (.iload_n 1, 1) := by decide +kernel
theorem dX6_rename_2 : decode cX6_rename 2 = .ok (.invokevirtual 67, 3) := by decide +kernel
theorem dX6_rename_5 : decode cX6_rename 5 = .ok (.astore_n 3, 1) := by decide +kernel
theorem dX6_rename_6 : decode cX6_rename 6 = .ok (.aload_n 3, 1) := by decide +kernel
theorem dX6_rename_7 : decode cX6_rename 7 = .ok (.ifnonnull 9, 3) := by decide +kernel
theorem dX6_rename_10 : decode cX6_rename 10 = .ok (.aload_n 0, 1) := by decide +kernel
theorem dX6_rename_11 : decode cX6_rename 11 = .ok (.iconst (-1), 1) := by decide +kernel
theorem dX6_rename_12 : decode cX6_rename 12 = .ok (.invokevirtual 42, 3) := by decide +kernel
theorem dX6_rename_15 : decode cX6_rename 15 = .ok (.ireturn, 1) := by decide +kernel
theorem dX6_rename_16 : decode cX6_rename 16 = .ok (.iload_n 2, 1) := by decide +kernel
theorem dX6_rename_17 : decode cX6_rename 17 = .ok (.aload_n 3, 1) := by decide +kernel
theorem dX6_rename_18 : decode cX6_rename 18 = .ok (.getfield 77, 3) := by decide +kernel
theorem dX6_rename_21 : decode cX6_rename 21 = .ok (.invokestatic 156, 3) := by decide +kernel
theorem dX6_rename_24 : decode cX6_rename 24 = .ok (.ifCond .ne 10, 3) := by decide +kernel
theorem dX6_rename_27 : decode cX6_rename 27 = .ok (.aload_n 0, 1) := by decide +kernel
theorem dX6_rename_28 : decode cX6_rename 28 = .ok (.bipush (-3), 2) := by decide +kernel
theorem dX6_rename_30 : decode cX6_rename 30 = .ok (.invokevirtual 42, 3) := by decide +kernel
theorem dX6_rename_33 : decode cX6_rename 33 = .ok (.ireturn, 1) := by decide +kernel
theorem dX6_rename_34 : decode cX6_rename 34 = .ok (.aload_n 0, 1) := by decide +kernel
theorem dX6_rename_35 : decode cX6_rename 35 = .ok (.aload_n 3, 1) := by decide +kernel
theorem dX6_rename_36 : decode cX6_rename 36 = .ok (.iload_n 2, 1) := by decide +kernel
theorem dX6_rename_37 : decode cX6_rename 37 = .ok (.invokevirtual 160, 3) := by decide +kernel
theorem dX6_rename_40 : decode cX6_rename 40 = .ok (.invokevirtual 63, 3) := by decide +kernel
theorem dX6_rename_43 : decode cX6_rename 43 = .ok (.ireturn, 1) := by decide +kernel
theorem dX6_alike_0 : decode cX6_alike 0 = .ok (.aload_n 0, 1) := by decide +kernel
theorem dX6_alike_1 : decode cX6_alike 1 = .ok (.iload_n 1, 1) := by decide +kernel
theorem dX6_alike_2 : decode cX6_alike 2 = .ok (.invokevirtual 67, 3) := by decide +kernel
theorem dX6_alike_5 : decode cX6_alike 5 = .ok (.astore_n 3, 1) := by decide +kernel
theorem dX6_alike_6 : decode cX6_alike 6 = .ok (.aload_n 0, 1) := by decide +kernel
theorem dX6_alike_7 : decode cX6_alike 7 = .ok (.iload_n 2, 1) := by decide +kernel
theorem dX6_alike_8 : decode cX6_alike 8 = .ok (.invokevirtual 67, 3) := by decide +kernel
theorem dX6_alike_11 : decode cX6_alike 11 = .ok (.astore 4, 2) := by decide +kernel
theorem dX6_alike_13 : decode cX6_alike 13 = .ok (.aload_n 3, 1) := by decide +kernel
theorem dX6_alike_14 : decode cX6_alike 14 = .ok (.ifnull 8, 3) := by decide +kernel
theorem dX6_alike_17 : decode cX6_alike 17 = .ok (.aload 4, 2) := by decide +kernel
theorem dX6_alike_19 : decode cX6_alike 19 = .ok (.ifnonnull 9, 3) := by decide +kernel
theorem dX6_alike_22 : decode cX6_alike 22 = .ok (.aload_n 0, 1) := by decide +kernel
theorem dX6_alike_23 : decode cX6_alike 23 = .ok (.iconst (-1), 1) := by decide +kernel
theorem dX6_alike_24 : decode cX6_alike 24 = .ok (.invokevirtual 42, 3) := by decide +kernel
theorem dX6_alike_27 : decode cX6_alike 27 = .ok (.ireturn, 1) := by decide +kernel
theorem dX6_alike_28 : decode cX6_alike 28 = .ok (.iconst 0, 1) := by decide +kernel
theorem dX6_alike_29 : decode cX6_alike 29 = .ok (.istore 5, 2) := by decide +kernel
theorem dX6_alike_31 : decode cX6_alike 31 = .ok (.iload 5, 2) := by decide +kernel
theorem dX6_alike_33 : decode cX6_alike 33 = .ok (.iconst 4, 1) := by decide +kernel
theorem dX6_alike_34 : decode cX6_alike 34 = .ok (.if_icmp .ge 35, 3) := by decide +kernel
theorem dX6_alike_37 : decode cX6_alike 37 = .ok (.aload_n 3, 1) := by decide +kernel
theorem dX6_alike_38 : decode cX6_alike 38 = .ok (.aload 4, 2) := by decide +kernel
theorem dX6_alike_40 : decode cX6_alike 40 = .ok (.iconst 0, 1) := by decide +kernel
theorem dX6_alike_41 : decode cX6_alike 41 = .ok (.iload 5, 2) := by decide +kernel
theorem dX6_alike_43 : decode cX6_alike 43 = .ok (.invokestatic 163, 3) := by decide +kernel
theorem dX6_alike_46 : decode cX6_alike 46 = .ok (.ifCond .ne 15, 3) := by decide +kernel
theorem dX6_alike_49 : decode cX6_alike 49 = .ok (.aload_n 3, 1) := by decide +kernel
theorem dX6_alike_50 : decode cX6_alike 50 = .ok (.aload 4, 2) := by decide +kernel
theorem dX6_alike_52 : decode cX6_alike 52 = .ok (.iconst 1, 1) := by decide +kernel
theorem dX6_alike_53 : decode cX6_alike 53 = .ok (.iload 5, 2) := by decide +kernel
theorem dX6_alike_55 : decode cX6_alike 55 = .ok (.invokestatic 163, 3) := by decide +kernel
theorem dX6_alike_58 : decode cX6_alike 58 = .ok (.ifCond .eq 5, 3) := by decide +kernel
theorem dX6_alike_61 : decode cX6_alike 61 = .ok (.iconst 1, 1) := by decide +kernel
theorem dX6_alike_62 : decode cX6_alike 62 = .ok (.ireturn, 1) := by decide +kernel
theorem dX6_alike_63 : decode cX6_alike 63 = .ok (.iinc 5 1, 3) := by decide +kernel
theorem dX6_alike_66 : decode cX6_alike 66 = .ok (.goto (-35), 3) := by decide +kernel
theorem dX6_alike_69 : decode cX6_alike 69 = .ok (.iconst 0, 1) := by decide +kernel
theorem dX6_alike_70 : decode cX6_alike 70 = .ok (.ireturn, 1) := by decide +kernel
theorem dX6_needless_0 : decode cX6_needless 0 = .ok (.aload_n 0, 1) := by decide +kernel
theorem dX6_needless_1 : decode cX6_needless 1 = .ok (.iload_n 1, 1) := by decide +kernel
theorem dX6_needless_2 : decode cX6_needless 2 = .ok (.invokevirtual 67, 3) := by decide +kernel
theorem dX6_needless_5 : decode cX6_needless 5 = .ok (.astore_n 2, 1) := by decide +kernel
theorem dX6_needless_6 : decode cX6_needless 6 = .ok (.aload_n 2, 1) := by decide +kernel
theorem dX6_needless_7 : decode cX6_needless 7 = .ok (.ifnonnull 11, 3) := by decide +kernel
theorem dX6_needless_10 : decode cX6_needless 10 = .ok (.aload_n 0, 1) := by decide +kernel
theorem dX6_needless_11 : decode cX6_needless 11 = .ok (.iconst (-1), 1) := by decide +kernel
theorem dX6_needless_12 : decode cX6_needless 12 = .ok (.invokevirtual 42, 3) := by decide +kernel
theorem dX6_needless_15 : decode cX6_needless 15 = .ok (.goto 7, 3) := by decide +kernel
theorem dX6_needless_18 : decode cX6_needless 18 = .ok (.aload_n 2, 1) := by decide +kernel
theorem dX6_needless_19 : decode cX6_needless 19 = .ok (.invokevirtual 167, 3) := by decide +kernel
theorem dX6_needless_22 : decode cX6_needless 22 = .ok (.ireturn, 1) := by decide +kernel
theorem dX6_put_0 : decode cX6_put 0 = .ok (.iload_n 1, 1) := by decide +kernel
theorem dX6_put_1 : decode cX6_put 1 = .ok (.ifCond .ge 10, 3) := by decide +kernel
theorem dX6_put_4 : decode cX6_put 4 = .ok (.aload_n 0, 1) := by decide +kernel
theorem dX6_put_5 : decode cX6_put 5 = .ok (.bipush (-4), 2) := by decide +kernel
theorem dX6_put_7 : decode cX6_put 7 = .ok (.invokevirtual 42, 3) := by decide +kernel
theorem dX6_put_10 : decode cX6_put 10 = .ok (.ireturn, 1) := by decide +kernel
theorem dX6_put_11 : decode cX6_put 11 = .ok (.iload_n 1, 1) := by decide +kernel
theorem dX6_put_12 : decode cX6_put 12 = .ok (.bipush 99, 2) := by decide +kernel
theorem dX6_put_14 : decode cX6_put 14 = .ok (.if_icmp .gt 11, 3) := by decide +kernel
theorem dX6_put_17 : decode cX6_put 17 = .ok (.aload_n 0, 1) := by decide +kernel
theorem dX6_put_18 : decode cX6_put 18 = .ok (.getfield 170, 3) := by decide +kernel
theorem dX6_put_21 : decode cX6_put 21 = .ok (.iconst 3, 1) := by decide +kernel
theorem dX6_put_22 : decode cX6_put 22 = .ok (.if_icmp .lt 10, 3) := by decide +kernel
theorem dX6_put_25 : decode cX6_put 25 = .ok (.aload_n 0, 1) := by decide +kernel
theorem dX6_put_26 : decode cX6_put 26 = .ok (.bipush (-6), 2) := by decide +kernel
theorem dX6_put_28 : decode cX6_put 28 = .ok (.invokevirtual 42, 3) := by decide +kernel
theorem dX6_put_31 : decode cX6_put 31 = .ok (.ireturn, 1) := by decide +kernel
theorem dX6_put_32 : decode cX6_put 32 = .ok (.aload_n 0, 1) := by decide +kernel
theorem dX6_put_33 : decode cX6_put 33 = .ok (.getfield 29, 3) := by decide +kernel
theorem dX6_put_36 : decode cX6_put 36 = .ok (.aload_n 0, 1) := by decide +kernel
theorem dX6_put_37 : decode cX6_put 37 = .ok (.getfield 170, 3) := by decide +kernel
theorem dX6_put_40 : decode cX6_put 40 = .ok (.iload_n 1, 1) := by decide +kernel
theorem dX6_put_41 : decode cX6_put 41 = .ok (.iastore, 1) := by decide +kernel
theorem dX6_put_42 : decode cX6_put 42 = .ok (.aload_n 0, 1) := by decide +kernel
theorem dX6_put_43 : decode cX6_put 43 = .ok (.dup, 1) := by decide +kernel
theorem dX6_put_44 : decode cX6_put 44 = .ok (.getfield 170, 3) := by decide +kernel
theorem dX6_put_47 : decode cX6_put 47 = .ok (.iconst 1, 1) := by decide +kernel
theorem dX6_put_48 : decode cX6_put 48 = .ok (.iadd, 1) := by decide +kernel
theorem dX6_put_49 : decode cX6_put 49 = .ok (.putfield 170, 3) := by decide +kernel
theorem dX6_put_52 : decode cX6_put 52 = .ok (.aload_n 0, 1) := by decide +kernel
theorem dX6_put_53 : decode cX6_put 53 = .ok (.getfield 170, 3) := by decide +kernel
theorem dX6_put_56 : decode cX6_put 56 = .ok (.ireturn, 1) := by decide +kernel
theorem dX6_find_0 : decode cX6_find 0 = .ok (.aload_n 0, 1) := by decide +kernel
theorem dX6_find_1 : decode cX6_find 1 = .ok (.iload_n 3, 1) := by decide +kernel
theorem dX6_find_2 : decode cX6_find 2 = .ok (.invokevirtual 132, 3) := by decide +kernel
theorem dX6_find_5 : decode cX6_find 5 = .ok (.ifCond .ne 9, 3) := by decide +kernel
theorem dX6_find_8 : decode cX6_find 8 = .ok (.aload_n 0, 1) := by decide +kernel
theorem dX6_find_9 : decode cX6_find 9 = .ok (.iconst (-1), 1) := by decide +kernel
theorem dX6_find_10 : decode cX6_find 10 = .ok (.invokevirtual 42, 3) := by decide +kernel
theorem dX6_find_13 : decode cX6_find 13 = .ok (.ireturn, 1) := by decide +kernel
theorem dX6_find_14 : decode cX6_find 14 = .ok (.iload_n 1, 1) := by decide +kernel
theorem dX6_find_15 : decode cX6_find 15 = .ok (.iconst 1, 1) := by decide +kernel
theorem dX6_find_16 : decode cX6_find 16 = .ok (.if_icmp .lt 8, 3) := by decide +kernel
theorem dX6_find_19 : decode cX6_find 19 = .ok (.iload_n 2, 1) := by decide +kernel
theorem dX6_find_20 : decode cX6_find 20 = .ok (.iconst 1, 1) := by decide +kernel
theorem dX6_find_21 : decode cX6_find 21 = .ok (.if_icmp .ge 10, 3) := by decide +kernel
theorem dX6_find_24 : decode cX6_find 24 = .ok (.aload_n 0, 1) := by decide +kernel
theorem dX6_find_25 : decode cX6_find 25 = .ok (.bipush (-4), 2) := by decide +kernel
theorem dX6_find_27 : decode cX6_find 27 = .ok (.invokevirtual 42, 3) := by decide +kernel
theorem dX6_find_30 : decode cX6_find 30 = .ok (.ireturn, 1) := by decide +kernel
theorem dX6_find_31 : decode cX6_find 31 = .ok (.iload_n 1, 1) := by decide +kernel
theorem dX6_find_32 : decode cX6_find 32 = .ok (.iconst 5, 1) := by decide +kernel
theorem dX6_find_33 : decode cX6_find 33 = .ok (.if_icmp .gt 25, 3) := by decide +kernel
theorem dX6_find_36 : decode cX6_find 36 = .ok (.iload_n 2, 1) := by decide +kernel
theorem dX6_find_37 : decode cX6_find 37 = .ok (.iconst 4, 1) := by decide +kernel
theorem dX6_find_38 : decode cX6_find 38 = .ok (.if_icmp .gt 20, 3) := by decide +kernel
theorem dX6_find_41 : decode cX6_find 41 = .ok (.iload_n 1, 1) := by decide +kernel
theorem dX6_find_42 : decode cX6_find 42 = .ok (.iload_n 2, 1) := by decide +kernel
theorem dX6_find_43 : decode cX6_find 43 = .ok (.imul, 1) := by decide +kernel
theorem dX6_find_44 : decode cX6_find 44 = .ok (.bipush 9, 2) := by decide +kernel
theorem dX6_find_46 : decode cX6_find 46 = .ok (.if_icmp .gt 12, 3) := by decide +kernel
theorem dX6_find_49 : decode cX6_find 49 = .ok (.aload_n 0, 1) := by decide +kernel
theorem dX6_find_50 : decode cX6_find 50 = .ok (.getfield 50, 3) := by decide +kernel
theorem dX6_find_53 : decode cX6_find 53 = .ok (.bipush 24, 2) := by decide +kernel
theorem dX6_find_55 : decode cX6_find 55 = .ok (.if_icmp .lt 10, 3) := by decide +kernel
theorem dX6_find_58 : decode cX6_find 58 = .ok (.aload_n 0, 1) := by decide +kernel
theorem dX6_find_59 : decode cX6_find 59 = .ok (.bipush (-6), 2) := by decide +kernel
theorem dX6_find_61 : decode cX6_find 61 = .ok (.invokevirtual 42, 3) := by decide +kernel
theorem dX6_find_64 : decode cX6_find 64 = .ok (.ireturn, 1) := by decide +kernel
theorem dX6_find_65 : decode cX6_find 65 = .ok (.aload_n 0, 1) := by decide +kernel
theorem dX6_find_66 : decode cX6_find 66 = .ok (.iload_n 1, 1) := by decide +kernel
theorem dX6_find_67 : decode cX6_find 67 = .ok (.iload_n 2, 1) := by decide +kernel
theorem dX6_find_68 : decode cX6_find 68 = .ok (.invokevirtual 173, 3) := by decide +kernel
theorem dX6_find_71 : decode cX6_find 71 = .ok (.ifCond .ne 10, 3) := by decide +kernel
theorem dX6_find_74 : decode cX6_find 74 = .ok (.aload_n 0, 1) := by decide +kernel
theorem dX6_find_75 : decode cX6_find 75 = .ok (.bipush (-3), 2) := by decide +kernel
theorem dX6_find_77 : decode cX6_find 77 = .ok (.invokevirtual 42, 3) := by decide +kernel
theorem dX6_find_80 : decode cX6_find 80 = .ok (.ireturn, 1) := by decide +kernel
theorem dX6_find_81 : decode cX6_find 81 = .ok (.aload_n 0, 1) := by decide +kernel
theorem dX6_find_82 : decode cX6_find 82 = .ok (.iload_n 1, 1) := by decide +kernel
theorem dX6_find_83 : decode cX6_find 83 = .ok (.iload_n 2, 1) := by decide +kernel
theorem dX6_find_84 : decode cX6_find 84 = .ok (.invokevirtual 176, 3) := by decide +kernel
theorem dX6_find_87 : decode cX6_find 87 = .ok (.aload_n 0, 1) := by decide +kernel
theorem dX6_find_88 : decode cX6_find 88 = .ok (.iload_n 3, 1) := by decide +kernel
theorem dX6_find_89 : decode cX6_find 89 = .ok (.aload_n 0, 1) := by decide +kernel
theorem dX6_find_90 : decode cX6_find 90 = .ok (.getfield 170, 3) := by decide +kernel
theorem dX6_find_93 : decode cX6_find 93 = .ok (.invokevirtual 135, 3) := by decide +kernel
theorem dX6_find_96 : decode cX6_find 96 = .ok (.invokestatic 180, 3) := by decide +kernel
theorem dX6_find_99 : decode cX6_find 99 = .ok (.astore 4, 2) := by decide +kernel
theorem dX6_find_101 : decode cX6_find 101 = .ok (.aload_n 0, 1) := by decide +kernel
theorem dX6_find_102 : decode cX6_find 102 = .ok (.iconst 0, 1) := by decide +kernel
theorem dX6_find_103 : decode cX6_find 103 = .ok (.putfield 170, 3) := by decide +kernel
theorem dX6_find_106 : decode cX6_find 106 = .ok (.aload 4, 2) := by decide +kernel
theorem dX6_find_108 : decode cX6_find 108 = .ok (.ifnonnull 8, 3) := by decide +kernel
theorem dX6_find_111 : decode cX6_find 111 = .ok (.bipush (-9), 2) := by decide +kernel
theorem dX6_find_113 : decode cX6_find 113 = .ok (.goto 9, 3) := by decide +kernel
theorem dX6_find_116 : decode cX6_find 116 = .ok (.aload_n 0, 1) := by decide +kernel
theorem dX6_find_117 : decode cX6_find 117 = .ok (.aload 4, 2) := by decide +kernel
theorem dX6_find_119 : decode cX6_find 119 = .ok (.invokevirtual 63, 3) := by decide +kernel
theorem dX6_find_122 : decode cX6_find 122 = .ok (.ireturn, 1) := by decide +kernel
theorem dX6_net_0 : decode cX6_net 0 = .ok (.aload_n 0, 1) := by decide +kernel
theorem dX6_net_1 : decode cX6_net 1 = .ok (.new 23, 3) := by decide +kernel
theorem dX6_net_4 : decode cX6_net 4 = .ok (.dup, 1) := by decide +kernel
theorem dX6_net_5 : decode cX6_net 5 = .ok (.invokespecial 184, 3) := by decide +kernel
theorem dX6_net_8 : decode cX6_net 8 = .ok (.invokevirtual 185, 3) := by decide +kernel
theorem dX6_net_11 : decode cX6_net 11 = .ok (.ireturn, 1) := by decide +kernel
theorem dX6_piece_0 : decode cX6_piece 0 = .ok (.aload_n 0, 1) := by decide +kernel
theorem dX6_piece_1 : decode cX6_piece 1 = .ok (.iload_n 1, 1) := by decide +kernel
theorem dX6_piece_2 : decode cX6_piece 2 = .ok (.invokevirtual 189, 3) := by decide +kernel
theorem dX6_piece_5 : decode cX6_piece 5 = .ok (.astore_n 3, 1) := by decide +kernel
theorem dX6_piece_6 : decode cX6_piece 6 = .ok (.aload_n 0, 1) := by decide +kernel
theorem dX6_piece_7 : decode cX6_piece 7 = .ok (.iload_n 2, 1) := by decide +kernel
theorem dX6_piece_8 : decode cX6_piece 8 = .ok (.invokevirtual 67, 3) := by decide +kernel
theorem dX6_piece_11 : decode cX6_piece 11 = .ok (.astore 4, 2) := by decide +kernel
theorem dX6_piece_13 : decode cX6_piece 13 = .ok (.aload_n 3, 1) := by decide +kernel
theorem dX6_piece_14 : decode cX6_piece 14 = .ok (.ifnull 8, 3) := by decide +kernel
theorem dX6_piece_17 : decode cX6_piece 17 = .ok (.aload 4, 2) := by decide +kernel
theorem dX6_piece_19 : decode cX6_piece 19 = .ok (.ifnonnull 9, 3) := by decide +kernel
theorem dX6_piece_22 : decode cX6_piece 22 = .ok (.aload_n 0, 1) := by decide +kernel
theorem dX6_piece_23 : decode cX6_piece 23 = .ok (.iconst (-1), 1) := by decide +kernel
theorem dX6_piece_24 : decode cX6_piece 24 = .ok (.invokevirtual 42, 3) := by decide +kernel
theorem dX6_piece_27 : decode cX6_piece 27 = .ok (.ireturn, 1) := by decide +kernel
theorem dX6_piece_28 : decode cX6_piece 28 = .ok (.aload_n 3, 1) := by decide +kernel
theorem dX6_piece_29 : decode cX6_piece 29 = .ok (.getfield 193, 3) := by decide +kernel
theorem dX6_piece_32 : decode cX6_piece 32 = .ok (.bipush 8, 2) := by decide +kernel
theorem dX6_piece_34 : decode cX6_piece 34 = .ok (.if_icmp .lt 10, 3) := by decide +kernel
theorem dX6_piece_37 : decode cX6_piece 37 = .ok (.aload_n 0, 1) := by decide +kernel
theorem dX6_piece_38 : decode cX6_piece 38 = .ok (.bipush (-6), 2) := by decide +kernel
theorem dX6_piece_40 : decode cX6_piece 40 = .ok (.invokevirtual 42, 3) := by decide +kernel
theorem dX6_piece_43 : decode cX6_piece 43 = .ok (.ireturn, 1) := by decide +kernel
theorem dX6_piece_44 : decode cX6_piece 44 = .ok (.aload_n 3, 1) := by decide +kernel
theorem dX6_piece_45 : decode cX6_piece 45 = .ok (.aload 4, 2) := by decide +kernel
theorem dX6_piece_47 : decode cX6_piece 47 = .ok (.invokevirtual 196, 3) := by decide +kernel
theorem dX6_piece_50 : decode cX6_piece 50 = .ok (.ireturn, 1) := by decide +kernel
theorem dX6_link_0 : decode cX6_link 0 = .ok (.aload_n 0, 1) := by decide +kernel
theorem dX6_link_1 : decode cX6_link 1 = .ok (.iload_n 1, 1) := by decide +kernel
theorem dX6_link_2 : decode cX6_link 2 = .ok (.invokevirtual 189, 3) := by decide +kernel
theorem dX6_link_5 : decode cX6_link 5 = .ok (.astore 4, 2) := by decide +kernel
theorem dX6_link_7 : decode cX6_link 7 = .ok (.aload 4, 2) := by decide +kernel
theorem dX6_link_9 : decode cX6_link 9 = .ok (.ifnull 21, 3) := by decide +kernel
theorem dX6_link_12 : decode cX6_link 12 = .ok (.aload 4, 2) := by decide +kernel
theorem dX6_link_14 : decode cX6_link 14 = .ok (.iload_n 2, 1) := by decide +kernel
theorem dX6_link_15 : decode cX6_link 15 = .ok (.invokevirtual 199, 3) := by decide +kernel
theorem dX6_link_18 : decode cX6_link 18 = .ok (.ifCond .eq 12, 3) := by decide +kernel
theorem dX6_link_21 : decode cX6_link 21 = .ok (.aload 4, 2) := by decide +kernel
theorem dX6_link_23 : decode cX6_link 23 = .ok (.iload_n 3, 1) := by decide +kernel
theorem dX6_link_24 : decode cX6_link 24 = .ok (.invokevirtual 199, 3) := by decide +kernel
theorem dX6_link_27 : decode cX6_link 27 = .ok (.ifCond .ne 9, 3) := by decide +kernel
theorem dX6_link_30 : decode cX6_link 30 = .ok (.aload_n 0, 1) := by decide +kernel
theorem dX6_link_31 : decode cX6_link 31 = .ok (.iconst (-1), 1) := by decide +kernel
theorem dX6_link_32 : decode cX6_link 32 = .ok (.invokevirtual 42, 3) := by decide +kernel
theorem dX6_link_35 : decode cX6_link 35 = .ok (.ireturn, 1) := by decide +kernel
theorem dX6_link_36 : decode cX6_link 36 = .ok (.iload_n 2, 1) := by decide +kernel
theorem dX6_link_37 : decode cX6_link 37 = .ok (.iload_n 3, 1) := by decide +kernel
theorem dX6_link_38 : decode cX6_link 38 = .ok (.if_icmp .eq 21, 3) := by decide +kernel
theorem dX6_link_41 : decode cX6_link 41 = .ok (.aload 4, 2) := by decide +kernel
theorem dX6_link_43 : decode cX6_link 43 = .ok (.iload_n 2, 1) := by decide +kernel
theorem dX6_link_44 : decode cX6_link 44 = .ok (.invokevirtual 202, 3) := by decide +kernel
theorem dX6_link_47 : decode cX6_link 47 = .ok (.ifCond .ne 12, 3) := by decide +kernel
theorem dX6_link_50 : decode cX6_link 50 = .ok (.aload 4, 2) := by decide +kernel
theorem dX6_link_52 : decode cX6_link 52 = .ok (.iload_n 3, 1) := by decide +kernel
theorem dX6_link_53 : decode cX6_link 53 = .ok (.invokevirtual 202, 3) := by decide +kernel
theorem dX6_link_56 : decode cX6_link 56 = .ok (.ifCond .eq 10, 3) := by decide +kernel
theorem dX6_link_59 : decode cX6_link 59 = .ok (.aload_n 0, 1) := by decide +kernel
theorem dX6_link_60 : decode cX6_link 60 = .ok (.bipush (-3), 2) := by decide +kernel
theorem dX6_link_62 : decode cX6_link 62 = .ok (.invokevirtual 42, 3) := by decide +kernel
theorem dX6_link_65 : decode cX6_link 65 = .ok (.ireturn, 1) := by decide +kernel
theorem dX6_link_66 : decode cX6_link 66 = .ok (.aload 4, 2) := by decide +kernel
theorem dX6_link_68 : decode cX6_link 68 = .ok (.getfield 205, 3) := by decide +kernel
theorem dX6_link_71 : decode cX6_link 71 = .ok (.bipush 12, 2) := by decide +kernel
theorem dX6_link_73 : decode cX6_link 73 = .ok (.if_icmp .lt 10, 3) := by decide +kernel
theorem dX6_link_76 : decode cX6_link 76 = .ok (.aload_n 0, 1) := by decide +kernel
theorem dX6_link_77 : decode cX6_link 77 = .ok (.bipush (-6), 2) := by decide +kernel
theorem dX6_link_79 : decode cX6_link 79 = .ok (.invokevirtual 42, 3) := by decide +kernel
theorem dX6_link_82 : decode cX6_link 82 = .ok (.ireturn, 1) := by decide +kernel
theorem dX6_link_83 : decode cX6_link 83 = .ok (.aload 4, 2) := by decide +kernel
theorem dX6_link_85 : decode cX6_link 85 = .ok (.iload_n 2, 1) := by decide +kernel
theorem dX6_link_86 : decode cX6_link 86 = .ok (.iload_n 3, 1) := by decide +kernel
theorem dX6_link_87 : decode cX6_link 87 = .ok (.invokevirtual 208, 3) := by decide +kernel
theorem dX6_link_90 : decode cX6_link 90 = .ok (.ireturn, 1) := by decide +kernel
theorem dX6_free_0 : decode cX6_free 0 = .ok (.aload_n 0, 1) := by decide +kernel
theorem dX6_free_1 : decode cX6_free 1 = .ok (.iload_n 1, 1) := by decide +kernel
theorem dX6_free_2 : decode cX6_free 2 = .ok (.invokevirtual 189, 3) := by decide +kernel
theorem dX6_free_5 : decode cX6_free 5 = .ok (.astore_n 3, 1) := by decide +kernel
theorem dX6_free_6 : decode cX6_free 6 = .ok (.aload_n 3, 1) := by decide +kernel
theorem dX6_free_7 : decode cX6_free 7 = .ok (.ifnull 8, 3) := by decide +kernel
theorem dX6_free_10 : decode cX6_free 10 = .ok (.iload_n 2, 1) := by decide +kernel
theorem dX6_free_11 : decode cX6_free 11 = .ok (.iconst (-1), 1) := by decide +kernel
theorem dX6_free_12 : decode cX6_free 12 = .ok (.if_icmp .ge 9, 3) := by decide +kernel
theorem dX6_free_15 : decode cX6_free 15 = .ok (.aload_n 0, 1) := by decide +kernel
theorem dX6_free_16 : decode cX6_free 16 = .ok (.iconst (-1), 1) := by decide +kernel
theorem dX6_free_17 : decode cX6_free 17 = .ok (.invokevirtual 42, 3) := by decide +kernel
theorem dX6_free_20 : decode cX6_free 20 = .ok (.ireturn, 1) := by decide +kernel
theorem dX6_free_21 : decode cX6_free 21 = .ok (.iload_n 2, 1) := by decide +kernel
theorem dX6_free_22 : decode cX6_free 22 = .ok (.iconst (-1), 1) := by decide +kernel
theorem dX6_free_23 : decode cX6_free 23 = .ok (.if_icmp .ne 10, 3) := by decide +kernel
theorem dX6_free_26 : decode cX6_free 26 = .ok (.aload_n 3, 1) := by decide +kernel
theorem dX6_free_27 : decode cX6_free 27 = .ok (.invokevirtual 211, 3) := by decide +kernel
theorem dX6_free_30 : decode cX6_free 30 = .ok (.goto 8, 3) := by decide +kernel
theorem dX6_free_33 : decode cX6_free 33 = .ok (.aload_n 3, 1) := by decide +kernel
theorem dX6_free_34 : decode cX6_free 34 = .ok (.iload_n 2, 1) := by decide +kernel
theorem dX6_free_35 : decode cX6_free 35 = .ok (.invokevirtual 214, 3) := by decide +kernel
theorem dX6_free_38 : decode cX6_free 38 = .ok (.ireturn, 1) := by decide +kernel
theorem dX6_netLets_0 : decode cX6_netLets 0 = .ok (.aload_n 0, 1) := by decide +kernel
theorem dX6_netLets_1 : decode cX6_netLets 1 = .ok (.iload_n 1, 1) := by decide +kernel
theorem dX6_netLets_2 : decode cX6_netLets 2 = .ok (.iload_n 2, 1) := by decide +kernel
theorem dX6_netLets_3 : decode cX6_netLets 3 = .ok (.invokevirtual 217, 3) := by decide +kernel
theorem dX6_netLets_6 : decode cX6_netLets 6 = .ok (.istore_n 3, 1) := by decide +kernel
theorem dX6_netLets_7 : decode cX6_netLets 7 = .ok (.aload_n 0, 1) := by decide +kernel
theorem dX6_netLets_8 : decode cX6_netLets 8 = .ok (.iload_n 1, 1) := by decide +kernel
theorem dX6_netLets_9 : decode cX6_netLets 9 = .ok (.invokevirtual 189, 3) := by decide +kernel
theorem dX6_netLets_12 : decode cX6_netLets 12 = .ok (.astore 4, 2) := by decide +kernel
theorem dX6_netLets_14 : decode cX6_netLets 14 = .ok (.iload_n 3, 1) := by decide +kernel
theorem dX6_netLets_15 : decode cX6_netLets 15 = .ok (.ifCond .ne 8, 3) := by decide +kernel
theorem dX6_netLets_18 : decode cX6_netLets 18 = .ok (.aload 4, 2) := by decide +kernel
theorem dX6_netLets_20 : decode cX6_netLets 20 = .ok (.ifnonnull 9, 3) := by decide +kernel
theorem dX6_netLets_23 : decode cX6_netLets 23 = .ok (.aload_n 0, 1) := by decide +kernel
theorem dX6_netLets_24 : decode cX6_netLets 24 = .ok (.iload_n 3, 1) := by decide +kernel
theorem dX6_netLets_25 : decode cX6_netLets 25 = .ok (.invokevirtual 42, 3) := by decide +kernel
theorem dX6_netLets_28 : decode cX6_netLets 28 = .ok (.ireturn, 1) := by decide +kernel
theorem dX6_netLets_29 : decode cX6_netLets 29 = .ok (.aload 4, 2) := by decide +kernel
theorem dX6_netLets_31 : decode cX6_netLets 31 = .ok (.iload_n 2, 1) := by decide +kernel
theorem dX6_netLets_32 : decode cX6_netLets 32 = .ok (.invokevirtual 220, 3) := by decide +kernel
theorem dX6_netLets_35 : decode cX6_netLets 35 = .ok (.ifCond .eq 7, 3) := by decide +kernel
theorem dX6_netLets_38 : decode cX6_netLets 38 = .ok (.iconst 1, 1) := by decide +kernel
theorem dX6_netLets_39 : decode cX6_netLets 39 = .ok (.goto 4, 3) := by decide +kernel
theorem dX6_netLets_42 : decode cX6_netLets 42 = .ok (.iconst 0, 1) := by decide +kernel
theorem dX6_netLets_43 : decode cX6_netLets 43 = .ok (.ireturn, 1) := by decide +kernel
theorem dX6_howMany_0 : decode cX6_howMany 0 = .ok (.aload_n 0, 1) := by decide +kernel
theorem dX6_howMany_1 : decode cX6_howMany 1 = .ok (.iload_n 1, 1) := by decide +kernel
theorem dX6_howMany_2 : decode cX6_howMany 2 = .ok (.iload_n 2, 1) := by decide +kernel
theorem dX6_howMany_3 : decode cX6_howMany 3 = .ok (.invokevirtual 217, 3) := by decide +kernel
theorem dX6_howMany_6 : decode cX6_howMany 6 = .ok (.istore_n 3, 1) := by decide +kernel
theorem dX6_howMany_7 : decode cX6_howMany 7 = .ok (.aload_n 0, 1) := by decide +kernel
theorem dX6_howMany_8 : decode cX6_howMany 8 = .ok (.iload_n 1, 1) := by decide +kernel
theorem dX6_howMany_9 : decode cX6_howMany 9 = .ok (.invokevirtual 189, 3) := by decide +kernel
theorem dX6_howMany_12 : decode cX6_howMany 12 = .ok (.astore 4, 2) := by decide +kernel
theorem dX6_howMany_14 : decode cX6_howMany 14 = .ok (.iload_n 3, 1) := by decide +kernel
theorem dX6_howMany_15 : decode cX6_howMany 15 = .ok (.ifCond .ne 8, 3) := by decide +kernel
theorem dX6_howMany_18 : decode cX6_howMany 18 = .ok (.aload 4, 2) := by decide +kernel
theorem dX6_howMany_20 : decode cX6_howMany 20 = .ok (.ifnonnull 9, 3) := by decide +kernel
theorem dX6_howMany_23 : decode cX6_howMany 23 = .ok (.aload_n 0, 1) := by decide +kernel
theorem dX6_howMany_24 : decode cX6_howMany 24 = .ok (.iload_n 3, 1) := by decide +kernel
theorem dX6_howMany_25 : decode cX6_howMany 25 = .ok (.invokevirtual 42, 3) := by decide +kernel
theorem dX6_howMany_28 : decode cX6_howMany 28 = .ok (.ireturn, 1) := by decide +kernel
theorem dX6_howMany_29 : decode cX6_howMany 29 = .ok (.aload 4, 2) := by decide +kernel
theorem dX6_howMany_31 : decode cX6_howMany 31 = .ok (.iload_n 2, 1) := by decide +kernel
theorem dX6_howMany_32 : decode cX6_howMany 32 = .ok (.invokevirtual 223, 3) := by decide +kernel
theorem dX6_howMany_35 : decode cX6_howMany 35 = .ok (.ireturn, 1) := by decide +kernel
theorem dX6_netDoes_0 : decode cX6_netDoes 0 = .ok (.aload_n 0, 1) := by decide +kernel
theorem dX6_netDoes_1 : decode cX6_netDoes 1 = .ok (.iload_n 1, 1) := by decide +kernel
theorem dX6_netDoes_2 : decode cX6_netDoes 2 = .ok (.invokevirtual 189, 3) := by decide +kernel
theorem dX6_netDoes_5 : decode cX6_netDoes 5 = .ok (.astore_n 3, 1) := by decide +kernel
theorem dX6_netDoes_6 : decode cX6_netDoes 6 = .ok (.aload_n 3, 1) := by decide +kernel
theorem dX6_netDoes_7 : decode cX6_netDoes 7 = .ok (.ifnull 11, 3) := by decide +kernel
theorem dX6_netDoes_10 : decode cX6_netDoes 10 = .ok (.aload_n 0, 1) := by decide +kernel
theorem dX6_netDoes_11 : decode cX6_netDoes 11 = .ok (.iload_n 2, 1) := by decide +kernel
theorem dX6_netDoes_12 : decode cX6_netDoes 12 = .ok (.invokevirtual 132, 3) := by decide +kernel
theorem dX6_netDoes_15 : decode cX6_netDoes 15 = .ok (.ifCond .ne 9, 3) := by decide +kernel
theorem dX6_netDoes_18 : decode cX6_netDoes 18 = .ok (.aload_n 0, 1) := by decide +kernel
theorem dX6_netDoes_19 : decode cX6_netDoes 19 = .ok (.iconst (-1), 1) := by decide +kernel
theorem dX6_netDoes_20 : decode cX6_netDoes 20 = .ok (.invokevirtual 42, 3) := by decide +kernel
theorem dX6_netDoes_23 : decode cX6_netDoes 23 = .ok (.ireturn, 1) := by decide +kernel
theorem dX6_netDoes_24 : decode cX6_netDoes 24 = .ok (.aload_n 3, 1) := by decide +kernel
theorem dX6_netDoes_25 : decode cX6_netDoes 25 = .ok (.invokevirtual 211, 3) := by decide +kernel
theorem dX6_netDoes_28 : decode cX6_netDoes 28 = .ok (.istore 4, 2) := by decide +kernel
theorem dX6_netDoes_30 : decode cX6_netDoes 30 = .ok (.iload 4, 2) := by decide +kernel
theorem dX6_netDoes_32 : decode cX6_netDoes 32 = .ok (.iconst 5, 1) := by decide +kernel
theorem dX6_netDoes_33 : decode cX6_netDoes 33 = .ok (.if_icmp .le 5, 3) := by decide +kernel
theorem dX6_netDoes_36 : decode cX6_netDoes 36 = .ok (.iconst 0, 1) := by decide +kernel
theorem dX6_netDoes_37 : decode cX6_netDoes 37 = .ok (.ireturn, 1) := by decide +kernel
theorem dX6_netDoes_38 : decode cX6_netDoes 38 = .ok (.aload_n 0, 1) := by decide +kernel
theorem dX6_netDoes_39 : decode cX6_netDoes 39 = .ok (.iload_n 2, 1) := by decide +kernel
theorem dX6_netDoes_40 : decode cX6_netDoes 40 = .ok (.iload 4, 2) := by decide +kernel
theorem dX6_netDoes_42 : decode cX6_netDoes 42 = .ok (.invokevirtual 135, 3) := by decide +kernel
theorem dX6_netDoes_45 : decode cX6_netDoes 45 = .ok (.lstore 5, 2) := by decide +kernel
theorem dX6_netDoes_47 : decode cX6_netDoes 47 = .ok (.iconst 0, 1) := by decide +kernel
theorem dX6_netDoes_48 : decode cX6_netDoes 48 = .ok (.istore 7, 2) := by decide +kernel
theorem dX6_netDoes_50 : decode cX6_netDoes 50 = .ok (.iload 7, 2) := by decide +kernel
theorem dX6_netDoes_52 : decode cX6_netDoes 52 = .ok (.iconst 1, 1) := by decide +kernel
theorem dX6_netDoes_53 : decode cX6_netDoes 53 = .ok (.iload 4, 2) := by decide +kernel
theorem dX6_netDoes_55 : decode cX6_netDoes 55 = .ok (.ishl, 1) := by decide +kernel
theorem dX6_netDoes_56 : decode cX6_netDoes 56 = .ok (.if_icmp .ge 37, 3) := by decide +kernel
theorem dX6_netDoes_59 : decode cX6_netDoes 59 = .ok (.aload_n 3, 1) := by decide +kernel
theorem dX6_netDoes_60 : decode cX6_netDoes 60 = .ok (.iload 7, 2) := by decide +kernel
theorem dX6_netDoes_62 : decode cX6_netDoes 62 = .ok (.invokevirtual 220, 3) := by decide +kernel
theorem dX6_netDoes_65 : decode cX6_netDoes 65 = .ok (.lload 5, 2) := by decide +kernel
theorem dX6_netDoes_67 : decode cX6_netDoes 67 = .ok (.iload 7, 2) := by decide +kernel
theorem dX6_netDoes_69 : decode cX6_netDoes 69 = .ok (.lshr, 1) := by decide +kernel
theorem dX6_netDoes_70 : decode cX6_netDoes 70 = .ok (.lconst 1, 1) := by decide +kernel
theorem dX6_netDoes_71 : decode cX6_netDoes 71 = .ok (.land, 1) := by decide +kernel
theorem dX6_netDoes_72 : decode cX6_netDoes 72 = .ok (.lconst 0, 1) := by decide +kernel
theorem dX6_netDoes_73 : decode cX6_netDoes 73 = .ok (.lcmp, 1) := by decide +kernel
theorem dX6_netDoes_74 : decode cX6_netDoes 74 = .ok (.ifCond .eq 7, 3) := by decide +kernel
theorem dX6_netDoes_77 : decode cX6_netDoes 77 = .ok (.iconst 1, 1) := by decide +kernel
theorem dX6_netDoes_78 : decode cX6_netDoes 78 = .ok (.goto 4, 3) := by decide +kernel
theorem dX6_netDoes_81 : decode cX6_netDoes 81 = .ok (.iconst 0, 1) := by decide +kernel
theorem dX6_netDoes_82 : decode cX6_netDoes 82 = .ok (.if_icmp .eq 5, 3) := by decide +kernel
theorem dX6_netDoes_85 : decode cX6_netDoes 85 = .ok (.iconst 0, 1) := by decide +kernel
theorem dX6_netDoes_86 : decode cX6_netDoes 86 = .ok (.ireturn, 1) := by decide +kernel
theorem dX6_netDoes_87 : decode cX6_netDoes 87 = .ok (.iinc 7 1, 3) := by decide +kernel
theorem dX6_netDoes_90 : decode cX6_netDoes 90 = .ok (.goto (-40), 3) := by decide +kernel
theorem dX6_netDoes_93 : decode cX6_netDoes 93 = .ok (.iconst 1, 1) := by decide +kernel
theorem dX6_netDoes_94 : decode cX6_netDoes 94 = .ok (.ireturn, 1) := by decide +kernel
theorem dX6_lay_0 : decode cX6_lay 0 = .ok (.aload_n 0, 1) := by decide +kernel
theorem dX6_lay_1 : decode cX6_lay 1 = .ok (.iload_n 1, 1) := by decide +kernel
theorem dX6_lay_2 : decode cX6_lay 2 = .ok (.invokevirtual 67, 3) := by decide +kernel
theorem dX6_lay_5 : decode cX6_lay 5 = .ok (.astore 4, 2) := by decide +kernel
theorem dX6_lay_7 : decode cX6_lay 7 = .ok (.aload 4, 2) := by decide +kernel
theorem dX6_lay_9 : decode cX6_lay 9 = .ok (.ifnonnull 9, 3) := by decide +kernel
theorem dX6_lay_12 : decode cX6_lay 12 = .ok (.aload_n 0, 1) := by decide +kernel
theorem dX6_lay_13 : decode cX6_lay 13 = .ok (.iconst (-1), 1) := by decide +kernel
theorem dX6_lay_14 : decode cX6_lay 14 = .ok (.invokevirtual 42, 3) := by decide +kernel
theorem dX6_lay_17 : decode cX6_lay 17 = .ok (.ireturn, 1) := by decide +kernel
theorem dX6_lay_18 : decode cX6_lay 18 = .ok (.iload_n 2, 1) := by decide +kernel
theorem dX6_lay_19 : decode cX6_lay 19 = .ok (.ifCond .lt 7, 3) := by decide +kernel
theorem dX6_lay_22 : decode cX6_lay 22 = .ok (.iload_n 3, 1) := by decide +kernel
theorem dX6_lay_23 : decode cX6_lay 23 = .ok (.ifCond .ge 10, 3) := by decide +kernel
theorem dX6_lay_26 : decode cX6_lay 26 = .ok (.aload_n 0, 1) := by decide +kernel
theorem dX6_lay_27 : decode cX6_lay 27 = .ok (.bipush (-4), 2) := by decide +kernel
theorem dX6_lay_29 : decode cX6_lay 29 = .ok (.invokevirtual 42, 3) := by decide +kernel
theorem dX6_lay_32 : decode cX6_lay 32 = .ok (.ireturn, 1) := by decide +kernel
theorem dX6_lay_33 : decode cX6_lay 33 = .ok (.iload_n 2, 1) := by decide +kernel
theorem dX6_lay_34 : decode cX6_lay 34 = .ok (.bipush 12, 2) := by decide +kernel
theorem dX6_lay_36 : decode cX6_lay 36 = .ok (.aload 4, 2) := by decide +kernel
theorem dX6_lay_38 : decode cX6_lay 38 = .ok (.getfield 71, 3) := by decide +kernel
theorem dX6_lay_41 : decode cX6_lay 41 = .ok (.isub, 1) := by decide +kernel
theorem dX6_lay_42 : decode cX6_lay 42 = .ok (.if_icmp .gt 27, 3) := by decide +kernel
theorem dX6_lay_45 : decode cX6_lay 45 = .ok (.iload_n 3, 1) := by decide +kernel
theorem dX6_lay_46 : decode cX6_lay 46 = .ok (.bipush 12, 2) := by decide +kernel
theorem dX6_lay_48 : decode cX6_lay 48 = .ok (.aload 4, 2) := by decide +kernel
theorem dX6_lay_50 : decode cX6_lay 50 = .ok (.getfield 74, 3) := by decide +kernel
theorem dX6_lay_53 : decode cX6_lay 53 = .ok (.isub, 1) := by decide +kernel
theorem dX6_lay_54 : decode cX6_lay 54 = .ok (.if_icmp .gt 15, 3) := by decide +kernel
theorem dX6_lay_57 : decode cX6_lay 57 = .ok (.aload_n 0, 1) := by decide +kernel
theorem dX6_lay_58 : decode cX6_lay 58 = .ok (.getfield 35, 3) := by decide +kernel
theorem dX6_lay_61 : decode cX6_lay 61 = .ok (.getfield 226, 3) := by decide +kernel
theorem dX6_lay_64 : decode cX6_lay 64 = .ok (.bipush 10, 2) := by decide +kernel
theorem dX6_lay_66 : decode cX6_lay 66 = .ok (.if_icmp .lt 10, 3) := by decide +kernel
theorem dX6_lay_69 : decode cX6_lay 69 = .ok (.aload_n 0, 1) := by decide +kernel
theorem dX6_lay_70 : decode cX6_lay 70 = .ok (.bipush (-6), 2) := by decide +kernel
theorem dX6_lay_72 : decode cX6_lay 72 = .ok (.invokevirtual 42, 3) := by decide +kernel
theorem dX6_lay_75 : decode cX6_lay 75 = .ok (.ireturn, 1) := by decide +kernel
theorem dX6_lay_76 : decode cX6_lay 76 = .ok (.aload_n 0, 1) := by decide +kernel
theorem dX6_lay_77 : decode cX6_lay 77 = .ok (.getfield 35, 3) := by decide +kernel
theorem dX6_lay_80 : decode cX6_lay 80 = .ok (.aload 4, 2) := by decide +kernel
theorem dX6_lay_82 : decode cX6_lay 82 = .ok (.iload_n 2, 1) := by decide +kernel
theorem dX6_lay_83 : decode cX6_lay 83 = .ok (.iload_n 3, 1) := by decide +kernel
theorem dX6_lay_84 : decode cX6_lay 84 = .ok (.invokevirtual 229, 3) := by decide +kernel
theorem dX6_lay_87 : decode cX6_lay 87 = .ok (.ireturn, 1) := by decide +kernel
theorem dX6_overlap_0 : decode cX6_overlap 0 = .ok (.aload_n 0, 1) := by decide +kernel
theorem dX6_overlap_1 : decode cX6_overlap 1 = .ok (.getfield 35, 3) := by decide +kernel
theorem dX6_overlap_4 : decode cX6_overlap 4 = .ok (.invokevirtual 233, 3) := by decide +kernel
theorem dX6_overlap_7 : decode cX6_overlap 7 = .ok (.ireturn, 1) := by decide +kernel
theorem dX6_meets_0 : decode cX6_meets 0 = .ok (.aload_n 0, 1) := by decide +kernel
theorem dX6_meets_1 : decode cX6_meets 1 = .ok (.getfield 35, 3) := by decide +kernel
theorem dX6_meets_4 : decode cX6_meets 4 = .ok (.iload_n 1, 1) := by decide +kernel
theorem dX6_meets_5 : decode cX6_meets 5 = .ok (.iload_n 2, 1) := by decide +kernel
theorem dX6_meets_6 : decode cX6_meets 6 = .ok (.invokevirtual 236, 3) := by decide +kernel
theorem dX6_meets_9 : decode cX6_meets 9 = .ok (.ifCond .ne 9, 3) := by decide +kernel
theorem dX6_meets_12 : decode cX6_meets 12 = .ok (.aload_n 0, 1) := by decide +kernel
theorem dX6_meets_13 : decode cX6_meets 13 = .ok (.iconst (-1), 1) := by decide +kernel
theorem dX6_meets_14 : decode cX6_meets 14 = .ok (.invokevirtual 42, 3) := by decide +kernel
theorem dX6_meets_17 : decode cX6_meets 17 = .ok (.ireturn, 1) := by decide +kernel
theorem dX6_meets_18 : decode cX6_meets 18 = .ok (.aload_n 0, 1) := by decide +kernel
theorem dX6_meets_19 : decode cX6_meets 19 = .ok (.getfield 35, 3) := by decide +kernel
theorem dX6_meets_22 : decode cX6_meets 22 = .ok (.iload_n 1, 1) := by decide +kernel
theorem dX6_meets_23 : decode cX6_meets 23 = .ok (.iload_n 2, 1) := by decide +kernel
theorem dX6_meets_24 : decode cX6_meets 24 = .ok (.iconst 0, 1) := by decide +kernel
theorem dX6_meets_25 : decode cX6_meets 25 = .ok (.invokevirtual 238, 3) := by decide +kernel
theorem dX6_meets_28 : decode cX6_meets 28 = .ok (.ireturn, 1) := by decide +kernel
theorem dX6_leak_0 : decode cX6_leak 0 = .ok (.aload_n 0, 1) := by decide +kernel
theorem dX6_leak_1 : decode cX6_leak 1 = .ok (.getfield 35, 3) := by decide +kernel
theorem dX6_leak_4 : decode cX6_leak 4 = .ok (.invokevirtual 241, 3) := by decide +kernel
theorem dX6_leak_7 : decode cX6_leak 7 = .ok (.ireturn, 1) := by decide +kernel
theorem dX6_floorNet_0 : decode cX6_floorNet 0 = .ok (.aload_n 0, 1) := by decide +kernel
theorem dX6_floorNet_1 : decode cX6_floorNet 1 = .ok (.getfield 35, 3) := by decide +kernel
theorem dX6_floorNet_4 : decode cX6_floorNet 4 = .ok (.getfield 226, 3) := by decide +kernel
theorem dX6_floorNet_7 : decode cX6_floorNet 7 = .ok (.ifCond .eq 27, 3) := by decide +kernel
theorem dX6_floorNet_10 : decode cX6_floorNet 10 = .ok (.aload_n 0, 1) := by decide +kernel
theorem dX6_floorNet_11 : decode cX6_floorNet 11 = .ok (.getfield 35, 3) := by decide +kernel
theorem dX6_floorNet_14 : decode cX6_floorNet 14 = .ok (.invokevirtual 233, 3) := by decide +kernel
theorem dX6_floorNet_17 : decode cX6_floorNet 17 = .ok (.bipush (-9), 2) := by decide +kernel
theorem dX6_floorNet_19 : decode cX6_floorNet 19 = .ok (.if_icmp .ne 15, 3) := by decide +kernel
theorem dX6_floorNet_22 : decode cX6_floorNet 22 = .ok (.aload_n 0, 1) := by decide +kernel
theorem dX6_floorNet_23 : decode cX6_floorNet 23 = .ok (.getfield 35, 3) := by decide +kernel
theorem dX6_floorNet_26 : decode cX6_floorNet 26 = .ok (.invokevirtual 241, 3) := by decide +kernel
theorem dX6_floorNet_29 : decode cX6_floorNet 29 = .ok (.bipush (-9), 2) := by decide +kernel
theorem dX6_floorNet_31 : decode cX6_floorNet 31 = .ok (.if_icmp .eq 10, 3) := by decide +kernel
theorem dX6_floorNet_34 : decode cX6_floorNet 34 = .ok (.aload_n 0, 1) := by decide +kernel
theorem dX6_floorNet_35 : decode cX6_floorNet 35 = .ok (.bipush (-3), 2) := by decide +kernel
theorem dX6_floorNet_37 : decode cX6_floorNet 37 = .ok (.invokevirtual 42, 3) := by decide +kernel
theorem dX6_floorNet_40 : decode cX6_floorNet 40 = .ok (.ireturn, 1) := by decide +kernel
theorem dX6_floorNet_41 : decode cX6_floorNet 41 = .ok (.aload_n 0, 1) := by decide +kernel
theorem dX6_floorNet_42 : decode cX6_floorNet 42 = .ok (.getfield 35, 3) := by decide +kernel
theorem dX6_floorNet_45 : decode cX6_floorNet 45 = .ok (.getfield 226, 3) := by decide +kernel
theorem dX6_floorNet_48 : decode cX6_floorNet 48 = .ok (.bipush 8, 2) := by decide +kernel
theorem dX6_floorNet_50 : decode cX6_floorNet 50 = .ok (.if_icmp .gt 15, 3) := by decide +kernel
theorem dX6_floorNet_53 : decode cX6_floorNet 53 = .ok (.aload_n 0, 1) := by decide +kernel
theorem dX6_floorNet_54 : decode cX6_floorNet 54 = .ok (.getfield 35, 3) := by decide +kernel
theorem dX6_floorNet_57 : decode cX6_floorNet 57 = .ok (.invokevirtual 244, 3) := by decide +kernel
theorem dX6_floorNet_60 : decode cX6_floorNet 60 = .ok (.bipush 12, 2) := by decide +kernel
theorem dX6_floorNet_62 : decode cX6_floorNet 62 = .ok (.if_icmp .le 10, 3) := by decide +kernel
theorem dX6_floorNet_65 : decode cX6_floorNet 65 = .ok (.aload_n 0, 1) := by decide +kernel
theorem dX6_floorNet_66 : decode cX6_floorNet 66 = .ok (.bipush (-6), 2) := by decide +kernel
theorem dX6_floorNet_68 : decode cX6_floorNet 68 = .ok (.invokevirtual 42, 3) := by decide +kernel
theorem dX6_floorNet_71 : decode cX6_floorNet 71 = .ok (.ireturn, 1) := by decide +kernel
theorem dX6_floorNet_72 : decode cX6_floorNet 72 = .ok (.aload_n 0, 1) := by decide +kernel
theorem dX6_floorNet_73 : decode cX6_floorNet 73 = .ok (.aload_n 0, 1) := by decide +kernel
theorem dX6_floorNet_74 : decode cX6_floorNet 74 = .ok (.getfield 35, 3) := by decide +kernel
theorem dX6_floorNet_77 : decode cX6_floorNet 77 = .ok (.invokevirtual 247, 3) := by decide +kernel
theorem dX6_floorNet_80 : decode cX6_floorNet 80 = .ok (.invokevirtual 185, 3) := by decide +kernel
theorem dX6_floorNet_83 : decode cX6_floorNet 83 = .ok (.ireturn, 1) := by decide +kernel
theorem dX6_clear_0 : decode cX6_clear 0 = .ok (.aload_n 0, 1) := by decide +kernel
theorem dX6_clear_1 : decode cX6_clear 1 = .ok (.getfield 35, 3) := by decide +kernel
theorem dX6_clear_4 : decode cX6_clear 4 = .ok (.getfield 226, 3) := by decide +kernel
theorem dX6_clear_7 : decode cX6_clear 7 = .ok (.istore_n 1, 1) := by decide +kernel
theorem dX6_clear_8 : decode cX6_clear 8 = .ok (.aload_n 0, 1) := by decide +kernel
theorem dX6_clear_9 : decode cX6_clear 9 = .ok (.getfield 35, 3) := by decide +kernel
theorem dX6_clear_12 : decode cX6_clear 12 = .ok (.iconst 0, 1) := by decide +kernel
theorem dX6_clear_13 : decode cX6_clear 13 = .ok (.putfield 226, 3) := by decide +kernel
theorem dX6_clear_16 : decode cX6_clear 16 = .ok (.iload_n 1, 1) := by decide +kernel
theorem dX6_clear_17 : decode cX6_clear 17 = .ok (.ireturn, 1) := by decide +kernel
theorem dX6_count_0 : decode cX6_count 0 = .ok (.iload_n 1, 1) := by decide +kernel
theorem dX6_count_1 : decode cX6_count 1 = .ok (.tableswitch 72 0 5 #[39, 44, 49, 54, 62, 67], 39) := by decide +kernel
theorem dX6_count_40 : decode cX6_count 40 = .ok (.aload_n 0, 1) := by decide +kernel
theorem dX6_count_41 : decode cX6_count 41 = .ok (.getfield 50, 3) := by decide +kernel
theorem dX6_count_44 : decode cX6_count 44 = .ok (.ireturn, 1) := by decide +kernel
theorem dX6_count_45 : decode cX6_count 45 = .ok (.aload_n 0, 1) := by decide +kernel
theorem dX6_count_46 : decode cX6_count 46 = .ok (.getfield 117, 3) := by decide +kernel
theorem dX6_count_49 : decode cX6_count 49 = .ok (.ireturn, 1) := by decide +kernel
theorem dX6_count_50 : decode cX6_count 50 = .ok (.aload_n 0, 1) := by decide +kernel
theorem dX6_count_51 : decode cX6_count 51 = .ok (.getfield 251, 3) := by decide +kernel
theorem dX6_count_54 : decode cX6_count 54 = .ok (.ireturn, 1) := by decide +kernel
theorem dX6_count_55 : decode cX6_count 55 = .ok (.aload_n 0, 1) := by decide +kernel
theorem dX6_count_56 : decode cX6_count 56 = .ok (.getfield 35, 3) := by decide +kernel
theorem dX6_count_59 : decode cX6_count 59 = .ok (.getfield 226, 3) := by decide +kernel
theorem dX6_count_62 : decode cX6_count 62 = .ok (.ireturn, 1) := by decide +kernel
theorem dX6_count_63 : decode cX6_count 63 = .ok (.aload_n 0, 1) := by decide +kernel
theorem dX6_count_64 : decode cX6_count 64 = .ok (.getfield 46, 3) := by decide +kernel
theorem dX6_count_67 : decode cX6_count 67 = .ok (.ireturn, 1) := by decide +kernel
theorem dX6_count_68 : decode cX6_count 68 = .ok (.aload_n 0, 1) := by decide +kernel
theorem dX6_count_69 : decode cX6_count 69 = .ok (.getfield 170, 3) := by decide +kernel
theorem dX6_count_72 : decode cX6_count 72 = .ok (.ireturn, 1) := by decide +kernel
theorem dX6_count_73 : decode cX6_count 73 = .ok (.iload_n 1, 1) := by decide +kernel
theorem dX6_count_74 : decode cX6_count 74 = .ok (.bipush 11, 2) := by decide +kernel
theorem dX6_count_76 : decode cX6_count 76 = .ok (.if_icmp .lt 21, 3) := by decide +kernel
theorem dX6_count_79 : decode cX6_count 79 = .ok (.iload_n 1, 1) := by decide +kernel
theorem dX6_count_80 : decode cX6_count 80 = .ok (.bipush 16, 2) := by decide +kernel
theorem dX6_count_82 : decode cX6_count 82 = .ok (.if_icmp .gt 15, 3) := by decide +kernel
theorem dX6_count_85 : decode cX6_count 85 = .ok (.aload_n 0, 1) := by decide +kernel
theorem dX6_count_86 : decode cX6_count 86 = .ok (.getfield 39, 3) := by decide +kernel
theorem dX6_count_89 : decode cX6_count 89 = .ok (.iload_n 1, 1) := by decide +kernel
theorem dX6_count_90 : decode cX6_count 90 = .ok (.bipush 10, 2) := by decide +kernel
theorem dX6_count_92 : decode cX6_count 92 = .ok (.isub, 1) := by decide +kernel
theorem dX6_count_93 : decode cX6_count 93 = .ok (.iaload, 1) := by decide +kernel
theorem dX6_count_94 : decode cX6_count 94 = .ok (.goto 5, 3) := by decide +kernel
theorem dX6_count_97 : decode cX6_count 97 = .ok (.bipush (-9), 2) := by decide +kernel
theorem dX6_count_99 : decode cX6_count 99 = .ok (.ireturn, 1) := by decide +kernel
theorem dX6_refuse_0 : decode cX6_refuse 0 = .ok (.iload_n 1, 1) := by decide +kernel
theorem dX6_refuse_1 : decode cX6_refuse 1 = .ok (.ineg, 1) := by decide +kernel
theorem dX6_refuse_2 : decode cX6_refuse 2 = .ok (.istore_n 2, 1) := by decide +kernel
theorem dX6_refuse_3 : decode cX6_refuse 3 = .ok (.iload_n 2, 1) := by decide +kernel
theorem dX6_refuse_4 : decode cX6_refuse 4 = .ok (.ifCond .le 22, 3) := by decide +kernel
theorem dX6_refuse_7 : decode cX6_refuse 7 = .ok (.iload_n 2, 1) := by decide +kernel
theorem dX6_refuse_8 : decode cX6_refuse 8 = .ok (.aload_n 0, 1) := by decide +kernel
theorem dX6_refuse_9 : decode cX6_refuse 9 = .ok (.getfield 39, 3) := by decide +kernel
theorem dX6_refuse_12 : decode cX6_refuse 12 = .ok (.arraylength, 1) := by decide +kernel
theorem dX6_refuse_13 : decode cX6_refuse 13 = .ok (.if_icmp .ge 13, 3) := by decide +kernel
theorem dX6_refuse_16 : decode cX6_refuse 16 = .ok (.aload_n 0, 1) := by decide +kernel
theorem dX6_refuse_17 : decode cX6_refuse 17 = .ok (.getfield 39, 3) := by decide +kernel
theorem dX6_refuse_20 : decode cX6_refuse 20 = .ok (.iload_n 2, 1) := by decide +kernel
theorem dX6_refuse_21 : decode cX6_refuse 21 = .ok (.dup2, 1) := by decide +kernel
theorem dX6_refuse_22 : decode cX6_refuse 22 = .ok (.iaload, 1) := by decide +kernel
theorem dX6_refuse_23 : decode cX6_refuse 23 = .ok (.iconst 1, 1) := by decide +kernel
theorem dX6_refuse_24 : decode cX6_refuse 24 = .ok (.iadd, 1) := by decide +kernel
theorem dX6_refuse_25 : decode cX6_refuse 25 = .ok (.iastore, 1) := by decide +kernel
theorem dX6_refuse_26 : decode cX6_refuse 26 = .ok (.iload_n 1, 1) := by decide +kernel
theorem dX6_refuse_27 : decode cX6_refuse 27 = .ok (.ireturn, 1) := by decide +kernel
theorem dX6_refuseLong_0 : decode cX6_refuseLong 0 = .ok (.ldc2_w 254, 3) := by decide +kernel
theorem dX6_refuseLong_3 : decode cX6_refuseLong 3 = .ok (.aload_n 0, 1) := by decide +kernel
theorem dX6_refuseLong_4 : decode cX6_refuseLong 4 = .ok (.iload_n 1, 1) := by decide +kernel
theorem dX6_refuseLong_5 : decode cX6_refuseLong 5 = .ok (.invokevirtual 42, 3) := by decide +kernel
theorem dX6_refuseLong_8 : decode cX6_refuseLong 8 = .ok (.i2l, 1) := by decide +kernel
theorem dX6_refuseLong_9 : decode cX6_refuseLong 9 = .ok (.lsub, 1) := by decide +kernel
theorem dX6_refuseLong_10 : decode cX6_refuseLong 10 = .ok (.lreturn, 1) := by decide +kernel
theorem dX6_partAt_0 : decode cX6_partAt 0 = .ok (.iload_n 1, 1) := by decide +kernel
theorem dX6_partAt_1 : decode cX6_partAt 1 = .ok (.ifCond .lt 20, 3) := by decide +kernel
theorem dX6_partAt_4 : decode cX6_partAt 4 = .ok (.iload_n 1, 1) := by decide +kernel
theorem dX6_partAt_5 : decode cX6_partAt 5 = .ok (.aload_n 0, 1) := by decide +kernel
theorem dX6_partAt_6 : decode cX6_partAt 6 = .ok (.getfield 50, 3) := by decide +kernel
theorem dX6_partAt_9 : decode cX6_partAt 9 = .ok (.if_icmp .ge 12, 3) := by decide +kernel
theorem dX6_partAt_12 : decode cX6_partAt 12 = .ok (.aload_n 0, 1) := by decide +kernel
theorem dX6_partAt_13 : decode cX6_partAt 13 = .ok (.getfield 15, 3) := by decide +kernel
theorem dX6_partAt_16 : decode cX6_partAt 16 = .ok (.iload_n 1, 1) := by decide +kernel
theorem dX6_partAt_17 : decode cX6_partAt 17 = .ok (.aaload, 1) := by decide +kernel
theorem dX6_partAt_18 : decode cX6_partAt 18 = .ok (.goto 4, 3) := by decide +kernel
theorem dX6_partAt_21 : decode cX6_partAt 21 = .ok (.aconst_null, 1) := by decide +kernel
theorem dX6_partAt_22 : decode cX6_partAt 22 = .ok (.areturn, 1) := by decide +kernel
theorem dX6_netAt_0 : decode cX6_netAt 0 = .ok (.iload_n 1, 1) := by decide +kernel
theorem dX6_netAt_1 : decode cX6_netAt 1 = .ok (.ifCond .lt 20, 3) := by decide +kernel
theorem dX6_netAt_4 : decode cX6_netAt 4 = .ok (.iload_n 1, 1) := by decide +kernel
theorem dX6_netAt_5 : decode cX6_netAt 5 = .ok (.aload_n 0, 1) := by decide +kernel
theorem dX6_netAt_6 : decode cX6_netAt 6 = .ok (.getfield 251, 3) := by decide +kernel
theorem dX6_netAt_9 : decode cX6_netAt 9 = .ok (.if_icmp .ge 12, 3) := by decide +kernel
theorem dX6_netAt_12 : decode cX6_netAt 12 = .ok (.aload_n 0, 1) := by decide +kernel
theorem dX6_netAt_13 : decode cX6_netAt 13 = .ok (.getfield 25, 3) := by decide +kernel
theorem dX6_netAt_16 : decode cX6_netAt 16 = .ok (.iload_n 1, 1) := by decide +kernel
theorem dX6_netAt_17 : decode cX6_netAt 17 = .ok (.aaload, 1) := by decide +kernel
theorem dX6_netAt_18 : decode cX6_netAt 18 = .ok (.goto 4, 3) := by decide +kernel
theorem dX6_netAt_21 : decode cX6_netAt 21 = .ok (.aconst_null, 1) := by decide +kernel
theorem dX6_netAt_22 : decode cX6_netAt 22 = .ok (.areturn, 1) := by decide +kernel
theorem dX6_isFormula_0 : decode cX6_isFormula 0 = .ok (.iload_n 1, 1) := by decide +kernel
theorem dX6_isFormula_1 : decode cX6_isFormula 1 = .ok (.ifCond .lt 15, 3) := by decide +kernel
theorem dX6_isFormula_4 : decode cX6_isFormula 4 = .ok (.iload_n 1, 1) := by decide +kernel
theorem dX6_isFormula_5 : decode cX6_isFormula 5 = .ok (.aload_n 0, 1) := by decide +kernel
theorem dX6_isFormula_6 : decode cX6_isFormula 6 = .ok (.getfield 117, 3) := by decide +kernel
theorem dX6_isFormula_9 : decode cX6_isFormula 9 = .ok (.if_icmp .ge 7, 3) := by decide +kernel
theorem dX6_isFormula_12 : decode cX6_isFormula 12 = .ok (.iconst 1, 1) := by decide +kernel
theorem dX6_isFormula_13 : decode cX6_isFormula 13 = .ok (.goto 4, 3) := by decide +kernel
theorem dX6_isFormula_16 : decode cX6_isFormula 16 = .ok (.iconst 0, 1) := by decide +kernel
theorem dX6_isFormula_17 : decode cX6_isFormula 17 = .ok (.ireturn, 1) := by decide +kernel
theorem dX6_keep_0 : decode cX6_keep 0 = .ok (.aload_n 0, 1) := by decide +kernel
theorem dX6_keep_1 : decode cX6_keep 1 = .ok (.getfield 50, 3) := by decide +kernel
theorem dX6_keep_4 : decode cX6_keep 4 = .ok (.bipush 24, 2) := by decide +kernel
theorem dX6_keep_6 : decode cX6_keep 6 = .ok (.if_icmp .lt 10, 3) := by decide +kernel
theorem dX6_keep_9 : decode cX6_keep 9 = .ok (.aload_n 0, 1) := by decide +kernel
theorem dX6_keep_10 : decode cX6_keep 10 = .ok (.bipush (-6), 2) := by decide +kernel
theorem dX6_keep_12 : decode cX6_keep 12 = .ok (.invokevirtual 42, 3) := by decide +kernel
theorem dX6_keep_15 : decode cX6_keep 15 = .ok (.ireturn, 1) := by decide +kernel
theorem dX6_keep_16 : decode cX6_keep 16 = .ok (.aload_n 1, 1) := by decide +kernel
theorem dX6_keep_17 : decode cX6_keep 17 = .ok (.invokevirtual 256, 3) := by decide +kernel
theorem dX6_keep_20 : decode cX6_keep 20 = .ok (.aload_n 0, 1) := by decide +kernel
theorem dX6_keep_21 : decode cX6_keep 21 = .ok (.getfield 15, 3) := by decide +kernel
theorem dX6_keep_24 : decode cX6_keep 24 = .ok (.aload_n 0, 1) := by decide +kernel
theorem dX6_keep_25 : decode cX6_keep 25 = .ok (.getfield 50, 3) := by decide +kernel
theorem dX6_keep_28 : decode cX6_keep 28 = .ok (.aload_n 1, 1) := by decide +kernel
theorem dX6_keep_29 : decode cX6_keep 29 = .ok (.aastore, 1) := by decide +kernel
theorem dX6_keep_30 : decode cX6_keep 30 = .ok (.aload_n 0, 1) := by decide +kernel
theorem dX6_keep_31 : decode cX6_keep 31 = .ok (.dup, 1) := by decide +kernel
theorem dX6_keep_32 : decode cX6_keep 32 = .ok (.getfield 50, 3) := by decide +kernel
theorem dX6_keep_35 : decode cX6_keep 35 = .ok (.iconst 1, 1) := by decide +kernel
theorem dX6_keep_36 : decode cX6_keep 36 = .ok (.iadd, 1) := by decide +kernel
theorem dX6_keep_37 : decode cX6_keep 37 = .ok (.putfield 50, 3) := by decide +kernel
theorem dX6_keep_40 : decode cX6_keep 40 = .ok (.aload_n 0, 1) := by decide +kernel
theorem dX6_keep_41 : decode cX6_keep 41 = .ok (.getfield 50, 3) := by decide +kernel
theorem dX6_keep_44 : decode cX6_keep 44 = .ok (.iconst 1, 1) := by decide +kernel
theorem dX6_keep_45 : decode cX6_keep 45 = .ok (.isub, 1) := by decide +kernel
theorem dX6_keep_46 : decode cX6_keep 46 = .ok (.ireturn, 1) := by decide +kernel
theorem dX6_keepNet_0 : decode cX6_keepNet 0 = .ok (.aload_n 0, 1) := by decide +kernel
theorem dX6_keepNet_1 : decode cX6_keepNet 1 = .ok (.getfield 251, 3) := by decide +kernel
theorem dX6_keepNet_4 : decode cX6_keepNet 4 = .ok (.bipush 6, 2) := by decide +kernel
theorem dX6_keepNet_6 : decode cX6_keepNet 6 = .ok (.if_icmp .lt 10, 3) := by decide +kernel
theorem dX6_keepNet_9 : decode cX6_keepNet 9 = .ok (.aload_n 0, 1) := by decide +kernel
theorem dX6_keepNet_10 : decode cX6_keepNet 10 = .ok (.bipush (-6), 2) := by decide +kernel
theorem dX6_keepNet_12 : decode cX6_keepNet 12 = .ok (.invokevirtual 42, 3) := by decide +kernel
theorem dX6_keepNet_15 : decode cX6_keepNet 15 = .ok (.ireturn, 1) := by decide +kernel
theorem dX6_keepNet_16 : decode cX6_keepNet 16 = .ok (.aload_n 0, 1) := by decide +kernel
theorem dX6_keepNet_17 : decode cX6_keepNet 17 = .ok (.getfield 25, 3) := by decide +kernel
theorem dX6_keepNet_20 : decode cX6_keepNet 20 = .ok (.aload_n 0, 1) := by decide +kernel
theorem dX6_keepNet_21 : decode cX6_keepNet 21 = .ok (.getfield 251, 3) := by decide +kernel
theorem dX6_keepNet_24 : decode cX6_keepNet 24 = .ok (.aload_n 1, 1) := by decide +kernel
theorem dX6_keepNet_25 : decode cX6_keepNet 25 = .ok (.aastore, 1) := by decide +kernel
theorem dX6_keepNet_26 : decode cX6_keepNet 26 = .ok (.aload_n 0, 1) := by decide +kernel
theorem dX6_keepNet_27 : decode cX6_keepNet 27 = .ok (.dup, 1) := by decide +kernel
theorem dX6_keepNet_28 : decode cX6_keepNet 28 = .ok (.getfield 251, 3) := by decide +kernel
theorem dX6_keepNet_31 : decode cX6_keepNet 31 = .ok (.iconst 1, 1) := by decide +kernel
theorem dX6_keepNet_32 : decode cX6_keepNet 32 = .ok (.iadd, 1) := by decide +kernel
theorem dX6_keepNet_33 : decode cX6_keepNet 33 = .ok (.putfield 251, 3) := by decide +kernel
theorem dX6_keepNet_36 : decode cX6_keepNet 36 = .ok (.aload_n 0, 1) := by decide +kernel
theorem dX6_keepNet_37 : decode cX6_keepNet 37 = .ok (.getfield 251, 3) := by decide +kernel
theorem dX6_keepNet_40 : decode cX6_keepNet 40 = .ok (.iconst 1, 1) := by decide +kernel
theorem dX6_keepNet_41 : decode cX6_keepNet 41 = .ok (.isub, 1) := by decide +kernel
theorem dX6_keepNet_42 : decode cX6_keepNet 42 = .ok (.ireturn, 1) := by decide +kernel
theorem dX6_meaning_0 : decode cX6_meaning 0 = .ok (.aload_n 0, 1) := by decide +kernel
theorem dX6_meaning_1 : decode cX6_meaning 1 = .ok (.getfield 19, 3) := by decide +kernel
theorem dX6_meaning_4 : decode cX6_meaning 4 = .ok (.iload_n 1, 1) := by decide +kernel
theorem dX6_meaning_5 : decode cX6_meaning 5 = .ok (.laload, 1) := by decide +kernel
theorem dX6_meaning_6 : decode cX6_meaning 6 = .ok (.lconst 1, 1) := by decide +kernel
theorem dX6_meaning_7 : decode cX6_meaning 7 = .ok (.iconst 1, 1) := by decide +kernel
theorem dX6_meaning_8 : decode cX6_meaning 8 = .ok (.iload_n 2, 1) := by decide +kernel
theorem dX6_meaning_9 : decode cX6_meaning 9 = .ok (.ishl, 1) := by decide +kernel
theorem dX6_meaning_10 : decode cX6_meaning 10 = .ok (.lshl, 1) := by decide +kernel
theorem dX6_meaning_11 : decode cX6_meaning 11 = .ok (.lconst 1, 1) := by decide +kernel
theorem dX6_meaning_12 : decode cX6_meaning 12 = .ok (.lsub, 1) := by decide +kernel
theorem dX6_meaning_13 : decode cX6_meaning 13 = .ok (.land, 1) := by decide +kernel
theorem dX6_meaning_14 : decode cX6_meaning 14 = .ok (.lreturn, 1) := by decide +kernel
theorem dX6_refusalOfNetState_0 : decode cX6_refusalOfNetState 0 = .ok (.aload_n 0, 1) := by decide +kernel
theorem dX6_refusalOfNetState_1 : decode cX6_refusalOfNetState 1 = .ok (.iload_n 1, 1) := by decide +kernel
theorem dX6_refusalOfNetState_2 : decode cX6_refusalOfNetState 2 = .ok (.invokevirtual 189, 3) := by decide +kernel
theorem dX6_refusalOfNetState_5 : decode cX6_refusalOfNetState 5 = .ok (.astore_n 3, 1) := by decide +kernel
theorem dX6_refusalOfNetState_6 : decode cX6_refusalOfNetState 6 = .ok (.aload_n 3, 1) := by decide +kernel
theorem dX6_refusalOfNetState_7 : decode cX6_refusalOfNetState 7 = .ok (.ifnonnull 5, 3) := by decide +kernel
theorem dX6_refusalOfNetState_10 : decode cX6_refusalOfNetState 10 = .ok (.iconst (-1), 1) := by decide +kernel
theorem dX6_refusalOfNetState_11 : decode cX6_refusalOfNetState 11 = .ok (.ireturn, 1) := by decide +kernel
theorem dX6_refusalOfNetState_12 : decode cX6_refusalOfNetState 12 = .ok (.aload_n 3, 1) := by decide +kernel
theorem dX6_refusalOfNetState_13 : decode cX6_refusalOfNetState 13 = .ok (.invokevirtual 211, 3) := by decide +kernel
theorem dX6_refusalOfNetState_16 : decode cX6_refusalOfNetState 16 = .ok (.istore 4, 2) := by decide +kernel
theorem dX6_refusalOfNetState_18 : decode cX6_refusalOfNetState 18 = .ok (.iload 4, 2) := by decide +kernel
theorem dX6_refusalOfNetState_20 : decode cX6_refusalOfNetState 20 = .ok (.bipush 10, 2) := by decide +kernel
theorem dX6_refusalOfNetState_22 : decode cX6_refusalOfNetState 22 = .ok (.if_icmp .le 6, 3) := by decide +kernel
theorem dX6_refusalOfNetState_25 : decode cX6_refusalOfNetState 25 = .ok (.bipush (-3), 2) := by decide +kernel
theorem dX6_refusalOfNetState_27 : decode cX6_refusalOfNetState 27 = .ok (.ireturn, 1) := by decide +kernel
theorem dX6_refusalOfNetState_28 : decode cX6_refusalOfNetState 28 = .ok (.iload_n 2, 1) := by decide +kernel
theorem dX6_refusalOfNetState_29 : decode cX6_refusalOfNetState 29 = .ok (.ifCond .lt 11, 3) := by decide +kernel
theorem dX6_refusalOfNetState_32 : decode cX6_refusalOfNetState 32 = .ok (.iload_n 2, 1) := by decide +kernel
theorem dX6_refusalOfNetState_33 : decode cX6_refusalOfNetState 33 = .ok (.iconst 1, 1) := by decide +kernel
theorem dX6_refusalOfNetState_34 : decode cX6_refusalOfNetState 34 = .ok (.iload 4, 2) := by decide +kernel
theorem dX6_refusalOfNetState_36 : decode cX6_refusalOfNetState 36 = .ok (.ishl, 1) := by decide +kernel
theorem dX6_refusalOfNetState_37 : decode cX6_refusalOfNetState 37 = .ok (.if_icmp .lt 7, 3) := by decide +kernel
theorem dX6_refusalOfNetState_40 : decode cX6_refusalOfNetState 40 = .ok (.iconst (-1), 1) := by decide +kernel
theorem dX6_refusalOfNetState_41 : decode cX6_refusalOfNetState 41 = .ok (.goto 4, 3) := by decide +kernel
theorem dX6_refusalOfNetState_44 : decode cX6_refusalOfNetState 44 = .ok (.iconst 0, 1) := by decide +kernel
theorem dX6_refusalOfNetState_45 : decode cX6_refusalOfNetState 45 = .ok (.ireturn, 1) := by decide +kernel
theorem dX6_isPermutation_0 : decode cX6_isPermutation 0 = .ok (.iload_n 0, 1) := by decide +kernel
theorem dX6_isPermutation_1 : decode cX6_isPermutation 1 = .ok (.ifCond .ge 5, 3) := by decide +kernel
theorem dX6_isPermutation_4 : decode cX6_isPermutation 4 = .ok (.iconst 0, 1) := by decide +kernel
theorem dX6_isPermutation_5 : decode cX6_isPermutation 5 = .ok (.ireturn, 1) := by decide +kernel
theorem dX6_isPermutation_6 : decode cX6_isPermutation 6 = .ok (.iload_n 0, 1) := by decide +kernel
theorem dX6_isPermutation_7 : decode cX6_isPermutation 7 = .ok (.istore_n 2, 1) := by decide +kernel
theorem dX6_isPermutation_8 : decode cX6_isPermutation 8 = .ok (.iconst 0, 1) := by decide +kernel
theorem dX6_isPermutation_9 : decode cX6_isPermutation 9 = .ok (.istore_n 3, 1) := by decide +kernel
theorem dX6_isPermutation_10 : decode cX6_isPermutation 10 = .ok (.iconst 0, 1) := by decide +kernel
theorem dX6_isPermutation_11 : decode cX6_isPermutation 11 = .ok (.istore 4, 2) := by decide +kernel
theorem dX6_isPermutation_13 : decode cX6_isPermutation 13 = .ok (.iload 4, 2) := by decide +kernel
theorem dX6_isPermutation_15 : decode cX6_isPermutation 15 = .ok (.iload_n 1, 1) := by decide +kernel
theorem dX6_isPermutation_16 : decode cX6_isPermutation 16 = .ok (.if_icmp .ge 23, 3) := by decide +kernel
theorem dX6_isPermutation_19 : decode cX6_isPermutation 19 = .ok (.iload_n 3, 1) := by decide +kernel
theorem dX6_isPermutation_20 : decode cX6_isPermutation 20 = .ok (.iconst 1, 1) := by decide +kernel
theorem dX6_isPermutation_21 : decode cX6_isPermutation 21 = .ok (.iload_n 2, 1) := by decide +kernel
theorem dX6_isPermutation_22 : decode cX6_isPermutation 22 = .ok (.bipush 10, 2) := by decide +kernel
theorem dX6_isPermutation_24 : decode cX6_isPermutation 24 = .ok (.irem, 1) := by decide +kernel
theorem dX6_isPermutation_25 : decode cX6_isPermutation 25 = .ok (.ishl, 1) := by decide +kernel
theorem dX6_isPermutation_26 : decode cX6_isPermutation 26 = .ok (.ior, 1) := by decide +kernel
theorem dX6_isPermutation_27 : decode cX6_isPermutation 27 = .ok (.istore_n 3, 1) := by decide +kernel
theorem dX6_isPermutation_28 : decode cX6_isPermutation 28 = .ok (.iload_n 2, 1) := by decide +kernel
theorem dX6_isPermutation_29 : decode cX6_isPermutation 29 = .ok (.bipush 10, 2) := by decide +kernel
theorem dX6_isPermutation_31 : decode cX6_isPermutation 31 = .ok (.idiv, 1) := by decide +kernel
theorem dX6_isPermutation_32 : decode cX6_isPermutation 32 = .ok (.istore_n 2, 1) := by decide +kernel
theorem dX6_isPermutation_33 : decode cX6_isPermutation 33 = .ok (.iinc 4 1, 3) := by decide +kernel
theorem dX6_isPermutation_36 : decode cX6_isPermutation 36 = .ok (.goto (-23), 3) := by decide +kernel
theorem dX6_isPermutation_39 : decode cX6_isPermutation 39 = .ok (.iload_n 2, 1) := by decide +kernel
theorem dX6_isPermutation_40 : decode cX6_isPermutation 40 = .ok (.ifCond .ne 16, 3) := by decide +kernel
theorem dX6_isPermutation_43 : decode cX6_isPermutation 43 = .ok (.iload_n 3, 1) := by decide +kernel
theorem dX6_isPermutation_44 : decode cX6_isPermutation 44 = .ok (.iconst 1, 1) := by decide +kernel
theorem dX6_isPermutation_45 : decode cX6_isPermutation 45 = .ok (.iload_n 1, 1) := by decide +kernel
theorem dX6_isPermutation_46 : decode cX6_isPermutation 46 = .ok (.ishl, 1) := by decide +kernel
theorem dX6_isPermutation_47 : decode cX6_isPermutation 47 = .ok (.iconst 1, 1) := by decide +kernel
theorem dX6_isPermutation_48 : decode cX6_isPermutation 48 = .ok (.isub, 1) := by decide +kernel
theorem dX6_isPermutation_49 : decode cX6_isPermutation 49 = .ok (.if_icmp .ne 7, 3) := by decide +kernel
theorem dX6_isPermutation_52 : decode cX6_isPermutation 52 = .ok (.iconst 1, 1) := by decide +kernel
theorem dX6_isPermutation_53 : decode cX6_isPermutation 53 = .ok (.goto 4, 3) := by decide +kernel
theorem dX6_isPermutation_56 : decode cX6_isPermutation 56 = .ok (.iconst 0, 1) := by decide +kernel
theorem dX6_isPermutation_57 : decode cX6_isPermutation 57 = .ok (.ireturn, 1) := by decide +kernel
theorem dX6_rowStandsOn_0 : decode cX6_rowStandsOn 0 = .ok (.iconst 0, 1) := by decide +kernel
theorem dX6_rowStandsOn_1 : decode cX6_rowStandsOn 1 = .ok (.istore_n 3, 1) := by decide +kernel
theorem dX6_rowStandsOn_2 : decode cX6_rowStandsOn 2 = .ok (.iconst 0, 1) := by decide +kernel
theorem dX6_rowStandsOn_3 : decode cX6_rowStandsOn 3 = .ok (.istore 4, 2) := by decide +kernel
theorem dX6_rowStandsOn_5 : decode cX6_rowStandsOn 5 = .ok (.iload 4, 2) := by decide +kernel
theorem dX6_rowStandsOn_7 : decode cX6_rowStandsOn 7 = .ok (.aload_n 0, 1) := by decide +kernel
theorem dX6_rowStandsOn_8 : decode cX6_rowStandsOn 8 = .ok (.getfield 170, 3) := by decide +kernel
theorem dX6_rowStandsOn_11 : decode cX6_rowStandsOn 11 = .ok (.if_icmp .ge 69, 3) := by decide +kernel
theorem dX6_rowStandsOn_14 : decode cX6_rowStandsOn 14 = .ok (.aload_n 0, 1) := by decide +kernel
theorem dX6_rowStandsOn_15 : decode cX6_rowStandsOn 15 = .ok (.getfield 29, 3) := by decide +kernel
theorem dX6_rowStandsOn_18 : decode cX6_rowStandsOn 18 = .ok (.iload 4, 2) := by decide +kernel
theorem dX6_rowStandsOn_20 : decode cX6_rowStandsOn 20 = .ok (.iaload, 1) := by decide +kernel
theorem dX6_rowStandsOn_21 : decode cX6_rowStandsOn 21 = .ok (.bipush 10, 2) := by decide +kernel
theorem dX6_rowStandsOn_23 : decode cX6_rowStandsOn 23 = .ok (.idiv, 1) := by decide +kernel
theorem dX6_rowStandsOn_24 : decode cX6_rowStandsOn 24 = .ok (.istore 5, 2) := by decide +kernel
theorem dX6_rowStandsOn_26 : decode cX6_rowStandsOn 26 = .ok (.aload_n 0, 1) := by decide +kernel
theorem dX6_rowStandsOn_27 : decode cX6_rowStandsOn 27 = .ok (.getfield 29, 3) := by decide +kernel
theorem dX6_rowStandsOn_30 : decode cX6_rowStandsOn 30 = .ok (.iload 4, 2) := by decide +kernel
theorem dX6_rowStandsOn_32 : decode cX6_rowStandsOn 32 = .ok (.iaload, 1) := by decide +kernel
theorem dX6_rowStandsOn_33 : decode cX6_rowStandsOn 33 = .ok (.bipush 10, 2) := by decide +kernel
theorem dX6_rowStandsOn_35 : decode cX6_rowStandsOn 35 = .ok (.irem, 1) := by decide +kernel
theorem dX6_rowStandsOn_36 : decode cX6_rowStandsOn 36 = .ok (.istore 6, 2) := by decide +kernel
theorem dX6_rowStandsOn_38 : decode cX6_rowStandsOn 38 = .ok (.iload 5, 2) := by decide +kernel
theorem dX6_rowStandsOn_40 : decode cX6_rowStandsOn 40 = .ok (.iload_n 1, 1) := by decide +kernel
theorem dX6_rowStandsOn_41 : decode cX6_rowStandsOn 41 = .ok (.if_icmp .ge 21, 3) := by decide +kernel
theorem dX6_rowStandsOn_44 : decode cX6_rowStandsOn 44 = .ok (.iload 6, 2) := by decide +kernel
theorem dX6_rowStandsOn_46 : decode cX6_rowStandsOn 46 = .ok (.iload_n 2, 1) := by decide +kernel
theorem dX6_rowStandsOn_47 : decode cX6_rowStandsOn 47 = .ok (.if_icmp .ge 15, 3) := by decide +kernel
theorem dX6_rowStandsOn_50 : decode cX6_rowStandsOn 50 = .ok (.iload_n 3, 1) := by decide +kernel
theorem dX6_rowStandsOn_51 : decode cX6_rowStandsOn 51 = .ok (.iload 5, 2) := by decide +kernel
theorem dX6_rowStandsOn_53 : decode cX6_rowStandsOn 53 = .ok (.iload 6, 2) := by decide +kernel
theorem dX6_rowStandsOn_55 : decode cX6_rowStandsOn 55 = .ok (.invokestatic 150, 3) := by decide +kernel
theorem dX6_rowStandsOn_58 : decode cX6_rowStandsOn 58 = .ok (.iand, 1) := by decide +kernel
theorem dX6_rowStandsOn_59 : decode cX6_rowStandsOn 59 = .ok (.ifCond .eq 5, 3) := by decide +kernel
theorem dX6_rowStandsOn_62 : decode cX6_rowStandsOn 62 = .ok (.iconst 0, 1) := by decide +kernel
theorem dX6_rowStandsOn_63 : decode cX6_rowStandsOn 63 = .ok (.ireturn, 1) := by decide +kernel
theorem dX6_rowStandsOn_64 : decode cX6_rowStandsOn 64 = .ok (.iload_n 3, 1) := by decide +kernel
theorem dX6_rowStandsOn_65 : decode cX6_rowStandsOn 65 = .ok (.iload 5, 2) := by decide +kernel
theorem dX6_rowStandsOn_67 : decode cX6_rowStandsOn 67 = .ok (.iload 6, 2) := by decide +kernel
theorem dX6_rowStandsOn_69 : decode cX6_rowStandsOn 69 = .ok (.invokestatic 150, 3) := by decide +kernel
theorem dX6_rowStandsOn_72 : decode cX6_rowStandsOn 72 = .ok (.ior, 1) := by decide +kernel
theorem dX6_rowStandsOn_73 : decode cX6_rowStandsOn 73 = .ok (.istore_n 3, 1) := by decide +kernel
theorem dX6_rowStandsOn_74 : decode cX6_rowStandsOn 74 = .ok (.iinc 4 1, 3) := by decide +kernel
theorem dX6_rowStandsOn_77 : decode cX6_rowStandsOn 77 = .ok (.goto (-72), 3) := by decide +kernel
theorem dX6_rowStandsOn_80 : decode cX6_rowStandsOn 80 = .ok (.aload_n 0, 1) := by decide +kernel
theorem dX6_rowStandsOn_81 : decode cX6_rowStandsOn 81 = .ok (.getfield 170, 3) := by decide +kernel
theorem dX6_rowStandsOn_84 : decode cX6_rowStandsOn 84 = .ok (.ifCond .le 7, 3) := by decide +kernel
theorem dX6_rowStandsOn_87 : decode cX6_rowStandsOn 87 = .ok (.iconst 1, 1) := by decide +kernel
theorem dX6_rowStandsOn_88 : decode cX6_rowStandsOn 88 = .ok (.goto 4, 3) := by decide +kernel
theorem dX6_rowStandsOn_91 : decode cX6_rowStandsOn 91 = .ok (.iconst 0, 1) := by decide +kernel
theorem dX6_rowStandsOn_92 : decode cX6_rowStandsOn 92 = .ok (.ireturn, 1) := by decide +kernel
theorem dX6_boardOfRow_0 : decode cX6_boardOfRow 0 = .ok (.new 13, 3) := by decide +kernel
theorem dX6_boardOfRow_3 : decode cX6_boardOfRow 3 = .ok (.dup, 1) := by decide +kernel
theorem dX6_boardOfRow_4 : decode cX6_boardOfRow 4 = .ok (.iload_n 1, 1) := by decide +kernel
theorem dX6_boardOfRow_5 : decode cX6_boardOfRow 5 = .ok (.iload_n 2, 1) := by decide +kernel
theorem dX6_boardOfRow_6 : decode cX6_boardOfRow 6 = .ok (.invokespecial 259, 3) := by decide +kernel
theorem dX6_boardOfRow_9 : decode cX6_boardOfRow 9 = .ok (.astore_n 3, 1) := by decide +kernel
theorem dX6_boardOfRow_10 : decode cX6_boardOfRow 10 = .ok (.iconst 0, 1) := by decide +kernel
theorem dX6_boardOfRow_11 : decode cX6_boardOfRow 11 = .ok (.istore 4, 2) := by decide +kernel
theorem dX6_boardOfRow_13 : decode cX6_boardOfRow 13 = .ok (.iconst 0, 1) := by decide +kernel
theorem dX6_boardOfRow_14 : decode cX6_boardOfRow 14 = .ok (.istore 5, 2) := by decide +kernel
theorem dX6_boardOfRow_16 : decode cX6_boardOfRow 16 = .ok (.iload 5, 2) := by decide +kernel
theorem dX6_boardOfRow_18 : decode cX6_boardOfRow 18 = .ok (.aload_n 0, 1) := by decide +kernel
theorem dX6_boardOfRow_19 : decode cX6_boardOfRow 19 = .ok (.getfield 170, 3) := by decide +kernel
theorem dX6_boardOfRow_22 : decode cX6_boardOfRow 22 = .ok (.if_icmp .ge 66, 3) := by decide +kernel
theorem dX6_boardOfRow_25 : decode cX6_boardOfRow 25 = .ok (.aload_n 3, 1) := by decide +kernel
theorem dX6_boardOfRow_26 : decode cX6_boardOfRow 26 = .ok (.aload_n 0, 1) := by decide +kernel
theorem dX6_boardOfRow_27 : decode cX6_boardOfRow 27 = .ok (.getfield 29, 3) := by decide +kernel
theorem dX6_boardOfRow_30 : decode cX6_boardOfRow 30 = .ok (.iload 5, 2) := by decide +kernel
theorem dX6_boardOfRow_32 : decode cX6_boardOfRow 32 = .ok (.iaload, 1) := by decide +kernel
theorem dX6_boardOfRow_33 : decode cX6_boardOfRow 33 = .ok (.bipush 10, 2) := by decide +kernel
theorem dX6_boardOfRow_35 : decode cX6_boardOfRow 35 = .ok (.idiv, 1) := by decide +kernel
theorem dX6_boardOfRow_36 : decode cX6_boardOfRow 36 = .ok (.aload_n 0, 1) := by decide +kernel
theorem dX6_boardOfRow_37 : decode cX6_boardOfRow 37 = .ok (.getfield 29, 3) := by decide +kernel
theorem dX6_boardOfRow_40 : decode cX6_boardOfRow 40 = .ok (.iload 5, 2) := by decide +kernel
theorem dX6_boardOfRow_42 : decode cX6_boardOfRow 42 = .ok (.iaload, 1) := by decide +kernel
theorem dX6_boardOfRow_43 : decode cX6_boardOfRow 43 = .ok (.bipush 10, 2) := by decide +kernel
theorem dX6_boardOfRow_45 : decode cX6_boardOfRow 45 = .ok (.irem, 1) := by decide +kernel
theorem dX6_boardOfRow_46 : decode cX6_boardOfRow 46 = .ok (.bipush 10, 2) := by decide +kernel
theorem dX6_boardOfRow_48 : decode cX6_boardOfRow 48 = .ok (.iload 5, 2) := by decide +kernel
theorem dX6_boardOfRow_50 : decode cX6_boardOfRow 50 = .ok (.iadd, 1) := by decide +kernel
theorem dX6_boardOfRow_51 : decode cX6_boardOfRow 51 = .ok (.invokevirtual 262, 3) := by decide +kernel
theorem dX6_boardOfRow_54 : decode cX6_boardOfRow 54 = .ok (.iload 4, 2) := by decide +kernel
theorem dX6_boardOfRow_56 : decode cX6_boardOfRow 56 = .ok (.aload_n 0, 1) := by decide +kernel
theorem dX6_boardOfRow_57 : decode cX6_boardOfRow 57 = .ok (.getfield 29, 3) := by decide +kernel
theorem dX6_boardOfRow_60 : decode cX6_boardOfRow 60 = .ok (.iload 5, 2) := by decide +kernel
theorem dX6_boardOfRow_62 : decode cX6_boardOfRow 62 = .ok (.iaload, 1) := by decide +kernel
theorem dX6_boardOfRow_63 : decode cX6_boardOfRow 63 = .ok (.bipush 10, 2) := by decide +kernel
theorem dX6_boardOfRow_65 : decode cX6_boardOfRow 65 = .ok (.idiv, 1) := by decide +kernel
theorem dX6_boardOfRow_66 : decode cX6_boardOfRow 66 = .ok (.aload_n 0, 1) := by decide +kernel
theorem dX6_boardOfRow_67 : decode cX6_boardOfRow 67 = .ok (.getfield 29, 3) := by decide +kernel
theorem dX6_boardOfRow_70 : decode cX6_boardOfRow 70 = .ok (.iload 5, 2) := by decide +kernel
theorem dX6_boardOfRow_72 : decode cX6_boardOfRow 72 = .ok (.iaload, 1) := by decide +kernel
theorem dX6_boardOfRow_73 : decode cX6_boardOfRow 73 = .ok (.bipush 10, 2) := by decide +kernel
theorem dX6_boardOfRow_75 : decode cX6_boardOfRow 75 = .ok (.irem, 1) := by decide +kernel
theorem dX6_boardOfRow_76 : decode cX6_boardOfRow 76 = .ok (.invokestatic 150, 3) := by decide +kernel
theorem dX6_boardOfRow_79 : decode cX6_boardOfRow 79 = .ok (.ior, 1) := by decide +kernel
theorem dX6_boardOfRow_80 : decode cX6_boardOfRow 80 = .ok (.istore 4, 2) := by decide +kernel
theorem dX6_boardOfRow_82 : decode cX6_boardOfRow 82 = .ok (.iinc 5 1, 3) := by decide +kernel
theorem dX6_boardOfRow_85 : decode cX6_boardOfRow 85 = .ok (.goto (-69), 3) := by decide +kernel
theorem dX6_boardOfRow_88 : decode cX6_boardOfRow 88 = .ok (.iconst 0, 1) := by decide +kernel
theorem dX6_boardOfRow_89 : decode cX6_boardOfRow 89 = .ok (.istore 5, 2) := by decide +kernel
theorem dX6_boardOfRow_91 : decode cX6_boardOfRow 91 = .ok (.iload 5, 2) := by decide +kernel
theorem dX6_boardOfRow_93 : decode cX6_boardOfRow 93 = .ok (.iload_n 2, 1) := by decide +kernel
theorem dX6_boardOfRow_94 : decode cX6_boardOfRow 94 = .ok (.if_icmp .ge 46, 3) := by decide +kernel
theorem dX6_boardOfRow_97 : decode cX6_boardOfRow 97 = .ok (.iconst 0, 1) := by decide +kernel
theorem dX6_boardOfRow_98 : decode cX6_boardOfRow 98 = .ok (.istore 6, 2) := by decide +kernel
theorem dX6_boardOfRow_100 : decode cX6_boardOfRow 100 = .ok (.iload 6, 2) := by decide +kernel
theorem dX6_boardOfRow_102 : decode cX6_boardOfRow 102 = .ok (.iload_n 1, 1) := by decide +kernel
theorem dX6_boardOfRow_103 : decode cX6_boardOfRow 103 = .ok (.if_icmp .ge 31, 3) := by decide +kernel
theorem dX6_boardOfRow_106 : decode cX6_boardOfRow 106 = .ok (.iload 4, 2) := by decide +kernel
theorem dX6_boardOfRow_108 : decode cX6_boardOfRow 108 = .ok (.iload 6, 2) := by decide +kernel
theorem dX6_boardOfRow_110 : decode cX6_boardOfRow 110 = .ok (.iload 5, 2) := by decide +kernel
theorem dX6_boardOfRow_112 : decode cX6_boardOfRow 112 = .ok (.invokestatic 150, 3) := by decide +kernel
theorem dX6_boardOfRow_115 : decode cX6_boardOfRow 115 = .ok (.iand, 1) := by decide +kernel
theorem dX6_boardOfRow_116 : decode cX6_boardOfRow 116 = .ok (.ifCond .ne 12, 3) := by decide +kernel
theorem dX6_boardOfRow_119 : decode cX6_boardOfRow 119 = .ok (.aload_n 3, 1) := by decide +kernel
theorem dX6_boardOfRow_120 : decode cX6_boardOfRow 120 = .ok (.iload 6, 2) := by decide +kernel
theorem dX6_boardOfRow_122 : decode cX6_boardOfRow 122 = .ok (.iload 5, 2) := by decide +kernel
theorem dX6_boardOfRow_124 : decode cX6_boardOfRow 124 = .ok (.iconst 1, 1) := by decide +kernel
theorem dX6_boardOfRow_125 : decode cX6_boardOfRow 125 = .ok (.invokevirtual 262, 3) := by decide +kernel
theorem dX6_boardOfRow_128 : decode cX6_boardOfRow 128 = .ok (.iinc 6 1, 3) := by decide +kernel
theorem dX6_boardOfRow_131 : decode cX6_boardOfRow 131 = .ok (.goto (-31), 3) := by decide +kernel
theorem dX6_boardOfRow_134 : decode cX6_boardOfRow 134 = .ok (.iinc 5 1, 3) := by decide +kernel
theorem dX6_boardOfRow_137 : decode cX6_boardOfRow 137 = .ok (.goto (-46), 3) := by decide +kernel
theorem dX6_boardOfRow_140 : decode cX6_boardOfRow 140 = .ok (.aload_n 3, 1) := by decide +kernel
theorem dX6_boardOfRow_141 : decode cX6_boardOfRow 141 = .ok (.areturn, 1) := by decide +kernel
theorem dX6_firstThatLets_0 : decode cX6_firstThatLets 0 = .ok (.aload_n 0, 1) := by decide +kernel
theorem dX6_firstThatLets_1 : decode cX6_firstThatLets 1 = .ok (.getfield 80, 3) := by decide +kernel
theorem dX6_firstThatLets_4 : decode cX6_firstThatLets 4 = .ok (.istore_n 3, 1) := by decide +kernel
theorem dX6_firstThatLets_5 : decode cX6_firstThatLets 5 = .ok (.iconst 0, 1) := by decide +kernel
theorem dX6_firstThatLets_6 : decode cX6_firstThatLets 6 = .ok (.istore 4, 2) := by decide +kernel
theorem dX6_firstThatLets_8 : decode cX6_firstThatLets 8 = .ok (.iconst 1, 1) := by decide +kernel
theorem dX6_firstThatLets_9 : decode cX6_firstThatLets 9 = .ok (.iload_n 3, 1) := by decide +kernel
theorem dX6_firstThatLets_10 : decode cX6_firstThatLets 10 = .ok (.invokestatic 83, 3) := by decide +kernel
theorem dX6_firstThatLets_13 : decode cX6_firstThatLets 13 = .ok (.ishl, 1) := by decide +kernel
theorem dX6_firstThatLets_14 : decode cX6_firstThatLets 14 = .ok (.istore 5, 2) := by decide +kernel
theorem dX6_firstThatLets_16 : decode cX6_firstThatLets 16 = .ok (.iconst 0, 1) := by decide +kernel
theorem dX6_firstThatLets_17 : decode cX6_firstThatLets 17 = .ok (.istore 6, 2) := by decide +kernel
theorem dX6_firstThatLets_19 : decode cX6_firstThatLets 19 = .ok (.iload 6, 2) := by decide +kernel
theorem dX6_firstThatLets_21 : decode cX6_firstThatLets 21 = .ok (.iload 5, 2) := by decide +kernel
theorem dX6_firstThatLets_23 : decode cX6_firstThatLets 23 = .ok (.if_icmp .ge 39, 3) := by decide +kernel
theorem dX6_firstThatLets_26 : decode cX6_firstThatLets 26 = .ok (.aload_n 0, 1) := by decide +kernel
theorem dX6_firstThatLets_27 : decode cX6_firstThatLets 27 = .ok (.iload_n 3, 1) := by decide +kernel
theorem dX6_firstThatLets_28 : decode cX6_firstThatLets 28 = .ok (.iload 4, 2) := by decide +kernel
theorem dX6_firstThatLets_30 : decode cX6_firstThatLets 30 = .ok (.iconst (-1), 1) := by decide +kernel
theorem dX6_firstThatLets_31 : decode cX6_firstThatLets 31 = .ok (.ixor, 1) := by decide +kernel
theorem dX6_firstThatLets_32 : decode cX6_firstThatLets 32 = .ok (.iand, 1) := by decide +kernel
theorem dX6_firstThatLets_33 : decode cX6_firstThatLets 33 = .ok (.invokevirtual 266, 3) := by decide +kernel
theorem dX6_firstThatLets_36 : decode cX6_firstThatLets 36 = .ok (.lload_n 1, 1) := by decide +kernel
theorem dX6_firstThatLets_37 : decode cX6_firstThatLets 37 = .ok (.lcmp, 1) := by decide +kernel
theorem dX6_firstThatLets_38 : decode cX6_firstThatLets 38 = .ok (.ifCond .ne 10, 3) := by decide +kernel
theorem dX6_firstThatLets_41 : decode cX6_firstThatLets 41 = .ok (.aload_n 0, 1) := by decide +kernel
theorem dX6_firstThatLets_42 : decode cX6_firstThatLets 42 = .ok (.iload 4, 2) := by decide +kernel
theorem dX6_firstThatLets_44 : decode cX6_firstThatLets 44 = .ok (.invokevirtual 153, 3) := by decide +kernel
theorem dX6_firstThatLets_47 : decode cX6_firstThatLets 47 = .ok (.areturn, 1) := by decide +kernel
theorem dX6_firstThatLets_48 : decode cX6_firstThatLets 48 = .ok (.iload 4, 2) := by decide +kernel
theorem dX6_firstThatLets_50 : decode cX6_firstThatLets 50 = .ok (.iload_n 3, 1) := by decide +kernel
theorem dX6_firstThatLets_51 : decode cX6_firstThatLets 51 = .ok (.isub, 1) := by decide +kernel
theorem dX6_firstThatLets_52 : decode cX6_firstThatLets 52 = .ok (.iload_n 3, 1) := by decide +kernel
theorem dX6_firstThatLets_53 : decode cX6_firstThatLets 53 = .ok (.iand, 1) := by decide +kernel
theorem dX6_firstThatLets_54 : decode cX6_firstThatLets 54 = .ok (.istore 4, 2) := by decide +kernel
theorem dX6_firstThatLets_56 : decode cX6_firstThatLets 56 = .ok (.iinc 6 1, 3) := by decide +kernel
theorem dX6_firstThatLets_59 : decode cX6_firstThatLets 59 = .ok (.goto (-40), 3) := by decide +kernel
theorem dX6_firstThatLets_62 : decode cX6_firstThatLets 62 = .ok (.aconst_null, 1) := by decide +kernel
theorem dX6_firstThatLets_63 : decode cX6_firstThatLets 63 = .ok (.areturn, 1) := by decide +kernel
theorem dX7_init_0 : decode cX7_init 0 = .ok (.aload_n 0, 1) := by decide +kernel
theorem dX7_init_1 : decode cX7_init 1 = .ok (.invokespecial 1, 3) := by decide +kernel
theorem dX7_init_4 : decode cX7_init 4 = .ok (.aload_n 0, 1) := by decide +kernel
theorem dX7_init_5 : decode cX7_init 5 = .ok (.bipush 7, 2) := by decide +kernel
theorem dX7_init_7 : decode cX7_init 7 = .ok (.newarray .int, 2) := by decide +kernel
theorem dX7_init_9 : decode cX7_init 9 = .ok (.putfield 7, 3) := by decide +kernel
theorem dX7_init_12 : decode cX7_init 12 = .ok (.aload_n 0, 1) := by decide +kernel
theorem dX7_init_13 : decode cX7_init 13 = .ok (.bipush 25, 2) := by decide +kernel
theorem dX7_init_15 : decode cX7_init 15 = .ok (.newarray .int, 2) := by decide +kernel
theorem dX7_init_17 : decode cX7_init 17 = .ok (.putfield 13, 3) := by decide +kernel
theorem dX7_init_20 : decode cX7_init 20 = .ok (.aload_n 0, 1) := by decide +kernel
theorem dX7_init_21 : decode cX7_init 21 = .ok (.bipush 25, 2) := by decide +kernel
theorem dX7_init_23 : decode cX7_init 23 = .ok (.newarray .int, 2) := by decide +kernel
theorem dX7_init_25 : decode cX7_init 25 = .ok (.putfield 16, 3) := by decide +kernel
theorem dX7_init_28 : decode cX7_init 28 = .ok (.aload_n 0, 1) := by decide +kernel
theorem dX7_init_29 : decode cX7_init 29 = .ok (.bipush 25, 2) := by decide +kernel
theorem dX7_init_31 : decode cX7_init 31 = .ok (.newarray .int, 2) := by decide +kernel
theorem dX7_init_33 : decode cX7_init 33 = .ok (.putfield 19, 3) := by decide +kernel
theorem dX7_init_36 : decode cX7_init 36 = .ok (.aload_n 0, 1) := by decide +kernel
theorem dX7_init_37 : decode cX7_init 37 = .ok (.sipush 500, 3) := by decide +kernel
theorem dX7_init_40 : decode cX7_init 40 = .ok (.newarray .int, 2) := by decide +kernel
theorem dX7_init_42 : decode cX7_init 42 = .ok (.putfield 22, 3) := by decide +kernel
theorem dX7_init_45 : decode cX7_init 45 = .ok (.aload_n 0, 1) := by decide +kernel
theorem dX7_init_46 : decode cX7_init 46 = .ok (.sipush 800, 3) := by decide +kernel
theorem dX7_init_49 : decode cX7_init 49 = .ok (.newarray .int, 2) := by decide +kernel
theorem dX7_init_51 : decode cX7_init 51 = .ok (.putfield 25, 3) := by decide +kernel
theorem dX7_init_54 : decode cX7_init 54 = .ok (.aload_n 0, 1) := by decide +kernel
theorem dX7_init_55 : decode cX7_init 55 = .ok (.bipush 20, 2) := by decide +kernel
theorem dX7_init_57 : decode cX7_init 57 = .ok (.newarray .int, 2) := by decide +kernel
theorem dX7_init_59 : decode cX7_init 59 = .ok (.putfield 28, 3) := by decide +kernel
theorem dX7_init_62 : decode cX7_init 62 = .ok (.aload_n 0, 1) := by decide +kernel
theorem dX7_init_63 : decode cX7_init 63 = .ok (.bipush 6, 2) := by decide +kernel
theorem dX7_init_65 : decode cX7_init 65 = .ok (.newarray .int, 2) := by decide +kernel
theorem dX7_init_67 : decode cX7_init 67 = .ok (.putfield 31, 3) := by decide +kernel
theorem dX7_init_70 : decode cX7_init 70 = .ok (.aload_n 0, 1) := by decide +kernel
theorem dX7_init_71 : decode cX7_init 71 = .ok (.bipush 6, 2) := by decide +kernel
theorem dX7_init_73 : decode cX7_init 73 = .ok (.newarray .int, 2) := by decide +kernel
theorem dX7_init_75 : decode cX7_init 75 = .ok (.putfield 34, 3) := by decide +kernel
theorem dX7_init_78 : decode cX7_init 78 = .ok (.aload_n 0, 1) := by decide +kernel
theorem dX7_init_79 : decode cX7_init 79 = .ok (.bipush 48, 2) := by decide +kernel
theorem dX7_init_81 : decode cX7_init 81 = .ok (.newarray .int, 2) := by decide +kernel
theorem dX7_init_83 : decode cX7_init 83 = .ok (.putfield 37, 3) := by decide +kernel
theorem dX7_init_86 : decode cX7_init 86 = .ok (.aload_n 0, 1) := by decide +kernel
theorem dX7_init_87 : decode cX7_init 87 = .ok (.bipush 72, 2) := by decide +kernel
theorem dX7_init_89 : decode cX7_init 89 = .ok (.newarray .int, 2) := by decide +kernel
theorem dX7_init_91 : decode cX7_init 91 = .ok (.putfield 40, 3) := by decide +kernel
theorem dX7_init_94 : decode cX7_init 94 = .ok (.aload_n 0, 1) := by decide +kernel
theorem dX7_init_95 : decode cX7_init 95 = .ok (.bipush 72, 2) := by decide +kernel
theorem dX7_init_97 : decode cX7_init 97 = .ok (.newarray .int, 2) := by decide +kernel
theorem dX7_init_99 : decode cX7_init 99 = .ok (.putfield 43, 3) := by decide +kernel
theorem dX7_init_102 : decode cX7_init 102 = .ok (.aload_n 0, 1) := by decide +kernel
theorem dX7_init_103 : decode cX7_init 103 = .ok (.bipush 10, 2) := by decide +kernel
theorem dX7_init_105 : decode cX7_init 105 = .ok (.newarray .int, 2) := by decide +kernel
theorem dX7_init_107 : decode cX7_init 107 = .ok (.putfield 46, 3) := by decide +kernel
theorem dX7_init_110 : decode cX7_init 110 = .ok (.aload_n 0, 1) := by decide +kernel
theorem dX7_init_111 : decode cX7_init 111 = .ok (.bipush 10, 2) := by decide +kernel
theorem dX7_init_113 : decode cX7_init 113 = .ok (.newarray .int, 2) := by decide +kernel
theorem dX7_init_115 : decode cX7_init 115 = .ok (.putfield 49, 3) := by decide +kernel
theorem dX7_init_118 : decode cX7_init 118 = .ok (.aload_n 0, 1) := by decide +kernel
theorem dX7_init_119 : decode cX7_init 119 = .ok (.bipush 10, 2) := by decide +kernel
theorem dX7_init_121 : decode cX7_init 121 = .ok (.newarray .int, 2) := by decide +kernel
theorem dX7_init_123 : decode cX7_init 123 = .ok (.putfield 52, 3) := by decide +kernel
theorem dX7_init_126 : decode cX7_init 126 = .ok (.aload_n 0, 1) := by decide +kernel
theorem dX7_init_127 : decode cX7_init 127 = .ok (.iconst 3, 1) := by decide +kernel
theorem dX7_init_128 : decode cX7_init 128 = .ok (.newarray .int, 2) := by decide +kernel
theorem dX7_init_130 : decode cX7_init 130 = .ok (.putfield 55, 3) := by decide +kernel
theorem dX7_init_133 : decode cX7_init 133 = .ok (.aload_n 0, 1) := by decide +kernel
theorem dX7_init_134 : decode cX7_init 134 = .ok (.bipush 40, 2) := by decide +kernel
theorem dX7_init_136 : decode cX7_init 136 = .ok (.newarray .int, 2) := by decide +kernel
theorem dX7_init_138 : decode cX7_init 138 = .ok (.putfield 58, 3) := by decide +kernel
theorem dX7_init_141 : decode cX7_init 141 = .ok (.aload_n 0, 1) := by decide +kernel
theorem dX7_init_142 : decode cX7_init 142 = .ok (.aload_n 0, 1) := by decide +kernel
theorem dX7_init_143 : decode cX7_init 143 = .ok (.getfield 58, 3) := by decide +kernel
theorem dX7_init_146 : decode cX7_init 146 = .ok (.putfield 61, 3) := by decide +kernel
theorem dX7_init_149 : decode cX7_init 149 = .ok (.aload_n 0, 1) := by decide +kernel
theorem dX7_init_150 : decode cX7_init 150 = .ok (.bipush 8, 2) := by decide +kernel
theorem dX7_init_152 : decode cX7_init 152 = .ok (.newarray .int, 2) := by decide +kernel
theorem dX7_init_154 : decode cX7_init 154 = .ok (.putfield 64, 3) := by decide +kernel
theorem dX7_init_157 : decode cX7_init 157 = .ok (.aload_n 0, 1) := by decide +kernel
theorem dX7_init_158 : decode cX7_init 158 = .ok (.sipush 256, 3) := by decide +kernel
theorem dX7_init_161 : decode cX7_init 161 = .ok (.newarray .int, 2) := by decide +kernel
theorem dX7_init_163 : decode cX7_init 163 = .ok (.putfield 67, 3) := by decide +kernel
theorem dX7_init_166 : decode cX7_init 166 = .ok (.return_, 1) := by decide +kernel
theorem dX7_refuse_0 : decode cX7_refuse 0 = .ok (.aload_n 0, 1) := by decide +kernel
theorem dX7_refuse_1 : decode cX7_refuse 1 = .ok (.getfield 7, 3) := by decide +kernel
theorem dX7_refuse_4 : decode cX7_refuse 4 = .ok (.iload_n 1, 1) := by decide +kernel
theorem dX7_refuse_5 : decode cX7_refuse 5 = .ok (.ineg, 1) := by decide +kernel
theorem dX7_refuse_6 : decode cX7_refuse 6 = .ok (.dup2, 1) := by decide +kernel
theorem dX7_refuse_7 : decode cX7_refuse 7 = .ok (.iaload, 1) := by decide +kernel
theorem dX7_refuse_8 : decode cX7_refuse 8 = .ok (.iconst 1, 1) := by decide +kernel
theorem dX7_refuse_9 : decode cX7_refuse 9 = .ok (.iadd, 1) := by decide +kernel
theorem dX7_refuse_10 : decode cX7_refuse 10 = .ok (.iastore, 1) := by decide +kernel
theorem dX7_refuse_11 : decode cX7_refuse 11 = .ok (.iload_n 1, 1) := by decide +kernel
theorem dX7_refuse_12 : decode cX7_refuse 12 = .ok (.ireturn, 1) := by decide +kernel
theorem dX7_refuseFar_0 : decode cX7_refuseFar 0 = .ok (.ldc2_w 70, 3) := by decide +kernel
theorem dX7_refuseFar_3 : decode cX7_refuseFar 3 = .ok (.aload_n 0, 1) := by decide +kernel
theorem dX7_refuseFar_4 : decode cX7_refuseFar 4 = .ok (.iload_n 1, 1) := by decide +kernel
theorem dX7_refuseFar_5 : decode cX7_refuseFar 5 = .ok (.invokevirtual 72, 3) := by decide +kernel
theorem dX7_refuseFar_8 : decode cX7_refuseFar 8 = .ok (.i2l, 1) := by decide +kernel
theorem dX7_refuseFar_9 : decode cX7_refuseFar 9 = .ok (.lsub, 1) := by decide +kernel
theorem dX7_refuseFar_10 : decode cX7_refuseFar 10 = .ok (.lreturn, 1) := by decide +kernel
theorem dX7_isIn_0 : decode cX7_isIn 0 = .ok (.iload_n 0, 1) := by decide +kernel
theorem dX7_isIn_1 : decode cX7_isIn 1 = .ok (.ifCond .lt 12, 3) := by decide +kernel
theorem dX7_isIn_4 : decode cX7_isIn 4 = .ok (.iload_n 0, 1) := by decide +kernel
theorem dX7_isIn_5 : decode cX7_isIn 5 = .ok (.iload_n 1, 1) := by decide +kernel
theorem dX7_isIn_6 : decode cX7_isIn 6 = .ok (.if_icmp .ge 7, 3) := by decide +kernel
theorem dX7_isIn_9 : decode cX7_isIn 9 = .ok (.iconst 1, 1) := by decide +kernel
theorem dX7_isIn_10 : decode cX7_isIn 10 = .ok (.goto 4, 3) := by decide +kernel
theorem dX7_isIn_13 : decode cX7_isIn 13 = .ok (.iconst 0, 1) := by decide +kernel
theorem dX7_isIn_14 : decode cX7_isIn 14 = .ok (.ireturn, 1) := by decide +kernel
theorem dX7_within_0 : decode cX7_within 0 = .ok (.iload_n 0, 1) := by decide +kernel
theorem dX7_within_1 : decode cX7_within 1 = .ok (.iload_n 1, 1) := by decide +kernel
theorem dX7_within_2 : decode cX7_within 2 = .ok (.if_icmp .ge 8, 3) := by decide +kernel
theorem dX7_within_5 : decode cX7_within 5 = .ok (.bipush (-4), 2) := by decide +kernel
theorem dX7_within_7 : decode cX7_within 7 = .ok (.goto 14, 3) := by decide +kernel
theorem dX7_within_10 : decode cX7_within 10 = .ok (.iload_n 0, 1) := by decide +kernel
theorem dX7_within_11 : decode cX7_within 11 = .ok (.iload_n 2, 1) := by decide +kernel
theorem dX7_within_12 : decode cX7_within 12 = .ok (.if_icmp .le 8, 3) := by decide +kernel
theorem dX7_within_15 : decode cX7_within 15 = .ok (.bipush (-6), 2) := by decide +kernel
theorem dX7_within_17 : decode cX7_within 17 = .ok (.goto 4, 3) := by decide +kernel
theorem dX7_within_20 : decode cX7_within 20 = .ok (.iconst 0, 1) := by decide +kernel
theorem dX7_within_21 : decode cX7_within 21 = .ok (.ireturn, 1) := by decide +kernel
theorem dX7_isPart_0 : decode cX7_isPart 0 = .ok (.iload_n 1, 1) := by decide +kernel
theorem dX7_isPart_1 : decode cX7_isPart 1 = .ok (.aload_n 0, 1) := by decide +kernel
theorem dX7_isPart_2 : decode cX7_isPart 2 = .ok (.getfield 76, 3) := by decide +kernel
theorem dX7_isPart_5 : decode cX7_isPart 5 = .ok (.invokestatic 80, 3) := by decide +kernel
theorem dX7_isPart_8 : decode cX7_isPart 8 = .ok (.ireturn, 1) := by decide +kernel
theorem dX7_at_0 : decode cX7_at 0 = .ok (.aload_n 0, 1) := by decide +kernel
theorem dX7_at_1 : decode cX7_at 1 = .ok (.getfield 22, 3) := by decide +kernel
theorem dX7_at_4 : decode cX7_at 4 = .ok (.bipush 20, 2) := by decide +kernel
theorem dX7_at_6 : decode cX7_at 6 = .ok (.iload_n 1, 1) := by decide +kernel
theorem dX7_at_7 : decode cX7_at 7 = .ok (.imul, 1) := by decide +kernel
theorem dX7_at_8 : decode cX7_at 8 = .ok (.iconst 5, 1) := by decide +kernel
theorem dX7_at_9 : decode cX7_at 9 = .ok (.iload_n 3, 1) := by decide +kernel
theorem dX7_at_10 : decode cX7_at 10 = .ok (.imul, 1) := by decide +kernel
theorem dX7_at_11 : decode cX7_at 11 = .ok (.iadd, 1) := by decide +kernel
theorem dX7_at_12 : decode cX7_at 12 = .ok (.iload_n 2, 1) := by decide +kernel
theorem dX7_at_13 : decode cX7_at 13 = .ok (.iadd, 1) := by decide +kernel
theorem dX7_at_14 : decode cX7_at 14 = .ok (.iaload, 1) := by decide +kernel
theorem dX7_at_15 : decode cX7_at 15 = .ok (.ireturn, 1) := by decide +kernel
theorem dX7_puts_0 : decode cX7_puts 0 = .ok (.aload_n 0, 1) := by decide +kernel
theorem dX7_puts_1 : decode cX7_puts 1 = .ok (.getfield 22, 3) := by decide +kernel
theorem dX7_puts_4 : decode cX7_puts 4 = .ok (.bipush 20, 2) := by decide +kernel
theorem dX7_puts_6 : decode cX7_puts 6 = .ok (.iload_n 1, 1) := by decide +kernel
theorem dX7_puts_7 : decode cX7_puts 7 = .ok (.imul, 1) := by decide +kernel
theorem dX7_puts_8 : decode cX7_puts 8 = .ok (.iconst 5, 1) := by decide +kernel
theorem dX7_puts_9 : decode cX7_puts 9 = .ok (.iload_n 3, 1) := by decide +kernel
theorem dX7_puts_10 : decode cX7_puts 10 = .ok (.imul, 1) := by decide +kernel
theorem dX7_puts_11 : decode cX7_puts 11 = .ok (.iadd, 1) := by decide +kernel
theorem dX7_puts_12 : decode cX7_puts 12 = .ok (.iload_n 2, 1) := by decide +kernel
theorem dX7_puts_13 : decode cX7_puts 13 = .ok (.iadd, 1) := by decide +kernel
theorem dX7_puts_14 : decode cX7_puts 14 = .ok (.iload 4, 2) := by decide +kernel
theorem dX7_puts_16 : decode cX7_puts 16 = .ok (.iastore, 1) := by decide +kernel
theorem dX7_puts_17 : decode cX7_puts 17 = .ok (.return_, 1) := by decide +kernel
theorem dX7_isCell_0 : decode cX7_isCell 0 = .ok (.iload_n 2, 1) := by decide +kernel
theorem dX7_isCell_1 : decode cX7_isCell 1 = .ok (.ifCond .lt 33, 3) := by decide +kernel
theorem dX7_isCell_4 : decode cX7_isCell 4 = .ok (.iload_n 2, 1) := by decide +kernel
theorem dX7_isCell_5 : decode cX7_isCell 5 = .ok (.bipush 10, 2) := by decide +kernel
theorem dX7_isCell_7 : decode cX7_isCell 7 = .ok (.idiv, 1) := by decide +kernel
theorem dX7_isCell_8 : decode cX7_isCell 8 = .ok (.aload_n 0, 1) := by decide +kernel
theorem dX7_isCell_9 : decode cX7_isCell 9 = .ok (.getfield 13, 3) := by decide +kernel
theorem dX7_isCell_12 : decode cX7_isCell 12 = .ok (.iload_n 1, 1) := by decide +kernel
theorem dX7_isCell_13 : decode cX7_isCell 13 = .ok (.iaload, 1) := by decide +kernel
theorem dX7_isCell_14 : decode cX7_isCell 14 = .ok (.if_icmp .ge 20, 3) := by decide +kernel
theorem dX7_isCell_17 : decode cX7_isCell 17 = .ok (.iload_n 2, 1) := by decide +kernel
theorem dX7_isCell_18 : decode cX7_isCell 18 = .ok (.bipush 10, 2) := by decide +kernel
theorem dX7_isCell_20 : decode cX7_isCell 20 = .ok (.irem, 1) := by decide +kernel
theorem dX7_isCell_21 : decode cX7_isCell 21 = .ok (.aload_n 0, 1) := by decide +kernel
theorem dX7_isCell_22 : decode cX7_isCell 22 = .ok (.getfield 16, 3) := by decide +kernel
theorem dX7_isCell_25 : decode cX7_isCell 25 = .ok (.iload_n 1, 1) := by decide +kernel
theorem dX7_isCell_26 : decode cX7_isCell 26 = .ok (.iaload, 1) := by decide +kernel
theorem dX7_isCell_27 : decode cX7_isCell 27 = .ok (.if_icmp .ge 7, 3) := by decide +kernel
theorem dX7_isCell_30 : decode cX7_isCell 30 = .ok (.iconst 1, 1) := by decide +kernel
theorem dX7_isCell_31 : decode cX7_isCell 31 = .ok (.goto 4, 3) := by decide +kernel
theorem dX7_isCell_34 : decode cX7_isCell 34 = .ok (.iconst 0, 1) := by decide +kernel
theorem dX7_isCell_35 : decode cX7_isCell 35 = .ok (.ireturn, 1) := by decide +kernel
theorem dX7_begins_0 : decode cX7_begins 0 = .ok (.aload_n 0, 1) := by decide +kernel
theorem dX7_begins_1 : decode cX7_begins 1 = .ok (.getfield 13, 3) := by decide +kernel
theorem dX7_begins_4 : decode cX7_begins 4 = .ok (.iload_n 1, 1) := by decide +kernel
theorem dX7_begins_5 : decode cX7_begins 5 = .ok (.iload_n 2, 1) := by decide +kernel
theorem dX7_begins_6 : decode cX7_begins 6 = .ok (.iastore, 1) := by decide +kernel
theorem dX7_begins_7 : decode cX7_begins 7 = .ok (.aload_n 0, 1) := by decide +kernel
theorem dX7_begins_8 : decode cX7_begins 8 = .ok (.getfield 16, 3) := by decide +kernel
theorem dX7_begins_11 : decode cX7_begins 11 = .ok (.iload_n 1, 1) := by decide +kernel
theorem dX7_begins_12 : decode cX7_begins 12 = .ok (.iload_n 3, 1) := by decide +kernel
theorem dX7_begins_13 : decode cX7_begins 13 = .ok (.iastore, 1) := by decide +kernel
theorem dX7_begins_14 : decode cX7_begins 14 = .ok (.aload_n 0, 1) := by decide +kernel
theorem dX7_begins_15 : decode cX7_begins 15 = .ok (.getfield 19, 3) := by decide +kernel
theorem dX7_begins_18 : decode cX7_begins 18 = .ok (.iload_n 1, 1) := by decide +kernel
theorem dX7_begins_19 : decode cX7_begins 19 = .ok (.iload 4, 2) := by decide +kernel
theorem dX7_begins_21 : decode cX7_begins 21 = .ok (.iastore, 1) := by decide +kernel
theorem dX7_begins_22 : decode cX7_begins 22 = .ok (.iconst 0, 1) := by decide +kernel
theorem dX7_begins_23 : decode cX7_begins 23 = .ok (.istore 5, 2) := by decide +kernel
theorem dX7_begins_25 : decode cX7_begins 25 = .ok (.iload 5, 2) := by decide +kernel
theorem dX7_begins_27 : decode cX7_begins 27 = .ok (.bipush 20, 2) := by decide +kernel
theorem dX7_begins_29 : decode cX7_begins 29 = .ok (.if_icmp .ge 22, 3) := by decide +kernel
theorem dX7_begins_32 : decode cX7_begins 32 = .ok (.aload_n 0, 1) := by decide +kernel
theorem dX7_begins_33 : decode cX7_begins 33 = .ok (.getfield 22, 3) := by decide +kernel
theorem dX7_begins_36 : decode cX7_begins 36 = .ok (.bipush 20, 2) := by decide +kernel
theorem dX7_begins_38 : decode cX7_begins 38 = .ok (.iload_n 1, 1) := by decide +kernel
theorem dX7_begins_39 : decode cX7_begins 39 = .ok (.imul, 1) := by decide +kernel
theorem dX7_begins_40 : decode cX7_begins 40 = .ok (.iload 5, 2) := by decide +kernel
theorem dX7_begins_42 : decode cX7_begins 42 = .ok (.iadd, 1) := by decide +kernel
theorem dX7_begins_43 : decode cX7_begins 43 = .ok (.iconst 0, 1) := by decide +kernel
theorem dX7_begins_44 : decode cX7_begins 44 = .ok (.iastore, 1) := by decide +kernel
theorem dX7_begins_45 : decode cX7_begins 45 = .ok (.iinc 5 1, 3) := by decide +kernel
theorem dX7_begins_48 : decode cX7_begins 48 = .ok (.goto (-23), 3) := by decide +kernel
theorem dX7_begins_51 : decode cX7_begins 51 = .ok (.return_, 1) := by decide +kernel
theorem dX7_feed_0 : decode cX7_feed 0 = .ok (.iload_n 1, 1) := by decide +kernel
theorem dX7_feed_1 : decode cX7_feed 1 = .ok (.iconst 1, 1) := by decide +kernel
theorem dX7_feed_2 : decode cX7_feed 2 = .ok (.if_icmp .ge 10, 3) := by decide +kernel
theorem dX7_feed_5 : decode cX7_feed 5 = .ok (.aload_n 0, 1) := by decide +kernel
theorem dX7_feed_6 : decode cX7_feed 6 = .ok (.bipush (-4), 2) := by decide +kernel
theorem dX7_feed_8 : decode cX7_feed 8 = .ok (.invokevirtual 72, 3) := by decide +kernel
theorem dX7_feed_11 : decode cX7_feed 11 = .ok (.ireturn, 1) := by decide +kernel
theorem dX7_feed_12 : decode cX7_feed 12 = .ok (.iload_n 1, 1) := by decide +kernel
theorem dX7_feed_13 : decode cX7_feed 13 = .ok (.bipush 8, 2) := by decide +kernel
theorem dX7_feed_15 : decode cX7_feed 15 = .ok (.if_icmp .gt 14, 3) := by decide +kernel
theorem dX7_feed_18 : decode cX7_feed 18 = .ok (.aload_n 0, 1) := by decide +kernel
theorem dX7_feed_19 : decode cX7_feed 19 = .ok (.getfield 84, 3) := by decide +kernel
theorem dX7_feed_22 : decode cX7_feed 22 = .ok (.iload_n 1, 1) := by decide +kernel
theorem dX7_feed_23 : decode cX7_feed 23 = .ok (.iadd, 1) := by decide +kernel
theorem dX7_feed_24 : decode cX7_feed 24 = .ok (.bipush 40, 2) := by decide +kernel
theorem dX7_feed_26 : decode cX7_feed 26 = .ok (.if_icmp .le 10, 3) := by decide +kernel
theorem dX7_feed_29 : decode cX7_feed 29 = .ok (.aload_n 0, 1) := by decide +kernel
theorem dX7_feed_30 : decode cX7_feed 30 = .ok (.bipush (-6), 2) := by decide +kernel
theorem dX7_feed_32 : decode cX7_feed 32 = .ok (.invokevirtual 72, 3) := by decide +kernel
theorem dX7_feed_35 : decode cX7_feed 35 = .ok (.ireturn, 1) := by decide +kernel
theorem dX7_feed_36 : decode cX7_feed 36 = .ok (.iconst 0, 1) := by decide +kernel
theorem dX7_feed_37 : decode cX7_feed 37 = .ok (.istore 4, 2) := by decide +kernel
theorem dX7_feed_39 : decode cX7_feed 39 = .ok (.iload 4, 2) := by decide +kernel
theorem dX7_feed_41 : decode cX7_feed 41 = .ok (.iload_n 1, 1) := by decide +kernel
theorem dX7_feed_42 : decode cX7_feed 42 = .ok (.if_icmp .ge 40, 3) := by decide +kernel
theorem dX7_feed_45 : decode cX7_feed 45 = .ok (.aload_n 0, 1) := by decide +kernel
theorem dX7_feed_46 : decode cX7_feed 46 = .ok (.getfield 58, 3) := by decide +kernel
theorem dX7_feed_49 : decode cX7_feed 49 = .ok (.aload_n 0, 1) := by decide +kernel
theorem dX7_feed_50 : decode cX7_feed 50 = .ok (.getfield 84, 3) := by decide +kernel
theorem dX7_feed_53 : decode cX7_feed 53 = .ok (.lload_n 2, 1) := by decide +kernel
theorem dX7_feed_54 : decode cX7_feed 54 = .ok (.bipush 8, 2) := by decide +kernel
theorem dX7_feed_56 : decode cX7_feed 56 = .ok (.iload 4, 2) := by decide +kernel
theorem dX7_feed_58 : decode cX7_feed 58 = .ok (.imul, 1) := by decide +kernel
theorem dX7_feed_59 : decode cX7_feed 59 = .ok (.lshr, 1) := by decide +kernel
theorem dX7_feed_60 : decode cX7_feed 60 = .ok (.ldc2_w 87, 3) := by decide +kernel
theorem dX7_feed_63 : decode cX7_feed 63 = .ok (.land, 1) := by decide +kernel
theorem dX7_feed_64 : decode cX7_feed 64 = .ok (.l2i, 1) := by decide +kernel
theorem dX7_feed_65 : decode cX7_feed 65 = .ok (.iastore, 1) := by decide +kernel
theorem dX7_feed_66 : decode cX7_feed 66 = .ok (.aload_n 0, 1) := by decide +kernel
theorem dX7_feed_67 : decode cX7_feed 67 = .ok (.dup, 1) := by decide +kernel
theorem dX7_feed_68 : decode cX7_feed 68 = .ok (.getfield 84, 3) := by decide +kernel
theorem dX7_feed_71 : decode cX7_feed 71 = .ok (.iconst 1, 1) := by decide +kernel
theorem dX7_feed_72 : decode cX7_feed 72 = .ok (.iadd, 1) := by decide +kernel
theorem dX7_feed_73 : decode cX7_feed 73 = .ok (.putfield 84, 3) := by decide +kernel
theorem dX7_feed_76 : decode cX7_feed 76 = .ok (.iinc 4 1, 3) := by decide +kernel
theorem dX7_feed_79 : decode cX7_feed 79 = .ok (.goto (-40), 3) := by decide +kernel
theorem dX7_feed_82 : decode cX7_feed 82 = .ok (.aload_n 0, 1) := by decide +kernel
theorem dX7_feed_83 : decode cX7_feed 83 = .ok (.getfield 84, 3) := by decide +kernel
theorem dX7_feed_86 : decode cX7_feed 86 = .ok (.ireturn, 1) := by decide +kernel
theorem dX7_readsBoard_0 : decode cX7_readsBoard 0 = .ok (.aload_n 0, 1) := by decide +kernel
theorem dX7_readsBoard_1 : decode cX7_readsBoard 1 = .ok (.iload_n 1, 1) := by decide +kernel
theorem dX7_readsBoard_2 : decode cX7_readsBoard 2 = .ok (.iconst 0, 1) := by decide +kernel
theorem dX7_readsBoard_3 : decode cX7_readsBoard 3 = .ok (.iconst 0, 1) := by decide +kernel
theorem dX7_readsBoard_4 : decode cX7_readsBoard 4 = .ok (.iconst 0, 1) := by decide +kernel
theorem dX7_readsBoard_5 : decode cX7_readsBoard 5 = .ok (.invokevirtual 89, 3) := by decide +kernel
theorem dX7_readsBoard_8 : decode cX7_readsBoard 8 = .ok (.iconst 0, 1) := by decide +kernel
theorem dX7_readsBoard_9 : decode cX7_readsBoard 9 = .ok (.istore_n 2, 1) := by decide +kernel
theorem dX7_readsBoard_10 : decode cX7_readsBoard 10 = .ok (.iconst 0, 1) := by decide +kernel
theorem dX7_readsBoard_11 : decode cX7_readsBoard 11 = .ok (.istore_n 3, 1) := by decide +kernel
theorem dX7_readsBoard_12 : decode cX7_readsBoard 12 = .ok (.iconst 0, 1) := by decide +kernel
theorem dX7_readsBoard_13 : decode cX7_readsBoard 13 = .ok (.istore 4, 2) := by decide +kernel
theorem dX7_readsBoard_15 : decode cX7_readsBoard 15 = .ok (.aload_n 0, 1) := by decide +kernel
theorem dX7_readsBoard_16 : decode cX7_readsBoard 16 = .ok (.iconst 0, 1) := by decide +kernel
theorem dX7_readsBoard_17 : decode cX7_readsBoard 17 = .ok (.putfield 93, 3) := by decide +kernel
theorem dX7_readsBoard_20 : decode cX7_readsBoard 20 = .ok (.aload_n 0, 1) := by decide +kernel
theorem dX7_readsBoard_21 : decode cX7_readsBoard 21 = .ok (.getfield 93, 3) := by decide +kernel
theorem dX7_readsBoard_24 : decode cX7_readsBoard 24 = .ok (.aload_n 0, 1) := by decide +kernel
theorem dX7_readsBoard_25 : decode cX7_readsBoard 25 = .ok (.getfield 84, 3) := by decide +kernel
theorem dX7_readsBoard_28 : decode cX7_readsBoard 28 = .ok (.if_icmp .ge 210, 3) := by decide +kernel
theorem dX7_readsBoard_31 : decode cX7_readsBoard 31 = .ok (.aload_n 0, 1) := by decide +kernel
theorem dX7_readsBoard_32 : decode cX7_readsBoard 32 = .ok (.getfield 58, 3) := by decide +kernel
theorem dX7_readsBoard_35 : decode cX7_readsBoard 35 = .ok (.aload_n 0, 1) := by decide +kernel
theorem dX7_readsBoard_36 : decode cX7_readsBoard 36 = .ok (.getfield 93, 3) := by decide +kernel
theorem dX7_readsBoard_39 : decode cX7_readsBoard 39 = .ok (.iaload, 1) := by decide +kernel
theorem dX7_readsBoard_40 : decode cX7_readsBoard 40 = .ok (.istore 5, 2) := by decide +kernel
theorem dX7_readsBoard_42 : decode cX7_readsBoard 42 = .ok (.iload 5, 2) := by decide +kernel
theorem dX7_readsBoard_44 : decode cX7_readsBoard 44 = .ok (.bipush 47, 2) := by decide +kernel
theorem dX7_readsBoard_46 : decode cX7_readsBoard 46 = .ok (.if_icmp .ne 45, 3) := by decide +kernel
theorem dX7_readsBoard_49 : decode cX7_readsBoard 49 = .ok (.iload_n 3, 1) := by decide +kernel
theorem dX7_readsBoard_50 : decode cX7_readsBoard 50 = .ok (.ifCond .eq 24, 3) := by decide +kernel
theorem dX7_readsBoard_53 : decode cX7_readsBoard 53 = .ok (.iload 4, 2) := by decide +kernel
theorem dX7_readsBoard_55 : decode cX7_readsBoard 55 = .ok (.ifCond .le 13, 3) := by decide +kernel
theorem dX7_readsBoard_58 : decode cX7_readsBoard 58 = .ok (.iload_n 3, 1) := by decide +kernel
theorem dX7_readsBoard_59 : decode cX7_readsBoard 59 = .ok (.aload_n 0, 1) := by decide +kernel
theorem dX7_readsBoard_60 : decode cX7_readsBoard 60 = .ok (.getfield 13, 3) := by decide +kernel
theorem dX7_readsBoard_63 : decode cX7_readsBoard 63 = .ok (.iload_n 1, 1) := by decide +kernel
theorem dX7_readsBoard_64 : decode cX7_readsBoard 64 = .ok (.iaload, 1) := by decide +kernel
theorem dX7_readsBoard_65 : decode cX7_readsBoard 65 = .ok (.if_icmp .lt 9, 3) := by decide +kernel
theorem dX7_readsBoard_68 : decode cX7_readsBoard 68 = .ok (.iload 4, 2) := by decide +kernel
theorem dX7_readsBoard_70 : decode cX7_readsBoard 70 = .ok (.iconst 3, 1) := by decide +kernel
theorem dX7_readsBoard_71 : decode cX7_readsBoard 71 = .ok (.if_icmp .ne 5, 3) := by decide +kernel
theorem dX7_readsBoard_74 : decode cX7_readsBoard 74 = .ok (.iconst 0, 1) := by decide +kernel
theorem dX7_readsBoard_75 : decode cX7_readsBoard 75 = .ok (.ireturn, 1) := by decide +kernel
theorem dX7_readsBoard_76 : decode cX7_readsBoard 76 = .ok (.aload_n 0, 1) := by decide +kernel
theorem dX7_readsBoard_77 : decode cX7_readsBoard 77 = .ok (.getfield 13, 3) := by decide +kernel
theorem dX7_readsBoard_80 : decode cX7_readsBoard 80 = .ok (.iload_n 1, 1) := by decide +kernel
theorem dX7_readsBoard_81 : decode cX7_readsBoard 81 = .ok (.iload_n 3, 1) := by decide +kernel
theorem dX7_readsBoard_82 : decode cX7_readsBoard 82 = .ok (.iastore, 1) := by decide +kernel
theorem dX7_readsBoard_83 : decode cX7_readsBoard 83 = .ok (.iconst 0, 1) := by decide +kernel
theorem dX7_readsBoard_84 : decode cX7_readsBoard 84 = .ok (.istore_n 3, 1) := by decide +kernel
theorem dX7_readsBoard_85 : decode cX7_readsBoard 85 = .ok (.iinc 4 1, 3) := by decide +kernel
theorem dX7_readsBoard_88 : decode cX7_readsBoard 88 = .ok (.goto 137, 3) := by decide +kernel
theorem dX7_readsBoard_91 : decode cX7_readsBoard 91 = .ok (.iload_n 3, 1) := by decide +kernel
theorem dX7_readsBoard_92 : decode cX7_readsBoard 92 = .ok (.iconst 5, 1) := by decide +kernel
theorem dX7_readsBoard_93 : decode cX7_readsBoard 93 = .ok (.if_icmp .eq 18, 3) := by decide +kernel
theorem dX7_readsBoard_96 : decode cX7_readsBoard 96 = .ok (.iload 4, 2) := by decide +kernel
theorem dX7_readsBoard_98 : decode cX7_readsBoard 98 = .ok (.ifCond .le 15, 3) := by decide +kernel
theorem dX7_readsBoard_101 : decode cX7_readsBoard 101 = .ok (.iload_n 3, 1) := by decide +kernel
theorem dX7_readsBoard_102 : decode cX7_readsBoard 102 = .ok (.aload_n 0, 1) := by decide +kernel
theorem dX7_readsBoard_103 : decode cX7_readsBoard 103 = .ok (.getfield 13, 3) := by decide +kernel
theorem dX7_readsBoard_106 : decode cX7_readsBoard 106 = .ok (.iload_n 1, 1) := by decide +kernel
theorem dX7_readsBoard_107 : decode cX7_readsBoard 107 = .ok (.iaload, 1) := by decide +kernel
theorem dX7_readsBoard_108 : decode cX7_readsBoard 108 = .ok (.if_icmp .ne 5, 3) := by decide +kernel
theorem dX7_readsBoard_111 : decode cX7_readsBoard 111 = .ok (.iconst 0, 1) := by decide +kernel
theorem dX7_readsBoard_112 : decode cX7_readsBoard 112 = .ok (.ireturn, 1) := by decide +kernel
theorem dX7_readsBoard_113 : decode cX7_readsBoard 113 = .ok (.iload 5, 2) := by decide +kernel
theorem dX7_readsBoard_115 : decode cX7_readsBoard 115 = .ok (.bipush 35, 2) := by decide +kernel
theorem dX7_readsBoard_117 : decode cX7_readsBoard 117 = .ok (.if_icmp .eq 39, 3) := by decide +kernel
theorem dX7_readsBoard_120 : decode cX7_readsBoard 120 = .ok (.iload 5, 2) := by decide +kernel
theorem dX7_readsBoard_122 : decode cX7_readsBoard 122 = .ok (.bipush 46, 2) := by decide +kernel
theorem dX7_readsBoard_124 : decode cX7_readsBoard 124 = .ok (.if_icmp .eq 32, 3) := by decide +kernel
theorem dX7_readsBoard_127 : decode cX7_readsBoard 127 = .ok (.iload 5, 2) := by decide +kernel
theorem dX7_readsBoard_129 : decode cX7_readsBoard 129 = .ok (.bipush 48, 2) := by decide +kernel
theorem dX7_readsBoard_131 : decode cX7_readsBoard 131 = .ok (.if_icmp .lt 23, 3) := by decide +kernel
theorem dX7_readsBoard_134 : decode cX7_readsBoard 134 = .ok (.iload 5, 2) := by decide +kernel
theorem dX7_readsBoard_136 : decode cX7_readsBoard 136 = .ok (.bipush 52, 2) := by decide +kernel
theorem dX7_readsBoard_138 : decode cX7_readsBoard 138 = .ok (.if_icmp .gt 16, 3) := by decide +kernel
theorem dX7_readsBoard_141 : decode cX7_readsBoard 141 = .ok (.iload_n 2, 1) := by decide +kernel
theorem dX7_readsBoard_142 : decode cX7_readsBoard 142 = .ok (.iload 5, 2) := by decide +kernel
theorem dX7_readsBoard_144 : decode cX7_readsBoard 144 = .ok (.bipush 48, 2) := by decide +kernel
theorem dX7_readsBoard_146 : decode cX7_readsBoard 146 = .ok (.isub, 1) := by decide +kernel
theorem dX7_readsBoard_147 : decode cX7_readsBoard 147 = .ok (.ishr, 1) := by decide +kernel
theorem dX7_readsBoard_148 : decode cX7_readsBoard 148 = .ok (.iconst 1, 1) := by decide +kernel
theorem dX7_readsBoard_149 : decode cX7_readsBoard 149 = .ok (.iand, 1) := by decide +kernel
theorem dX7_readsBoard_150 : decode cX7_readsBoard 150 = .ok (.iconst 1, 1) := by decide +kernel
theorem dX7_readsBoard_151 : decode cX7_readsBoard 151 = .ok (.if_icmp .ne 5, 3) := by decide +kernel
theorem dX7_readsBoard_154 : decode cX7_readsBoard 154 = .ok (.iconst 0, 1) := by decide +kernel
theorem dX7_readsBoard_155 : decode cX7_readsBoard 155 = .ok (.ireturn, 1) := by decide +kernel
theorem dX7_readsBoard_156 : decode cX7_readsBoard 156 = .ok (.aload_n 0, 1) := by decide +kernel
theorem dX7_readsBoard_157 : decode cX7_readsBoard 157 = .ok (.iload_n 1, 1) := by decide +kernel
theorem dX7_readsBoard_158 : decode cX7_readsBoard 158 = .ok (.iload_n 3, 1) := by decide +kernel
theorem dX7_readsBoard_159 : decode cX7_readsBoard 159 = .ok (.iload 4, 2) := by decide +kernel
theorem dX7_readsBoard_161 : decode cX7_readsBoard 161 = .ok (.iload 5, 2) := by decide +kernel
theorem dX7_readsBoard_163 : decode cX7_readsBoard 163 = .ok (.bipush 35, 2) := by decide +kernel
theorem dX7_readsBoard_165 : decode cX7_readsBoard 165 = .ok (.if_icmp .ne 7, 3) := by decide +kernel
theorem dX7_readsBoard_168 : decode cX7_readsBoard 168 = .ok (.iconst 0, 1) := by decide +kernel
theorem dX7_readsBoard_169 : decode cX7_readsBoard 169 = .ok (.goto 22, 3) := by decide +kernel
theorem dX7_readsBoard_172 : decode cX7_readsBoard 172 = .ok (.iload 5, 2) := by decide +kernel
theorem dX7_readsBoard_174 : decode cX7_readsBoard 174 = .ok (.bipush 46, 2) := by decide +kernel
theorem dX7_readsBoard_176 : decode cX7_readsBoard 176 = .ok (.if_icmp .ne 7, 3) := by decide +kernel
theorem dX7_readsBoard_179 : decode cX7_readsBoard 179 = .ok (.iconst 1, 1) := by decide +kernel
theorem dX7_readsBoard_180 : decode cX7_readsBoard 180 = .ok (.goto 11, 3) := by decide +kernel
theorem dX7_readsBoard_183 : decode cX7_readsBoard 183 = .ok (.bipush 10, 2) := by decide +kernel
theorem dX7_readsBoard_185 : decode cX7_readsBoard 185 = .ok (.iload 5, 2) := by decide +kernel
theorem dX7_readsBoard_187 : decode cX7_readsBoard 187 = .ok (.iadd, 1) := by decide +kernel
theorem dX7_readsBoard_188 : decode cX7_readsBoard 188 = .ok (.bipush 48, 2) := by decide +kernel
theorem dX7_readsBoard_190 : decode cX7_readsBoard 190 = .ok (.isub, 1) := by decide +kernel
theorem dX7_readsBoard_191 : decode cX7_readsBoard 191 = .ok (.invokevirtual 96, 3) := by decide +kernel
theorem dX7_readsBoard_194 : decode cX7_readsBoard 194 = .ok (.iload_n 2, 1) := by decide +kernel
theorem dX7_readsBoard_195 : decode cX7_readsBoard 195 = .ok (.iload 5, 2) := by decide +kernel
theorem dX7_readsBoard_197 : decode cX7_readsBoard 197 = .ok (.bipush 48, 2) := by decide +kernel
theorem dX7_readsBoard_199 : decode cX7_readsBoard 199 = .ok (.if_icmp .lt 20, 3) := by decide +kernel
theorem dX7_readsBoard_202 : decode cX7_readsBoard 202 = .ok (.iload 5, 2) := by decide +kernel
theorem dX7_readsBoard_204 : decode cX7_readsBoard 204 = .ok (.bipush 52, 2) := by decide +kernel
theorem dX7_readsBoard_206 : decode cX7_readsBoard 206 = .ok (.if_icmp .gt 13, 3) := by decide +kernel
theorem dX7_readsBoard_209 : decode cX7_readsBoard 209 = .ok (.iconst 1, 1) := by decide +kernel
theorem dX7_readsBoard_210 : decode cX7_readsBoard 210 = .ok (.iload 5, 2) := by decide +kernel
theorem dX7_readsBoard_212 : decode cX7_readsBoard 212 = .ok (.bipush 48, 2) := by decide +kernel
theorem dX7_readsBoard_214 : decode cX7_readsBoard 214 = .ok (.isub, 1) := by decide +kernel
theorem dX7_readsBoard_215 : decode cX7_readsBoard 215 = .ok (.ishl, 1) := by decide +kernel
theorem dX7_readsBoard_216 : decode cX7_readsBoard 216 = .ok (.goto 4, 3) := by decide +kernel
theorem dX7_readsBoard_219 : decode cX7_readsBoard 219 = .ok (.iconst 0, 1) := by decide +kernel
theorem dX7_readsBoard_220 : decode cX7_readsBoard 220 = .ok (.ior, 1) := by decide +kernel
theorem dX7_readsBoard_221 : decode cX7_readsBoard 221 = .ok (.istore_n 2, 1) := by decide +kernel
theorem dX7_readsBoard_222 : decode cX7_readsBoard 222 = .ok (.iinc 3 1, 3) := by decide +kernel
theorem dX7_readsBoard_225 : decode cX7_readsBoard 225 = .ok (.aload_n 0, 1) := by decide +kernel
theorem dX7_readsBoard_226 : decode cX7_readsBoard 226 = .ok (.dup, 1) := by decide +kernel
theorem dX7_readsBoard_227 : decode cX7_readsBoard 227 = .ok (.getfield 93, 3) := by decide +kernel
theorem dX7_readsBoard_230 : decode cX7_readsBoard 230 = .ok (.iconst 1, 1) := by decide +kernel
theorem dX7_readsBoard_231 : decode cX7_readsBoard 231 = .ok (.iadd, 1) := by decide +kernel
theorem dX7_readsBoard_232 : decode cX7_readsBoard 232 = .ok (.putfield 93, 3) := by decide +kernel
theorem dX7_readsBoard_235 : decode cX7_readsBoard 235 = .ok (.goto (-215), 3) := by decide +kernel
theorem dX7_readsBoard_238 : decode cX7_readsBoard 238 = .ok (.iload_n 3, 1) := by decide +kernel
theorem dX7_readsBoard_239 : decode cX7_readsBoard 239 = .ok (.ifCond .eq 18, 3) := by decide +kernel
theorem dX7_readsBoard_242 : decode cX7_readsBoard 242 = .ok (.iload 4, 2) := by decide +kernel
theorem dX7_readsBoard_244 : decode cX7_readsBoard 244 = .ok (.ifCond .le 15, 3) := by decide +kernel
theorem dX7_readsBoard_247 : decode cX7_readsBoard 247 = .ok (.iload_n 3, 1) := by decide +kernel
theorem dX7_readsBoard_248 : decode cX7_readsBoard 248 = .ok (.aload_n 0, 1) := by decide +kernel
theorem dX7_readsBoard_249 : decode cX7_readsBoard 249 = .ok (.getfield 13, 3) := by decide +kernel
theorem dX7_readsBoard_252 : decode cX7_readsBoard 252 = .ok (.iload_n 1, 1) := by decide +kernel
theorem dX7_readsBoard_253 : decode cX7_readsBoard 253 = .ok (.iaload, 1) := by decide +kernel
theorem dX7_readsBoard_254 : decode cX7_readsBoard 254 = .ok (.if_icmp .ge 5, 3) := by decide +kernel
theorem dX7_readsBoard_257 : decode cX7_readsBoard 257 = .ok (.iconst 0, 1) := by decide +kernel
theorem dX7_readsBoard_258 : decode cX7_readsBoard 258 = .ok (.ireturn, 1) := by decide +kernel
theorem dX7_readsBoard_259 : decode cX7_readsBoard 259 = .ok (.aload_n 0, 1) := by decide +kernel
theorem dX7_readsBoard_260 : decode cX7_readsBoard 260 = .ok (.getfield 13, 3) := by decide +kernel
theorem dX7_readsBoard_263 : decode cX7_readsBoard 263 = .ok (.iload_n 1, 1) := by decide +kernel
theorem dX7_readsBoard_264 : decode cX7_readsBoard 264 = .ok (.iload_n 3, 1) := by decide +kernel
theorem dX7_readsBoard_265 : decode cX7_readsBoard 265 = .ok (.iastore, 1) := by decide +kernel
theorem dX7_readsBoard_266 : decode cX7_readsBoard 266 = .ok (.aload_n 0, 1) := by decide +kernel
theorem dX7_readsBoard_267 : decode cX7_readsBoard 267 = .ok (.getfield 16, 3) := by decide +kernel
theorem dX7_readsBoard_270 : decode cX7_readsBoard 270 = .ok (.iload_n 1, 1) := by decide +kernel
theorem dX7_readsBoard_271 : decode cX7_readsBoard 271 = .ok (.iload 4, 2) := by decide +kernel
theorem dX7_readsBoard_273 : decode cX7_readsBoard 273 = .ok (.iconst 1, 1) := by decide +kernel
theorem dX7_readsBoard_274 : decode cX7_readsBoard 274 = .ok (.iadd, 1) := by decide +kernel
theorem dX7_readsBoard_275 : decode cX7_readsBoard 275 = .ok (.iastore, 1) := by decide +kernel
theorem dX7_readsBoard_276 : decode cX7_readsBoard 276 = .ok (.iload_n 2, 1) := by decide +kernel
theorem dX7_readsBoard_277 : decode cX7_readsBoard 277 = .ok (.aload_n 0, 1) := by decide +kernel
theorem dX7_readsBoard_278 : decode cX7_readsBoard 278 = .ok (.getfield 19, 3) := by decide +kernel
theorem dX7_readsBoard_281 : decode cX7_readsBoard 281 = .ok (.iload_n 1, 1) := by decide +kernel
theorem dX7_readsBoard_282 : decode cX7_readsBoard 282 = .ok (.iaload, 1) := by decide +kernel
theorem dX7_readsBoard_283 : decode cX7_readsBoard 283 = .ok (.ishr, 1) := by decide +kernel
theorem dX7_readsBoard_284 : decode cX7_readsBoard 284 = .ok (.iconst 1, 1) := by decide +kernel
theorem dX7_readsBoard_285 : decode cX7_readsBoard 285 = .ok (.iand, 1) := by decide +kernel
theorem dX7_readsBoard_286 : decode cX7_readsBoard 286 = .ok (.iconst 1, 1) := by decide +kernel
theorem dX7_readsBoard_287 : decode cX7_readsBoard 287 = .ok (.if_icmp .ne 16, 3) := by decide +kernel
theorem dX7_readsBoard_290 : decode cX7_readsBoard 290 = .ok (.aload_n 0, 1) := by decide +kernel
theorem dX7_readsBoard_291 : decode cX7_readsBoard 291 = .ok (.getfield 19, 3) := by decide +kernel
theorem dX7_readsBoard_294 : decode cX7_readsBoard 294 = .ok (.iload_n 1, 1) := by decide +kernel
theorem dX7_readsBoard_295 : decode cX7_readsBoard 295 = .ok (.dup2, 1) := by decide +kernel
theorem dX7_readsBoard_296 : decode cX7_readsBoard 296 = .ok (.iaload, 1) := by decide +kernel
theorem dX7_readsBoard_297 : decode cX7_readsBoard 297 = .ok (.iconst 1, 1) := by decide +kernel
theorem dX7_readsBoard_298 : decode cX7_readsBoard 298 = .ok (.iadd, 1) := by decide +kernel
theorem dX7_readsBoard_299 : decode cX7_readsBoard 299 = .ok (.iastore, 1) := by decide +kernel
theorem dX7_readsBoard_300 : decode cX7_readsBoard 300 = .ok (.goto (-24), 3) := by decide +kernel
theorem dX7_readsBoard_303 : decode cX7_readsBoard 303 = .ok (.iload_n 2, 1) := by decide +kernel
theorem dX7_readsBoard_304 : decode cX7_readsBoard 304 = .ok (.iconst 1, 1) := by decide +kernel
theorem dX7_readsBoard_305 : decode cX7_readsBoard 305 = .ok (.aload_n 0, 1) := by decide +kernel
theorem dX7_readsBoard_306 : decode cX7_readsBoard 306 = .ok (.getfield 19, 3) := by decide +kernel
theorem dX7_readsBoard_309 : decode cX7_readsBoard 309 = .ok (.iload_n 1, 1) := by decide +kernel
theorem dX7_readsBoard_310 : decode cX7_readsBoard 310 = .ok (.iaload, 1) := by decide +kernel
theorem dX7_readsBoard_311 : decode cX7_readsBoard 311 = .ok (.ishl, 1) := by decide +kernel
theorem dX7_readsBoard_312 : decode cX7_readsBoard 312 = .ok (.iconst 1, 1) := by decide +kernel
theorem dX7_readsBoard_313 : decode cX7_readsBoard 313 = .ok (.isub, 1) := by decide +kernel
theorem dX7_readsBoard_314 : decode cX7_readsBoard 314 = .ok (.if_icmp .ne 7, 3) := by decide +kernel
theorem dX7_readsBoard_317 : decode cX7_readsBoard 317 = .ok (.iconst 1, 1) := by decide +kernel
theorem dX7_readsBoard_318 : decode cX7_readsBoard 318 = .ok (.goto 4, 3) := by decide +kernel
theorem dX7_readsBoard_321 : decode cX7_readsBoard 321 = .ok (.iconst 0, 1) := by decide +kernel
theorem dX7_readsBoard_322 : decode cX7_readsBoard 322 = .ok (.ireturn, 1) := by decide +kernel
theorem dX7_part_0 : decode cX7_part 0 = .ok (.aload_n 0, 1) := by decide +kernel
theorem dX7_part_1 : decode cX7_part 1 = .ok (.getfield 76, 3) := by decide +kernel
theorem dX7_part_4 : decode cX7_part 4 = .ok (.bipush 24, 2) := by decide +kernel
theorem dX7_part_6 : decode cX7_part 6 = .ok (.if_icmp .ne 10, 3) := by decide +kernel
theorem dX7_part_9 : decode cX7_part 9 = .ok (.aload_n 0, 1) := by decide +kernel
theorem dX7_part_10 : decode cX7_part 10 = .ok (.bipush (-6), 2) := by decide +kernel
theorem dX7_part_12 : decode cX7_part 12 = .ok (.invokevirtual 72, 3) := by decide +kernel
theorem dX7_part_15 : decode cX7_part 15 = .ok (.ireturn, 1) := by decide +kernel
theorem dX7_part_16 : decode cX7_part 16 = .ok (.aload_n 0, 1) := by decide +kernel
theorem dX7_part_17 : decode cX7_part 17 = .ok (.aload_n 0, 1) := by decide +kernel
theorem dX7_part_18 : decode cX7_part 18 = .ok (.getfield 76, 3) := by decide +kernel
theorem dX7_part_21 : decode cX7_part 21 = .ok (.invokevirtual 99, 3) := by decide +kernel
theorem dX7_part_24 : decode cX7_part 24 = .ok (.istore_n 1, 1) := by decide +kernel
theorem dX7_part_25 : decode cX7_part 25 = .ok (.aload_n 0, 1) := by decide +kernel
theorem dX7_part_26 : decode cX7_part 26 = .ok (.iconst 0, 1) := by decide +kernel
theorem dX7_part_27 : decode cX7_part 27 = .ok (.putfield 84, 3) := by decide +kernel
theorem dX7_part_30 : decode cX7_part 30 = .ok (.iload_n 1, 1) := by decide +kernel
theorem dX7_part_31 : decode cX7_part 31 = .ok (.ifCond .ne 11, 3) := by decide +kernel
theorem dX7_part_34 : decode cX7_part 34 = .ok (.bipush (-20), 2) := by decide +kernel
theorem dX7_part_36 : decode cX7_part 36 = .ok (.aload_n 0, 1) := by decide +kernel
theorem dX7_part_37 : decode cX7_part 37 = .ok (.getfield 93, 3) := by decide +kernel
theorem dX7_part_40 : decode cX7_part 40 = .ok (.isub, 1) := by decide +kernel
theorem dX7_part_41 : decode cX7_part 41 = .ok (.ireturn, 1) := by decide +kernel
theorem dX7_part_42 : decode cX7_part 42 = .ok (.aload_n 0, 1) := by decide +kernel
theorem dX7_part_43 : decode cX7_part 43 = .ok (.dup, 1) := by decide +kernel
theorem dX7_part_44 : decode cX7_part 44 = .ok (.getfield 76, 3) := by decide +kernel
theorem dX7_part_47 : decode cX7_part 47 = .ok (.iconst 1, 1) := by decide +kernel
theorem dX7_part_48 : decode cX7_part 48 = .ok (.iadd, 1) := by decide +kernel
theorem dX7_part_49 : decode cX7_part 49 = .ok (.putfield 76, 3) := by decide +kernel
theorem dX7_part_52 : decode cX7_part 52 = .ok (.aload_n 0, 1) := by decide +kernel
theorem dX7_part_53 : decode cX7_part 53 = .ok (.getfield 76, 3) := by decide +kernel
theorem dX7_part_56 : decode cX7_part 56 = .ok (.iconst 1, 1) := by decide +kernel
theorem dX7_part_57 : decode cX7_part 57 = .ok (.isub, 1) := by decide +kernel
theorem dX7_part_58 : decode cX7_part 58 = .ok (.ireturn, 1) := by decide +kernel
theorem dX7_open_0 : decode cX7_open 0 = .ok (.iconst 0, 1) := by decide +kernel
theorem dX7_open_1 : decode cX7_open 1 = .ok (.istore_n 2, 1) := by decide +kernel
theorem dX7_open_2 : decode cX7_open 2 = .ok (.iconst 0, 1) := by decide +kernel
theorem dX7_open_3 : decode cX7_open 3 = .ok (.istore_n 3, 1) := by decide +kernel
theorem dX7_open_4 : decode cX7_open 4 = .ok (.iload_n 3, 1) := by decide +kernel
theorem dX7_open_5 : decode cX7_open 5 = .ok (.bipush 20, 2) := by decide +kernel
theorem dX7_open_7 : decode cX7_open 7 = .ok (.if_icmp .ge 31, 3) := by decide +kernel
theorem dX7_open_10 : decode cX7_open 10 = .ok (.iload_n 2, 1) := by decide +kernel
theorem dX7_open_11 : decode cX7_open 11 = .ok (.aload_n 0, 1) := by decide +kernel
theorem dX7_open_12 : decode cX7_open 12 = .ok (.getfield 22, 3) := by decide +kernel
theorem dX7_open_15 : decode cX7_open 15 = .ok (.bipush 20, 2) := by decide +kernel
theorem dX7_open_17 : decode cX7_open 17 = .ok (.iload_n 1, 1) := by decide +kernel
theorem dX7_open_18 : decode cX7_open 18 = .ok (.imul, 1) := by decide +kernel
theorem dX7_open_19 : decode cX7_open 19 = .ok (.iload_n 3, 1) := by decide +kernel
theorem dX7_open_20 : decode cX7_open 20 = .ok (.iadd, 1) := by decide +kernel
theorem dX7_open_21 : decode cX7_open 21 = .ok (.iaload, 1) := by decide +kernel
theorem dX7_open_22 : decode cX7_open 22 = .ok (.ifCond .eq 7, 3) := by decide +kernel
theorem dX7_open_25 : decode cX7_open 25 = .ok (.iconst 1, 1) := by decide +kernel
theorem dX7_open_26 : decode cX7_open 26 = .ok (.goto 4, 3) := by decide +kernel
theorem dX7_open_29 : decode cX7_open 29 = .ok (.iconst 0, 1) := by decide +kernel
theorem dX7_open_30 : decode cX7_open 30 = .ok (.iadd, 1) := by decide +kernel
theorem dX7_open_31 : decode cX7_open 31 = .ok (.istore_n 2, 1) := by decide +kernel
theorem dX7_open_32 : decode cX7_open 32 = .ok (.iinc 3 1, 3) := by decide +kernel
theorem dX7_open_35 : decode cX7_open 35 = .ok (.goto (-31), 3) := by decide +kernel
theorem dX7_open_38 : decode cX7_open 38 = .ok (.iload_n 2, 1) := by decide +kernel
theorem dX7_open_39 : decode cX7_open 39 = .ok (.ireturn, 1) := by decide +kernel
theorem dX7_partOf_0 : decode cX7_partOf 0 = .ok (.aload_n 0, 1) := by decide +kernel
theorem dX7_partOf_1 : decode cX7_partOf 1 = .ok (.iload_n 1, 1) := by decide +kernel
theorem dX7_partOf_2 : decode cX7_partOf 2 = .ok (.invokevirtual 103, 3) := by decide +kernel
theorem dX7_partOf_5 : decode cX7_partOf 5 = .ok (.ifCond .ne 9, 3) := by decide +kernel
theorem dX7_partOf_8 : decode cX7_partOf 8 = .ok (.aload_n 0, 1) := by decide +kernel
theorem dX7_partOf_9 : decode cX7_partOf 9 = .ok (.iconst (-1), 1) := by decide +kernel
theorem dX7_partOf_10 : decode cX7_partOf 10 = .ok (.invokevirtual 72, 3) := by decide +kernel
theorem dX7_partOf_13 : decode cX7_partOf 13 = .ok (.ireturn, 1) := by decide +kernel
theorem dX7_partOf_14 : decode cX7_partOf 14 = .ok (.iload_n 2, 1) := by decide +kernel
theorem dX7_partOf_15 : decode cX7_partOf 15 = .ok (.tableswitch 56 0 3 #[29, 36, 43, 50], 29) := by decide +kernel
theorem dX7_partOf_44 : decode cX7_partOf 44 = .ok (.aload_n 0, 1) := by decide +kernel
theorem dX7_partOf_45 : decode cX7_partOf 45 = .ok (.getfield 13, 3) := by decide +kernel
theorem dX7_partOf_48 : decode cX7_partOf 48 = .ok (.iload_n 1, 1) := by decide +kernel
theorem dX7_partOf_49 : decode cX7_partOf 49 = .ok (.iaload, 1) := by decide +kernel
theorem dX7_partOf_50 : decode cX7_partOf 50 = .ok (.ireturn, 1) := by decide +kernel
theorem dX7_partOf_51 : decode cX7_partOf 51 = .ok (.aload_n 0, 1) := by decide +kernel
theorem dX7_partOf_52 : decode cX7_partOf 52 = .ok (.getfield 16, 3) := by decide +kernel
theorem dX7_partOf_55 : decode cX7_partOf 55 = .ok (.iload_n 1, 1) := by decide +kernel
theorem dX7_partOf_56 : decode cX7_partOf 56 = .ok (.iaload, 1) := by decide +kernel
theorem dX7_partOf_57 : decode cX7_partOf 57 = .ok (.ireturn, 1) := by decide +kernel
theorem dX7_partOf_58 : decode cX7_partOf 58 = .ok (.aload_n 0, 1) := by decide +kernel
theorem dX7_partOf_59 : decode cX7_partOf 59 = .ok (.getfield 19, 3) := by decide +kernel
theorem dX7_partOf_62 : decode cX7_partOf 62 = .ok (.iload_n 1, 1) := by decide +kernel
theorem dX7_partOf_63 : decode cX7_partOf 63 = .ok (.iaload, 1) := by decide +kernel
theorem dX7_partOf_64 : decode cX7_partOf 64 = .ok (.ireturn, 1) := by decide +kernel
theorem dX7_partOf_65 : decode cX7_partOf 65 = .ok (.aload_n 0, 1) := by decide +kernel
theorem dX7_partOf_66 : decode cX7_partOf 66 = .ok (.iload_n 1, 1) := by decide +kernel
theorem dX7_partOf_67 : decode cX7_partOf 67 = .ok (.invokevirtual 106, 3) := by decide +kernel
theorem dX7_partOf_70 : decode cX7_partOf 70 = .ok (.ireturn, 1) := by decide +kernel
theorem dX7_partOf_71 : decode cX7_partOf 71 = .ok (.aload_n 0, 1) := by decide +kernel
theorem dX7_partOf_72 : decode cX7_partOf 72 = .ok (.bipush (-2), 2) := by decide +kernel
theorem dX7_partOf_74 : decode cX7_partOf 74 = .ok (.invokevirtual 72, 3) := by decide +kernel
theorem dX7_partOf_77 : decode cX7_partOf 77 = .ok (.ireturn, 1) := by decide +kernel
theorem dX7_cell_0 : decode cX7_cell 0 = .ok (.aload_n 0, 1) := by decide +kernel
theorem dX7_cell_1 : decode cX7_cell 1 = .ok (.iload_n 1, 1) := by decide +kernel
theorem dX7_cell_2 : decode cX7_cell 2 = .ok (.invokevirtual 103, 3) := by decide +kernel
theorem dX7_cell_5 : decode cX7_cell 5 = .ok (.ifCond .eq 28, 3) := by decide +kernel
theorem dX7_cell_8 : decode cX7_cell 8 = .ok (.aload_n 0, 1) := by decide +kernel
theorem dX7_cell_9 : decode cX7_cell 9 = .ok (.iload_n 1, 1) := by decide +kernel
theorem dX7_cell_10 : decode cX7_cell 10 = .ok (.iload_n 2, 1) := by decide +kernel
theorem dX7_cell_11 : decode cX7_cell 11 = .ok (.invokevirtual 109, 3) := by decide +kernel
theorem dX7_cell_14 : decode cX7_cell 14 = .ok (.ifCond .eq 19, 3) := by decide +kernel
theorem dX7_cell_17 : decode cX7_cell 17 = .ok (.aload_n 0, 1) := by decide +kernel
theorem dX7_cell_18 : decode cX7_cell 18 = .ok (.iload_n 1, 1) := by decide +kernel
theorem dX7_cell_19 : decode cX7_cell 19 = .ok (.iload_n 2, 1) := by decide +kernel
theorem dX7_cell_20 : decode cX7_cell 20 = .ok (.bipush 10, 2) := by decide +kernel
theorem dX7_cell_22 : decode cX7_cell 22 = .ok (.idiv, 1) := by decide +kernel
theorem dX7_cell_23 : decode cX7_cell 23 = .ok (.iload_n 2, 1) := by decide +kernel
theorem dX7_cell_24 : decode cX7_cell 24 = .ok (.bipush 10, 2) := by decide +kernel
theorem dX7_cell_26 : decode cX7_cell 26 = .ok (.irem, 1) := by decide +kernel
theorem dX7_cell_27 : decode cX7_cell 27 = .ok (.invokevirtual 112, 3) := by decide +kernel
theorem dX7_cell_30 : decode cX7_cell 30 = .ok (.goto 8, 3) := by decide +kernel
theorem dX7_cell_33 : decode cX7_cell 33 = .ok (.aload_n 0, 1) := by decide +kernel
theorem dX7_cell_34 : decode cX7_cell 34 = .ok (.iconst (-1), 1) := by decide +kernel
theorem dX7_cell_35 : decode cX7_cell 35 = .ok (.invokevirtual 72, 3) := by decide +kernel
theorem dX7_cell_38 : decode cX7_cell 38 = .ok (.ireturn, 1) := by decide +kernel
theorem dX7_toCover_0 : decode cX7_toCover 0 = .ok (.iconst 0, 1) := by decide +kernel
theorem dX7_toCover_1 : decode cX7_toCover 1 = .ok (.istore_n 3, 1) := by decide +kernel
theorem dX7_toCover_2 : decode cX7_toCover 2 = .ok (.iconst 0, 1) := by decide +kernel
theorem dX7_toCover_3 : decode cX7_toCover 3 = .ok (.istore 4, 2) := by decide +kernel
theorem dX7_toCover_5 : decode cX7_toCover 5 = .ok (.iload 4, 2) := by decide +kernel
theorem dX7_toCover_7 : decode cX7_toCover 7 = .ok (.bipush 20, 2) := by decide +kernel
theorem dX7_toCover_9 : decode cX7_toCover 9 = .ok (.if_icmp .ge 59, 3) := by decide +kernel
theorem dX7_toCover_12 : decode cX7_toCover 12 = .ok (.aload_n 0, 1) := by decide +kernel
theorem dX7_toCover_13 : decode cX7_toCover 13 = .ok (.getfield 22, 3) := by decide +kernel
theorem dX7_toCover_16 : decode cX7_toCover 16 = .ok (.bipush 20, 2) := by decide +kernel
theorem dX7_toCover_18 : decode cX7_toCover 18 = .ok (.iload_n 1, 1) := by decide +kernel
theorem dX7_toCover_19 : decode cX7_toCover 19 = .ok (.imul, 1) := by decide +kernel
theorem dX7_toCover_20 : decode cX7_toCover 20 = .ok (.iload 4, 2) := by decide +kernel
theorem dX7_toCover_22 : decode cX7_toCover 22 = .ok (.iadd, 1) := by decide +kernel
theorem dX7_toCover_23 : decode cX7_toCover 23 = .ok (.iaload, 1) := by decide +kernel
theorem dX7_toCover_24 : decode cX7_toCover 24 = .ok (.istore 5, 2) := by decide +kernel
theorem dX7_toCover_26 : decode cX7_toCover 26 = .ok (.iload_n 3, 1) := by decide +kernel
theorem dX7_toCover_27 : decode cX7_toCover 27 = .ok (.iload 5, 2) := by decide +kernel
theorem dX7_toCover_29 : decode cX7_toCover 29 = .ok (.iconst 1, 1) := by decide +kernel
theorem dX7_toCover_30 : decode cX7_toCover 30 = .ok (.if_icmp .eq 22, 3) := by decide +kernel
theorem dX7_toCover_33 : decode cX7_toCover 33 = .ok (.iload 5, 2) := by decide +kernel
theorem dX7_toCover_35 : decode cX7_toCover 35 = .ok (.bipush 10, 2) := by decide +kernel
theorem dX7_toCover_37 : decode cX7_toCover 37 = .ok (.if_icmp .lt 22, 3) := by decide +kernel
theorem dX7_toCover_40 : decode cX7_toCover 40 = .ok (.iload_n 2, 1) := by decide +kernel
theorem dX7_toCover_41 : decode cX7_toCover 41 = .ok (.iload 5, 2) := by decide +kernel
theorem dX7_toCover_43 : decode cX7_toCover 43 = .ok (.bipush 10, 2) := by decide +kernel
theorem dX7_toCover_45 : decode cX7_toCover 45 = .ok (.isub, 1) := by decide +kernel
theorem dX7_toCover_46 : decode cX7_toCover 46 = .ok (.ishr, 1) := by decide +kernel
theorem dX7_toCover_47 : decode cX7_toCover 47 = .ok (.iconst 1, 1) := by decide +kernel
theorem dX7_toCover_48 : decode cX7_toCover 48 = .ok (.iand, 1) := by decide +kernel
theorem dX7_toCover_49 : decode cX7_toCover 49 = .ok (.ifCond .ne 10, 3) := by decide +kernel
theorem dX7_toCover_52 : decode cX7_toCover 52 = .ok (.iconst 1, 1) := by decide +kernel
theorem dX7_toCover_53 : decode cX7_toCover 53 = .ok (.iload 4, 2) := by decide +kernel
theorem dX7_toCover_55 : decode cX7_toCover 55 = .ok (.ishl, 1) := by decide +kernel
theorem dX7_toCover_56 : decode cX7_toCover 56 = .ok (.goto 4, 3) := by decide +kernel
theorem dX7_toCover_59 : decode cX7_toCover 59 = .ok (.iconst 0, 1) := by decide +kernel
theorem dX7_toCover_60 : decode cX7_toCover 60 = .ok (.ior, 1) := by decide +kernel
theorem dX7_toCover_61 : decode cX7_toCover 61 = .ok (.istore_n 3, 1) := by decide +kernel
theorem dX7_toCover_62 : decode cX7_toCover 62 = .ok (.iinc 4 1, 3) := by decide +kernel
theorem dX7_toCover_65 : decode cX7_toCover 65 = .ok (.goto (-60), 3) := by decide +kernel
theorem dX7_toCover_68 : decode cX7_toCover 68 = .ok (.iload_n 3, 1) := by decide +kernel
theorem dX7_toCover_69 : decode cX7_toCover 69 = .ok (.ireturn, 1) := by decide +kernel
theorem dX7_first_0 : decode cX7_first 0 = .ok (.iconst 0, 1) := by decide +kernel
theorem dX7_first_1 : decode cX7_first 1 = .ok (.istore_n 1, 1) := by decide +kernel
theorem dX7_first_2 : decode cX7_first 2 = .ok (.iload_n 0, 1) := by decide +kernel
theorem dX7_first_3 : decode cX7_first 3 = .ok (.iload_n 1, 1) := by decide +kernel
theorem dX7_first_4 : decode cX7_first 4 = .ok (.ishr, 1) := by decide +kernel
theorem dX7_first_5 : decode cX7_first 5 = .ok (.iconst 1, 1) := by decide +kernel
theorem dX7_first_6 : decode cX7_first 6 = .ok (.iand, 1) := by decide +kernel
theorem dX7_first_7 : decode cX7_first 7 = .ok (.ifCond .ne 9, 3) := by decide +kernel
theorem dX7_first_10 : decode cX7_first 10 = .ok (.iinc 1 1, 3) := by decide +kernel
theorem dX7_first_13 : decode cX7_first 13 = .ok (.goto (-11), 3) := by decide +kernel
theorem dX7_first_16 : decode cX7_first 16 = .ok (.iload_n 1, 1) := by decide +kernel
theorem dX7_first_17 : decode cX7_first 17 = .ok (.ireturn, 1) := by decide +kernel
theorem dX7_isRight_0 : decode cX7_isRight 0 = .ok (.iload_n 1, 1) := by decide +kernel
theorem dX7_isRight_1 : decode cX7_isRight 1 = .ok (.iconst 5, 1) := by decide +kernel
theorem dX7_isRight_2 : decode cX7_isRight 2 = .ok (.irem, 1) := by decide +kernel
theorem dX7_isRight_3 : decode cX7_isRight 3 = .ok (.iconst 4, 1) := by decide +kernel
theorem dX7_isRight_4 : decode cX7_isRight 4 = .ok (.if_icmp .ge 18, 3) := by decide +kernel
theorem dX7_isRight_7 : decode cX7_isRight 7 = .ok (.iload_n 0, 1) := by decide +kernel
theorem dX7_isRight_8 : decode cX7_isRight 8 = .ok (.iload_n 1, 1) := by decide +kernel
theorem dX7_isRight_9 : decode cX7_isRight 9 = .ok (.iconst 1, 1) := by decide +kernel
theorem dX7_isRight_10 : decode cX7_isRight 10 = .ok (.iadd, 1) := by decide +kernel
theorem dX7_isRight_11 : decode cX7_isRight 11 = .ok (.ishr, 1) := by decide +kernel
theorem dX7_isRight_12 : decode cX7_isRight 12 = .ok (.iconst 1, 1) := by decide +kernel
theorem dX7_isRight_13 : decode cX7_isRight 13 = .ok (.iand, 1) := by decide +kernel
theorem dX7_isRight_14 : decode cX7_isRight 14 = .ok (.iconst 1, 1) := by decide +kernel
theorem dX7_isRight_15 : decode cX7_isRight 15 = .ok (.if_icmp .ne 7, 3) := by decide +kernel
theorem dX7_isRight_18 : decode cX7_isRight 18 = .ok (.iconst 1, 1) := by decide +kernel
theorem dX7_isRight_19 : decode cX7_isRight 19 = .ok (.goto 4, 3) := by decide +kernel
theorem dX7_isRight_22 : decode cX7_isRight 22 = .ok (.iconst 0, 1) := by decide +kernel
theorem dX7_isRight_23 : decode cX7_isRight 23 = .ok (.ireturn, 1) := by decide +kernel
theorem dX7_isDown_0 : decode cX7_isDown 0 = .ok (.iload_n 1, 1) := by decide +kernel
theorem dX7_isDown_1 : decode cX7_isDown 1 = .ok (.bipush 15, 2) := by decide +kernel
theorem dX7_isDown_3 : decode cX7_isDown 3 = .ok (.if_icmp .ge 18, 3) := by decide +kernel
theorem dX7_isDown_6 : decode cX7_isDown 6 = .ok (.iload_n 0, 1) := by decide +kernel
theorem dX7_isDown_7 : decode cX7_isDown 7 = .ok (.iload_n 1, 1) := by decide +kernel
theorem dX7_isDown_8 : decode cX7_isDown 8 = .ok (.iconst 5, 1) := by decide +kernel
theorem dX7_isDown_9 : decode cX7_isDown 9 = .ok (.iadd, 1) := by decide +kernel
theorem dX7_isDown_10 : decode cX7_isDown 10 = .ok (.ishr, 1) := by decide +kernel
theorem dX7_isDown_11 : decode cX7_isDown 11 = .ok (.iconst 1, 1) := by decide +kernel
theorem dX7_isDown_12 : decode cX7_isDown 12 = .ok (.iand, 1) := by decide +kernel
theorem dX7_isDown_13 : decode cX7_isDown 13 = .ok (.iconst 1, 1) := by decide +kernel
theorem dX7_isDown_14 : decode cX7_isDown 14 = .ok (.if_icmp .ne 7, 3) := by decide +kernel
theorem dX7_isDown_17 : decode cX7_isDown 17 = .ok (.iconst 1, 1) := by decide +kernel
theorem dX7_isDown_18 : decode cX7_isDown 18 = .ok (.goto 4, 3) := by decide +kernel
theorem dX7_isDown_21 : decode cX7_isDown 21 = .ok (.iconst 0, 1) := by decide +kernel
theorem dX7_isDown_22 : decode cX7_isDown 22 = .ok (.ireturn, 1) := by decide +kernel
theorem dX7_tilings_0 : decode cX7_tilings 0 = .ok (.iload_n 1, 1) := by decide +kernel
theorem dX7_tilings_1 : decode cX7_tilings 1 = .ok (.ifCond .ne 5, 3) := by decide +kernel
theorem dX7_tilings_4 : decode cX7_tilings 4 = .ok (.iconst 1, 1) := by decide +kernel
theorem dX7_tilings_5 : decode cX7_tilings 5 = .ok (.ireturn, 1) := by decide +kernel
theorem dX7_tilings_6 : decode cX7_tilings 6 = .ok (.iload_n 1, 1) := by decide +kernel
theorem dX7_tilings_7 : decode cX7_tilings 7 = .ok (.invokestatic 116, 3) := by decide +kernel
theorem dX7_tilings_10 : decode cX7_tilings 10 = .ok (.istore_n 2, 1) := by decide +kernel
theorem dX7_tilings_11 : decode cX7_tilings 11 = .ok (.iload_n 1, 1) := by decide +kernel
theorem dX7_tilings_12 : decode cX7_tilings 12 = .ok (.iload_n 2, 1) := by decide +kernel
theorem dX7_tilings_13 : decode cX7_tilings 13 = .ok (.invokestatic 119, 3) := by decide +kernel
theorem dX7_tilings_16 : decode cX7_tilings 16 = .ok (.ifCond .eq 17, 3) := by decide +kernel
theorem dX7_tilings_19 : decode cX7_tilings 19 = .ok (.aload_n 0, 1) := by decide +kernel
theorem dX7_tilings_20 : decode cX7_tilings 20 = .ok (.iload_n 1, 1) := by decide +kernel
theorem dX7_tilings_21 : decode cX7_tilings 21 = .ok (.iconst 3, 1) := by decide +kernel
theorem dX7_tilings_22 : decode cX7_tilings 22 = .ok (.iload_n 2, 1) := by decide +kernel
theorem dX7_tilings_23 : decode cX7_tilings 23 = .ok (.ishl, 1) := by decide +kernel
theorem dX7_tilings_24 : decode cX7_tilings 24 = .ok (.iconst (-1), 1) := by decide +kernel
theorem dX7_tilings_25 : decode cX7_tilings 25 = .ok (.ixor, 1) := by decide +kernel
theorem dX7_tilings_26 : decode cX7_tilings 26 = .ok (.iand, 1) := by decide +kernel
theorem dX7_tilings_27 : decode cX7_tilings 27 = .ok (.invokevirtual 122, 3) := by decide +kernel
theorem dX7_tilings_30 : decode cX7_tilings 30 = .ok (.goto 4, 3) := by decide +kernel
theorem dX7_tilings_33 : decode cX7_tilings 33 = .ok (.iconst 0, 1) := by decide +kernel
theorem dX7_tilings_34 : decode cX7_tilings 34 = .ok (.istore_n 3, 1) := by decide +kernel
theorem dX7_tilings_35 : decode cX7_tilings 35 = .ok (.iload_n 1, 1) := by decide +kernel
theorem dX7_tilings_36 : decode cX7_tilings 36 = .ok (.iload_n 2, 1) := by decide +kernel
theorem dX7_tilings_37 : decode cX7_tilings 37 = .ok (.invokestatic 125, 3) := by decide +kernel
theorem dX7_tilings_40 : decode cX7_tilings 40 = .ok (.ifCond .eq 20, 3) := by decide +kernel
theorem dX7_tilings_43 : decode cX7_tilings 43 = .ok (.iload_n 3, 1) := by decide +kernel
theorem dX7_tilings_44 : decode cX7_tilings 44 = .ok (.aload_n 0, 1) := by decide +kernel
theorem dX7_tilings_45 : decode cX7_tilings 45 = .ok (.iload_n 1, 1) := by decide +kernel
theorem dX7_tilings_46 : decode cX7_tilings 46 = .ok (.bipush 33, 2) := by decide +kernel
theorem dX7_tilings_48 : decode cX7_tilings 48 = .ok (.iload_n 2, 1) := by decide +kernel
theorem dX7_tilings_49 : decode cX7_tilings 49 = .ok (.ishl, 1) := by decide +kernel
theorem dX7_tilings_50 : decode cX7_tilings 50 = .ok (.iconst (-1), 1) := by decide +kernel
theorem dX7_tilings_51 : decode cX7_tilings 51 = .ok (.ixor, 1) := by decide +kernel
theorem dX7_tilings_52 : decode cX7_tilings 52 = .ok (.iand, 1) := by decide +kernel
theorem dX7_tilings_53 : decode cX7_tilings 53 = .ok (.invokevirtual 122, 3) := by decide +kernel
theorem dX7_tilings_56 : decode cX7_tilings 56 = .ok (.iadd, 1) := by decide +kernel
theorem dX7_tilings_57 : decode cX7_tilings 57 = .ok (.goto 4, 3) := by decide +kernel
theorem dX7_tilings_60 : decode cX7_tilings 60 = .ok (.iload_n 3, 1) := by decide +kernel
theorem dX7_tilings_61 : decode cX7_tilings 61 = .ok (.ireturn, 1) := by decide +kernel
theorem dX7_isTiled_0 : decode cX7_isTiled 0 = .ok (.iload_n 1, 1) := by decide +kernel
theorem dX7_isTiled_1 : decode cX7_isTiled 1 = .ok (.ifCond .ne 5, 3) := by decide +kernel
theorem dX7_isTiled_4 : decode cX7_isTiled 4 = .ok (.iconst 1, 1) := by decide +kernel
theorem dX7_isTiled_5 : decode cX7_isTiled 5 = .ok (.ireturn, 1) := by decide +kernel
theorem dX7_isTiled_6 : decode cX7_isTiled 6 = .ok (.iload_n 1, 1) := by decide +kernel
theorem dX7_isTiled_7 : decode cX7_isTiled 7 = .ok (.invokestatic 116, 3) := by decide +kernel
theorem dX7_isTiled_10 : decode cX7_isTiled 10 = .ok (.istore_n 2, 1) := by decide +kernel
theorem dX7_isTiled_11 : decode cX7_isTiled 11 = .ok (.iload_n 1, 1) := by decide +kernel
theorem dX7_isTiled_12 : decode cX7_isTiled 12 = .ok (.iload_n 2, 1) := by decide +kernel
theorem dX7_isTiled_13 : decode cX7_isTiled 13 = .ok (.invokestatic 119, 3) := by decide +kernel
theorem dX7_isTiled_16 : decode cX7_isTiled 16 = .ok (.ifCond .eq 17, 3) := by decide +kernel
theorem dX7_isTiled_19 : decode cX7_isTiled 19 = .ok (.aload_n 0, 1) := by decide +kernel
theorem dX7_isTiled_20 : decode cX7_isTiled 20 = .ok (.iload_n 1, 1) := by decide +kernel
theorem dX7_isTiled_21 : decode cX7_isTiled 21 = .ok (.iconst 3, 1) := by decide +kernel
theorem dX7_isTiled_22 : decode cX7_isTiled 22 = .ok (.iload_n 2, 1) := by decide +kernel
theorem dX7_isTiled_23 : decode cX7_isTiled 23 = .ok (.ishl, 1) := by decide +kernel
theorem dX7_isTiled_24 : decode cX7_isTiled 24 = .ok (.iconst (-1), 1) := by decide +kernel
theorem dX7_isTiled_25 : decode cX7_isTiled 25 = .ok (.ixor, 1) := by decide +kernel
theorem dX7_isTiled_26 : decode cX7_isTiled 26 = .ok (.iand, 1) := by decide +kernel
theorem dX7_isTiled_27 : decode cX7_isTiled 27 = .ok (.invokevirtual 128, 3) := by decide +kernel
theorem dX7_isTiled_30 : decode cX7_isTiled 30 = .ok (.ifCond .ne 26, 3) := by decide +kernel
theorem dX7_isTiled_33 : decode cX7_isTiled 33 = .ok (.iload_n 1, 1) := by decide +kernel
theorem dX7_isTiled_34 : decode cX7_isTiled 34 = .ok (.iload_n 2, 1) := by decide +kernel
theorem dX7_isTiled_35 : decode cX7_isTiled 35 = .ok (.invokestatic 125, 3) := by decide +kernel
theorem dX7_isTiled_38 : decode cX7_isTiled 38 = .ok (.ifCond .eq 22, 3) := by decide +kernel
theorem dX7_isTiled_41 : decode cX7_isTiled 41 = .ok (.aload_n 0, 1) := by decide +kernel
theorem dX7_isTiled_42 : decode cX7_isTiled 42 = .ok (.iload_n 1, 1) := by decide +kernel
theorem dX7_isTiled_43 : decode cX7_isTiled 43 = .ok (.bipush 33, 2) := by decide +kernel
theorem dX7_isTiled_45 : decode cX7_isTiled 45 = .ok (.iload_n 2, 1) := by decide +kernel
theorem dX7_isTiled_46 : decode cX7_isTiled 46 = .ok (.ishl, 1) := by decide +kernel
theorem dX7_isTiled_47 : decode cX7_isTiled 47 = .ok (.iconst (-1), 1) := by decide +kernel
theorem dX7_isTiled_48 : decode cX7_isTiled 48 = .ok (.ixor, 1) := by decide +kernel
theorem dX7_isTiled_49 : decode cX7_isTiled 49 = .ok (.iand, 1) := by decide +kernel
theorem dX7_isTiled_50 : decode cX7_isTiled 50 = .ok (.invokevirtual 128, 3) := by decide +kernel
theorem dX7_isTiled_53 : decode cX7_isTiled 53 = .ok (.ifCond .eq 7, 3) := by decide +kernel
theorem dX7_isTiled_56 : decode cX7_isTiled 56 = .ok (.iconst 1, 1) := by decide +kernel
theorem dX7_isTiled_57 : decode cX7_isTiled 57 = .ok (.goto 4, 3) := by decide +kernel
theorem dX7_isTiled_60 : decode cX7_isTiled 60 = .ok (.iconst 0, 1) := by decide +kernel
theorem dX7_isTiled_61 : decode cX7_isTiled 61 = .ok (.ireturn, 1) := by decide +kernel
theorem dX7_states_0 : decode cX7_states 0 = .ok (.iconst 1, 1) := by decide +kernel
theorem dX7_states_1 : decode cX7_states 1 = .ok (.aload_n 0, 1) := by decide +kernel
theorem dX7_states_2 : decode cX7_states 2 = .ok (.getfield 19, 3) := by decide +kernel
theorem dX7_states_5 : decode cX7_states 5 = .ok (.iload_n 1, 1) := by decide +kernel
theorem dX7_states_6 : decode cX7_states 6 = .ok (.iaload, 1) := by decide +kernel
theorem dX7_states_7 : decode cX7_states 7 = .ok (.ishl, 1) := by decide +kernel
theorem dX7_states_8 : decode cX7_states 8 = .ok (.ireturn, 1) := by decide +kernel
theorem dX7_letsOf_0 : decode cX7_letsOf 0 = .ok (.lconst 0, 1) := by decide +kernel
theorem dX7_letsOf_1 : decode cX7_letsOf 1 = .ok (.lstore_n 2, 1) := by decide +kernel
theorem dX7_letsOf_2 : decode cX7_letsOf 2 = .ok (.iconst 0, 1) := by decide +kernel
theorem dX7_letsOf_3 : decode cX7_letsOf 3 = .ok (.istore 4, 2) := by decide +kernel
theorem dX7_letsOf_5 : decode cX7_letsOf 5 = .ok (.iload 4, 2) := by decide +kernel
theorem dX7_letsOf_7 : decode cX7_letsOf 7 = .ok (.aload_n 0, 1) := by decide +kernel
theorem dX7_letsOf_8 : decode cX7_letsOf 8 = .ok (.iload_n 1, 1) := by decide +kernel
theorem dX7_letsOf_9 : decode cX7_letsOf 9 = .ok (.invokevirtual 131, 3) := by decide +kernel
theorem dX7_letsOf_12 : decode cX7_letsOf 12 = .ok (.if_icmp .ge 34, 3) := by decide +kernel
theorem dX7_letsOf_15 : decode cX7_letsOf 15 = .ok (.lload_n 2, 1) := by decide +kernel
theorem dX7_letsOf_16 : decode cX7_letsOf 16 = .ok (.aload_n 0, 1) := by decide +kernel
theorem dX7_letsOf_17 : decode cX7_letsOf 17 = .ok (.aload_n 0, 1) := by decide +kernel
theorem dX7_letsOf_18 : decode cX7_letsOf 18 = .ok (.iload_n 1, 1) := by decide +kernel
theorem dX7_letsOf_19 : decode cX7_letsOf 19 = .ok (.iload 4, 2) := by decide +kernel
theorem dX7_letsOf_21 : decode cX7_letsOf 21 = .ok (.invokevirtual 134, 3) := by decide +kernel
theorem dX7_letsOf_24 : decode cX7_letsOf 24 = .ok (.invokevirtual 128, 3) := by decide +kernel
theorem dX7_letsOf_27 : decode cX7_letsOf 27 = .ok (.ifCond .eq 10, 3) := by decide +kernel
theorem dX7_letsOf_30 : decode cX7_letsOf 30 = .ok (.lconst 1, 1) := by decide +kernel
theorem dX7_letsOf_31 : decode cX7_letsOf 31 = .ok (.iload 4, 2) := by decide +kernel
theorem dX7_letsOf_33 : decode cX7_letsOf 33 = .ok (.lshl, 1) := by decide +kernel
theorem dX7_letsOf_34 : decode cX7_letsOf 34 = .ok (.goto 4, 3) := by decide +kernel
theorem dX7_letsOf_37 : decode cX7_letsOf 37 = .ok (.lconst 0, 1) := by decide +kernel
theorem dX7_letsOf_38 : decode cX7_letsOf 38 = .ok (.lor, 1) := by decide +kernel
theorem dX7_letsOf_39 : decode cX7_letsOf 39 = .ok (.lstore_n 2, 1) := by decide +kernel
theorem dX7_letsOf_40 : decode cX7_letsOf 40 = .ok (.iinc 4 1, 3) := by decide +kernel
theorem dX7_letsOf_43 : decode cX7_letsOf 43 = .ok (.goto (-38), 3) := by decide +kernel
theorem dX7_letsOf_46 : decode cX7_letsOf 46 = .ok (.lload_n 2, 1) := by decide +kernel
theorem dX7_letsOf_47 : decode cX7_letsOf 47 = .ok (.lreturn, 1) := by decide +kernel
theorem dX7_lets_0 : decode cX7_lets 0 = .ok (.aload_n 0, 1) := by decide +kernel
theorem dX7_lets_1 : decode cX7_lets 1 = .ok (.iload_n 1, 1) := by decide +kernel
theorem dX7_lets_2 : decode cX7_lets 2 = .ok (.invokevirtual 103, 3) := by decide +kernel
theorem dX7_lets_5 : decode cX7_lets 5 = .ok (.ifCond .eq 11, 3) := by decide +kernel
theorem dX7_lets_8 : decode cX7_lets 8 = .ok (.aload_n 0, 1) := by decide +kernel
theorem dX7_lets_9 : decode cX7_lets 9 = .ok (.iload_n 1, 1) := by decide +kernel
theorem dX7_lets_10 : decode cX7_lets 10 = .ok (.invokevirtual 138, 3) := by decide +kernel
theorem dX7_lets_13 : decode cX7_lets 13 = .ok (.goto 8, 3) := by decide +kernel
theorem dX7_lets_16 : decode cX7_lets 16 = .ok (.aload_n 0, 1) := by decide +kernel
theorem dX7_lets_17 : decode cX7_lets 17 = .ok (.iconst (-1), 1) := by decide +kernel
theorem dX7_lets_18 : decode cX7_lets 18 = .ok (.invokevirtual 142, 3) := by decide +kernel
theorem dX7_lets_21 : decode cX7_lets 21 = .ok (.lreturn, 1) := by decide +kernel
theorem dX7_ways_0 : decode cX7_ways 0 = .ok (.aload_n 0, 1) := by decide +kernel
theorem dX7_ways_1 : decode cX7_ways 1 = .ok (.iload_n 1, 1) := by decide +kernel
theorem dX7_ways_2 : decode cX7_ways 2 = .ok (.invokevirtual 103, 3) := by decide +kernel
theorem dX7_ways_5 : decode cX7_ways 5 = .ok (.ifCond .eq 28, 3) := by decide +kernel
theorem dX7_ways_8 : decode cX7_ways 8 = .ok (.iload_n 2, 1) := by decide +kernel
theorem dX7_ways_9 : decode cX7_ways 9 = .ok (.aload_n 0, 1) := by decide +kernel
theorem dX7_ways_10 : decode cX7_ways 10 = .ok (.iload_n 1, 1) := by decide +kernel
theorem dX7_ways_11 : decode cX7_ways 11 = .ok (.invokevirtual 131, 3) := by decide +kernel
theorem dX7_ways_14 : decode cX7_ways 14 = .ok (.invokestatic 80, 3) := by decide +kernel
theorem dX7_ways_17 : decode cX7_ways 17 = .ok (.ifCond .eq 16, 3) := by decide +kernel
theorem dX7_ways_20 : decode cX7_ways 20 = .ok (.aload_n 0, 1) := by decide +kernel
theorem dX7_ways_21 : decode cX7_ways 21 = .ok (.aload_n 0, 1) := by decide +kernel
theorem dX7_ways_22 : decode cX7_ways 22 = .ok (.iload_n 1, 1) := by decide +kernel
theorem dX7_ways_23 : decode cX7_ways 23 = .ok (.iload_n 2, 1) := by decide +kernel
theorem dX7_ways_24 : decode cX7_ways 24 = .ok (.invokevirtual 134, 3) := by decide +kernel
theorem dX7_ways_27 : decode cX7_ways 27 = .ok (.invokevirtual 122, 3) := by decide +kernel
theorem dX7_ways_30 : decode cX7_ways 30 = .ok (.goto 8, 3) := by decide +kernel
theorem dX7_ways_33 : decode cX7_ways 33 = .ok (.aload_n 0, 1) := by decide +kernel
theorem dX7_ways_34 : decode cX7_ways 34 = .ok (.iconst (-1), 1) := by decide +kernel
theorem dX7_ways_35 : decode cX7_ways 35 = .ok (.invokevirtual 72, 3) := by decide +kernel
theorem dX7_ways_38 : decode cX7_ways 38 = .ok (.ireturn, 1) := by decide +kernel
theorem dX7_covered_0 : decode cX7_covered 0 = .ok (.aload_n 0, 1) := by decide +kernel
theorem dX7_covered_1 : decode cX7_covered 1 = .ok (.iload_n 1, 1) := by decide +kernel
theorem dX7_covered_2 : decode cX7_covered 2 = .ok (.invokevirtual 103, 3) := by decide +kernel
theorem dX7_covered_5 : decode cX7_covered 5 = .ok (.ifCond .eq 24, 3) := by decide +kernel
theorem dX7_covered_8 : decode cX7_covered 8 = .ok (.iload_n 2, 1) := by decide +kernel
theorem dX7_covered_9 : decode cX7_covered 9 = .ok (.aload_n 0, 1) := by decide +kernel
theorem dX7_covered_10 : decode cX7_covered 10 = .ok (.iload_n 1, 1) := by decide +kernel
theorem dX7_covered_11 : decode cX7_covered 11 = .ok (.invokevirtual 131, 3) := by decide +kernel
theorem dX7_covered_14 : decode cX7_covered 14 = .ok (.invokestatic 80, 3) := by decide +kernel
theorem dX7_covered_17 : decode cX7_covered 17 = .ok (.ifCond .eq 12, 3) := by decide +kernel
theorem dX7_covered_20 : decode cX7_covered 20 = .ok (.aload_n 0, 1) := by decide +kernel
theorem dX7_covered_21 : decode cX7_covered 21 = .ok (.iload_n 1, 1) := by decide +kernel
theorem dX7_covered_22 : decode cX7_covered 22 = .ok (.iload_n 3, 1) := by decide +kernel
theorem dX7_covered_23 : decode cX7_covered 23 = .ok (.invokevirtual 109, 3) := by decide +kernel
theorem dX7_covered_26 : decode cX7_covered 26 = .ok (.ifCond .ne 9, 3) := by decide +kernel
theorem dX7_covered_29 : decode cX7_covered 29 = .ok (.aload_n 0, 1) := by decide +kernel
theorem dX7_covered_30 : decode cX7_covered 30 = .ok (.iconst (-1), 1) := by decide +kernel
theorem dX7_covered_31 : decode cX7_covered 31 = .ok (.invokevirtual 72, 3) := by decide +kernel
theorem dX7_covered_34 : decode cX7_covered 34 = .ok (.ireturn, 1) := by decide +kernel
theorem dX7_covered_35 : decode cX7_covered 35 = .ok (.aload_n 0, 1) := by decide +kernel
theorem dX7_covered_36 : decode cX7_covered 36 = .ok (.iload_n 1, 1) := by decide +kernel
theorem dX7_covered_37 : decode cX7_covered 37 = .ok (.iload_n 2, 1) := by decide +kernel
theorem dX7_covered_38 : decode cX7_covered 38 = .ok (.invokevirtual 134, 3) := by decide +kernel
theorem dX7_covered_41 : decode cX7_covered 41 = .ok (.istore 4, 2) := by decide +kernel
theorem dX7_covered_43 : decode cX7_covered 43 = .ok (.aload_n 0, 1) := by decide +kernel
theorem dX7_covered_44 : decode cX7_covered 44 = .ok (.iload 4, 2) := by decide +kernel
theorem dX7_covered_46 : decode cX7_covered 46 = .ok (.invokevirtual 128, 3) := by decide +kernel
theorem dX7_covered_49 : decode cX7_covered 49 = .ok (.ifCond .ne 6, 3) := by decide +kernel
theorem dX7_covered_52 : decode cX7_covered 52 = .ok (.bipush (-9), 2) := by decide +kernel
theorem dX7_covered_54 : decode cX7_covered 54 = .ok (.ireturn, 1) := by decide +kernel
theorem dX7_covered_55 : decode cX7_covered 55 = .ok (.iconst 5, 1) := by decide +kernel
theorem dX7_covered_56 : decode cX7_covered 56 = .ok (.iload_n 3, 1) := by decide +kernel
theorem dX7_covered_57 : decode cX7_covered 57 = .ok (.bipush 10, 2) := by decide +kernel
theorem dX7_covered_59 : decode cX7_covered 59 = .ok (.irem, 1) := by decide +kernel
theorem dX7_covered_60 : decode cX7_covered 60 = .ok (.imul, 1) := by decide +kernel
theorem dX7_covered_61 : decode cX7_covered 61 = .ok (.iload_n 3, 1) := by decide +kernel
theorem dX7_covered_62 : decode cX7_covered 62 = .ok (.bipush 10, 2) := by decide +kernel
theorem dX7_covered_64 : decode cX7_covered 64 = .ok (.idiv, 1) := by decide +kernel
theorem dX7_covered_65 : decode cX7_covered 65 = .ok (.iadd, 1) := by decide +kernel
theorem dX7_covered_66 : decode cX7_covered 66 = .ok (.istore 5, 2) := by decide +kernel
theorem dX7_covered_68 : decode cX7_covered 68 = .ok (.aload_n 0, 1) := by decide +kernel
theorem dX7_covered_69 : decode cX7_covered 69 = .ok (.getfield 22, 3) := by decide +kernel
theorem dX7_covered_72 : decode cX7_covered 72 = .ok (.bipush 20, 2) := by decide +kernel
theorem dX7_covered_74 : decode cX7_covered 74 = .ok (.iload_n 1, 1) := by decide +kernel
theorem dX7_covered_75 : decode cX7_covered 75 = .ok (.imul, 1) := by decide +kernel
theorem dX7_covered_76 : decode cX7_covered 76 = .ok (.iload 5, 2) := by decide +kernel
theorem dX7_covered_78 : decode cX7_covered 78 = .ok (.iadd, 1) := by decide +kernel
theorem dX7_covered_79 : decode cX7_covered 79 = .ok (.iaload, 1) := by decide +kernel
theorem dX7_covered_80 : decode cX7_covered 80 = .ok (.ifCond .ne 5, 3) := by decide +kernel
theorem dX7_covered_83 : decode cX7_covered 83 = .ok (.iconst 0, 1) := by decide +kernel
theorem dX7_covered_84 : decode cX7_covered 84 = .ok (.ireturn, 1) := by decide +kernel
theorem dX7_covered_85 : decode cX7_covered 85 = .ok (.iload 4, 2) := by decide +kernel
theorem dX7_covered_87 : decode cX7_covered 87 = .ok (.iload 5, 2) := by decide +kernel
theorem dX7_covered_89 : decode cX7_covered 89 = .ok (.ishr, 1) := by decide +kernel
theorem dX7_covered_90 : decode cX7_covered 90 = .ok (.iconst 1, 1) := by decide +kernel
theorem dX7_covered_91 : decode cX7_covered 91 = .ok (.iand, 1) := by decide +kernel
theorem dX7_covered_92 : decode cX7_covered 92 = .ok (.ifCond .ne 5, 3) := by decide +kernel
theorem dX7_covered_95 : decode cX7_covered 95 = .ok (.iconst 5, 1) := by decide +kernel
theorem dX7_covered_96 : decode cX7_covered 96 = .ok (.ireturn, 1) := by decide +kernel
theorem dX7_covered_97 : decode cX7_covered 97 = .ok (.iload 4, 2) := by decide +kernel
theorem dX7_covered_99 : decode cX7_covered 99 = .ok (.invokestatic 116, 3) := by decide +kernel
theorem dX7_covered_102 : decode cX7_covered 102 = .ok (.istore 6, 2) := by decide +kernel
theorem dX7_covered_104 : decode cX7_covered 104 = .ok (.iload 4, 2) := by decide +kernel
theorem dX7_covered_106 : decode cX7_covered 106 = .ok (.iload 6, 2) := by decide +kernel
theorem dX7_covered_108 : decode cX7_covered 108 = .ok (.invokestatic 119, 3) := by decide +kernel
theorem dX7_covered_111 : decode cX7_covered 111 = .ok (.ifCond .eq 23, 3) := by decide +kernel
theorem dX7_covered_114 : decode cX7_covered 114 = .ok (.aload_n 0, 1) := by decide +kernel
theorem dX7_covered_115 : decode cX7_covered 115 = .ok (.iload 4, 2) := by decide +kernel
theorem dX7_covered_117 : decode cX7_covered 117 = .ok (.iconst 3, 1) := by decide +kernel
theorem dX7_covered_118 : decode cX7_covered 118 = .ok (.iload 6, 2) := by decide +kernel
theorem dX7_covered_120 : decode cX7_covered 120 = .ok (.ishl, 1) := by decide +kernel
theorem dX7_covered_121 : decode cX7_covered 121 = .ok (.iconst (-1), 1) := by decide +kernel
theorem dX7_covered_122 : decode cX7_covered 122 = .ok (.ixor, 1) := by decide +kernel
theorem dX7_covered_123 : decode cX7_covered 123 = .ok (.iand, 1) := by decide +kernel
theorem dX7_covered_124 : decode cX7_covered 124 = .ok (.invokevirtual 128, 3) := by decide +kernel
theorem dX7_covered_127 : decode cX7_covered 127 = .ok (.ifCond .eq 7, 3) := by decide +kernel
theorem dX7_covered_130 : decode cX7_covered 130 = .ok (.iconst 1, 1) := by decide +kernel
theorem dX7_covered_131 : decode cX7_covered 131 = .ok (.goto 4, 3) := by decide +kernel
theorem dX7_covered_134 : decode cX7_covered 134 = .ok (.iconst 0, 1) := by decide +kernel
theorem dX7_covered_135 : decode cX7_covered 135 = .ok (.istore 7, 2) := by decide +kernel
theorem dX7_covered_137 : decode cX7_covered 137 = .ok (.iload 7, 2) := by decide +kernel
theorem dX7_covered_139 : decode cX7_covered 139 = .ok (.ifCond .eq 10, 3) := by decide +kernel
theorem dX7_covered_142 : decode cX7_covered 142 = .ok (.iload 6, 2) := by decide +kernel
theorem dX7_covered_144 : decode cX7_covered 144 = .ok (.iconst 1, 1) := by decide +kernel
theorem dX7_covered_145 : decode cX7_covered 145 = .ok (.iadd, 1) := by decide +kernel
theorem dX7_covered_146 : decode cX7_covered 146 = .ok (.goto 7, 3) := by decide +kernel
theorem dX7_covered_149 : decode cX7_covered 149 = .ok (.iload 6, 2) := by decide +kernel
theorem dX7_covered_151 : decode cX7_covered 151 = .ok (.iconst 5, 1) := by decide +kernel
theorem dX7_covered_152 : decode cX7_covered 152 = .ok (.iadd, 1) := by decide +kernel
theorem dX7_covered_153 : decode cX7_covered 153 = .ok (.istore 8, 2) := by decide +kernel
theorem dX7_covered_155 : decode cX7_covered 155 = .ok (.iload 6, 2) := by decide +kernel
theorem dX7_covered_157 : decode cX7_covered 157 = .ok (.iload 5, 2) := by decide +kernel
theorem dX7_covered_159 : decode cX7_covered 159 = .ok (.if_icmp .ne 14, 3) := by decide +kernel
theorem dX7_covered_162 : decode cX7_covered 162 = .ok (.iload 7, 2) := by decide +kernel
theorem dX7_covered_164 : decode cX7_covered 164 = .ok (.ifCond .eq 7, 3) := by decide +kernel
theorem dX7_covered_167 : decode cX7_covered 167 = .ok (.iconst 1, 1) := by decide +kernel
theorem dX7_covered_168 : decode cX7_covered 168 = .ok (.goto 4, 3) := by decide +kernel
theorem dX7_covered_171 : decode cX7_covered 171 = .ok (.iconst 2, 1) := by decide +kernel
theorem dX7_covered_172 : decode cX7_covered 172 = .ok (.ireturn, 1) := by decide +kernel
theorem dX7_covered_173 : decode cX7_covered 173 = .ok (.iload 8, 2) := by decide +kernel
theorem dX7_covered_175 : decode cX7_covered 175 = .ok (.iload 5, 2) := by decide +kernel
theorem dX7_covered_177 : decode cX7_covered 177 = .ok (.if_icmp .ne 14, 3) := by decide +kernel
theorem dX7_covered_180 : decode cX7_covered 180 = .ok (.iload 7, 2) := by decide +kernel
theorem dX7_covered_182 : decode cX7_covered 182 = .ok (.ifCond .eq 7, 3) := by decide +kernel
theorem dX7_covered_185 : decode cX7_covered 185 = .ok (.iconst 3, 1) := by decide +kernel
theorem dX7_covered_186 : decode cX7_covered 186 = .ok (.goto 4, 3) := by decide +kernel
theorem dX7_covered_189 : decode cX7_covered 189 = .ok (.iconst 4, 1) := by decide +kernel
theorem dX7_covered_190 : decode cX7_covered 190 = .ok (.ireturn, 1) := by decide +kernel
theorem dX7_covered_191 : decode cX7_covered 191 = .ok (.iload 4, 2) := by decide +kernel
theorem dX7_covered_193 : decode cX7_covered 193 = .ok (.iconst 1, 1) := by decide +kernel
theorem dX7_covered_194 : decode cX7_covered 194 = .ok (.iload 6, 2) := by decide +kernel
theorem dX7_covered_196 : decode cX7_covered 196 = .ok (.ishl, 1) := by decide +kernel
theorem dX7_covered_197 : decode cX7_covered 197 = .ok (.iconst 1, 1) := by decide +kernel
theorem dX7_covered_198 : decode cX7_covered 198 = .ok (.iload 8, 2) := by decide +kernel
theorem dX7_covered_200 : decode cX7_covered 200 = .ok (.ishl, 1) := by decide +kernel
theorem dX7_covered_201 : decode cX7_covered 201 = .ok (.ior, 1) := by decide +kernel
theorem dX7_covered_202 : decode cX7_covered 202 = .ok (.iconst (-1), 1) := by decide +kernel
theorem dX7_covered_203 : decode cX7_covered 203 = .ok (.ixor, 1) := by decide +kernel
theorem dX7_covered_204 : decode cX7_covered 204 = .ok (.iand, 1) := by decide +kernel
theorem dX7_covered_205 : decode cX7_covered 205 = .ok (.istore 4, 2) := by decide +kernel
theorem dX7_covered_207 : decode cX7_covered 207 = .ok (.goto (-110), 3) := by decide +kernel
theorem dX7_barred_0 : decode cX7_barred 0 = .ok (.aload_n 0, 1) := by decide +kernel
theorem dX7_barred_1 : decode cX7_barred 1 = .ok (.iload_n 1, 1) := by decide +kernel
theorem dX7_barred_2 : decode cX7_barred 2 = .ok (.invokevirtual 103, 3) := by decide +kernel
theorem dX7_barred_5 : decode cX7_barred 5 = .ok (.ifCond .ne 9, 3) := by decide +kernel
theorem dX7_barred_8 : decode cX7_barred 8 = .ok (.aload_n 0, 1) := by decide +kernel
theorem dX7_barred_9 : decode cX7_barred 9 = .ok (.iconst (-1), 1) := by decide +kernel
theorem dX7_barred_10 : decode cX7_barred 10 = .ok (.invokevirtual 142, 3) := by decide +kernel
theorem dX7_barred_13 : decode cX7_barred 13 = .ok (.lreturn, 1) := by decide +kernel
theorem dX7_barred_14 : decode cX7_barred 14 = .ok (.lconst 0, 1) := by decide +kernel
theorem dX7_barred_15 : decode cX7_barred 15 = .ok (.lstore_n 2, 1) := by decide +kernel
theorem dX7_barred_16 : decode cX7_barred 16 = .ok (.iconst 0, 1) := by decide +kernel
theorem dX7_barred_17 : decode cX7_barred 17 = .ok (.istore 4, 2) := by decide +kernel
theorem dX7_barred_19 : decode cX7_barred 19 = .ok (.iload 4, 2) := by decide +kernel
theorem dX7_barred_21 : decode cX7_barred 21 = .ok (.aload_n 0, 1) := by decide +kernel
theorem dX7_barred_22 : decode cX7_barred 22 = .ok (.iload_n 1, 1) := by decide +kernel
theorem dX7_barred_23 : decode cX7_barred 23 = .ok (.invokevirtual 131, 3) := by decide +kernel
theorem dX7_barred_26 : decode cX7_barred 26 = .ok (.if_icmp .ge 91, 3) := by decide +kernel
theorem dX7_barred_29 : decode cX7_barred 29 = .ok (.aload_n 0, 1) := by decide +kernel
theorem dX7_barred_30 : decode cX7_barred 30 = .ok (.iload_n 1, 1) := by decide +kernel
theorem dX7_barred_31 : decode cX7_barred 31 = .ok (.iload 4, 2) := by decide +kernel
theorem dX7_barred_33 : decode cX7_barred 33 = .ok (.invokevirtual 134, 3) := by decide +kernel
theorem dX7_barred_36 : decode cX7_barred 36 = .ok (.istore 5, 2) := by decide +kernel
theorem dX7_barred_38 : decode cX7_barred 38 = .ok (.iconst 0, 1) := by decide +kernel
theorem dX7_barred_39 : decode cX7_barred 39 = .ok (.istore 6, 2) := by decide +kernel
theorem dX7_barred_41 : decode cX7_barred 41 = .ok (.iconst 0, 1) := by decide +kernel
theorem dX7_barred_42 : decode cX7_barred 42 = .ok (.istore 7, 2) := by decide +kernel
theorem dX7_barred_44 : decode cX7_barred 44 = .ok (.iload 7, 2) := by decide +kernel
theorem dX7_barred_46 : decode cX7_barred 46 = .ok (.bipush 20, 2) := by decide +kernel
theorem dX7_barred_48 : decode cX7_barred 48 = .ok (.if_icmp .ge 47, 3) := by decide +kernel
theorem dX7_barred_51 : decode cX7_barred 51 = .ok (.iload 6, 2) := by decide +kernel
theorem dX7_barred_53 : decode cX7_barred 53 = .ok (.iload 5, 2) := by decide +kernel
theorem dX7_barred_55 : decode cX7_barred 55 = .ok (.iload 7, 2) := by decide +kernel
theorem dX7_barred_57 : decode cX7_barred 57 = .ok (.ishr, 1) := by decide +kernel
theorem dX7_barred_58 : decode cX7_barred 58 = .ok (.iconst 1, 1) := by decide +kernel
theorem dX7_barred_59 : decode cX7_barred 59 = .ok (.iand, 1) := by decide +kernel
theorem dX7_barred_60 : decode cX7_barred 60 = .ok (.ifCond .ne 7, 3) := by decide +kernel
theorem dX7_barred_63 : decode cX7_barred 63 = .ok (.iconst 0, 1) := by decide +kernel
theorem dX7_barred_64 : decode cX7_barred 64 = .ok (.goto 22, 3) := by decide +kernel
theorem dX7_barred_67 : decode cX7_barred 67 = .ok (.iload 7, 2) := by decide +kernel
theorem dX7_barred_69 : decode cX7_barred 69 = .ok (.iconst 5, 1) := by decide +kernel
theorem dX7_barred_70 : decode cX7_barred 70 = .ok (.irem, 1) := by decide +kernel
theorem dX7_barred_71 : decode cX7_barred 71 = .ok (.iload 7, 2) := by decide +kernel
theorem dX7_barred_73 : decode cX7_barred 73 = .ok (.iconst 5, 1) := by decide +kernel
theorem dX7_barred_74 : decode cX7_barred 74 = .ok (.idiv, 1) := by decide +kernel
theorem dX7_barred_75 : decode cX7_barred 75 = .ok (.iadd, 1) := by decide +kernel
theorem dX7_barred_76 : decode cX7_barred 76 = .ok (.iconst 2, 1) := by decide +kernel
theorem dX7_barred_77 : decode cX7_barred 77 = .ok (.irem, 1) := by decide +kernel
theorem dX7_barred_78 : decode cX7_barred 78 = .ok (.ifCond .ne 7, 3) := by decide +kernel
theorem dX7_barred_81 : decode cX7_barred 81 = .ok (.iconst 1, 1) := by decide +kernel
theorem dX7_barred_82 : decode cX7_barred 82 = .ok (.goto 4, 3) := by decide +kernel
theorem dX7_barred_85 : decode cX7_barred 85 = .ok (.iconst (-1), 1) := by decide +kernel
theorem dX7_barred_86 : decode cX7_barred 86 = .ok (.iadd, 1) := by decide +kernel
theorem dX7_barred_87 : decode cX7_barred 87 = .ok (.istore 6, 2) := by decide +kernel
theorem dX7_barred_89 : decode cX7_barred 89 = .ok (.iinc 7 1, 3) := by decide +kernel
theorem dX7_barred_92 : decode cX7_barred 92 = .ok (.goto (-48), 3) := by decide +kernel
theorem dX7_barred_95 : decode cX7_barred 95 = .ok (.lload_n 2, 1) := by decide +kernel
theorem dX7_barred_96 : decode cX7_barred 96 = .ok (.iload 6, 2) := by decide +kernel
theorem dX7_barred_98 : decode cX7_barred 98 = .ok (.ifCond .eq 10, 3) := by decide +kernel
theorem dX7_barred_101 : decode cX7_barred 101 = .ok (.lconst 1, 1) := by decide +kernel
theorem dX7_barred_102 : decode cX7_barred 102 = .ok (.iload 4, 2) := by decide +kernel
theorem dX7_barred_104 : decode cX7_barred 104 = .ok (.lshl, 1) := by decide +kernel
theorem dX7_barred_105 : decode cX7_barred 105 = .ok (.goto 4, 3) := by decide +kernel
theorem dX7_barred_108 : decode cX7_barred 108 = .ok (.lconst 0, 1) := by decide +kernel
theorem dX7_barred_109 : decode cX7_barred 109 = .ok (.lor, 1) := by decide +kernel
theorem dX7_barred_110 : decode cX7_barred 110 = .ok (.lstore_n 2, 1) := by decide +kernel
theorem dX7_barred_111 : decode cX7_barred 111 = .ok (.iinc 4 1, 3) := by decide +kernel
theorem dX7_barred_114 : decode cX7_barred 114 = .ok (.goto (-95), 3) := by decide +kernel
theorem dX7_barred_117 : decode cX7_barred 117 = .ok (.lload_n 2, 1) := by decide +kernel
theorem dX7_barred_118 : decode cX7_barred 118 = .ok (.lreturn, 1) := by decide +kernel
theorem dX7_sign_0 : decode cX7_sign 0 = .ok (.aload_n 0, 1) := by decide +kernel
theorem dX7_sign_1 : decode cX7_sign 1 = .ok (.getfield 93, 3) := by decide +kernel
theorem dX7_sign_4 : decode cX7_sign 4 = .ok (.aload_n 0, 1) := by decide +kernel
theorem dX7_sign_5 : decode cX7_sign 5 = .ok (.getfield 145, 3) := by decide +kernel
theorem dX7_sign_8 : decode cX7_sign 8 = .ok (.if_icmp .lt 7, 3) := by decide +kernel
theorem dX7_sign_11 : decode cX7_sign 11 = .ok (.iconst (-1), 1) := by decide +kernel
theorem dX7_sign_12 : decode cX7_sign 12 = .ok (.goto 17, 3) := by decide +kernel
theorem dX7_sign_15 : decode cX7_sign 15 = .ok (.aload_n 0, 1) := by decide +kernel
theorem dX7_sign_16 : decode cX7_sign 16 = .ok (.getfield 61, 3) := by decide +kernel
theorem dX7_sign_19 : decode cX7_sign 19 = .ok (.aload_n 0, 1) := by decide +kernel
theorem dX7_sign_20 : decode cX7_sign 20 = .ok (.getfield 148, 3) := by decide +kernel
theorem dX7_sign_23 : decode cX7_sign 23 = .ok (.aload_n 0, 1) := by decide +kernel
theorem dX7_sign_24 : decode cX7_sign 24 = .ok (.getfield 93, 3) := by decide +kernel
theorem dX7_sign_27 : decode cX7_sign 27 = .ok (.iadd, 1) := by decide +kernel
theorem dX7_sign_28 : decode cX7_sign 28 = .ok (.iaload, 1) := by decide +kernel
theorem dX7_sign_29 : decode cX7_sign 29 = .ok (.ireturn, 1) := by decide +kernel
theorem dX7_takes_0 : decode cX7_takes 0 = .ok (.aload_n 0, 1) := by decide +kernel
theorem dX7_takes_1 : decode cX7_takes 1 = .ok (.getfield 151, 3) := by decide +kernel
theorem dX7_takes_4 : decode cX7_takes 4 = .ok (.ifCond .eq 11, 3) := by decide +kernel
theorem dX7_takes_7 : decode cX7_takes 7 = .ok (.aload_n 0, 1) := by decide +kernel
theorem dX7_takes_8 : decode cX7_takes 8 = .ok (.invokevirtual 155, 3) := by decide +kernel
theorem dX7_takes_11 : decode cX7_takes 11 = .ok (.iload_n 1, 1) := by decide +kernel
theorem dX7_takes_12 : decode cX7_takes 12 = .ok (.if_icmp .eq 5, 3) := by decide +kernel
theorem dX7_takes_15 : decode cX7_takes 15 = .ok (.iconst 0, 1) := by decide +kernel
theorem dX7_takes_16 : decode cX7_takes 16 = .ok (.ireturn, 1) := by decide +kernel
theorem dX7_takes_17 : decode cX7_takes 17 = .ok (.aload_n 0, 1) := by decide +kernel
theorem dX7_takes_18 : decode cX7_takes 18 = .ok (.dup, 1) := by decide +kernel
theorem dX7_takes_19 : decode cX7_takes 19 = .ok (.getfield 93, 3) := by decide +kernel
theorem dX7_takes_22 : decode cX7_takes 22 = .ok (.iconst 1, 1) := by decide +kernel
theorem dX7_takes_23 : decode cX7_takes 23 = .ok (.iadd, 1) := by decide +kernel
theorem dX7_takes_24 : decode cX7_takes 24 = .ok (.putfield 93, 3) := by decide +kernel
theorem dX7_takes_27 : decode cX7_takes 27 = .ok (.iconst 1, 1) := by decide +kernel
theorem dX7_takes_28 : decode cX7_takes 28 = .ok (.ireturn, 1) := by decide +kernel
theorem dX7_or_0 : decode cX7_or 0 = .ok (.aload_n 0, 1) := by decide +kernel
theorem dX7_or_1 : decode cX7_or 1 = .ok (.invokevirtual 159, 3) := by decide +kernel
theorem dX7_or_4 : decode cX7_or 4 = .ok (.istore_n 1, 1) := by decide +kernel
theorem dX7_or_5 : decode cX7_or 5 = .ok (.aload_n 0, 1) := by decide +kernel
theorem dX7_or_6 : decode cX7_or 6 = .ok (.bipush 124, 2) := by decide +kernel
theorem dX7_or_8 : decode cX7_or 8 = .ok (.invokevirtual 163, 3) := by decide +kernel
theorem dX7_or_11 : decode cX7_or 11 = .ok (.ifCond .eq 25, 3) := by decide +kernel
theorem dX7_or_14 : decode cX7_or 14 = .ok (.aload_n 0, 1) := by decide +kernel
theorem dX7_or_15 : decode cX7_or 15 = .ok (.invokevirtual 159, 3) := by decide +kernel
theorem dX7_or_18 : decode cX7_or 18 = .ok (.istore_n 2, 1) := by decide +kernel
theorem dX7_or_19 : decode cX7_or 19 = .ok (.iload_n 1, 1) := by decide +kernel
theorem dX7_or_20 : decode cX7_or 20 = .ok (.ifCond .ne 7, 3) := by decide +kernel
theorem dX7_or_23 : decode cX7_or 23 = .ok (.iload_n 2, 1) := by decide +kernel
theorem dX7_or_24 : decode cX7_or 24 = .ok (.ifCond .eq 7, 3) := by decide +kernel
theorem dX7_or_27 : decode cX7_or 27 = .ok (.iconst 1, 1) := by decide +kernel
theorem dX7_or_28 : decode cX7_or 28 = .ok (.goto 4, 3) := by decide +kernel
theorem dX7_or_31 : decode cX7_or 31 = .ok (.iconst 0, 1) := by decide +kernel
theorem dX7_or_32 : decode cX7_or 32 = .ok (.istore_n 1, 1) := by decide +kernel
theorem dX7_or_33 : decode cX7_or 33 = .ok (.goto (-28), 3) := by decide +kernel
theorem dX7_or_36 : decode cX7_or 36 = .ok (.iload_n 1, 1) := by decide +kernel
theorem dX7_or_37 : decode cX7_or 37 = .ok (.ireturn, 1) := by decide +kernel
theorem dX7_and_0 : decode cX7_and 0 = .ok (.aload_n 0, 1) := by decide +kernel
theorem dX7_and_1 : decode cX7_and 1 = .ok (.invokevirtual 166, 3) := by decide +kernel
theorem dX7_and_4 : decode cX7_and 4 = .ok (.istore_n 1, 1) := by decide +kernel
theorem dX7_and_5 : decode cX7_and 5 = .ok (.aload_n 0, 1) := by decide +kernel
theorem dX7_and_6 : decode cX7_and 6 = .ok (.bipush 38, 2) := by decide +kernel
theorem dX7_and_8 : decode cX7_and 8 = .ok (.invokevirtual 163, 3) := by decide +kernel
theorem dX7_and_11 : decode cX7_and 11 = .ok (.ifCond .eq 25, 3) := by decide +kernel
theorem dX7_and_14 : decode cX7_and 14 = .ok (.aload_n 0, 1) := by decide +kernel
theorem dX7_and_15 : decode cX7_and 15 = .ok (.invokevirtual 166, 3) := by decide +kernel
theorem dX7_and_18 : decode cX7_and 18 = .ok (.istore_n 2, 1) := by decide +kernel
theorem dX7_and_19 : decode cX7_and 19 = .ok (.iload_n 1, 1) := by decide +kernel
theorem dX7_and_20 : decode cX7_and 20 = .ok (.ifCond .eq 11, 3) := by decide +kernel
theorem dX7_and_23 : decode cX7_and 23 = .ok (.iload_n 2, 1) := by decide +kernel
theorem dX7_and_24 : decode cX7_and 24 = .ok (.ifCond .eq 7, 3) := by decide +kernel
theorem dX7_and_27 : decode cX7_and 27 = .ok (.iconst 1, 1) := by decide +kernel
theorem dX7_and_28 : decode cX7_and 28 = .ok (.goto 4, 3) := by decide +kernel
theorem dX7_and_31 : decode cX7_and 31 = .ok (.iconst 0, 1) := by decide +kernel
theorem dX7_and_32 : decode cX7_and 32 = .ok (.istore_n 1, 1) := by decide +kernel
theorem dX7_and_33 : decode cX7_and 33 = .ok (.goto (-28), 3) := by decide +kernel
theorem dX7_and_36 : decode cX7_and 36 = .ok (.iload_n 1, 1) := by decide +kernel
theorem dX7_and_37 : decode cX7_and 37 = .ok (.ireturn, 1) := by decide +kernel
theorem dX7_breaks_0 : decode cX7_breaks 0 = .ok (.aload_n 0, 1) := by decide +kernel
theorem dX7_breaks_1 : decode cX7_breaks 1 = .ok (.iconst 0, 1) := by decide +kernel
theorem dX7_breaks_2 : decode cX7_breaks 2 = .ok (.putfield 151, 3) := by decide +kernel
theorem dX7_breaks_5 : decode cX7_breaks 5 = .ok (.iconst 0, 1) := by decide +kernel
theorem dX7_breaks_6 : decode cX7_breaks 6 = .ok (.ireturn, 1) := by decide +kernel
theorem dX7_unit_0 : decode cX7_unit 0 = .ok (.aload_n 0, 1) := by decide +kernel
theorem dX7_unit_1 : decode cX7_unit 1 = .ok (.getfield 151, 3) := by decide +kernel
theorem dX7_unit_4 : decode cX7_unit 4 = .ok (.ifCond .ne 5, 3) := by decide +kernel
theorem dX7_unit_7 : decode cX7_unit 7 = .ok (.iconst 0, 1) := by decide +kernel
theorem dX7_unit_8 : decode cX7_unit 8 = .ok (.ireturn, 1) := by decide +kernel
theorem dX7_unit_9 : decode cX7_unit 9 = .ok (.aload_n 0, 1) := by decide +kernel
theorem dX7_unit_10 : decode cX7_unit 10 = .ok (.invokevirtual 155, 3) := by decide +kernel
theorem dX7_unit_13 : decode cX7_unit 13 = .ok (.istore_n 1, 1) := by decide +kernel
theorem dX7_unit_14 : decode cX7_unit 14 = .ok (.iload_n 1, 1) := by decide +kernel
theorem dX7_unit_15 : decode cX7_unit 15 = .ok (.bipush 33, 2) := by decide +kernel
theorem dX7_unit_17 : decode cX7_unit 17 = .ok (.if_icmp .eq 9, 3) := by decide +kernel
theorem dX7_unit_20 : decode cX7_unit 20 = .ok (.iload_n 1, 1) := by decide +kernel
theorem dX7_unit_21 : decode cX7_unit 21 = .ok (.bipush 40, 2) := by decide +kernel
theorem dX7_unit_23 : decode cX7_unit 23 = .ok (.if_icmp .ne 94, 3) := by decide +kernel
theorem dX7_unit_26 : decode cX7_unit 26 = .ok (.aload_n 0, 1) := by decide +kernel
theorem dX7_unit_27 : decode cX7_unit 27 = .ok (.getfield 169, 3) := by decide +kernel
theorem dX7_unit_30 : decode cX7_unit 30 = .ok (.iconst 5, 1) := by decide +kernel
theorem dX7_unit_31 : decode cX7_unit 31 = .ok (.if_icmp .ne 8, 3) := by decide +kernel
theorem dX7_unit_34 : decode cX7_unit 34 = .ok (.aload_n 0, 1) := by decide +kernel
theorem dX7_unit_35 : decode cX7_unit 35 = .ok (.invokevirtual 172, 3) := by decide +kernel
theorem dX7_unit_38 : decode cX7_unit 38 = .ok (.ireturn, 1) := by decide +kernel
theorem dX7_unit_39 : decode cX7_unit 39 = .ok (.aload_n 0, 1) := by decide +kernel
theorem dX7_unit_40 : decode cX7_unit 40 = .ok (.dup, 1) := by decide +kernel
theorem dX7_unit_41 : decode cX7_unit 41 = .ok (.getfield 93, 3) := by decide +kernel
theorem dX7_unit_44 : decode cX7_unit 44 = .ok (.iconst 1, 1) := by decide +kernel
theorem dX7_unit_45 : decode cX7_unit 45 = .ok (.iadd, 1) := by decide +kernel
theorem dX7_unit_46 : decode cX7_unit 46 = .ok (.putfield 93, 3) := by decide +kernel
theorem dX7_unit_49 : decode cX7_unit 49 = .ok (.aload_n 0, 1) := by decide +kernel
theorem dX7_unit_50 : decode cX7_unit 50 = .ok (.dup, 1) := by decide +kernel
theorem dX7_unit_51 : decode cX7_unit 51 = .ok (.getfield 169, 3) := by decide +kernel
theorem dX7_unit_54 : decode cX7_unit 54 = .ok (.iconst 1, 1) := by decide +kernel
theorem dX7_unit_55 : decode cX7_unit 55 = .ok (.iadd, 1) := by decide +kernel
theorem dX7_unit_56 : decode cX7_unit 56 = .ok (.putfield 169, 3) := by decide +kernel
theorem dX7_unit_59 : decode cX7_unit 59 = .ok (.iload_n 1, 1) := by decide +kernel
theorem dX7_unit_60 : decode cX7_unit 60 = .ok (.bipush 33, 2) := by decide +kernel
theorem dX7_unit_62 : decode cX7_unit 62 = .ok (.if_icmp .ne 18, 3) := by decide +kernel
theorem dX7_unit_65 : decode cX7_unit 65 = .ok (.aload_n 0, 1) := by decide +kernel
theorem dX7_unit_66 : decode cX7_unit 66 = .ok (.invokevirtual 166, 3) := by decide +kernel
theorem dX7_unit_69 : decode cX7_unit 69 = .ok (.ifCond .ne 7, 3) := by decide +kernel
theorem dX7_unit_72 : decode cX7_unit 72 = .ok (.iconst 1, 1) := by decide +kernel
theorem dX7_unit_73 : decode cX7_unit 73 = .ok (.goto 11, 3) := by decide +kernel
theorem dX7_unit_76 : decode cX7_unit 76 = .ok (.iconst 0, 1) := by decide +kernel
theorem dX7_unit_77 : decode cX7_unit 77 = .ok (.goto 7, 3) := by decide +kernel
theorem dX7_unit_80 : decode cX7_unit 80 = .ok (.aload_n 0, 1) := by decide +kernel
theorem dX7_unit_81 : decode cX7_unit 81 = .ok (.invokevirtual 175, 3) := by decide +kernel
theorem dX7_unit_84 : decode cX7_unit 84 = .ok (.istore_n 2, 1) := by decide +kernel
theorem dX7_unit_85 : decode cX7_unit 85 = .ok (.iload_n 1, 1) := by decide +kernel
theorem dX7_unit_86 : decode cX7_unit 86 = .ok (.bipush 40, 2) := by decide +kernel
theorem dX7_unit_88 : decode cX7_unit 88 = .ok (.if_icmp .ne 17, 3) := by decide +kernel
theorem dX7_unit_91 : decode cX7_unit 91 = .ok (.aload_n 0, 1) := by decide +kernel
theorem dX7_unit_92 : decode cX7_unit 92 = .ok (.bipush 41, 2) := by decide +kernel
theorem dX7_unit_94 : decode cX7_unit 94 = .ok (.invokevirtual 163, 3) := by decide +kernel
theorem dX7_unit_97 : decode cX7_unit 97 = .ok (.ifCond .ne 8, 3) := by decide +kernel
theorem dX7_unit_100 : decode cX7_unit 100 = .ok (.aload_n 0, 1) := by decide +kernel
theorem dX7_unit_101 : decode cX7_unit 101 = .ok (.invokevirtual 172, 3) := by decide +kernel
theorem dX7_unit_104 : decode cX7_unit 104 = .ok (.ireturn, 1) := by decide +kernel
theorem dX7_unit_105 : decode cX7_unit 105 = .ok (.aload_n 0, 1) := by decide +kernel
theorem dX7_unit_106 : decode cX7_unit 106 = .ok (.dup, 1) := by decide +kernel
theorem dX7_unit_107 : decode cX7_unit 107 = .ok (.getfield 169, 3) := by decide +kernel
theorem dX7_unit_110 : decode cX7_unit 110 = .ok (.iconst 1, 1) := by decide +kernel
theorem dX7_unit_111 : decode cX7_unit 111 = .ok (.isub, 1) := by decide +kernel
theorem dX7_unit_112 : decode cX7_unit 112 = .ok (.putfield 169, 3) := by decide +kernel
theorem dX7_unit_115 : decode cX7_unit 115 = .ok (.iload_n 2, 1) := by decide +kernel
theorem dX7_unit_116 : decode cX7_unit 116 = .ok (.ireturn, 1) := by decide +kernel
theorem dX7_unit_117 : decode cX7_unit 117 = .ok (.iload_n 1, 1) := by decide +kernel
theorem dX7_unit_118 : decode cX7_unit 118 = .ok (.bipush 48, 2) := by decide +kernel
theorem dX7_unit_120 : decode cX7_unit 120 = .ok (.if_icmp .eq 26, 3) := by decide +kernel
theorem dX7_unit_123 : decode cX7_unit 123 = .ok (.iload_n 1, 1) := by decide +kernel
theorem dX7_unit_124 : decode cX7_unit 124 = .ok (.bipush 49, 2) := by decide +kernel
theorem dX7_unit_126 : decode cX7_unit 126 = .ok (.if_icmp .eq 20, 3) := by decide +kernel
theorem dX7_unit_129 : decode cX7_unit 129 = .ok (.iload_n 1, 1) := by decide +kernel
theorem dX7_unit_130 : decode cX7_unit 130 = .ok (.bipush 97, 2) := by decide +kernel
theorem dX7_unit_132 : decode cX7_unit 132 = .ok (.if_icmp .lt 9, 3) := by decide +kernel
theorem dX7_unit_135 : decode cX7_unit 135 = .ok (.iload_n 1, 1) := by decide +kernel
theorem dX7_unit_136 : decode cX7_unit 136 = .ok (.bipush 101, 2) := by decide +kernel
theorem dX7_unit_138 : decode cX7_unit 138 = .ok (.if_icmp .le 8, 3) := by decide +kernel
theorem dX7_unit_141 : decode cX7_unit 141 = .ok (.aload_n 0, 1) := by decide +kernel
theorem dX7_unit_142 : decode cX7_unit 142 = .ok (.invokevirtual 172, 3) := by decide +kernel
theorem dX7_unit_145 : decode cX7_unit 145 = .ok (.ireturn, 1) := by decide +kernel
theorem dX7_unit_146 : decode cX7_unit 146 = .ok (.aload_n 0, 1) := by decide +kernel
theorem dX7_unit_147 : decode cX7_unit 147 = .ok (.dup, 1) := by decide +kernel
theorem dX7_unit_148 : decode cX7_unit 148 = .ok (.getfield 93, 3) := by decide +kernel
theorem dX7_unit_151 : decode cX7_unit 151 = .ok (.iconst 1, 1) := by decide +kernel
theorem dX7_unit_152 : decode cX7_unit 152 = .ok (.iadd, 1) := by decide +kernel
theorem dX7_unit_153 : decode cX7_unit 153 = .ok (.putfield 93, 3) := by decide +kernel
theorem dX7_unit_156 : decode cX7_unit 156 = .ok (.iload_n 1, 1) := by decide +kernel
theorem dX7_unit_157 : decode cX7_unit 157 = .ok (.bipush 49, 2) := by decide +kernel
theorem dX7_unit_159 : decode cX7_unit 159 = .ok (.if_icmp .eq 24, 3) := by decide +kernel
theorem dX7_unit_162 : decode cX7_unit 162 = .ok (.iload_n 1, 1) := by decide +kernel
theorem dX7_unit_163 : decode cX7_unit 163 = .ok (.bipush 97, 2) := by decide +kernel
theorem dX7_unit_165 : decode cX7_unit 165 = .ok (.if_icmp .lt 22, 3) := by decide +kernel
theorem dX7_unit_168 : decode cX7_unit 168 = .ok (.aload_n 0, 1) := by decide +kernel
theorem dX7_unit_169 : decode cX7_unit 169 = .ok (.getfield 178, 3) := by decide +kernel
theorem dX7_unit_172 : decode cX7_unit 172 = .ok (.iload_n 1, 1) := by decide +kernel
theorem dX7_unit_173 : decode cX7_unit 173 = .ok (.bipush 97, 2) := by decide +kernel
theorem dX7_unit_175 : decode cX7_unit 175 = .ok (.isub, 1) := by decide +kernel
theorem dX7_unit_176 : decode cX7_unit 176 = .ok (.ishr, 1) := by decide +kernel
theorem dX7_unit_177 : decode cX7_unit 177 = .ok (.iconst 1, 1) := by decide +kernel
theorem dX7_unit_178 : decode cX7_unit 178 = .ok (.iand, 1) := by decide +kernel
theorem dX7_unit_179 : decode cX7_unit 179 = .ok (.iconst 1, 1) := by decide +kernel
theorem dX7_unit_180 : decode cX7_unit 180 = .ok (.if_icmp .ne 7, 3) := by decide +kernel
theorem dX7_unit_183 : decode cX7_unit 183 = .ok (.iconst 1, 1) := by decide +kernel
theorem dX7_unit_184 : decode cX7_unit 184 = .ok (.goto 4, 3) := by decide +kernel
theorem dX7_unit_187 : decode cX7_unit 187 = .ok (.iconst 0, 1) := by decide +kernel
theorem dX7_unit_188 : decode cX7_unit 188 = .ok (.ireturn, 1) := by decide +kernel
theorem dX7_goesThrough_0 : decode cX7_goesThrough 0 = .ok (.aload_n 0, 1) := by decide +kernel
theorem dX7_goesThrough_1 : decode cX7_goesThrough 1 = .ok (.aload_n 1, 1) := by decide +kernel
theorem dX7_goesThrough_2 : decode cX7_goesThrough 2 = .ok (.putfield 61, 3) := by decide +kernel
theorem dX7_goesThrough_5 : decode cX7_goesThrough 5 = .ok (.aload_n 0, 1) := by decide +kernel
theorem dX7_goesThrough_6 : decode cX7_goesThrough 6 = .ok (.iload_n 2, 1) := by decide +kernel
theorem dX7_goesThrough_7 : decode cX7_goesThrough 7 = .ok (.putfield 148, 3) := by decide +kernel
theorem dX7_goesThrough_10 : decode cX7_goesThrough 10 = .ok (.aload_n 0, 1) := by decide +kernel
theorem dX7_goesThrough_11 : decode cX7_goesThrough 11 = .ok (.iload_n 3, 1) := by decide +kernel
theorem dX7_goesThrough_12 : decode cX7_goesThrough 12 = .ok (.putfield 145, 3) := by decide +kernel
theorem dX7_goesThrough_15 : decode cX7_goesThrough 15 = .ok (.aload_n 0, 1) := by decide +kernel
theorem dX7_goesThrough_16 : decode cX7_goesThrough 16 = .ok (.iload 4, 2) := by decide +kernel
theorem dX7_goesThrough_18 : decode cX7_goesThrough 18 = .ok (.putfield 178, 3) := by decide +kernel
theorem dX7_goesThrough_21 : decode cX7_goesThrough 21 = .ok (.aload_n 0, 1) := by decide +kernel
theorem dX7_goesThrough_22 : decode cX7_goesThrough 22 = .ok (.iconst 0, 1) := by decide +kernel
theorem dX7_goesThrough_23 : decode cX7_goesThrough 23 = .ok (.putfield 93, 3) := by decide +kernel
theorem dX7_goesThrough_26 : decode cX7_goesThrough 26 = .ok (.aload_n 0, 1) := by decide +kernel
theorem dX7_goesThrough_27 : decode cX7_goesThrough 27 = .ok (.iconst 0, 1) := by decide +kernel
theorem dX7_goesThrough_28 : decode cX7_goesThrough 28 = .ok (.putfield 169, 3) := by decide +kernel
theorem dX7_goesThrough_31 : decode cX7_goesThrough 31 = .ok (.aload_n 0, 1) := by decide +kernel
theorem dX7_goesThrough_32 : decode cX7_goesThrough 32 = .ok (.iconst 1, 1) := by decide +kernel
theorem dX7_goesThrough_33 : decode cX7_goesThrough 33 = .ok (.putfield 151, 3) := by decide +kernel
theorem dX7_goesThrough_36 : decode cX7_goesThrough 36 = .ok (.aload_n 0, 1) := by decide +kernel
theorem dX7_goesThrough_37 : decode cX7_goesThrough 37 = .ok (.invokevirtual 175, 3) := by decide +kernel
theorem dX7_goesThrough_40 : decode cX7_goesThrough 40 = .ok (.ireturn, 1) := by decide +kernel
theorem dX7_formula_0 : decode cX7_formula 0 = .ok (.aload_n 0, 1) := by decide +kernel
theorem dX7_formula_1 : decode cX7_formula 1 = .ok (.getfield 181, 3) := by decide +kernel
theorem dX7_formula_4 : decode cX7_formula 4 = .ok (.bipush 20, 2) := by decide +kernel
theorem dX7_formula_6 : decode cX7_formula 6 = .ok (.if_icmp .ne 10, 3) := by decide +kernel
theorem dX7_formula_9 : decode cX7_formula 9 = .ok (.aload_n 0, 1) := by decide +kernel
theorem dX7_formula_10 : decode cX7_formula 10 = .ok (.bipush (-6), 2) := by decide +kernel
theorem dX7_formula_12 : decode cX7_formula 12 = .ok (.invokevirtual 72, 3) := by decide +kernel
theorem dX7_formula_15 : decode cX7_formula 15 = .ok (.ireturn, 1) := by decide +kernel
theorem dX7_formula_16 : decode cX7_formula 16 = .ok (.aload_n 0, 1) := by decide +kernel
theorem dX7_formula_17 : decode cX7_formula 17 = .ok (.aload_n 0, 1) := by decide +kernel
theorem dX7_formula_18 : decode cX7_formula 18 = .ok (.getfield 58, 3) := by decide +kernel
theorem dX7_formula_21 : decode cX7_formula 21 = .ok (.iconst 0, 1) := by decide +kernel
theorem dX7_formula_22 : decode cX7_formula 22 = .ok (.aload_n 0, 1) := by decide +kernel
theorem dX7_formula_23 : decode cX7_formula 23 = .ok (.getfield 84, 3) := by decide +kernel
theorem dX7_formula_26 : decode cX7_formula 26 = .ok (.iconst 0, 1) := by decide +kernel
theorem dX7_formula_27 : decode cX7_formula 27 = .ok (.invokevirtual 184, 3) := by decide +kernel
theorem dX7_formula_30 : decode cX7_formula 30 = .ok (.istore_n 1, 1) := by decide +kernel
theorem dX7_formula_31 : decode cX7_formula 31 = .ok (.aload_n 0, 1) := by decide +kernel
theorem dX7_formula_32 : decode cX7_formula 32 = .ok (.getfield 151, 3) := by decide +kernel
theorem dX7_formula_35 : decode cX7_formula 35 = .ok (.ifCond .eq 18, 3) := by decide +kernel
theorem dX7_formula_38 : decode cX7_formula 38 = .ok (.aload_n 0, 1) := by decide +kernel
theorem dX7_formula_39 : decode cX7_formula 39 = .ok (.getfield 93, 3) := by decide +kernel
theorem dX7_formula_42 : decode cX7_formula 42 = .ok (.aload_n 0, 1) := by decide +kernel
theorem dX7_formula_43 : decode cX7_formula 43 = .ok (.getfield 84, 3) := by decide +kernel
theorem dX7_formula_46 : decode cX7_formula 46 = .ok (.if_icmp .ne 7, 3) := by decide +kernel
theorem dX7_formula_49 : decode cX7_formula 49 = .ok (.iconst 1, 1) := by decide +kernel
theorem dX7_formula_50 : decode cX7_formula 50 = .ok (.goto 4, 3) := by decide +kernel
theorem dX7_formula_53 : decode cX7_formula 53 = .ok (.iconst 0, 1) := by decide +kernel
theorem dX7_formula_54 : decode cX7_formula 54 = .ok (.istore_n 2, 1) := by decide +kernel
theorem dX7_formula_55 : decode cX7_formula 55 = .ok (.aload_n 0, 1) := by decide +kernel
theorem dX7_formula_56 : decode cX7_formula 56 = .ok (.getfield 84, 3) := by decide +kernel
theorem dX7_formula_59 : decode cX7_formula 59 = .ok (.istore_n 3, 1) := by decide +kernel
theorem dX7_formula_60 : decode cX7_formula 60 = .ok (.aload_n 0, 1) := by decide +kernel
theorem dX7_formula_61 : decode cX7_formula 61 = .ok (.iconst 0, 1) := by decide +kernel
theorem dX7_formula_62 : decode cX7_formula 62 = .ok (.putfield 84, 3) := by decide +kernel
theorem dX7_formula_65 : decode cX7_formula 65 = .ok (.iload_n 2, 1) := by decide +kernel
theorem dX7_formula_66 : decode cX7_formula 66 = .ok (.ifCond .ne 11, 3) := by decide +kernel
theorem dX7_formula_69 : decode cX7_formula 69 = .ok (.bipush (-20), 2) := by decide +kernel
theorem dX7_formula_71 : decode cX7_formula 71 = .ok (.aload_n 0, 1) := by decide +kernel
theorem dX7_formula_72 : decode cX7_formula 72 = .ok (.getfield 93, 3) := by decide +kernel
theorem dX7_formula_75 : decode cX7_formula 75 = .ok (.isub, 1) := by decide +kernel
theorem dX7_formula_76 : decode cX7_formula 76 = .ok (.ireturn, 1) := by decide +kernel
theorem dX7_formula_77 : decode cX7_formula 77 = .ok (.iconst 0, 1) := by decide +kernel
theorem dX7_formula_78 : decode cX7_formula 78 = .ok (.istore 4, 2) := by decide +kernel
theorem dX7_formula_80 : decode cX7_formula 80 = .ok (.iload 4, 2) := by decide +kernel
theorem dX7_formula_82 : decode cX7_formula 82 = .ok (.iload_n 3, 1) := by decide +kernel
theorem dX7_formula_83 : decode cX7_formula 83 = .ok (.if_icmp .ge 31, 3) := by decide +kernel
theorem dX7_formula_86 : decode cX7_formula 86 = .ok (.aload_n 0, 1) := by decide +kernel
theorem dX7_formula_87 : decode cX7_formula 87 = .ok (.getfield 25, 3) := by decide +kernel
theorem dX7_formula_90 : decode cX7_formula 90 = .ok (.bipush 40, 2) := by decide +kernel
theorem dX7_formula_92 : decode cX7_formula 92 = .ok (.aload_n 0, 1) := by decide +kernel
theorem dX7_formula_93 : decode cX7_formula 93 = .ok (.getfield 181, 3) := by decide +kernel
theorem dX7_formula_96 : decode cX7_formula 96 = .ok (.imul, 1) := by decide +kernel
theorem dX7_formula_97 : decode cX7_formula 97 = .ok (.iload 4, 2) := by decide +kernel
theorem dX7_formula_99 : decode cX7_formula 99 = .ok (.iadd, 1) := by decide +kernel
theorem dX7_formula_100 : decode cX7_formula 100 = .ok (.aload_n 0, 1) := by decide +kernel
theorem dX7_formula_101 : decode cX7_formula 101 = .ok (.getfield 58, 3) := by decide +kernel
theorem dX7_formula_104 : decode cX7_formula 104 = .ok (.iload 4, 2) := by decide +kernel
theorem dX7_formula_106 : decode cX7_formula 106 = .ok (.iaload, 1) := by decide +kernel
theorem dX7_formula_107 : decode cX7_formula 107 = .ok (.iastore, 1) := by decide +kernel
theorem dX7_formula_108 : decode cX7_formula 108 = .ok (.iinc 4 1, 3) := by decide +kernel
theorem dX7_formula_111 : decode cX7_formula 111 = .ok (.goto (-31), 3) := by decide +kernel
theorem dX7_formula_114 : decode cX7_formula 114 = .ok (.aload_n 0, 1) := by decide +kernel
theorem dX7_formula_115 : decode cX7_formula 115 = .ok (.getfield 28, 3) := by decide +kernel
theorem dX7_formula_118 : decode cX7_formula 118 = .ok (.aload_n 0, 1) := by decide +kernel
theorem dX7_formula_119 : decode cX7_formula 119 = .ok (.getfield 181, 3) := by decide +kernel
theorem dX7_formula_122 : decode cX7_formula 122 = .ok (.iload_n 3, 1) := by decide +kernel
theorem dX7_formula_123 : decode cX7_formula 123 = .ok (.iastore, 1) := by decide +kernel
theorem dX7_formula_124 : decode cX7_formula 124 = .ok (.aload_n 0, 1) := by decide +kernel
theorem dX7_formula_125 : decode cX7_formula 125 = .ok (.dup, 1) := by decide +kernel
theorem dX7_formula_126 : decode cX7_formula 126 = .ok (.getfield 181, 3) := by decide +kernel
theorem dX7_formula_129 : decode cX7_formula 129 = .ok (.iconst 1, 1) := by decide +kernel
theorem dX7_formula_130 : decode cX7_formula 130 = .ok (.iadd, 1) := by decide +kernel
theorem dX7_formula_131 : decode cX7_formula 131 = .ok (.putfield 181, 3) := by decide +kernel
theorem dX7_formula_134 : decode cX7_formula 134 = .ok (.aload_n 0, 1) := by decide +kernel
theorem dX7_formula_135 : decode cX7_formula 135 = .ok (.getfield 181, 3) := by decide +kernel
theorem dX7_formula_138 : decode cX7_formula 138 = .ok (.iconst 1, 1) := by decide +kernel
theorem dX7_formula_139 : decode cX7_formula 139 = .ok (.isub, 1) := by decide +kernel
theorem dX7_formula_140 : decode cX7_formula 140 = .ok (.ireturn, 1) := by decide +kernel
theorem dX7_isFormula_0 : decode cX7_isFormula 0 = .ok (.iload_n 1, 1) := by decide +kernel
theorem dX7_isFormula_1 : decode cX7_isFormula 1 = .ok (.aload_n 0, 1) := by decide +kernel
theorem dX7_isFormula_2 : decode cX7_isFormula 2 = .ok (.getfield 181, 3) := by decide +kernel
theorem dX7_isFormula_5 : decode cX7_isFormula 5 = .ok (.invokestatic 80, 3) := by decide +kernel
theorem dX7_isFormula_8 : decode cX7_isFormula 8 = .ok (.ireturn, 1) := by decide +kernel
theorem dX7_isTrue_0 : decode cX7_isTrue 0 = .ok (.aload_n 0, 1) := by decide +kernel
theorem dX7_isTrue_1 : decode cX7_isTrue 1 = .ok (.aload_n 0, 1) := by decide +kernel
theorem dX7_isTrue_2 : decode cX7_isTrue 2 = .ok (.getfield 25, 3) := by decide +kernel
theorem dX7_isTrue_5 : decode cX7_isTrue 5 = .ok (.bipush 40, 2) := by decide +kernel
theorem dX7_isTrue_7 : decode cX7_isTrue 7 = .ok (.iload_n 1, 1) := by decide +kernel
theorem dX7_isTrue_8 : decode cX7_isTrue 8 = .ok (.imul, 1) := by decide +kernel
theorem dX7_isTrue_9 : decode cX7_isTrue 9 = .ok (.aload_n 0, 1) := by decide +kernel
theorem dX7_isTrue_10 : decode cX7_isTrue 10 = .ok (.getfield 28, 3) := by decide +kernel
theorem dX7_isTrue_13 : decode cX7_isTrue 13 = .ok (.iload_n 1, 1) := by decide +kernel
theorem dX7_isTrue_14 : decode cX7_isTrue 14 = .ok (.iaload, 1) := by decide +kernel
theorem dX7_isTrue_15 : decode cX7_isTrue 15 = .ok (.iload_n 2, 1) := by decide +kernel
theorem dX7_isTrue_16 : decode cX7_isTrue 16 = .ok (.invokevirtual 184, 3) := by decide +kernel
theorem dX7_isTrue_19 : decode cX7_isTrue 19 = .ok (.ireturn, 1) := by decide +kernel
theorem dX7_meansOf_0 : decode cX7_meansOf 0 = .ok (.lconst 0, 1) := by decide +kernel
theorem dX7_meansOf_1 : decode cX7_meansOf 1 = .ok (.lstore_n 3, 1) := by decide +kernel
theorem dX7_meansOf_2 : decode cX7_meansOf 2 = .ok (.iconst 0, 1) := by decide +kernel
theorem dX7_meansOf_3 : decode cX7_meansOf 3 = .ok (.istore 5, 2) := by decide +kernel
theorem dX7_meansOf_5 : decode cX7_meansOf 5 = .ok (.iload 5, 2) := by decide +kernel
theorem dX7_meansOf_7 : decode cX7_meansOf 7 = .ok (.iconst 1, 1) := by decide +kernel
theorem dX7_meansOf_8 : decode cX7_meansOf 8 = .ok (.iload_n 2, 1) := by decide +kernel
theorem dX7_meansOf_9 : decode cX7_meansOf 9 = .ok (.ishl, 1) := by decide +kernel
theorem dX7_meansOf_10 : decode cX7_meansOf 10 = .ok (.if_icmp .ge 30, 3) := by decide +kernel
theorem dX7_meansOf_13 : decode cX7_meansOf 13 = .ok (.lload_n 3, 1) := by decide +kernel
theorem dX7_meansOf_14 : decode cX7_meansOf 14 = .ok (.aload_n 0, 1) := by decide +kernel
theorem dX7_meansOf_15 : decode cX7_meansOf 15 = .ok (.iload_n 1, 1) := by decide +kernel
theorem dX7_meansOf_16 : decode cX7_meansOf 16 = .ok (.iload 5, 2) := by decide +kernel
theorem dX7_meansOf_18 : decode cX7_meansOf 18 = .ok (.invokevirtual 188, 3) := by decide +kernel
theorem dX7_meansOf_21 : decode cX7_meansOf 21 = .ok (.ifCond .eq 10, 3) := by decide +kernel
theorem dX7_meansOf_24 : decode cX7_meansOf 24 = .ok (.lconst 1, 1) := by decide +kernel
theorem dX7_meansOf_25 : decode cX7_meansOf 25 = .ok (.iload 5, 2) := by decide +kernel
theorem dX7_meansOf_27 : decode cX7_meansOf 27 = .ok (.lshl, 1) := by decide +kernel
theorem dX7_meansOf_28 : decode cX7_meansOf 28 = .ok (.goto 4, 3) := by decide +kernel
theorem dX7_meansOf_31 : decode cX7_meansOf 31 = .ok (.lconst 0, 1) := by decide +kernel
theorem dX7_meansOf_32 : decode cX7_meansOf 32 = .ok (.lor, 1) := by decide +kernel
theorem dX7_meansOf_33 : decode cX7_meansOf 33 = .ok (.lstore_n 3, 1) := by decide +kernel
theorem dX7_meansOf_34 : decode cX7_meansOf 34 = .ok (.iinc 5 1, 3) := by decide +kernel
theorem dX7_meansOf_37 : decode cX7_meansOf 37 = .ok (.goto (-32), 3) := by decide +kernel
theorem dX7_meansOf_40 : decode cX7_meansOf 40 = .ok (.lload_n 3, 1) := by decide +kernel
theorem dX7_meansOf_41 : decode cX7_meansOf 41 = .ok (.lreturn, 1) := by decide +kernel
theorem dX7_means_0 : decode cX7_means 0 = .ok (.aload_n 0, 1) := by decide +kernel
theorem dX7_means_1 : decode cX7_means 1 = .ok (.iload_n 1, 1) := by decide +kernel
theorem dX7_means_2 : decode cX7_means 2 = .ok (.invokevirtual 191, 3) := by decide +kernel
theorem dX7_means_5 : decode cX7_means 5 = .ok (.ifCond .eq 12, 3) := by decide +kernel
theorem dX7_means_8 : decode cX7_means 8 = .ok (.iload_n 2, 1) := by decide +kernel
theorem dX7_means_9 : decode cX7_means 9 = .ok (.iconst 0, 1) := by decide +kernel
theorem dX7_means_10 : decode cX7_means 10 = .ok (.iconst 5, 1) := by decide +kernel
theorem dX7_means_11 : decode cX7_means 11 = .ok (.invokestatic 194, 3) := by decide +kernel
theorem dX7_means_14 : decode cX7_means 14 = .ok (.goto 4, 3) := by decide +kernel
theorem dX7_means_17 : decode cX7_means 17 = .ok (.iconst (-1), 1) := by decide +kernel
theorem dX7_means_18 : decode cX7_means 18 = .ok (.istore_n 3, 1) := by decide +kernel
theorem dX7_means_19 : decode cX7_means 19 = .ok (.iload_n 3, 1) := by decide +kernel
theorem dX7_means_20 : decode cX7_means 20 = .ok (.ifCond .eq 11, 3) := by decide +kernel
theorem dX7_means_23 : decode cX7_means 23 = .ok (.aload_n 0, 1) := by decide +kernel
theorem dX7_means_24 : decode cX7_means 24 = .ok (.iload_n 3, 1) := by decide +kernel
theorem dX7_means_25 : decode cX7_means 25 = .ok (.invokevirtual 142, 3) := by decide +kernel
theorem dX7_means_28 : decode cX7_means 28 = .ok (.goto 9, 3) := by decide +kernel
theorem dX7_means_31 : decode cX7_means 31 = .ok (.aload_n 0, 1) := by decide +kernel
theorem dX7_means_32 : decode cX7_means 32 = .ok (.iload_n 1, 1) := by decide +kernel
theorem dX7_means_33 : decode cX7_means 33 = .ok (.iload_n 2, 1) := by decide +kernel
theorem dX7_means_34 : decode cX7_means 34 = .ok (.invokevirtual 197, 3) := by decide +kernel
theorem dX7_means_37 : decode cX7_means 37 = .ok (.lreturn, 1) := by decide +kernel
theorem dX7_does_0 : decode cX7_does 0 = .ok (.aload_n 0, 1) := by decide +kernel
theorem dX7_does_1 : decode cX7_does 1 = .ok (.iload_n 1, 1) := by decide +kernel
theorem dX7_does_2 : decode cX7_does 2 = .ok (.invokevirtual 103, 3) := by decide +kernel
theorem dX7_does_5 : decode cX7_does 5 = .ok (.ifCond .eq 39, 3) := by decide +kernel
theorem dX7_does_8 : decode cX7_does 8 = .ok (.aload_n 0, 1) := by decide +kernel
theorem dX7_does_9 : decode cX7_does 9 = .ok (.iload_n 2, 1) := by decide +kernel
theorem dX7_does_10 : decode cX7_does 10 = .ok (.invokevirtual 191, 3) := by decide +kernel
theorem dX7_does_13 : decode cX7_does 13 = .ok (.ifCond .eq 31, 3) := by decide +kernel
theorem dX7_does_16 : decode cX7_does 16 = .ok (.aload_n 0, 1) := by decide +kernel
theorem dX7_does_17 : decode cX7_does 17 = .ok (.iload_n 1, 1) := by decide +kernel
theorem dX7_does_18 : decode cX7_does 18 = .ok (.invokevirtual 138, 3) := by decide +kernel
theorem dX7_does_21 : decode cX7_does 21 = .ok (.aload_n 0, 1) := by decide +kernel
theorem dX7_does_22 : decode cX7_does 22 = .ok (.iload_n 2, 1) := by decide +kernel
theorem dX7_does_23 : decode cX7_does 23 = .ok (.aload_n 0, 1) := by decide +kernel
theorem dX7_does_24 : decode cX7_does 24 = .ok (.getfield 19, 3) := by decide +kernel
theorem dX7_does_27 : decode cX7_does 27 = .ok (.iload_n 1, 1) := by decide +kernel
theorem dX7_does_28 : decode cX7_does 28 = .ok (.iaload, 1) := by decide +kernel
theorem dX7_does_29 : decode cX7_does 29 = .ok (.invokevirtual 197, 3) := by decide +kernel
theorem dX7_does_32 : decode cX7_does 32 = .ok (.lcmp, 1) := by decide +kernel
theorem dX7_does_33 : decode cX7_does 33 = .ok (.ifCond .ne 7, 3) := by decide +kernel
theorem dX7_does_36 : decode cX7_does 36 = .ok (.iconst 1, 1) := by decide +kernel
theorem dX7_does_37 : decode cX7_does 37 = .ok (.goto 12, 3) := by decide +kernel
theorem dX7_does_40 : decode cX7_does 40 = .ok (.iconst 0, 1) := by decide +kernel
theorem dX7_does_41 : decode cX7_does 41 = .ok (.goto 8, 3) := by decide +kernel
theorem dX7_does_44 : decode cX7_does 44 = .ok (.aload_n 0, 1) := by decide +kernel
theorem dX7_does_45 : decode cX7_does 45 = .ok (.iconst (-1), 1) := by decide +kernel
theorem dX7_does_46 : decode cX7_does 46 = .ok (.invokevirtual 72, 3) := by decide +kernel
theorem dX7_does_49 : decode cX7_does 49 = .ok (.ireturn, 1) := by decide +kernel
theorem dX7_misses_0 : decode cX7_misses 0 = .ok (.aload_n 0, 1) := by decide +kernel
theorem dX7_misses_1 : decode cX7_misses 1 = .ok (.iload_n 1, 1) := by decide +kernel
theorem dX7_misses_2 : decode cX7_misses 2 = .ok (.invokevirtual 103, 3) := by decide +kernel
theorem dX7_misses_5 : decode cX7_misses 5 = .ok (.ifCond .eq 11, 3) := by decide +kernel
theorem dX7_misses_8 : decode cX7_misses 8 = .ok (.aload_n 0, 1) := by decide +kernel
theorem dX7_misses_9 : decode cX7_misses 9 = .ok (.iload_n 2, 1) := by decide +kernel
theorem dX7_misses_10 : decode cX7_misses 10 = .ok (.invokevirtual 191, 3) := by decide +kernel
theorem dX7_misses_13 : decode cX7_misses 13 = .ok (.ifCond .ne 9, 3) := by decide +kernel
theorem dX7_misses_16 : decode cX7_misses 16 = .ok (.aload_n 0, 1) := by decide +kernel
theorem dX7_misses_17 : decode cX7_misses 17 = .ok (.iconst (-1), 1) := by decide +kernel
theorem dX7_misses_18 : decode cX7_misses 18 = .ok (.invokevirtual 72, 3) := by decide +kernel
theorem dX7_misses_21 : decode cX7_misses 21 = .ok (.ireturn, 1) := by decide +kernel
theorem dX7_misses_22 : decode cX7_misses 22 = .ok (.aload_n 0, 1) := by decide +kernel
theorem dX7_misses_23 : decode cX7_misses 23 = .ok (.iload_n 1, 1) := by decide +kernel
theorem dX7_misses_24 : decode cX7_misses 24 = .ok (.invokevirtual 138, 3) := by decide +kernel
theorem dX7_misses_27 : decode cX7_misses 27 = .ok (.aload_n 0, 1) := by decide +kernel
theorem dX7_misses_28 : decode cX7_misses 28 = .ok (.iload_n 2, 1) := by decide +kernel
theorem dX7_misses_29 : decode cX7_misses 29 = .ok (.aload_n 0, 1) := by decide +kernel
theorem dX7_misses_30 : decode cX7_misses 30 = .ok (.getfield 19, 3) := by decide +kernel
theorem dX7_misses_33 : decode cX7_misses 33 = .ok (.iload_n 1, 1) := by decide +kernel
theorem dX7_misses_34 : decode cX7_misses 34 = .ok (.iaload, 1) := by decide +kernel
theorem dX7_misses_35 : decode cX7_misses 35 = .ok (.invokevirtual 197, 3) := by decide +kernel
theorem dX7_misses_38 : decode cX7_misses 38 = .ok (.lxor, 1) := by decide +kernel
theorem dX7_misses_39 : decode cX7_misses 39 = .ok (.lstore_n 3, 1) := by decide +kernel
theorem dX7_misses_40 : decode cX7_misses 40 = .ok (.iconst 0, 1) := by decide +kernel
theorem dX7_misses_41 : decode cX7_misses 41 = .ok (.istore 5, 2) := by decide +kernel
theorem dX7_misses_43 : decode cX7_misses 43 = .ok (.iload 5, 2) := by decide +kernel
theorem dX7_misses_45 : decode cX7_misses 45 = .ok (.aload_n 0, 1) := by decide +kernel
theorem dX7_misses_46 : decode cX7_misses 46 = .ok (.iload_n 1, 1) := by decide +kernel
theorem dX7_misses_47 : decode cX7_misses 47 = .ok (.invokevirtual 131, 3) := by decide +kernel
theorem dX7_misses_50 : decode cX7_misses 50 = .ok (.if_icmp .ge 23, 3) := by decide +kernel
theorem dX7_misses_53 : decode cX7_misses 53 = .ok (.lload_n 3, 1) := by decide +kernel
theorem dX7_misses_54 : decode cX7_misses 54 = .ok (.iload 5, 2) := by decide +kernel
theorem dX7_misses_56 : decode cX7_misses 56 = .ok (.lshr, 1) := by decide +kernel
theorem dX7_misses_57 : decode cX7_misses 57 = .ok (.lconst 1, 1) := by decide +kernel
theorem dX7_misses_58 : decode cX7_misses 58 = .ok (.land, 1) := by decide +kernel
theorem dX7_misses_59 : decode cX7_misses 59 = .ok (.lconst 1, 1) := by decide +kernel
theorem dX7_misses_60 : decode cX7_misses 60 = .ok (.lcmp, 1) := by decide +kernel
theorem dX7_misses_61 : decode cX7_misses 61 = .ok (.ifCond .ne 6, 3) := by decide +kernel
theorem dX7_misses_64 : decode cX7_misses 64 = .ok (.iload 5, 2) := by decide +kernel
theorem dX7_misses_66 : decode cX7_misses 66 = .ok (.ireturn, 1) := by decide +kernel
theorem dX7_misses_67 : decode cX7_misses 67 = .ok (.iinc 5 1, 3) := by decide +kernel
theorem dX7_misses_70 : decode cX7_misses 70 = .ok (.goto (-27), 3) := by decide +kernel
theorem dX7_misses_73 : decode cX7_misses 73 = .ok (.bipush (-9), 2) := by decide +kernel
theorem dX7_misses_75 : decode cX7_misses 75 = .ok (.ireturn, 1) := by decide +kernel
theorem dX7_turned_0 : decode cX7_turned 0 = .ok (.aload_n 0, 1) := by decide +kernel
theorem dX7_turned_1 : decode cX7_turned 1 = .ok (.getfield 13, 3) := by decide +kernel
theorem dX7_turned_4 : decode cX7_turned 4 = .ok (.iload_n 1, 1) := by decide +kernel
theorem dX7_turned_5 : decode cX7_turned 5 = .ok (.iaload, 1) := by decide +kernel
theorem dX7_turned_6 : decode cX7_turned 6 = .ok (.istore 6, 2) := by decide +kernel
theorem dX7_turned_8 : decode cX7_turned 8 = .ok (.aload_n 0, 1) := by decide +kernel
theorem dX7_turned_9 : decode cX7_turned 9 = .ok (.getfield 16, 3) := by decide +kernel
theorem dX7_turned_12 : decode cX7_turned 12 = .ok (.iload_n 1, 1) := by decide +kernel
theorem dX7_turned_13 : decode cX7_turned 13 = .ok (.iaload, 1) := by decide +kernel
theorem dX7_turned_14 : decode cX7_turned 14 = .ok (.istore 7, 2) := by decide +kernel
theorem dX7_turned_16 : decode cX7_turned 16 = .ok (.iload 4, 2) := by decide +kernel
theorem dX7_turned_18 : decode cX7_turned 18 = .ok (.ifCond .eq 12, 3) := by decide +kernel
theorem dX7_turned_21 : decode cX7_turned 21 = .ok (.iload 6, 2) := by decide +kernel
theorem dX7_turned_23 : decode cX7_turned 23 = .ok (.iconst 1, 1) := by decide +kernel
theorem dX7_turned_24 : decode cX7_turned 24 = .ok (.isub, 1) := by decide +kernel
theorem dX7_turned_25 : decode cX7_turned 25 = .ok (.iload_n 2, 1) := by decide +kernel
theorem dX7_turned_26 : decode cX7_turned 26 = .ok (.isub, 1) := by decide +kernel
theorem dX7_turned_27 : decode cX7_turned 27 = .ok (.goto 4, 3) := by decide +kernel
theorem dX7_turned_30 : decode cX7_turned 30 = .ok (.iload_n 2, 1) := by decide +kernel
theorem dX7_turned_31 : decode cX7_turned 31 = .ok (.istore 8, 2) := by decide +kernel
theorem dX7_turned_33 : decode cX7_turned 33 = .ok (.iload_n 3, 1) := by decide +kernel
theorem dX7_turned_34 : decode cX7_turned 34 = .ok (.istore 9, 2) := by decide +kernel
theorem dX7_turned_36 : decode cX7_turned 36 = .ok (.iconst 0, 1) := by decide +kernel
theorem dX7_turned_37 : decode cX7_turned 37 = .ok (.istore 10, 2) := by decide +kernel
theorem dX7_turned_39 : decode cX7_turned 39 = .ok (.iload 10, 2) := by decide +kernel
theorem dX7_turned_41 : decode cX7_turned 41 = .ok (.iload 5, 2) := by decide +kernel
theorem dX7_turned_43 : decode cX7_turned 43 = .ok (.if_icmp .ge 38, 3) := by decide +kernel
theorem dX7_turned_46 : decode cX7_turned 46 = .ok (.iload 7, 2) := by decide +kernel
theorem dX7_turned_48 : decode cX7_turned 48 = .ok (.iconst 1, 1) := by decide +kernel
theorem dX7_turned_49 : decode cX7_turned 49 = .ok (.isub, 1) := by decide +kernel
theorem dX7_turned_50 : decode cX7_turned 50 = .ok (.iload 9, 2) := by decide +kernel
theorem dX7_turned_52 : decode cX7_turned 52 = .ok (.isub, 1) := by decide +kernel
theorem dX7_turned_53 : decode cX7_turned 53 = .ok (.istore 11, 2) := by decide +kernel
theorem dX7_turned_55 : decode cX7_turned 55 = .ok (.iload 8, 2) := by decide +kernel
theorem dX7_turned_57 : decode cX7_turned 57 = .ok (.istore 9, 2) := by decide +kernel
theorem dX7_turned_59 : decode cX7_turned 59 = .ok (.iload 11, 2) := by decide +kernel
theorem dX7_turned_61 : decode cX7_turned 61 = .ok (.istore 8, 2) := by decide +kernel
theorem dX7_turned_63 : decode cX7_turned 63 = .ok (.iload 6, 2) := by decide +kernel
theorem dX7_turned_65 : decode cX7_turned 65 = .ok (.istore 11, 2) := by decide +kernel
theorem dX7_turned_67 : decode cX7_turned 67 = .ok (.iload 7, 2) := by decide +kernel
theorem dX7_turned_69 : decode cX7_turned 69 = .ok (.istore 6, 2) := by decide +kernel
theorem dX7_turned_71 : decode cX7_turned 71 = .ok (.iload 11, 2) := by decide +kernel
theorem dX7_turned_73 : decode cX7_turned 73 = .ok (.istore 7, 2) := by decide +kernel
theorem dX7_turned_75 : decode cX7_turned 75 = .ok (.iinc 10 1, 3) := by decide +kernel
theorem dX7_turned_78 : decode cX7_turned 78 = .ok (.goto (-39), 3) := by decide +kernel
theorem dX7_turned_81 : decode cX7_turned 81 = .ok (.bipush 10, 2) := by decide +kernel
theorem dX7_turned_83 : decode cX7_turned 83 = .ok (.iload 8, 2) := by decide +kernel
theorem dX7_turned_85 : decode cX7_turned 85 = .ok (.imul, 1) := by decide +kernel
theorem dX7_turned_86 : decode cX7_turned 86 = .ok (.iload 9, 2) := by decide +kernel
theorem dX7_turned_88 : decode cX7_turned 88 = .ok (.iadd, 1) := by decide +kernel
theorem dX7_turned_89 : decode cX7_turned 89 = .ok (.ireturn, 1) := by decide +kernel
theorem dX7_copies_0 : decode cX7_copies 0 = .ok (.aload_n 0, 1) := by decide +kernel
theorem dX7_copies_1 : decode cX7_copies 1 = .ok (.getfield 76, 3) := by decide +kernel
theorem dX7_copies_4 : decode cX7_copies 4 = .ok (.istore 4, 2) := by decide +kernel
theorem dX7_copies_6 : decode cX7_copies 6 = .ok (.aload_n 0, 1) := by decide +kernel
theorem dX7_copies_7 : decode cX7_copies 7 = .ok (.iload 4, 2) := by decide +kernel
theorem dX7_copies_9 : decode cX7_copies 9 = .ok (.iload_n 3, 1) := by decide +kernel
theorem dX7_copies_10 : decode cX7_copies 10 = .ok (.iconst 1, 1) := by decide +kernel
theorem dX7_copies_11 : decode cX7_copies 11 = .ok (.if_icmp .ne 12, 3) := by decide +kernel
theorem dX7_copies_14 : decode cX7_copies 14 = .ok (.aload_n 0, 1) := by decide +kernel
theorem dX7_copies_15 : decode cX7_copies 15 = .ok (.getfield 16, 3) := by decide +kernel
theorem dX7_copies_18 : decode cX7_copies 18 = .ok (.iload_n 1, 1) := by decide +kernel
theorem dX7_copies_19 : decode cX7_copies 19 = .ok (.iaload, 1) := by decide +kernel
theorem dX7_copies_20 : decode cX7_copies 20 = .ok (.goto 9, 3) := by decide +kernel
theorem dX7_copies_23 : decode cX7_copies 23 = .ok (.aload_n 0, 1) := by decide +kernel
theorem dX7_copies_24 : decode cX7_copies 24 = .ok (.getfield 13, 3) := by decide +kernel
theorem dX7_copies_27 : decode cX7_copies 27 = .ok (.iload_n 1, 1) := by decide +kernel
theorem dX7_copies_28 : decode cX7_copies 28 = .ok (.iaload, 1) := by decide +kernel
theorem dX7_copies_29 : decode cX7_copies 29 = .ok (.iload_n 3, 1) := by decide +kernel
theorem dX7_copies_30 : decode cX7_copies 30 = .ok (.iconst 1, 1) := by decide +kernel
theorem dX7_copies_31 : decode cX7_copies 31 = .ok (.if_icmp .ne 12, 3) := by decide +kernel
theorem dX7_copies_34 : decode cX7_copies 34 = .ok (.aload_n 0, 1) := by decide +kernel
theorem dX7_copies_35 : decode cX7_copies 35 = .ok (.getfield 13, 3) := by decide +kernel
theorem dX7_copies_38 : decode cX7_copies 38 = .ok (.iload_n 1, 1) := by decide +kernel
theorem dX7_copies_39 : decode cX7_copies 39 = .ok (.iaload, 1) := by decide +kernel
theorem dX7_copies_40 : decode cX7_copies 40 = .ok (.goto 9, 3) := by decide +kernel
theorem dX7_copies_43 : decode cX7_copies 43 = .ok (.aload_n 0, 1) := by decide +kernel
theorem dX7_copies_44 : decode cX7_copies 44 = .ok (.getfield 16, 3) := by decide +kernel
theorem dX7_copies_47 : decode cX7_copies 47 = .ok (.iload_n 1, 1) := by decide +kernel
theorem dX7_copies_48 : decode cX7_copies 48 = .ok (.iaload, 1) := by decide +kernel
theorem dX7_copies_49 : decode cX7_copies 49 = .ok (.aload_n 0, 1) := by decide +kernel
theorem dX7_copies_50 : decode cX7_copies 50 = .ok (.getfield 19, 3) := by decide +kernel
theorem dX7_copies_53 : decode cX7_copies 53 = .ok (.iload_n 1, 1) := by decide +kernel
theorem dX7_copies_54 : decode cX7_copies 54 = .ok (.iaload, 1) := by decide +kernel
theorem dX7_copies_55 : decode cX7_copies 55 = .ok (.invokevirtual 89, 3) := by decide +kernel
theorem dX7_copies_58 : decode cX7_copies 58 = .ok (.iconst 0, 1) := by decide +kernel
theorem dX7_copies_59 : decode cX7_copies 59 = .ok (.istore 5, 2) := by decide +kernel
theorem dX7_copies_61 : decode cX7_copies 61 = .ok (.iload 5, 2) := by decide +kernel
theorem dX7_copies_63 : decode cX7_copies 63 = .ok (.aload_n 0, 1) := by decide +kernel
theorem dX7_copies_64 : decode cX7_copies 64 = .ok (.getfield 13, 3) := by decide +kernel
theorem dX7_copies_67 : decode cX7_copies 67 = .ok (.iload_n 1, 1) := by decide +kernel
theorem dX7_copies_68 : decode cX7_copies 68 = .ok (.iaload, 1) := by decide +kernel
theorem dX7_copies_69 : decode cX7_copies 69 = .ok (.if_icmp .ge 67, 3) := by decide +kernel
theorem dX7_copies_72 : decode cX7_copies 72 = .ok (.iconst 0, 1) := by decide +kernel
theorem dX7_copies_73 : decode cX7_copies 73 = .ok (.istore 6, 2) := by decide +kernel
theorem dX7_copies_75 : decode cX7_copies 75 = .ok (.iload 6, 2) := by decide +kernel
theorem dX7_copies_77 : decode cX7_copies 77 = .ok (.aload_n 0, 1) := by decide +kernel
theorem dX7_copies_78 : decode cX7_copies 78 = .ok (.getfield 16, 3) := by decide +kernel
theorem dX7_copies_81 : decode cX7_copies 81 = .ok (.iload_n 1, 1) := by decide +kernel
theorem dX7_copies_82 : decode cX7_copies 82 = .ok (.iaload, 1) := by decide +kernel
theorem dX7_copies_83 : decode cX7_copies 83 = .ok (.if_icmp .ge 47, 3) := by decide +kernel
theorem dX7_copies_86 : decode cX7_copies 86 = .ok (.aload_n 0, 1) := by decide +kernel
theorem dX7_copies_87 : decode cX7_copies 87 = .ok (.iload_n 1, 1) := by decide +kernel
theorem dX7_copies_88 : decode cX7_copies 88 = .ok (.iload 5, 2) := by decide +kernel
theorem dX7_copies_90 : decode cX7_copies 90 = .ok (.iload 6, 2) := by decide +kernel
theorem dX7_copies_92 : decode cX7_copies 92 = .ok (.iload_n 2, 1) := by decide +kernel
theorem dX7_copies_93 : decode cX7_copies 93 = .ok (.iload_n 3, 1) := by decide +kernel
theorem dX7_copies_94 : decode cX7_copies 94 = .ok (.invokevirtual 201, 3) := by decide +kernel
theorem dX7_copies_97 : decode cX7_copies 97 = .ok (.istore 7, 2) := by decide +kernel
theorem dX7_copies_99 : decode cX7_copies 99 = .ok (.aload_n 0, 1) := by decide +kernel
theorem dX7_copies_100 : decode cX7_copies 100 = .ok (.iload 4, 2) := by decide +kernel
theorem dX7_copies_102 : decode cX7_copies 102 = .ok (.iload 7, 2) := by decide +kernel
theorem dX7_copies_104 : decode cX7_copies 104 = .ok (.bipush 10, 2) := by decide +kernel
theorem dX7_copies_106 : decode cX7_copies 106 = .ok (.idiv, 1) := by decide +kernel
theorem dX7_copies_107 : decode cX7_copies 107 = .ok (.iload 7, 2) := by decide +kernel
theorem dX7_copies_109 : decode cX7_copies 109 = .ok (.bipush 10, 2) := by decide +kernel
theorem dX7_copies_111 : decode cX7_copies 111 = .ok (.irem, 1) := by decide +kernel
theorem dX7_copies_112 : decode cX7_copies 112 = .ok (.aload_n 0, 1) := by decide +kernel
theorem dX7_copies_113 : decode cX7_copies 113 = .ok (.iload_n 1, 1) := by decide +kernel
theorem dX7_copies_114 : decode cX7_copies 114 = .ok (.iload 5, 2) := by decide +kernel
theorem dX7_copies_116 : decode cX7_copies 116 = .ok (.iload 6, 2) := by decide +kernel
theorem dX7_copies_118 : decode cX7_copies 118 = .ok (.invokevirtual 112, 3) := by decide +kernel
theorem dX7_copies_121 : decode cX7_copies 121 = .ok (.invokevirtual 96, 3) := by decide +kernel
theorem dX7_copies_124 : decode cX7_copies 124 = .ok (.iinc 6 1, 3) := by decide +kernel
theorem dX7_copies_127 : decode cX7_copies 127 = .ok (.goto (-52), 3) := by decide +kernel
theorem dX7_copies_130 : decode cX7_copies 130 = .ok (.iinc 5 1, 3) := by decide +kernel
theorem dX7_copies_133 : decode cX7_copies 133 = .ok (.goto (-72), 3) := by decide +kernel
theorem dX7_copies_136 : decode cX7_copies 136 = .ok (.aload_n 0, 1) := by decide +kernel
theorem dX7_copies_137 : decode cX7_copies 137 = .ok (.dup, 1) := by decide +kernel
theorem dX7_copies_138 : decode cX7_copies 138 = .ok (.getfield 76, 3) := by decide +kernel
theorem dX7_copies_141 : decode cX7_copies 141 = .ok (.iconst 1, 1) := by decide +kernel
theorem dX7_copies_142 : decode cX7_copies 142 = .ok (.iadd, 1) := by decide +kernel
theorem dX7_copies_143 : decode cX7_copies 143 = .ok (.putfield 76, 3) := by decide +kernel
theorem dX7_copies_146 : decode cX7_copies 146 = .ok (.iload 4, 2) := by decide +kernel
theorem dX7_copies_148 : decode cX7_copies 148 = .ok (.ireturn, 1) := by decide +kernel
theorem dX7_turn_0 : decode cX7_turn 0 = .ok (.aload_n 0, 1) := by decide +kernel
theorem dX7_turn_1 : decode cX7_turn 1 = .ok (.iload_n 1, 1) := by decide +kernel
theorem dX7_turn_2 : decode cX7_turn 2 = .ok (.invokevirtual 103, 3) := by decide +kernel
theorem dX7_turn_5 : decode cX7_turn 5 = .ok (.ifCond .ne 7, 3) := by decide +kernel
theorem dX7_turn_8 : decode cX7_turn 8 = .ok (.iconst (-1), 1) := by decide +kernel
theorem dX7_turn_9 : decode cX7_turn 9 = .ok (.goto 33, 3) := by decide +kernel
theorem dX7_turn_12 : decode cX7_turn 12 = .ok (.aload_n 0, 1) := by decide +kernel
theorem dX7_turn_13 : decode cX7_turn 13 = .ok (.getfield 76, 3) := by decide +kernel
theorem dX7_turn_16 : decode cX7_turn 16 = .ok (.bipush 24, 2) := by decide +kernel
theorem dX7_turn_18 : decode cX7_turn 18 = .ok (.if_icmp .ne 8, 3) := by decide +kernel
theorem dX7_turn_21 : decode cX7_turn 21 = .ok (.bipush (-6), 2) := by decide +kernel
theorem dX7_turn_23 : decode cX7_turn 23 = .ok (.goto 19, 3) := by decide +kernel
theorem dX7_turn_26 : decode cX7_turn 26 = .ok (.aload_n 0, 1) := by decide +kernel
theorem dX7_turn_27 : decode cX7_turn 27 = .ok (.getfield 13, 3) := by decide +kernel
theorem dX7_turn_30 : decode cX7_turn 30 = .ok (.iload_n 1, 1) := by decide +kernel
theorem dX7_turn_31 : decode cX7_turn 31 = .ok (.iaload, 1) := by decide +kernel
theorem dX7_turn_32 : decode cX7_turn 32 = .ok (.iconst 5, 1) := by decide +kernel
theorem dX7_turn_33 : decode cX7_turn 33 = .ok (.if_icmp .ne 8, 3) := by decide +kernel
theorem dX7_turn_36 : decode cX7_turn 36 = .ok (.bipush (-3), 2) := by decide +kernel
theorem dX7_turn_38 : decode cX7_turn 38 = .ok (.goto 4, 3) := by decide +kernel
theorem dX7_turn_41 : decode cX7_turn 41 = .ok (.iconst 0, 1) := by decide +kernel
theorem dX7_turn_42 : decode cX7_turn 42 = .ok (.istore_n 2, 1) := by decide +kernel
theorem dX7_turn_43 : decode cX7_turn 43 = .ok (.iload_n 2, 1) := by decide +kernel
theorem dX7_turn_44 : decode cX7_turn 44 = .ok (.ifCond .eq 11, 3) := by decide +kernel
theorem dX7_turn_47 : decode cX7_turn 47 = .ok (.aload_n 0, 1) := by decide +kernel
theorem dX7_turn_48 : decode cX7_turn 48 = .ok (.iload_n 2, 1) := by decide +kernel
theorem dX7_turn_49 : decode cX7_turn 49 = .ok (.invokevirtual 72, 3) := by decide +kernel
theorem dX7_turn_52 : decode cX7_turn 52 = .ok (.goto 10, 3) := by decide +kernel
theorem dX7_turn_55 : decode cX7_turn 55 = .ok (.aload_n 0, 1) := by decide +kernel
theorem dX7_turn_56 : decode cX7_turn 56 = .ok (.iload_n 1, 1) := by decide +kernel
theorem dX7_turn_57 : decode cX7_turn 57 = .ok (.iconst 0, 1) := by decide +kernel
theorem dX7_turn_58 : decode cX7_turn 58 = .ok (.iconst 1, 1) := by decide +kernel
theorem dX7_turn_59 : decode cX7_turn 59 = .ok (.invokevirtual 205, 3) := by decide +kernel
theorem dX7_turn_62 : decode cX7_turn 62 = .ok (.ireturn, 1) := by decide +kernel
theorem dX7_mirror_0 : decode cX7_mirror 0 = .ok (.aload_n 0, 1) := by decide +kernel
theorem dX7_mirror_1 : decode cX7_mirror 1 = .ok (.iload_n 1, 1) := by decide +kernel
theorem dX7_mirror_2 : decode cX7_mirror 2 = .ok (.invokevirtual 103, 3) := by decide +kernel
theorem dX7_mirror_5 : decode cX7_mirror 5 = .ok (.ifCond .ne 7, 3) := by decide +kernel
theorem dX7_mirror_8 : decode cX7_mirror 8 = .ok (.iconst (-1), 1) := by decide +kernel
theorem dX7_mirror_9 : decode cX7_mirror 9 = .ok (.goto 18, 3) := by decide +kernel
theorem dX7_mirror_12 : decode cX7_mirror 12 = .ok (.aload_n 0, 1) := by decide +kernel
theorem dX7_mirror_13 : decode cX7_mirror 13 = .ok (.getfield 76, 3) := by decide +kernel
theorem dX7_mirror_16 : decode cX7_mirror 16 = .ok (.bipush 24, 2) := by decide +kernel
theorem dX7_mirror_18 : decode cX7_mirror 18 = .ok (.if_icmp .ne 8, 3) := by decide +kernel
theorem dX7_mirror_21 : decode cX7_mirror 21 = .ok (.bipush (-6), 2) := by decide +kernel
theorem dX7_mirror_23 : decode cX7_mirror 23 = .ok (.goto 4, 3) := by decide +kernel
theorem dX7_mirror_26 : decode cX7_mirror 26 = .ok (.iconst 0, 1) := by decide +kernel
theorem dX7_mirror_27 : decode cX7_mirror 27 = .ok (.istore_n 2, 1) := by decide +kernel
theorem dX7_mirror_28 : decode cX7_mirror 28 = .ok (.iload_n 2, 1) := by decide +kernel
theorem dX7_mirror_29 : decode cX7_mirror 29 = .ok (.ifCond .eq 11, 3) := by decide +kernel
theorem dX7_mirror_32 : decode cX7_mirror 32 = .ok (.aload_n 0, 1) := by decide +kernel
theorem dX7_mirror_33 : decode cX7_mirror 33 = .ok (.iload_n 2, 1) := by decide +kernel
theorem dX7_mirror_34 : decode cX7_mirror 34 = .ok (.invokevirtual 72, 3) := by decide +kernel
theorem dX7_mirror_37 : decode cX7_mirror 37 = .ok (.goto 10, 3) := by decide +kernel
theorem dX7_mirror_40 : decode cX7_mirror 40 = .ok (.aload_n 0, 1) := by decide +kernel
theorem dX7_mirror_41 : decode cX7_mirror 41 = .ok (.iload_n 1, 1) := by decide +kernel
theorem dX7_mirror_42 : decode cX7_mirror 42 = .ok (.iconst 1, 1) := by decide +kernel
theorem dX7_mirror_43 : decode cX7_mirror 43 = .ok (.iconst 0, 1) := by decide +kernel
theorem dX7_mirror_44 : decode cX7_mirror 44 = .ok (.invokevirtual 205, 3) := by decide +kernel
theorem dX7_mirror_47 : decode cX7_mirror 47 = .ok (.ireturn, 1) := by decide +kernel
theorem dX7_less_0 : decode cX7_less 0 = .ok (.aload_n 0, 1) := by decide +kernel
theorem dX7_less_1 : decode cX7_less 1 = .ok (.iload_n 1, 1) := by decide +kernel
theorem dX7_less_2 : decode cX7_less 2 = .ok (.invokevirtual 103, 3) := by decide +kernel
theorem dX7_less_5 : decode cX7_less 5 = .ok (.ifCond .eq 12, 3) := by decide +kernel
theorem dX7_less_8 : decode cX7_less 8 = .ok (.aload_n 0, 1) := by decide +kernel
theorem dX7_less_9 : decode cX7_less 9 = .ok (.iload_n 1, 1) := by decide +kernel
theorem dX7_less_10 : decode cX7_less 10 = .ok (.iload_n 2, 1) := by decide +kernel
theorem dX7_less_11 : decode cX7_less 11 = .ok (.invokevirtual 109, 3) := by decide +kernel
theorem dX7_less_14 : decode cX7_less 14 = .ok (.ifCond .ne 7, 3) := by decide +kernel
theorem dX7_less_17 : decode cX7_less 17 = .ok (.iconst (-1), 1) := by decide +kernel
theorem dX7_less_18 : decode cX7_less 18 = .ok (.goto 40, 3) := by decide +kernel
theorem dX7_less_21 : decode cX7_less 21 = .ok (.aload_n 0, 1) := by decide +kernel
theorem dX7_less_22 : decode cX7_less 22 = .ok (.iload_n 1, 1) := by decide +kernel
theorem dX7_less_23 : decode cX7_less 23 = .ok (.iload_n 2, 1) := by decide +kernel
theorem dX7_less_24 : decode cX7_less 24 = .ok (.bipush 10, 2) := by decide +kernel
theorem dX7_less_26 : decode cX7_less 26 = .ok (.idiv, 1) := by decide +kernel
theorem dX7_less_27 : decode cX7_less 27 = .ok (.iload_n 2, 1) := by decide +kernel
theorem dX7_less_28 : decode cX7_less 28 = .ok (.bipush 10, 2) := by decide +kernel
theorem dX7_less_30 : decode cX7_less 30 = .ok (.irem, 1) := by decide +kernel
theorem dX7_less_31 : decode cX7_less 31 = .ok (.invokevirtual 112, 3) := by decide +kernel
theorem dX7_less_34 : decode cX7_less 34 = .ok (.iconst 1, 1) := by decide +kernel
theorem dX7_less_35 : decode cX7_less 35 = .ok (.if_icmp .eq 8, 3) := by decide +kernel
theorem dX7_less_38 : decode cX7_less 38 = .ok (.bipush (-3), 2) := by decide +kernel
theorem dX7_less_40 : decode cX7_less 40 = .ok (.goto 18, 3) := by decide +kernel
theorem dX7_less_43 : decode cX7_less 43 = .ok (.aload_n 0, 1) := by decide +kernel
theorem dX7_less_44 : decode cX7_less 44 = .ok (.getfield 76, 3) := by decide +kernel
theorem dX7_less_47 : decode cX7_less 47 = .ok (.bipush 24, 2) := by decide +kernel
theorem dX7_less_49 : decode cX7_less 49 = .ok (.if_icmp .ne 8, 3) := by decide +kernel
theorem dX7_less_52 : decode cX7_less 52 = .ok (.bipush (-6), 2) := by decide +kernel
theorem dX7_less_54 : decode cX7_less 54 = .ok (.goto 4, 3) := by decide +kernel
theorem dX7_less_57 : decode cX7_less 57 = .ok (.iconst 0, 1) := by decide +kernel
theorem dX7_less_58 : decode cX7_less 58 = .ok (.istore_n 3, 1) := by decide +kernel
theorem dX7_less_59 : decode cX7_less 59 = .ok (.iload_n 3, 1) := by decide +kernel
theorem dX7_less_60 : decode cX7_less 60 = .ok (.ifCond .eq 9, 3) := by decide +kernel
theorem dX7_less_63 : decode cX7_less 63 = .ok (.aload_n 0, 1) := by decide +kernel
theorem dX7_less_64 : decode cX7_less 64 = .ok (.iload_n 3, 1) := by decide +kernel
theorem dX7_less_65 : decode cX7_less 65 = .ok (.invokevirtual 72, 3) := by decide +kernel
theorem dX7_less_68 : decode cX7_less 68 = .ok (.ireturn, 1) := by decide +kernel
theorem dX7_less_69 : decode cX7_less 69 = .ok (.aload_n 0, 1) := by decide +kernel
theorem dX7_less_70 : decode cX7_less 70 = .ok (.iload_n 1, 1) := by decide +kernel
theorem dX7_less_71 : decode cX7_less 71 = .ok (.iconst 0, 1) := by decide +kernel
theorem dX7_less_72 : decode cX7_less 72 = .ok (.iconst 0, 1) := by decide +kernel
theorem dX7_less_73 : decode cX7_less 73 = .ok (.invokevirtual 205, 3) := by decide +kernel
theorem dX7_less_76 : decode cX7_less 76 = .ok (.istore 4, 2) := by decide +kernel
theorem dX7_less_78 : decode cX7_less 78 = .ok (.aload_n 0, 1) := by decide +kernel
theorem dX7_less_79 : decode cX7_less 79 = .ok (.iload 4, 2) := by decide +kernel
theorem dX7_less_81 : decode cX7_less 81 = .ok (.iload_n 2, 1) := by decide +kernel
theorem dX7_less_82 : decode cX7_less 82 = .ok (.bipush 10, 2) := by decide +kernel
theorem dX7_less_84 : decode cX7_less 84 = .ok (.idiv, 1) := by decide +kernel
theorem dX7_less_85 : decode cX7_less 85 = .ok (.iload_n 2, 1) := by decide +kernel
theorem dX7_less_86 : decode cX7_less 86 = .ok (.bipush 10, 2) := by decide +kernel
theorem dX7_less_88 : decode cX7_less 88 = .ok (.irem, 1) := by decide +kernel
theorem dX7_less_89 : decode cX7_less 89 = .ok (.iconst 0, 1) := by decide +kernel
theorem dX7_less_90 : decode cX7_less 90 = .ok (.invokevirtual 96, 3) := by decide +kernel
theorem dX7_less_93 : decode cX7_less 93 = .ok (.iload 4, 2) := by decide +kernel
theorem dX7_less_95 : decode cX7_less 95 = .ok (.ireturn, 1) := by decide +kernel
theorem dX7_rename_0 : decode cX7_rename 0 = .ok (.aload_n 0, 1) := by decide +kernel
theorem dX7_rename_1 : decode cX7_rename 1 = .ok (.iload_n 1, 1) := by decide +kernel
theorem dX7_rename_2 : decode cX7_rename 2 = .ok (.invokevirtual 103, 3) := by decide +kernel
theorem dX7_rename_5 : decode cX7_rename 5 = .ok (.ifCond .ne 9, 3) := by decide +kernel
theorem dX7_rename_8 : decode cX7_rename 8 = .ok (.aload_n 0, 1) := by decide +kernel
theorem dX7_rename_9 : decode cX7_rename 9 = .ok (.iconst (-1), 1) := by decide +kernel
theorem dX7_rename_10 : decode cX7_rename 10 = .ok (.invokevirtual 72, 3) := by decide +kernel
theorem dX7_rename_13 : decode cX7_rename 13 = .ok (.ireturn, 1) := by decide +kernel
theorem dX7_rename_14 : decode cX7_rename 14 = .ok (.iload_n 2, 1) := by decide +kernel
theorem dX7_rename_15 : decode cX7_rename 15 = .ok (.istore_n 3, 1) := by decide +kernel
theorem dX7_rename_16 : decode cX7_rename 16 = .ok (.iconst 0, 1) := by decide +kernel
theorem dX7_rename_17 : decode cX7_rename 17 = .ok (.istore 4, 2) := by decide +kernel
theorem dX7_rename_19 : decode cX7_rename 19 = .ok (.iconst 0, 1) := by decide +kernel
theorem dX7_rename_20 : decode cX7_rename 20 = .ok (.istore 5, 2) := by decide +kernel
theorem dX7_rename_22 : decode cX7_rename 22 = .ok (.iload 5, 2) := by decide +kernel
theorem dX7_rename_24 : decode cX7_rename 24 = .ok (.aload_n 0, 1) := by decide +kernel
theorem dX7_rename_25 : decode cX7_rename 25 = .ok (.getfield 19, 3) := by decide +kernel
theorem dX7_rename_28 : decode cX7_rename 28 = .ok (.iload_n 1, 1) := by decide +kernel
theorem dX7_rename_29 : decode cX7_rename 29 = .ok (.iaload, 1) := by decide +kernel
theorem dX7_rename_30 : decode cX7_rename 30 = .ok (.if_icmp .ge 34, 3) := by decide +kernel
theorem dX7_rename_33 : decode cX7_rename 33 = .ok (.iload 4, 2) := by decide +kernel
theorem dX7_rename_35 : decode cX7_rename 35 = .ok (.iload_n 3, 1) := by decide +kernel
theorem dX7_rename_36 : decode cX7_rename 36 = .ok (.ifCond .lt 12, 3) := by decide +kernel
theorem dX7_rename_39 : decode cX7_rename 39 = .ok (.iconst 1, 1) := by decide +kernel
theorem dX7_rename_40 : decode cX7_rename 40 = .ok (.iload_n 3, 1) := by decide +kernel
theorem dX7_rename_41 : decode cX7_rename 41 = .ok (.bipush 10, 2) := by decide +kernel
theorem dX7_rename_43 : decode cX7_rename 43 = .ok (.irem, 1) := by decide +kernel
theorem dX7_rename_44 : decode cX7_rename 44 = .ok (.ishl, 1) := by decide +kernel
theorem dX7_rename_45 : decode cX7_rename 45 = .ok (.goto 5, 3) := by decide +kernel
theorem dX7_rename_48 : decode cX7_rename 48 = .ok (.ldc 209, 2) := by decide +kernel
theorem dX7_rename_50 : decode cX7_rename 50 = .ok (.ior, 1) := by decide +kernel
theorem dX7_rename_51 : decode cX7_rename 51 = .ok (.istore 4, 2) := by decide +kernel
theorem dX7_rename_53 : decode cX7_rename 53 = .ok (.iload_n 3, 1) := by decide +kernel
theorem dX7_rename_54 : decode cX7_rename 54 = .ok (.bipush 10, 2) := by decide +kernel
theorem dX7_rename_56 : decode cX7_rename 56 = .ok (.idiv, 1) := by decide +kernel
theorem dX7_rename_57 : decode cX7_rename 57 = .ok (.istore_n 3, 1) := by decide +kernel
theorem dX7_rename_58 : decode cX7_rename 58 = .ok (.iinc 5 1, 3) := by decide +kernel
theorem dX7_rename_61 : decode cX7_rename 61 = .ok (.goto (-39), 3) := by decide +kernel
theorem dX7_rename_64 : decode cX7_rename 64 = .ok (.iload_n 2, 1) := by decide +kernel
theorem dX7_rename_65 : decode cX7_rename 65 = .ok (.ifCond .lt 22, 3) := by decide +kernel
theorem dX7_rename_68 : decode cX7_rename 68 = .ok (.iload_n 3, 1) := by decide +kernel
theorem dX7_rename_69 : decode cX7_rename 69 = .ok (.ifCond .ne 18, 3) := by decide +kernel
theorem dX7_rename_72 : decode cX7_rename 72 = .ok (.iload 4, 2) := by decide +kernel
theorem dX7_rename_74 : decode cX7_rename 74 = .ok (.iconst 1, 1) := by decide +kernel
theorem dX7_rename_75 : decode cX7_rename 75 = .ok (.aload_n 0, 1) := by decide +kernel
theorem dX7_rename_76 : decode cX7_rename 76 = .ok (.getfield 19, 3) := by decide +kernel
theorem dX7_rename_79 : decode cX7_rename 79 = .ok (.iload_n 1, 1) := by decide +kernel
theorem dX7_rename_80 : decode cX7_rename 80 = .ok (.iaload, 1) := by decide +kernel
theorem dX7_rename_81 : decode cX7_rename 81 = .ok (.ishl, 1) := by decide +kernel
theorem dX7_rename_82 : decode cX7_rename 82 = .ok (.iconst 1, 1) := by decide +kernel
theorem dX7_rename_83 : decode cX7_rename 83 = .ok (.isub, 1) := by decide +kernel
theorem dX7_rename_84 : decode cX7_rename 84 = .ok (.if_icmp .eq 10, 3) := by decide +kernel
theorem dX7_rename_87 : decode cX7_rename 87 = .ok (.aload_n 0, 1) := by decide +kernel
theorem dX7_rename_88 : decode cX7_rename 88 = .ok (.bipush (-3), 2) := by decide +kernel
theorem dX7_rename_90 : decode cX7_rename 90 = .ok (.invokevirtual 72, 3) := by decide +kernel
theorem dX7_rename_93 : decode cX7_rename 93 = .ok (.ireturn, 1) := by decide +kernel
theorem dX7_rename_94 : decode cX7_rename 94 = .ok (.aload_n 0, 1) := by decide +kernel
theorem dX7_rename_95 : decode cX7_rename 95 = .ok (.getfield 76, 3) := by decide +kernel
theorem dX7_rename_98 : decode cX7_rename 98 = .ok (.bipush 24, 2) := by decide +kernel
theorem dX7_rename_100 : decode cX7_rename 100 = .ok (.if_icmp .ne 10, 3) := by decide +kernel
theorem dX7_rename_103 : decode cX7_rename 103 = .ok (.aload_n 0, 1) := by decide +kernel
theorem dX7_rename_104 : decode cX7_rename 104 = .ok (.bipush (-6), 2) := by decide +kernel
theorem dX7_rename_106 : decode cX7_rename 106 = .ok (.invokevirtual 72, 3) := by decide +kernel
theorem dX7_rename_109 : decode cX7_rename 109 = .ok (.ireturn, 1) := by decide +kernel
theorem dX7_rename_110 : decode cX7_rename 110 = .ok (.aload_n 0, 1) := by decide +kernel
theorem dX7_rename_111 : decode cX7_rename 111 = .ok (.iload_n 1, 1) := by decide +kernel
theorem dX7_rename_112 : decode cX7_rename 112 = .ok (.iconst 0, 1) := by decide +kernel
theorem dX7_rename_113 : decode cX7_rename 113 = .ok (.iconst 0, 1) := by decide +kernel
theorem dX7_rename_114 : decode cX7_rename 114 = .ok (.invokevirtual 205, 3) := by decide +kernel
theorem dX7_rename_117 : decode cX7_rename 117 = .ok (.istore 5, 2) := by decide +kernel
theorem dX7_rename_119 : decode cX7_rename 119 = .ok (.iconst 0, 1) := by decide +kernel
theorem dX7_rename_120 : decode cX7_rename 120 = .ok (.istore 6, 2) := by decide +kernel
theorem dX7_rename_122 : decode cX7_rename 122 = .ok (.iload 6, 2) := by decide +kernel
theorem dX7_rename_124 : decode cX7_rename 124 = .ok (.bipush 20, 2) := by decide +kernel
theorem dX7_rename_126 : decode cX7_rename 126 = .ok (.if_icmp .ge 87, 3) := by decide +kernel
theorem dX7_rename_129 : decode cX7_rename 129 = .ok (.aload_n 0, 1) := by decide +kernel
theorem dX7_rename_130 : decode cX7_rename 130 = .ok (.getfield 22, 3) := by decide +kernel
theorem dX7_rename_133 : decode cX7_rename 133 = .ok (.bipush 20, 2) := by decide +kernel
theorem dX7_rename_135 : decode cX7_rename 135 = .ok (.iload 5, 2) := by decide +kernel
theorem dX7_rename_137 : decode cX7_rename 137 = .ok (.imul, 1) := by decide +kernel
theorem dX7_rename_138 : decode cX7_rename 138 = .ok (.iload 6, 2) := by decide +kernel
theorem dX7_rename_140 : decode cX7_rename 140 = .ok (.iadd, 1) := by decide +kernel
theorem dX7_rename_141 : decode cX7_rename 141 = .ok (.iaload, 1) := by decide +kernel
theorem dX7_rename_142 : decode cX7_rename 142 = .ok (.istore 7, 2) := by decide +kernel
theorem dX7_rename_144 : decode cX7_rename 144 = .ok (.iload 7, 2) := by decide +kernel
theorem dX7_rename_146 : decode cX7_rename 146 = .ok (.bipush 10, 2) := by decide +kernel
theorem dX7_rename_148 : decode cX7_rename 148 = .ok (.if_icmp .ge 6, 3) := by decide +kernel
theorem dX7_rename_151 : decode cX7_rename 151 = .ok (.goto 56, 3) := by decide +kernel
theorem dX7_rename_154 : decode cX7_rename 154 = .ok (.iload_n 2, 1) := by decide +kernel
theorem dX7_rename_155 : decode cX7_rename 155 = .ok (.istore_n 3, 1) := by decide +kernel
theorem dX7_rename_156 : decode cX7_rename 156 = .ok (.aload_n 0, 1) := by decide +kernel
theorem dX7_rename_157 : decode cX7_rename 157 = .ok (.getfield 19, 3) := by decide +kernel
theorem dX7_rename_160 : decode cX7_rename 160 = .ok (.iload_n 1, 1) := by decide +kernel
theorem dX7_rename_161 : decode cX7_rename 161 = .ok (.iaload, 1) := by decide +kernel
theorem dX7_rename_162 : decode cX7_rename 162 = .ok (.iconst 1, 1) := by decide +kernel
theorem dX7_rename_163 : decode cX7_rename 163 = .ok (.isub, 1) := by decide +kernel
theorem dX7_rename_164 : decode cX7_rename 164 = .ok (.istore 8, 2) := by decide +kernel
theorem dX7_rename_166 : decode cX7_rename 166 = .ok (.iload 8, 2) := by decide +kernel
theorem dX7_rename_168 : decode cX7_rename 168 = .ok (.iload 7, 2) := by decide +kernel
theorem dX7_rename_170 : decode cX7_rename 170 = .ok (.bipush 10, 2) := by decide +kernel
theorem dX7_rename_172 : decode cX7_rename 172 = .ok (.isub, 1) := by decide +kernel
theorem dX7_rename_173 : decode cX7_rename 173 = .ok (.if_icmp .le 14, 3) := by decide +kernel
theorem dX7_rename_176 : decode cX7_rename 176 = .ok (.iload_n 3, 1) := by decide +kernel
theorem dX7_rename_177 : decode cX7_rename 177 = .ok (.bipush 10, 2) := by decide +kernel
theorem dX7_rename_179 : decode cX7_rename 179 = .ok (.idiv, 1) := by decide +kernel
theorem dX7_rename_180 : decode cX7_rename 180 = .ok (.istore_n 3, 1) := by decide +kernel
theorem dX7_rename_181 : decode cX7_rename 181 = .ok (.iinc 8 (-1), 3) := by decide +kernel
theorem dX7_rename_184 : decode cX7_rename 184 = .ok (.goto (-18), 3) := by decide +kernel
theorem dX7_rename_187 : decode cX7_rename 187 = .ok (.aload_n 0, 1) := by decide +kernel
theorem dX7_rename_188 : decode cX7_rename 188 = .ok (.getfield 22, 3) := by decide +kernel
theorem dX7_rename_191 : decode cX7_rename 191 = .ok (.bipush 20, 2) := by decide +kernel
theorem dX7_rename_193 : decode cX7_rename 193 = .ok (.iload 5, 2) := by decide +kernel
theorem dX7_rename_195 : decode cX7_rename 195 = .ok (.imul, 1) := by decide +kernel
theorem dX7_rename_196 : decode cX7_rename 196 = .ok (.iload 6, 2) := by decide +kernel
theorem dX7_rename_198 : decode cX7_rename 198 = .ok (.iadd, 1) := by decide +kernel
theorem dX7_rename_199 : decode cX7_rename 199 = .ok (.bipush 10, 2) := by decide +kernel
theorem dX7_rename_201 : decode cX7_rename 201 = .ok (.iload_n 3, 1) := by decide +kernel
theorem dX7_rename_202 : decode cX7_rename 202 = .ok (.bipush 10, 2) := by decide +kernel
theorem dX7_rename_204 : decode cX7_rename 204 = .ok (.irem, 1) := by decide +kernel
theorem dX7_rename_205 : decode cX7_rename 205 = .ok (.iadd, 1) := by decide +kernel
theorem dX7_rename_206 : decode cX7_rename 206 = .ok (.iastore, 1) := by decide +kernel
theorem dX7_rename_207 : decode cX7_rename 207 = .ok (.iinc 6 1, 3) := by decide +kernel
theorem dX7_rename_210 : decode cX7_rename 210 = .ok (.goto (-88), 3) := by decide +kernel
theorem dX7_rename_213 : decode cX7_rename 213 = .ok (.iload 5, 2) := by decide +kernel
theorem dX7_rename_215 : decode cX7_rename 215 = .ok (.ireturn, 1) := by decide +kernel
theorem dX7_isAs_0 : decode cX7_isAs 0 = .ok (.iload 4, 2) := by decide +kernel
theorem dX7_isAs_2 : decode cX7_isAs 2 = .ok (.iconst 2, 1) := by decide +kernel
theorem dX7_isAs_3 : decode cX7_isAs 3 = .ok (.irem, 1) := by decide +kernel
theorem dX7_isAs_4 : decode cX7_isAs 4 = .ok (.iconst 1, 1) := by decide +kernel
theorem dX7_isAs_5 : decode cX7_isAs 5 = .ok (.if_icmp .ne 7, 3) := by decide +kernel
theorem dX7_isAs_8 : decode cX7_isAs 8 = .ok (.iconst 1, 1) := by decide +kernel
theorem dX7_isAs_9 : decode cX7_isAs 9 = .ok (.goto 4, 3) := by decide +kernel
theorem dX7_isAs_12 : decode cX7_isAs 12 = .ok (.iconst 0, 1) := by decide +kernel
theorem dX7_isAs_13 : decode cX7_isAs 13 = .ok (.istore 5, 2) := by decide +kernel
theorem dX7_isAs_15 : decode cX7_isAs 15 = .ok (.aload_n 0, 1) := by decide +kernel
theorem dX7_isAs_16 : decode cX7_isAs 16 = .ok (.getfield 13, 3) := by decide +kernel
theorem dX7_isAs_19 : decode cX7_isAs 19 = .ok (.iload_n 2, 1) := by decide +kernel
theorem dX7_isAs_20 : decode cX7_isAs 20 = .ok (.iaload, 1) := by decide +kernel
theorem dX7_isAs_21 : decode cX7_isAs 21 = .ok (.iload 5, 2) := by decide +kernel
theorem dX7_isAs_23 : decode cX7_isAs 23 = .ok (.ifCond .eq 12, 3) := by decide +kernel
theorem dX7_isAs_26 : decode cX7_isAs 26 = .ok (.aload_n 0, 1) := by decide +kernel
theorem dX7_isAs_27 : decode cX7_isAs 27 = .ok (.getfield 16, 3) := by decide +kernel
theorem dX7_isAs_30 : decode cX7_isAs 30 = .ok (.iload_n 1, 1) := by decide +kernel
theorem dX7_isAs_31 : decode cX7_isAs 31 = .ok (.iaload, 1) := by decide +kernel
theorem dX7_isAs_32 : decode cX7_isAs 32 = .ok (.goto 9, 3) := by decide +kernel
theorem dX7_isAs_35 : decode cX7_isAs 35 = .ok (.aload_n 0, 1) := by decide +kernel
theorem dX7_isAs_36 : decode cX7_isAs 36 = .ok (.getfield 13, 3) := by decide +kernel
theorem dX7_isAs_39 : decode cX7_isAs 39 = .ok (.iload_n 1, 1) := by decide +kernel
theorem dX7_isAs_40 : decode cX7_isAs 40 = .ok (.iaload, 1) := by decide +kernel
theorem dX7_isAs_41 : decode cX7_isAs 41 = .ok (.if_icmp .ne 32, 3) := by decide +kernel
theorem dX7_isAs_44 : decode cX7_isAs 44 = .ok (.aload_n 0, 1) := by decide +kernel
theorem dX7_isAs_45 : decode cX7_isAs 45 = .ok (.getfield 16, 3) := by decide +kernel
theorem dX7_isAs_48 : decode cX7_isAs 48 = .ok (.iload_n 2, 1) := by decide +kernel
theorem dX7_isAs_49 : decode cX7_isAs 49 = .ok (.iaload, 1) := by decide +kernel
theorem dX7_isAs_50 : decode cX7_isAs 50 = .ok (.iload 5, 2) := by decide +kernel
theorem dX7_isAs_52 : decode cX7_isAs 52 = .ok (.ifCond .eq 12, 3) := by decide +kernel
theorem dX7_isAs_55 : decode cX7_isAs 55 = .ok (.aload_n 0, 1) := by decide +kernel
theorem dX7_isAs_56 : decode cX7_isAs 56 = .ok (.getfield 13, 3) := by decide +kernel
theorem dX7_isAs_59 : decode cX7_isAs 59 = .ok (.iload_n 1, 1) := by decide +kernel
theorem dX7_isAs_60 : decode cX7_isAs 60 = .ok (.iaload, 1) := by decide +kernel
theorem dX7_isAs_61 : decode cX7_isAs 61 = .ok (.goto 9, 3) := by decide +kernel
theorem dX7_isAs_64 : decode cX7_isAs 64 = .ok (.aload_n 0, 1) := by decide +kernel
theorem dX7_isAs_65 : decode cX7_isAs 65 = .ok (.getfield 16, 3) := by decide +kernel
theorem dX7_isAs_68 : decode cX7_isAs 68 = .ok (.iload_n 1, 1) := by decide +kernel
theorem dX7_isAs_69 : decode cX7_isAs 69 = .ok (.iaload, 1) := by decide +kernel
theorem dX7_isAs_70 : decode cX7_isAs 70 = .ok (.if_icmp .eq 5, 3) := by decide +kernel
theorem dX7_isAs_73 : decode cX7_isAs 73 = .ok (.iconst 0, 1) := by decide +kernel
theorem dX7_isAs_74 : decode cX7_isAs 74 = .ok (.ireturn, 1) := by decide +kernel
theorem dX7_isAs_75 : decode cX7_isAs 75 = .ok (.iconst 0, 1) := by decide +kernel
theorem dX7_isAs_76 : decode cX7_isAs 76 = .ok (.istore 6, 2) := by decide +kernel
theorem dX7_isAs_78 : decode cX7_isAs 78 = .ok (.iload 6, 2) := by decide +kernel
theorem dX7_isAs_80 : decode cX7_isAs 80 = .ok (.aload_n 0, 1) := by decide +kernel
theorem dX7_isAs_81 : decode cX7_isAs 81 = .ok (.getfield 13, 3) := by decide +kernel
theorem dX7_isAs_84 : decode cX7_isAs 84 = .ok (.iload_n 1, 1) := by decide +kernel
theorem dX7_isAs_85 : decode cX7_isAs 85 = .ok (.iaload, 1) := by decide +kernel
theorem dX7_isAs_86 : decode cX7_isAs 86 = .ok (.if_icmp .ge 72, 3) := by decide +kernel
theorem dX7_isAs_89 : decode cX7_isAs 89 = .ok (.iconst 0, 1) := by decide +kernel
theorem dX7_isAs_90 : decode cX7_isAs 90 = .ok (.istore 7, 2) := by decide +kernel
theorem dX7_isAs_92 : decode cX7_isAs 92 = .ok (.iload 7, 2) := by decide +kernel
theorem dX7_isAs_94 : decode cX7_isAs 94 = .ok (.aload_n 0, 1) := by decide +kernel
theorem dX7_isAs_95 : decode cX7_isAs 95 = .ok (.getfield 16, 3) := by decide +kernel
theorem dX7_isAs_98 : decode cX7_isAs 98 = .ok (.iload_n 1, 1) := by decide +kernel
theorem dX7_isAs_99 : decode cX7_isAs 99 = .ok (.iaload, 1) := by decide +kernel
theorem dX7_isAs_100 : decode cX7_isAs 100 = .ok (.if_icmp .ge 52, 3) := by decide +kernel
theorem dX7_isAs_103 : decode cX7_isAs 103 = .ok (.aload_n 0, 1) := by decide +kernel
theorem dX7_isAs_104 : decode cX7_isAs 104 = .ok (.iload_n 1, 1) := by decide +kernel
theorem dX7_isAs_105 : decode cX7_isAs 105 = .ok (.iload 6, 2) := by decide +kernel
theorem dX7_isAs_107 : decode cX7_isAs 107 = .ok (.iload 7, 2) := by decide +kernel
theorem dX7_isAs_109 : decode cX7_isAs 109 = .ok (.iload_n 3, 1) := by decide +kernel
theorem dX7_isAs_110 : decode cX7_isAs 110 = .ok (.iload 4, 2) := by decide +kernel
theorem dX7_isAs_112 : decode cX7_isAs 112 = .ok (.invokevirtual 201, 3) := by decide +kernel
theorem dX7_isAs_115 : decode cX7_isAs 115 = .ok (.istore 8, 2) := by decide +kernel
theorem dX7_isAs_117 : decode cX7_isAs 117 = .ok (.aload_n 0, 1) := by decide +kernel
theorem dX7_isAs_118 : decode cX7_isAs 118 = .ok (.iload_n 1, 1) := by decide +kernel
theorem dX7_isAs_119 : decode cX7_isAs 119 = .ok (.iload 6, 2) := by decide +kernel
theorem dX7_isAs_121 : decode cX7_isAs 121 = .ok (.iload 7, 2) := by decide +kernel
theorem dX7_isAs_123 : decode cX7_isAs 123 = .ok (.invokevirtual 112, 3) := by decide +kernel
theorem dX7_isAs_126 : decode cX7_isAs 126 = .ok (.aload_n 0, 1) := by decide +kernel
theorem dX7_isAs_127 : decode cX7_isAs 127 = .ok (.iload_n 2, 1) := by decide +kernel
theorem dX7_isAs_128 : decode cX7_isAs 128 = .ok (.iload 8, 2) := by decide +kernel
theorem dX7_isAs_130 : decode cX7_isAs 130 = .ok (.bipush 10, 2) := by decide +kernel
theorem dX7_isAs_132 : decode cX7_isAs 132 = .ok (.idiv, 1) := by decide +kernel
theorem dX7_isAs_133 : decode cX7_isAs 133 = .ok (.iload 8, 2) := by decide +kernel
theorem dX7_isAs_135 : decode cX7_isAs 135 = .ok (.bipush 10, 2) := by decide +kernel
theorem dX7_isAs_137 : decode cX7_isAs 137 = .ok (.irem, 1) := by decide +kernel
theorem dX7_isAs_138 : decode cX7_isAs 138 = .ok (.invokevirtual 112, 3) := by decide +kernel
theorem dX7_isAs_141 : decode cX7_isAs 141 = .ok (.if_icmp .eq 5, 3) := by decide +kernel
theorem dX7_isAs_144 : decode cX7_isAs 144 = .ok (.iconst 0, 1) := by decide +kernel
theorem dX7_isAs_145 : decode cX7_isAs 145 = .ok (.ireturn, 1) := by decide +kernel
theorem dX7_isAs_146 : decode cX7_isAs 146 = .ok (.iinc 7 1, 3) := by decide +kernel
theorem dX7_isAs_149 : decode cX7_isAs 149 = .ok (.goto (-57), 3) := by decide +kernel
theorem dX7_isAs_152 : decode cX7_isAs 152 = .ok (.iinc 6 1, 3) := by decide +kernel
theorem dX7_isAs_155 : decode cX7_isAs 155 = .ok (.goto (-77), 3) := by decide +kernel
theorem dX7_isAs_158 : decode cX7_isAs 158 = .ok (.iconst 1, 1) := by decide +kernel
theorem dX7_isAs_159 : decode cX7_isAs 159 = .ok (.ireturn, 1) := by decide +kernel
theorem dX7_alike_0 : decode cX7_alike 0 = .ok (.aload_n 0, 1) := by decide +kernel
theorem dX7_alike_1 : decode cX7_alike 1 = .ok (.iload_n 1, 1) := by decide +kernel
theorem dX7_alike_2 : decode cX7_alike 2 = .ok (.invokevirtual 103, 3) := by decide +kernel
theorem dX7_alike_5 : decode cX7_alike 5 = .ok (.ifCond .eq 11, 3) := by decide +kernel
theorem dX7_alike_8 : decode cX7_alike 8 = .ok (.aload_n 0, 1) := by decide +kernel
theorem dX7_alike_9 : decode cX7_alike 9 = .ok (.iload_n 2, 1) := by decide +kernel
theorem dX7_alike_10 : decode cX7_alike 10 = .ok (.invokevirtual 103, 3) := by decide +kernel
theorem dX7_alike_13 : decode cX7_alike 13 = .ok (.ifCond .ne 9, 3) := by decide +kernel
theorem dX7_alike_16 : decode cX7_alike 16 = .ok (.aload_n 0, 1) := by decide +kernel
theorem dX7_alike_17 : decode cX7_alike 17 = .ok (.iconst (-1), 1) := by decide +kernel
theorem dX7_alike_18 : decode cX7_alike 18 = .ok (.invokevirtual 72, 3) := by decide +kernel
theorem dX7_alike_21 : decode cX7_alike 21 = .ok (.ireturn, 1) := by decide +kernel
theorem dX7_alike_22 : decode cX7_alike 22 = .ok (.iconst 0, 1) := by decide +kernel
theorem dX7_alike_23 : decode cX7_alike 23 = .ok (.istore_n 3, 1) := by decide +kernel
theorem dX7_alike_24 : decode cX7_alike 24 = .ok (.iload_n 3, 1) := by decide +kernel
theorem dX7_alike_25 : decode cX7_alike 25 = .ok (.iconst 4, 1) := by decide +kernel
theorem dX7_alike_26 : decode cX7_alike 26 = .ok (.if_icmp .ge 33, 3) := by decide +kernel
theorem dX7_alike_29 : decode cX7_alike 29 = .ok (.aload_n 0, 1) := by decide +kernel
theorem dX7_alike_30 : decode cX7_alike 30 = .ok (.iload_n 1, 1) := by decide +kernel
theorem dX7_alike_31 : decode cX7_alike 31 = .ok (.iload_n 2, 1) := by decide +kernel
theorem dX7_alike_32 : decode cX7_alike 32 = .ok (.iconst 0, 1) := by decide +kernel
theorem dX7_alike_33 : decode cX7_alike 33 = .ok (.iload_n 3, 1) := by decide +kernel
theorem dX7_alike_34 : decode cX7_alike 34 = .ok (.invokevirtual 210, 3) := by decide +kernel
theorem dX7_alike_37 : decode cX7_alike 37 = .ok (.ifCond .ne 14, 3) := by decide +kernel
theorem dX7_alike_40 : decode cX7_alike 40 = .ok (.aload_n 0, 1) := by decide +kernel
theorem dX7_alike_41 : decode cX7_alike 41 = .ok (.iload_n 1, 1) := by decide +kernel
theorem dX7_alike_42 : decode cX7_alike 42 = .ok (.iload_n 2, 1) := by decide +kernel
theorem dX7_alike_43 : decode cX7_alike 43 = .ok (.iconst 1, 1) := by decide +kernel
theorem dX7_alike_44 : decode cX7_alike 44 = .ok (.iload_n 3, 1) := by decide +kernel
theorem dX7_alike_45 : decode cX7_alike 45 = .ok (.invokevirtual 210, 3) := by decide +kernel
theorem dX7_alike_48 : decode cX7_alike 48 = .ok (.ifCond .eq 5, 3) := by decide +kernel
theorem dX7_alike_51 : decode cX7_alike 51 = .ok (.iconst 1, 1) := by decide +kernel
theorem dX7_alike_52 : decode cX7_alike 52 = .ok (.ireturn, 1) := by decide +kernel
theorem dX7_alike_53 : decode cX7_alike 53 = .ok (.iinc 3 1, 3) := by decide +kernel
theorem dX7_alike_56 : decode cX7_alike 56 = .ok (.goto (-32), 3) := by decide +kernel
theorem dX7_alike_59 : decode cX7_alike 59 = .ok (.iconst 0, 1) := by decide +kernel
theorem dX7_alike_60 : decode cX7_alike 60 = .ok (.ireturn, 1) := by decide +kernel
theorem dX7_needless_0 : decode cX7_needless 0 = .ok (.aload_n 0, 1) := by decide +kernel
theorem dX7_needless_1 : decode cX7_needless 1 = .ok (.iload_n 1, 1) := by decide +kernel
theorem dX7_needless_2 : decode cX7_needless 2 = .ok (.invokevirtual 103, 3) := by decide +kernel
theorem dX7_needless_5 : decode cX7_needless 5 = .ok (.ifCond .ne 9, 3) := by decide +kernel
theorem dX7_needless_8 : decode cX7_needless 8 = .ok (.aload_n 0, 1) := by decide +kernel
theorem dX7_needless_9 : decode cX7_needless 9 = .ok (.iconst (-1), 1) := by decide +kernel
theorem dX7_needless_10 : decode cX7_needless 10 = .ok (.invokevirtual 72, 3) := by decide +kernel
theorem dX7_needless_13 : decode cX7_needless 13 = .ok (.ireturn, 1) := by decide +kernel
theorem dX7_needless_14 : decode cX7_needless 14 = .ok (.aload_n 0, 1) := by decide +kernel
theorem dX7_needless_15 : decode cX7_needless 15 = .ok (.iload_n 1, 1) := by decide +kernel
theorem dX7_needless_16 : decode cX7_needless 16 = .ok (.invokevirtual 138, 3) := by decide +kernel
theorem dX7_needless_19 : decode cX7_needless 19 = .ok (.lstore_n 2, 1) := by decide +kernel
theorem dX7_needless_20 : decode cX7_needless 20 = .ok (.iconst 0, 1) := by decide +kernel
theorem dX7_needless_21 : decode cX7_needless 21 = .ok (.istore 4, 2) := by decide +kernel
theorem dX7_needless_23 : decode cX7_needless 23 = .ok (.iconst 0, 1) := by decide +kernel
theorem dX7_needless_24 : decode cX7_needless 24 = .ok (.istore 5, 2) := by decide +kernel
theorem dX7_needless_26 : decode cX7_needless 26 = .ok (.iload 5, 2) := by decide +kernel
theorem dX7_needless_28 : decode cX7_needless 28 = .ok (.bipush 20, 2) := by decide +kernel
theorem dX7_needless_30 : decode cX7_needless 30 = .ok (.if_icmp .ge 77, 3) := by decide +kernel
theorem dX7_needless_33 : decode cX7_needless 33 = .ok (.aload_n 0, 1) := by decide +kernel
theorem dX7_needless_34 : decode cX7_needless 34 = .ok (.getfield 22, 3) := by decide +kernel
theorem dX7_needless_37 : decode cX7_needless 37 = .ok (.bipush 20, 2) := by decide +kernel
theorem dX7_needless_39 : decode cX7_needless 39 = .ok (.iload_n 1, 1) := by decide +kernel
theorem dX7_needless_40 : decode cX7_needless 40 = .ok (.imul, 1) := by decide +kernel
theorem dX7_needless_41 : decode cX7_needless 41 = .ok (.iload 5, 2) := by decide +kernel
theorem dX7_needless_43 : decode cX7_needless 43 = .ok (.iadd, 1) := by decide +kernel
theorem dX7_needless_44 : decode cX7_needless 44 = .ok (.iaload, 1) := by decide +kernel
theorem dX7_needless_45 : decode cX7_needless 45 = .ok (.iconst 1, 1) := by decide +kernel
theorem dX7_needless_46 : decode cX7_needless 46 = .ok (.if_icmp .eq 6, 3) := by decide +kernel
theorem dX7_needless_49 : decode cX7_needless 49 = .ok (.goto 52, 3) := by decide +kernel
theorem dX7_needless_52 : decode cX7_needless 52 = .ok (.aload_n 0, 1) := by decide +kernel
theorem dX7_needless_53 : decode cX7_needless 53 = .ok (.getfield 22, 3) := by decide +kernel
theorem dX7_needless_56 : decode cX7_needless 56 = .ok (.bipush 20, 2) := by decide +kernel
theorem dX7_needless_58 : decode cX7_needless 58 = .ok (.iload_n 1, 1) := by decide +kernel
theorem dX7_needless_59 : decode cX7_needless 59 = .ok (.imul, 1) := by decide +kernel
theorem dX7_needless_60 : decode cX7_needless 60 = .ok (.iload 5, 2) := by decide +kernel
theorem dX7_needless_62 : decode cX7_needless 62 = .ok (.iadd, 1) := by decide +kernel
theorem dX7_needless_63 : decode cX7_needless 63 = .ok (.iconst 0, 1) := by decide +kernel
theorem dX7_needless_64 : decode cX7_needless 64 = .ok (.iastore, 1) := by decide +kernel
theorem dX7_needless_65 : decode cX7_needless 65 = .ok (.iload 4, 2) := by decide +kernel
theorem dX7_needless_67 : decode cX7_needless 67 = .ok (.aload_n 0, 1) := by decide +kernel
theorem dX7_needless_68 : decode cX7_needless 68 = .ok (.iload_n 1, 1) := by decide +kernel
theorem dX7_needless_69 : decode cX7_needless 69 = .ok (.invokevirtual 138, 3) := by decide +kernel
theorem dX7_needless_72 : decode cX7_needless 72 = .ok (.lload_n 2, 1) := by decide +kernel
theorem dX7_needless_73 : decode cX7_needless 73 = .ok (.lcmp, 1) := by decide +kernel
theorem dX7_needless_74 : decode cX7_needless 74 = .ok (.ifCond .ne 10, 3) := by decide +kernel
theorem dX7_needless_77 : decode cX7_needless 77 = .ok (.iconst 1, 1) := by decide +kernel
theorem dX7_needless_78 : decode cX7_needless 78 = .ok (.iload 5, 2) := by decide +kernel
theorem dX7_needless_80 : decode cX7_needless 80 = .ok (.ishl, 1) := by decide +kernel
theorem dX7_needless_81 : decode cX7_needless 81 = .ok (.goto 4, 3) := by decide +kernel
theorem dX7_needless_84 : decode cX7_needless 84 = .ok (.iconst 0, 1) := by decide +kernel
theorem dX7_needless_85 : decode cX7_needless 85 = .ok (.ior, 1) := by decide +kernel
theorem dX7_needless_86 : decode cX7_needless 86 = .ok (.istore 4, 2) := by decide +kernel
theorem dX7_needless_88 : decode cX7_needless 88 = .ok (.aload_n 0, 1) := by decide +kernel
theorem dX7_needless_89 : decode cX7_needless 89 = .ok (.getfield 22, 3) := by decide +kernel
theorem dX7_needless_92 : decode cX7_needless 92 = .ok (.bipush 20, 2) := by decide +kernel
theorem dX7_needless_94 : decode cX7_needless 94 = .ok (.iload_n 1, 1) := by decide +kernel
theorem dX7_needless_95 : decode cX7_needless 95 = .ok (.imul, 1) := by decide +kernel
theorem dX7_needless_96 : decode cX7_needless 96 = .ok (.iload 5, 2) := by decide +kernel
theorem dX7_needless_98 : decode cX7_needless 98 = .ok (.iadd, 1) := by decide +kernel
theorem dX7_needless_99 : decode cX7_needless 99 = .ok (.iconst 1, 1) := by decide +kernel
theorem dX7_needless_100 : decode cX7_needless 100 = .ok (.iastore, 1) := by decide +kernel
theorem dX7_needless_101 : decode cX7_needless 101 = .ok (.iinc 5 1, 3) := by decide +kernel
theorem dX7_needless_104 : decode cX7_needless 104 = .ok (.goto (-78), 3) := by decide +kernel
theorem dX7_needless_107 : decode cX7_needless 107 = .ok (.iload 4, 2) := by decide +kernel
theorem dX7_needless_109 : decode cX7_needless 109 = .ok (.ireturn, 1) := by decide +kernel
theorem dX7_put_0 : decode cX7_put 0 = .ok (.iload_n 1, 1) := by decide +kernel
theorem dX7_put_1 : decode cX7_put 1 = .ok (.iconst 0, 1) := by decide +kernel
theorem dX7_put_2 : decode cX7_put 2 = .ok (.bipush 99, 2) := by decide +kernel
theorem dX7_put_4 : decode cX7_put 4 = .ok (.invokestatic 194, 3) := by decide +kernel
theorem dX7_put_7 : decode cX7_put 7 = .ok (.istore_n 2, 1) := by decide +kernel
theorem dX7_put_8 : decode cX7_put 8 = .ok (.iload_n 2, 1) := by decide +kernel
theorem dX7_put_9 : decode cX7_put 9 = .ok (.ifCond .ne 14, 3) := by decide +kernel
theorem dX7_put_12 : decode cX7_put 12 = .ok (.aload_n 0, 1) := by decide +kernel
theorem dX7_put_13 : decode cX7_put 13 = .ok (.getfield 214, 3) := by decide +kernel
theorem dX7_put_16 : decode cX7_put 16 = .ok (.iconst 3, 1) := by decide +kernel
theorem dX7_put_17 : decode cX7_put 17 = .ok (.if_icmp .ne 6, 3) := by decide +kernel
theorem dX7_put_20 : decode cX7_put 20 = .ok (.bipush (-6), 2) := by decide +kernel
theorem dX7_put_22 : decode cX7_put 22 = .ok (.istore_n 2, 1) := by decide +kernel
theorem dX7_put_23 : decode cX7_put 23 = .ok (.iload_n 2, 1) := by decide +kernel
theorem dX7_put_24 : decode cX7_put 24 = .ok (.ifCond .eq 9, 3) := by decide +kernel
theorem dX7_put_27 : decode cX7_put 27 = .ok (.aload_n 0, 1) := by decide +kernel
theorem dX7_put_28 : decode cX7_put 28 = .ok (.iload_n 2, 1) := by decide +kernel
theorem dX7_put_29 : decode cX7_put 29 = .ok (.invokevirtual 72, 3) := by decide +kernel
theorem dX7_put_32 : decode cX7_put 32 = .ok (.ireturn, 1) := by decide +kernel
theorem dX7_put_33 : decode cX7_put 33 = .ok (.aload_n 0, 1) := by decide +kernel
theorem dX7_put_34 : decode cX7_put 34 = .ok (.getfield 55, 3) := by decide +kernel
theorem dX7_put_37 : decode cX7_put 37 = .ok (.aload_n 0, 1) := by decide +kernel
theorem dX7_put_38 : decode cX7_put 38 = .ok (.getfield 214, 3) := by decide +kernel
theorem dX7_put_41 : decode cX7_put 41 = .ok (.iload_n 1, 1) := by decide +kernel
theorem dX7_put_42 : decode cX7_put 42 = .ok (.iastore, 1) := by decide +kernel
theorem dX7_put_43 : decode cX7_put 43 = .ok (.aload_n 0, 1) := by decide +kernel
theorem dX7_put_44 : decode cX7_put 44 = .ok (.dup, 1) := by decide +kernel
theorem dX7_put_45 : decode cX7_put 45 = .ok (.getfield 214, 3) := by decide +kernel
theorem dX7_put_48 : decode cX7_put 48 = .ok (.iconst 1, 1) := by decide +kernel
theorem dX7_put_49 : decode cX7_put 49 = .ok (.iadd, 1) := by decide +kernel
theorem dX7_put_50 : decode cX7_put 50 = .ok (.putfield 214, 3) := by decide +kernel
theorem dX7_put_53 : decode cX7_put 53 = .ok (.aload_n 0, 1) := by decide +kernel
theorem dX7_put_54 : decode cX7_put 54 = .ok (.getfield 214, 3) := by decide +kernel
theorem dX7_put_57 : decode cX7_put 57 = .ok (.ireturn, 1) := by decide +kernel
theorem dX7_isRow_0 : decode cX7_isRow 0 = .ok (.iconst 0, 1) := by decide +kernel
theorem dX7_isRow_1 : decode cX7_isRow 1 = .ok (.istore_n 3, 1) := by decide +kernel
theorem dX7_isRow_2 : decode cX7_isRow 2 = .ok (.iload_n 3, 1) := by decide +kernel
theorem dX7_isRow_3 : decode cX7_isRow 3 = .ok (.aload_n 0, 1) := by decide +kernel
theorem dX7_isRow_4 : decode cX7_isRow 4 = .ok (.getfield 214, 3) := by decide +kernel
theorem dX7_isRow_7 : decode cX7_isRow 7 = .ok (.if_icmp .ge 70, 3) := by decide +kernel
theorem dX7_isRow_10 : decode cX7_isRow 10 = .ok (.aload_n 0, 1) := by decide +kernel
theorem dX7_isRow_11 : decode cX7_isRow 11 = .ok (.getfield 55, 3) := by decide +kernel
theorem dX7_isRow_14 : decode cX7_isRow 14 = .ok (.iload_n 3, 1) := by decide +kernel
theorem dX7_isRow_15 : decode cX7_isRow 15 = .ok (.iaload, 1) := by decide +kernel
theorem dX7_isRow_16 : decode cX7_isRow 16 = .ok (.bipush 10, 2) := by decide +kernel
theorem dX7_isRow_18 : decode cX7_isRow 18 = .ok (.idiv, 1) := by decide +kernel
theorem dX7_isRow_19 : decode cX7_isRow 19 = .ok (.iload_n 1, 1) := by decide +kernel
theorem dX7_isRow_20 : decode cX7_isRow 20 = .ok (.if_icmp .ge 16, 3) := by decide +kernel
theorem dX7_isRow_23 : decode cX7_isRow 23 = .ok (.aload_n 0, 1) := by decide +kernel
theorem dX7_isRow_24 : decode cX7_isRow 24 = .ok (.getfield 55, 3) := by decide +kernel
theorem dX7_isRow_27 : decode cX7_isRow 27 = .ok (.iload_n 3, 1) := by decide +kernel
theorem dX7_isRow_28 : decode cX7_isRow 28 = .ok (.iaload, 1) := by decide +kernel
theorem dX7_isRow_29 : decode cX7_isRow 29 = .ok (.bipush 10, 2) := by decide +kernel
theorem dX7_isRow_31 : decode cX7_isRow 31 = .ok (.irem, 1) := by decide +kernel
theorem dX7_isRow_32 : decode cX7_isRow 32 = .ok (.iload_n 2, 1) := by decide +kernel
theorem dX7_isRow_33 : decode cX7_isRow 33 = .ok (.if_icmp .lt 5, 3) := by decide +kernel
theorem dX7_isRow_36 : decode cX7_isRow 36 = .ok (.iconst 0, 1) := by decide +kernel
theorem dX7_isRow_37 : decode cX7_isRow 37 = .ok (.ireturn, 1) := by decide +kernel
theorem dX7_isRow_38 : decode cX7_isRow 38 = .ok (.iconst 0, 1) := by decide +kernel
theorem dX7_isRow_39 : decode cX7_isRow 39 = .ok (.istore 4, 2) := by decide +kernel
theorem dX7_isRow_41 : decode cX7_isRow 41 = .ok (.iload 4, 2) := by decide +kernel
theorem dX7_isRow_43 : decode cX7_isRow 43 = .ok (.iload_n 3, 1) := by decide +kernel
theorem dX7_isRow_44 : decode cX7_isRow 44 = .ok (.if_icmp .ge 27, 3) := by decide +kernel
theorem dX7_isRow_47 : decode cX7_isRow 47 = .ok (.aload_n 0, 1) := by decide +kernel
theorem dX7_isRow_48 : decode cX7_isRow 48 = .ok (.getfield 55, 3) := by decide +kernel
theorem dX7_isRow_51 : decode cX7_isRow 51 = .ok (.iload 4, 2) := by decide +kernel
theorem dX7_isRow_53 : decode cX7_isRow 53 = .ok (.iaload, 1) := by decide +kernel
theorem dX7_isRow_54 : decode cX7_isRow 54 = .ok (.aload_n 0, 1) := by decide +kernel
theorem dX7_isRow_55 : decode cX7_isRow 55 = .ok (.getfield 55, 3) := by decide +kernel
theorem dX7_isRow_58 : decode cX7_isRow 58 = .ok (.iload_n 3, 1) := by decide +kernel
theorem dX7_isRow_59 : decode cX7_isRow 59 = .ok (.iaload, 1) := by decide +kernel
theorem dX7_isRow_60 : decode cX7_isRow 60 = .ok (.if_icmp .ne 5, 3) := by decide +kernel
theorem dX7_isRow_63 : decode cX7_isRow 63 = .ok (.iconst 0, 1) := by decide +kernel
theorem dX7_isRow_64 : decode cX7_isRow 64 = .ok (.ireturn, 1) := by decide +kernel
theorem dX7_isRow_65 : decode cX7_isRow 65 = .ok (.iinc 4 1, 3) := by decide +kernel
theorem dX7_isRow_68 : decode cX7_isRow 68 = .ok (.goto (-27), 3) := by decide +kernel
theorem dX7_isRow_71 : decode cX7_isRow 71 = .ok (.iinc 3 1, 3) := by decide +kernel
theorem dX7_isRow_74 : decode cX7_isRow 74 = .ok (.goto (-72), 3) := by decide +kernel
theorem dX7_isRow_77 : decode cX7_isRow 77 = .ok (.aload_n 0, 1) := by decide +kernel
theorem dX7_isRow_78 : decode cX7_isRow 78 = .ok (.getfield 214, 3) := by decide +kernel
theorem dX7_isRow_81 : decode cX7_isRow 81 = .ok (.ifCond .le 7, 3) := by decide +kernel
theorem dX7_isRow_84 : decode cX7_isRow 84 = .ok (.iconst 1, 1) := by decide +kernel
theorem dX7_isRow_85 : decode cX7_isRow 85 = .ok (.goto 4, 3) := by decide +kernel
theorem dX7_isRow_88 : decode cX7_isRow 88 = .ok (.iconst 0, 1) := by decide +kernel
theorem dX7_isRow_89 : decode cX7_isRow 89 = .ok (.ireturn, 1) := by decide +kernel
theorem dX7_faceAt_0 : decode cX7_faceAt 0 = .ok (.iconst 0, 1) := by decide +kernel
theorem dX7_faceAt_1 : decode cX7_faceAt 1 = .ok (.istore_n 2, 1) := by decide +kernel
theorem dX7_faceAt_2 : decode cX7_faceAt 2 = .ok (.iload_n 2, 1) := by decide +kernel
theorem dX7_faceAt_3 : decode cX7_faceAt 3 = .ok (.aload_n 0, 1) := by decide +kernel
theorem dX7_faceAt_4 : decode cX7_faceAt 4 = .ok (.getfield 214, 3) := by decide +kernel
theorem dX7_faceAt_7 : decode cX7_faceAt 7 = .ok (.if_icmp .ge 21, 3) := by decide +kernel
theorem dX7_faceAt_10 : decode cX7_faceAt 10 = .ok (.aload_n 0, 1) := by decide +kernel
theorem dX7_faceAt_11 : decode cX7_faceAt 11 = .ok (.getfield 55, 3) := by decide +kernel
theorem dX7_faceAt_14 : decode cX7_faceAt 14 = .ok (.iload_n 2, 1) := by decide +kernel
theorem dX7_faceAt_15 : decode cX7_faceAt 15 = .ok (.iaload, 1) := by decide +kernel
theorem dX7_faceAt_16 : decode cX7_faceAt 16 = .ok (.iload_n 1, 1) := by decide +kernel
theorem dX7_faceAt_17 : decode cX7_faceAt 17 = .ok (.if_icmp .ne 5, 3) := by decide +kernel
theorem dX7_faceAt_20 : decode cX7_faceAt 20 = .ok (.iload_n 2, 1) := by decide +kernel
theorem dX7_faceAt_21 : decode cX7_faceAt 21 = .ok (.ireturn, 1) := by decide +kernel
theorem dX7_faceAt_22 : decode cX7_faceAt 22 = .ok (.iinc 2 1, 3) := by decide +kernel
theorem dX7_faceAt_25 : decode cX7_faceAt 25 = .ok (.goto (-23), 3) := by decide +kernel
theorem dX7_faceAt_28 : decode cX7_faceAt 28 = .ok (.bipush (-9), 2) := by decide +kernel
theorem dX7_faceAt_30 : decode cX7_faceAt 30 = .ok (.ireturn, 1) := by decide +kernel
theorem dX7_lays_0 : decode cX7_lays 0 = .ok (.iconst 0, 1) := by decide +kernel
theorem dX7_lays_1 : decode cX7_lays 1 = .ok (.istore 5, 2) := by decide +kernel
theorem dX7_lays_3 : decode cX7_lays 3 = .ok (.iconst 0, 1) := by decide +kernel
theorem dX7_lays_4 : decode cX7_lays 4 = .ok (.istore 6, 2) := by decide +kernel
theorem dX7_lays_6 : decode cX7_lays 6 = .ok (.iload 6, 2) := by decide +kernel
theorem dX7_lays_8 : decode cX7_lays 8 = .ok (.iload_n 3, 1) := by decide +kernel
theorem dX7_lays_9 : decode cX7_lays 9 = .ok (.if_icmp .ge 91, 3) := by decide +kernel
theorem dX7_lays_12 : decode cX7_lays 12 = .ok (.iconst 0, 1) := by decide +kernel
theorem dX7_lays_13 : decode cX7_lays 13 = .ok (.istore 7, 2) := by decide +kernel
theorem dX7_lays_15 : decode cX7_lays 15 = .ok (.iload 7, 2) := by decide +kernel
theorem dX7_lays_17 : decode cX7_lays 17 = .ok (.iload_n 2, 1) := by decide +kernel
theorem dX7_lays_18 : decode cX7_lays 18 = .ok (.if_icmp .ge 76, 3) := by decide +kernel
theorem dX7_lays_21 : decode cX7_lays 21 = .ok (.aload_n 0, 1) := by decide +kernel
theorem dX7_lays_22 : decode cX7_lays 22 = .ok (.bipush 10, 2) := by decide +kernel
theorem dX7_lays_24 : decode cX7_lays 24 = .ok (.iload 7, 2) := by decide +kernel
theorem dX7_lays_26 : decode cX7_lays 26 = .ok (.imul, 1) := by decide +kernel
theorem dX7_lays_27 : decode cX7_lays 27 = .ok (.iload 6, 2) := by decide +kernel
theorem dX7_lays_29 : decode cX7_lays 29 = .ok (.iadd, 1) := by decide +kernel
theorem dX7_lays_30 : decode cX7_lays 30 = .ok (.invokevirtual 217, 3) := by decide +kernel
theorem dX7_lays_33 : decode cX7_lays 33 = .ok (.istore 8, 2) := by decide +kernel
theorem dX7_lays_35 : decode cX7_lays 35 = .ok (.aload_n 0, 1) := by decide +kernel
theorem dX7_lays_36 : decode cX7_lays 36 = .ok (.iload_n 1, 1) := by decide +kernel
theorem dX7_lays_37 : decode cX7_lays 37 = .ok (.iload 7, 2) := by decide +kernel
theorem dX7_lays_39 : decode cX7_lays 39 = .ok (.iload 6, 2) := by decide +kernel
theorem dX7_lays_41 : decode cX7_lays 41 = .ok (.iload 8, 2) := by decide +kernel
theorem dX7_lays_43 : decode cX7_lays 43 = .ok (.ifCond .lt 11, 3) := by decide +kernel
theorem dX7_lays_46 : decode cX7_lays 46 = .ok (.bipush 10, 2) := by decide +kernel
theorem dX7_lays_48 : decode cX7_lays 48 = .ok (.iload 8, 2) := by decide +kernel
theorem dX7_lays_50 : decode cX7_lays 50 = .ok (.iadd, 1) := by decide +kernel
theorem dX7_lays_51 : decode cX7_lays 51 = .ok (.goto 19, 3) := by decide +kernel
theorem dX7_lays_54 : decode cX7_lays 54 = .ok (.iload 4, 2) := by decide +kernel
theorem dX7_lays_56 : decode cX7_lays 56 = .ok (.iload 5, 2) := by decide +kernel
theorem dX7_lays_58 : decode cX7_lays 58 = .ok (.ishr, 1) := by decide +kernel
theorem dX7_lays_59 : decode cX7_lays 59 = .ok (.iconst 1, 1) := by decide +kernel
theorem dX7_lays_60 : decode cX7_lays 60 = .ok (.iand, 1) := by decide +kernel
theorem dX7_lays_61 : decode cX7_lays 61 = .ok (.iconst 1, 1) := by decide +kernel
theorem dX7_lays_62 : decode cX7_lays 62 = .ok (.if_icmp .ne 7, 3) := by decide +kernel
theorem dX7_lays_65 : decode cX7_lays 65 = .ok (.iconst 0, 1) := by decide +kernel
theorem dX7_lays_66 : decode cX7_lays 66 = .ok (.goto 4, 3) := by decide +kernel
theorem dX7_lays_69 : decode cX7_lays 69 = .ok (.iconst 1, 1) := by decide +kernel
theorem dX7_lays_70 : decode cX7_lays 70 = .ok (.invokevirtual 96, 3) := by decide +kernel
theorem dX7_lays_73 : decode cX7_lays 73 = .ok (.iload 5, 2) := by decide +kernel
theorem dX7_lays_75 : decode cX7_lays 75 = .ok (.iload 8, 2) := by decide +kernel
theorem dX7_lays_77 : decode cX7_lays 77 = .ok (.ifCond .lt 7, 3) := by decide +kernel
theorem dX7_lays_80 : decode cX7_lays 80 = .ok (.iconst 0, 1) := by decide +kernel
theorem dX7_lays_81 : decode cX7_lays 81 = .ok (.goto 4, 3) := by decide +kernel
theorem dX7_lays_84 : decode cX7_lays 84 = .ok (.iconst 1, 1) := by decide +kernel
theorem dX7_lays_85 : decode cX7_lays 85 = .ok (.iadd, 1) := by decide +kernel
theorem dX7_lays_86 : decode cX7_lays 86 = .ok (.istore 5, 2) := by decide +kernel
theorem dX7_lays_88 : decode cX7_lays 88 = .ok (.iinc 7 1, 3) := by decide +kernel
theorem dX7_lays_91 : decode cX7_lays 91 = .ok (.goto (-76), 3) := by decide +kernel
theorem dX7_lays_94 : decode cX7_lays 94 = .ok (.iinc 6 1, 3) := by decide +kernel
theorem dX7_lays_97 : decode cX7_lays 97 = .ok (.goto (-91), 3) := by decide +kernel
theorem dX7_lays_100 : decode cX7_lays 100 = .ok (.return_, 1) := by decide +kernel
theorem dX7_find_0 : decode cX7_find 0 = .ok (.aload_n 0, 1) := by decide +kernel
theorem dX7_find_1 : decode cX7_find 1 = .ok (.iload_n 3, 1) := by decide +kernel
theorem dX7_find_2 : decode cX7_find 2 = .ok (.invokevirtual 191, 3) := by decide +kernel
theorem dX7_find_5 : decode cX7_find 5 = .ok (.ifCond .ne 9, 3) := by decide +kernel
theorem dX7_find_8 : decode cX7_find 8 = .ok (.aload_n 0, 1) := by decide +kernel
theorem dX7_find_9 : decode cX7_find 9 = .ok (.iconst (-1), 1) := by decide +kernel
theorem dX7_find_10 : decode cX7_find 10 = .ok (.invokevirtual 72, 3) := by decide +kernel
theorem dX7_find_13 : decode cX7_find 13 = .ok (.ireturn, 1) := by decide +kernel
theorem dX7_find_14 : decode cX7_find 14 = .ok (.iload_n 1, 1) := by decide +kernel
theorem dX7_find_15 : decode cX7_find 15 = .ok (.iconst 1, 1) := by decide +kernel
theorem dX7_find_16 : decode cX7_find 16 = .ok (.if_icmp .lt 8, 3) := by decide +kernel
theorem dX7_find_19 : decode cX7_find 19 = .ok (.iload_n 2, 1) := by decide +kernel
theorem dX7_find_20 : decode cX7_find 20 = .ok (.iconst 1, 1) := by decide +kernel
theorem dX7_find_21 : decode cX7_find 21 = .ok (.if_icmp .ge 10, 3) := by decide +kernel
theorem dX7_find_24 : decode cX7_find 24 = .ok (.aload_n 0, 1) := by decide +kernel
theorem dX7_find_25 : decode cX7_find 25 = .ok (.bipush (-4), 2) := by decide +kernel
theorem dX7_find_27 : decode cX7_find 27 = .ok (.invokevirtual 72, 3) := by decide +kernel
theorem dX7_find_30 : decode cX7_find 30 = .ok (.ireturn, 1) := by decide +kernel
theorem dX7_find_31 : decode cX7_find 31 = .ok (.iload_n 1, 1) := by decide +kernel
theorem dX7_find_32 : decode cX7_find 32 = .ok (.iconst 5, 1) := by decide +kernel
theorem dX7_find_33 : decode cX7_find 33 = .ok (.if_icmp .gt 25, 3) := by decide +kernel
theorem dX7_find_36 : decode cX7_find 36 = .ok (.iload_n 2, 1) := by decide +kernel
theorem dX7_find_37 : decode cX7_find 37 = .ok (.iconst 4, 1) := by decide +kernel
theorem dX7_find_38 : decode cX7_find 38 = .ok (.if_icmp .gt 20, 3) := by decide +kernel
theorem dX7_find_41 : decode cX7_find 41 = .ok (.iload_n 1, 1) := by decide +kernel
theorem dX7_find_42 : decode cX7_find 42 = .ok (.iload_n 2, 1) := by decide +kernel
theorem dX7_find_43 : decode cX7_find 43 = .ok (.imul, 1) := by decide +kernel
theorem dX7_find_44 : decode cX7_find 44 = .ok (.bipush 9, 2) := by decide +kernel
theorem dX7_find_46 : decode cX7_find 46 = .ok (.if_icmp .gt 12, 3) := by decide +kernel
theorem dX7_find_49 : decode cX7_find 49 = .ok (.aload_n 0, 1) := by decide +kernel
theorem dX7_find_50 : decode cX7_find 50 = .ok (.getfield 76, 3) := by decide +kernel
theorem dX7_find_53 : decode cX7_find 53 = .ok (.bipush 24, 2) := by decide +kernel
theorem dX7_find_55 : decode cX7_find 55 = .ok (.if_icmp .ne 10, 3) := by decide +kernel
theorem dX7_find_58 : decode cX7_find 58 = .ok (.aload_n 0, 1) := by decide +kernel
theorem dX7_find_59 : decode cX7_find 59 = .ok (.bipush (-6), 2) := by decide +kernel
theorem dX7_find_61 : decode cX7_find 61 = .ok (.invokevirtual 72, 3) := by decide +kernel
theorem dX7_find_64 : decode cX7_find 64 = .ok (.ireturn, 1) := by decide +kernel
theorem dX7_find_65 : decode cX7_find 65 = .ok (.aload_n 0, 1) := by decide +kernel
theorem dX7_find_66 : decode cX7_find 66 = .ok (.iload_n 1, 1) := by decide +kernel
theorem dX7_find_67 : decode cX7_find 67 = .ok (.iload_n 2, 1) := by decide +kernel
theorem dX7_find_68 : decode cX7_find 68 = .ok (.invokevirtual 220, 3) := by decide +kernel
theorem dX7_find_71 : decode cX7_find 71 = .ok (.ifCond .ne 10, 3) := by decide +kernel
theorem dX7_find_74 : decode cX7_find 74 = .ok (.aload_n 0, 1) := by decide +kernel
theorem dX7_find_75 : decode cX7_find 75 = .ok (.bipush (-3), 2) := by decide +kernel
theorem dX7_find_77 : decode cX7_find 77 = .ok (.invokevirtual 72, 3) := by decide +kernel
theorem dX7_find_80 : decode cX7_find 80 = .ok (.ireturn, 1) := by decide +kernel
theorem dX7_find_81 : decode cX7_find 81 = .ok (.aload_n 0, 1) := by decide +kernel
theorem dX7_find_82 : decode cX7_find 82 = .ok (.aload_n 0, 1) := by decide +kernel
theorem dX7_find_83 : decode cX7_find 83 = .ok (.getfield 76, 3) := by decide +kernel
theorem dX7_find_86 : decode cX7_find 86 = .ok (.iload_n 1, 1) := by decide +kernel
theorem dX7_find_87 : decode cX7_find 87 = .ok (.iload_n 2, 1) := by decide +kernel
theorem dX7_find_88 : decode cX7_find 88 = .ok (.aload_n 0, 1) := by decide +kernel
theorem dX7_find_89 : decode cX7_find 89 = .ok (.getfield 214, 3) := by decide +kernel
theorem dX7_find_92 : decode cX7_find 92 = .ok (.invokevirtual 89, 3) := by decide +kernel
theorem dX7_find_95 : decode cX7_find 95 = .ok (.aload_n 0, 1) := by decide +kernel
theorem dX7_find_96 : decode cX7_find 96 = .ok (.iload_n 3, 1) := by decide +kernel
theorem dX7_find_97 : decode cX7_find 97 = .ok (.aload_n 0, 1) := by decide +kernel
theorem dX7_find_98 : decode cX7_find 98 = .ok (.getfield 214, 3) := by decide +kernel
theorem dX7_find_101 : decode cX7_find 101 = .ok (.invokevirtual 197, 3) := by decide +kernel
theorem dX7_find_104 : decode cX7_find 104 = .ok (.lstore 4, 2) := by decide +kernel
theorem dX7_find_106 : decode cX7_find 106 = .ok (.bipush (-9), 2) := by decide +kernel
theorem dX7_find_108 : decode cX7_find 108 = .ok (.istore 6, 2) := by decide +kernel
theorem dX7_find_110 : decode cX7_find 110 = .ok (.iconst 0, 1) := by decide +kernel
theorem dX7_find_111 : decode cX7_find 111 = .ok (.istore 7, 2) := by decide +kernel
theorem dX7_find_113 : decode cX7_find 113 = .ok (.iload 7, 2) := by decide +kernel
theorem dX7_find_115 : decode cX7_find 115 = .ok (.iconst 1, 1) := by decide +kernel
theorem dX7_find_116 : decode cX7_find 116 = .ok (.iload_n 1, 1) := by decide +kernel
theorem dX7_find_117 : decode cX7_find 117 = .ok (.iload_n 2, 1) := by decide +kernel
theorem dX7_find_118 : decode cX7_find 118 = .ok (.imul, 1) := by decide +kernel
theorem dX7_find_119 : decode cX7_find 119 = .ok (.aload_n 0, 1) := by decide +kernel
theorem dX7_find_120 : decode cX7_find 120 = .ok (.getfield 214, 3) := by decide +kernel
theorem dX7_find_123 : decode cX7_find 123 = .ok (.isub, 1) := by decide +kernel
theorem dX7_find_124 : decode cX7_find 124 = .ok (.ishl, 1) := by decide +kernel
theorem dX7_find_125 : decode cX7_find 125 = .ok (.if_icmp .ge 51, 3) := by decide +kernel
theorem dX7_find_128 : decode cX7_find 128 = .ok (.iload 6, 2) := by decide +kernel
theorem dX7_find_130 : decode cX7_find 130 = .ok (.ifCond .ge 46, 3) := by decide +kernel
theorem dX7_find_133 : decode cX7_find 133 = .ok (.aload_n 0, 1) := by decide +kernel
theorem dX7_find_134 : decode cX7_find 134 = .ok (.aload_n 0, 1) := by decide +kernel
theorem dX7_find_135 : decode cX7_find 135 = .ok (.getfield 76, 3) := by decide +kernel
theorem dX7_find_138 : decode cX7_find 138 = .ok (.iload_n 1, 1) := by decide +kernel
theorem dX7_find_139 : decode cX7_find 139 = .ok (.iload_n 2, 1) := by decide +kernel
theorem dX7_find_140 : decode cX7_find 140 = .ok (.iload 7, 2) := by decide +kernel
theorem dX7_find_142 : decode cX7_find 142 = .ok (.invokevirtual 223, 3) := by decide +kernel
theorem dX7_find_145 : decode cX7_find 145 = .ok (.aload_n 0, 1) := by decide +kernel
theorem dX7_find_146 : decode cX7_find 146 = .ok (.aload_n 0, 1) := by decide +kernel
theorem dX7_find_147 : decode cX7_find 147 = .ok (.getfield 76, 3) := by decide +kernel
theorem dX7_find_150 : decode cX7_find 150 = .ok (.invokevirtual 138, 3) := by decide +kernel
theorem dX7_find_153 : decode cX7_find 153 = .ok (.lload 4, 2) := by decide +kernel
theorem dX7_find_155 : decode cX7_find 155 = .ok (.lcmp, 1) := by decide +kernel
theorem dX7_find_156 : decode cX7_find 156 = .ok (.ifCond .ne 10, 3) := by decide +kernel
theorem dX7_find_159 : decode cX7_find 159 = .ok (.aload_n 0, 1) := by decide +kernel
theorem dX7_find_160 : decode cX7_find 160 = .ok (.getfield 76, 3) := by decide +kernel
theorem dX7_find_163 : decode cX7_find 163 = .ok (.goto 5, 3) := by decide +kernel
theorem dX7_find_166 : decode cX7_find 166 = .ok (.bipush (-9), 2) := by decide +kernel
theorem dX7_find_168 : decode cX7_find 168 = .ok (.istore 6, 2) := by decide +kernel
theorem dX7_find_170 : decode cX7_find 170 = .ok (.iinc 7 1, 3) := by decide +kernel
theorem dX7_find_173 : decode cX7_find 173 = .ok (.goto (-60), 3) := by decide +kernel
theorem dX7_find_176 : decode cX7_find 176 = .ok (.aload_n 0, 1) := by decide +kernel
theorem dX7_find_177 : decode cX7_find 177 = .ok (.iconst 0, 1) := by decide +kernel
theorem dX7_find_178 : decode cX7_find 178 = .ok (.putfield 214, 3) := by decide +kernel
theorem dX7_find_181 : decode cX7_find 181 = .ok (.aload_n 0, 1) := by decide +kernel
theorem dX7_find_182 : decode cX7_find 182 = .ok (.dup, 1) := by decide +kernel
theorem dX7_find_183 : decode cX7_find 183 = .ok (.getfield 76, 3) := by decide +kernel
theorem dX7_find_186 : decode cX7_find 186 = .ok (.iload 6, 2) := by decide +kernel
theorem dX7_find_188 : decode cX7_find 188 = .ok (.ifCond .ge 7, 3) := by decide +kernel
theorem dX7_find_191 : decode cX7_find 191 = .ok (.iconst 0, 1) := by decide +kernel
theorem dX7_find_192 : decode cX7_find 192 = .ok (.goto 4, 3) := by decide +kernel
theorem dX7_find_195 : decode cX7_find 195 = .ok (.iconst 1, 1) := by decide +kernel
theorem dX7_find_196 : decode cX7_find 196 = .ok (.iadd, 1) := by decide +kernel
theorem dX7_find_197 : decode cX7_find 197 = .ok (.putfield 76, 3) := by decide +kernel
theorem dX7_find_200 : decode cX7_find 200 = .ok (.iload 6, 2) := by decide +kernel
theorem dX7_find_202 : decode cX7_find 202 = .ok (.ireturn, 1) := by decide +kernel
theorem dX7_isNet_0 : decode cX7_isNet 0 = .ok (.iload_n 1, 1) := by decide +kernel
theorem dX7_isNet_1 : decode cX7_isNet 1 = .ok (.aload_n 0, 1) := by decide +kernel
theorem dX7_isNet_2 : decode cX7_isNet 2 = .ok (.getfield 226, 3) := by decide +kernel
theorem dX7_isNet_5 : decode cX7_isNet 5 = .ok (.invokestatic 80, 3) := by decide +kernel
theorem dX7_isNet_8 : decode cX7_isNet 8 = .ok (.ireturn, 1) := by decide +kernel
theorem dX7_net_0 : decode cX7_net 0 = .ok (.aload_n 0, 1) := by decide +kernel
theorem dX7_net_1 : decode cX7_net 1 = .ok (.getfield 226, 3) := by decide +kernel
theorem dX7_net_4 : decode cX7_net 4 = .ok (.bipush 6, 2) := by decide +kernel
theorem dX7_net_6 : decode cX7_net 6 = .ok (.if_icmp .ne 10, 3) := by decide +kernel
theorem dX7_net_9 : decode cX7_net 9 = .ok (.aload_n 0, 1) := by decide +kernel
theorem dX7_net_10 : decode cX7_net 10 = .ok (.bipush (-6), 2) := by decide +kernel
theorem dX7_net_12 : decode cX7_net 12 = .ok (.invokevirtual 72, 3) := by decide +kernel
theorem dX7_net_15 : decode cX7_net 15 = .ok (.ireturn, 1) := by decide +kernel
theorem dX7_net_16 : decode cX7_net 16 = .ok (.aload_n 0, 1) := by decide +kernel
theorem dX7_net_17 : decode cX7_net 17 = .ok (.getfield 31, 3) := by decide +kernel
theorem dX7_net_20 : decode cX7_net 20 = .ok (.aload_n 0, 1) := by decide +kernel
theorem dX7_net_21 : decode cX7_net 21 = .ok (.getfield 226, 3) := by decide +kernel
theorem dX7_net_24 : decode cX7_net 24 = .ok (.iconst 0, 1) := by decide +kernel
theorem dX7_net_25 : decode cX7_net 25 = .ok (.iastore, 1) := by decide +kernel
theorem dX7_net_26 : decode cX7_net 26 = .ok (.aload_n 0, 1) := by decide +kernel
theorem dX7_net_27 : decode cX7_net 27 = .ok (.getfield 34, 3) := by decide +kernel
theorem dX7_net_30 : decode cX7_net 30 = .ok (.aload_n 0, 1) := by decide +kernel
theorem dX7_net_31 : decode cX7_net 31 = .ok (.getfield 226, 3) := by decide +kernel
theorem dX7_net_34 : decode cX7_net 34 = .ok (.iconst 0, 1) := by decide +kernel
theorem dX7_net_35 : decode cX7_net 35 = .ok (.iastore, 1) := by decide +kernel
theorem dX7_net_36 : decode cX7_net 36 = .ok (.aload_n 0, 1) := by decide +kernel
theorem dX7_net_37 : decode cX7_net 37 = .ok (.dup, 1) := by decide +kernel
theorem dX7_net_38 : decode cX7_net 38 = .ok (.getfield 226, 3) := by decide +kernel
theorem dX7_net_41 : decode cX7_net 41 = .ok (.iconst 1, 1) := by decide +kernel
theorem dX7_net_42 : decode cX7_net 42 = .ok (.iadd, 1) := by decide +kernel
theorem dX7_net_43 : decode cX7_net 43 = .ok (.putfield 226, 3) := by decide +kernel
theorem dX7_net_46 : decode cX7_net 46 = .ok (.aload_n 0, 1) := by decide +kernel
theorem dX7_net_47 : decode cX7_net 47 = .ok (.getfield 226, 3) := by decide +kernel
theorem dX7_net_50 : decode cX7_net 50 = .ok (.iconst 1, 1) := by decide +kernel
theorem dX7_net_51 : decode cX7_net 51 = .ok (.isub, 1) := by decide +kernel
theorem dX7_net_52 : decode cX7_net 52 = .ok (.ireturn, 1) := by decide +kernel
theorem dX7_partAt_0 : decode cX7_partAt 0 = .ok (.aload_n 0, 1) := by decide +kernel
theorem dX7_partAt_1 : decode cX7_partAt 1 = .ok (.getfield 37, 3) := by decide +kernel
theorem dX7_partAt_4 : decode cX7_partAt 4 = .ok (.bipush 8, 2) := by decide +kernel
theorem dX7_partAt_6 : decode cX7_partAt 6 = .ok (.iload_n 1, 1) := by decide +kernel
theorem dX7_partAt_7 : decode cX7_partAt 7 = .ok (.imul, 1) := by decide +kernel
theorem dX7_partAt_8 : decode cX7_partAt 8 = .ok (.iload_n 2, 1) := by decide +kernel
theorem dX7_partAt_9 : decode cX7_partAt 9 = .ok (.iadd, 1) := by decide +kernel
theorem dX7_partAt_10 : decode cX7_partAt 10 = .ok (.iaload, 1) := by decide +kernel
theorem dX7_partAt_11 : decode cX7_partAt 11 = .ok (.ireturn, 1) := by decide +kernel
theorem dX7_piece_0 : decode cX7_piece 0 = .ok (.aload_n 0, 1) := by decide +kernel
theorem dX7_piece_1 : decode cX7_piece 1 = .ok (.iload_n 1, 1) := by decide +kernel
theorem dX7_piece_2 : decode cX7_piece 2 = .ok (.invokevirtual 229, 3) := by decide +kernel
theorem dX7_piece_5 : decode cX7_piece 5 = .ok (.ifCond .eq 11, 3) := by decide +kernel
theorem dX7_piece_8 : decode cX7_piece 8 = .ok (.aload_n 0, 1) := by decide +kernel
theorem dX7_piece_9 : decode cX7_piece 9 = .ok (.iload_n 2, 1) := by decide +kernel
theorem dX7_piece_10 : decode cX7_piece 10 = .ok (.invokevirtual 103, 3) := by decide +kernel
theorem dX7_piece_13 : decode cX7_piece 13 = .ok (.ifCond .ne 7, 3) := by decide +kernel
theorem dX7_piece_16 : decode cX7_piece 16 = .ok (.iconst (-1), 1) := by decide +kernel
theorem dX7_piece_17 : decode cX7_piece 17 = .ok (.goto 20, 3) := by decide +kernel
theorem dX7_piece_20 : decode cX7_piece 20 = .ok (.aload_n 0, 1) := by decide +kernel
theorem dX7_piece_21 : decode cX7_piece 21 = .ok (.getfield 31, 3) := by decide +kernel
theorem dX7_piece_24 : decode cX7_piece 24 = .ok (.iload_n 1, 1) := by decide +kernel
theorem dX7_piece_25 : decode cX7_piece 25 = .ok (.iaload, 1) := by decide +kernel
theorem dX7_piece_26 : decode cX7_piece 26 = .ok (.bipush 8, 2) := by decide +kernel
theorem dX7_piece_28 : decode cX7_piece 28 = .ok (.if_icmp .ne 8, 3) := by decide +kernel
theorem dX7_piece_31 : decode cX7_piece 31 = .ok (.bipush (-6), 2) := by decide +kernel
theorem dX7_piece_33 : decode cX7_piece 33 = .ok (.goto 4, 3) := by decide +kernel
theorem dX7_piece_36 : decode cX7_piece 36 = .ok (.iconst 0, 1) := by decide +kernel
theorem dX7_piece_37 : decode cX7_piece 37 = .ok (.istore_n 3, 1) := by decide +kernel
theorem dX7_piece_38 : decode cX7_piece 38 = .ok (.iload_n 3, 1) := by decide +kernel
theorem dX7_piece_39 : decode cX7_piece 39 = .ok (.ifCond .eq 9, 3) := by decide +kernel
theorem dX7_piece_42 : decode cX7_piece 42 = .ok (.aload_n 0, 1) := by decide +kernel
theorem dX7_piece_43 : decode cX7_piece 43 = .ok (.iload_n 3, 1) := by decide +kernel
theorem dX7_piece_44 : decode cX7_piece 44 = .ok (.invokevirtual 72, 3) := by decide +kernel
theorem dX7_piece_47 : decode cX7_piece 47 = .ok (.ireturn, 1) := by decide +kernel
theorem dX7_piece_48 : decode cX7_piece 48 = .ok (.aload_n 0, 1) := by decide +kernel
theorem dX7_piece_49 : decode cX7_piece 49 = .ok (.getfield 37, 3) := by decide +kernel
theorem dX7_piece_52 : decode cX7_piece 52 = .ok (.bipush 8, 2) := by decide +kernel
theorem dX7_piece_54 : decode cX7_piece 54 = .ok (.iload_n 1, 1) := by decide +kernel
theorem dX7_piece_55 : decode cX7_piece 55 = .ok (.imul, 1) := by decide +kernel
theorem dX7_piece_56 : decode cX7_piece 56 = .ok (.aload_n 0, 1) := by decide +kernel
theorem dX7_piece_57 : decode cX7_piece 57 = .ok (.getfield 31, 3) := by decide +kernel
theorem dX7_piece_60 : decode cX7_piece 60 = .ok (.iload_n 1, 1) := by decide +kernel
theorem dX7_piece_61 : decode cX7_piece 61 = .ok (.iaload, 1) := by decide +kernel
theorem dX7_piece_62 : decode cX7_piece 62 = .ok (.iadd, 1) := by decide +kernel
theorem dX7_piece_63 : decode cX7_piece 63 = .ok (.iload_n 2, 1) := by decide +kernel
theorem dX7_piece_64 : decode cX7_piece 64 = .ok (.iastore, 1) := by decide +kernel
theorem dX7_piece_65 : decode cX7_piece 65 = .ok (.aload_n 0, 1) := by decide +kernel
theorem dX7_piece_66 : decode cX7_piece 66 = .ok (.getfield 31, 3) := by decide +kernel
theorem dX7_piece_69 : decode cX7_piece 69 = .ok (.iload_n 1, 1) := by decide +kernel
theorem dX7_piece_70 : decode cX7_piece 70 = .ok (.dup2, 1) := by decide +kernel
theorem dX7_piece_71 : decode cX7_piece 71 = .ok (.iaload, 1) := by decide +kernel
theorem dX7_piece_72 : decode cX7_piece 72 = .ok (.iconst 1, 1) := by decide +kernel
theorem dX7_piece_73 : decode cX7_piece 73 = .ok (.iadd, 1) := by decide +kernel
theorem dX7_piece_74 : decode cX7_piece 74 = .ok (.iastore, 1) := by decide +kernel
theorem dX7_piece_75 : decode cX7_piece 75 = .ok (.aload_n 0, 1) := by decide +kernel
theorem dX7_piece_76 : decode cX7_piece 76 = .ok (.getfield 31, 3) := by decide +kernel
theorem dX7_piece_79 : decode cX7_piece 79 = .ok (.iload_n 1, 1) := by decide +kernel
theorem dX7_piece_80 : decode cX7_piece 80 = .ok (.iaload, 1) := by decide +kernel
theorem dX7_piece_81 : decode cX7_piece 81 = .ok (.iconst 1, 1) := by decide +kernel
theorem dX7_piece_82 : decode cX7_piece 82 = .ok (.isub, 1) := by decide +kernel
theorem dX7_piece_83 : decode cX7_piece 83 = .ok (.ireturn, 1) := by decide +kernel
theorem dX7_isFace_0 : decode cX7_isFace 0 = .ok (.iload_n 2, 1) := by decide +kernel
theorem dX7_isFace_1 : decode cX7_isFace 1 = .ok (.ifCond .lt 41, 3) := by decide +kernel
theorem dX7_isFace_4 : decode cX7_isFace 4 = .ok (.iload_n 2, 1) := by decide +kernel
theorem dX7_isFace_5 : decode cX7_isFace 5 = .ok (.bipush 10, 2) := by decide +kernel
theorem dX7_isFace_7 : decode cX7_isFace 7 = .ok (.idiv, 1) := by decide +kernel
theorem dX7_isFace_8 : decode cX7_isFace 8 = .ok (.aload_n 0, 1) := by decide +kernel
theorem dX7_isFace_9 : decode cX7_isFace 9 = .ok (.getfield 31, 3) := by decide +kernel
theorem dX7_isFace_12 : decode cX7_isFace 12 = .ok (.iload_n 1, 1) := by decide +kernel
theorem dX7_isFace_13 : decode cX7_isFace 13 = .ok (.iaload, 1) := by decide +kernel
theorem dX7_isFace_14 : decode cX7_isFace 14 = .ok (.if_icmp .ge 28, 3) := by decide +kernel
theorem dX7_isFace_17 : decode cX7_isFace 17 = .ok (.iload_n 2, 1) := by decide +kernel
theorem dX7_isFace_18 : decode cX7_isFace 18 = .ok (.bipush 10, 2) := by decide +kernel
theorem dX7_isFace_20 : decode cX7_isFace 20 = .ok (.irem, 1) := by decide +kernel
theorem dX7_isFace_21 : decode cX7_isFace 21 = .ok (.aload_n 0, 1) := by decide +kernel
theorem dX7_isFace_22 : decode cX7_isFace 22 = .ok (.getfield 19, 3) := by decide +kernel
theorem dX7_isFace_25 : decode cX7_isFace 25 = .ok (.aload_n 0, 1) := by decide +kernel
theorem dX7_isFace_26 : decode cX7_isFace 26 = .ok (.iload_n 1, 1) := by decide +kernel
theorem dX7_isFace_27 : decode cX7_isFace 27 = .ok (.iload_n 2, 1) := by decide +kernel
theorem dX7_isFace_28 : decode cX7_isFace 28 = .ok (.bipush 10, 2) := by decide +kernel
theorem dX7_isFace_30 : decode cX7_isFace 30 = .ok (.idiv, 1) := by decide +kernel
theorem dX7_isFace_31 : decode cX7_isFace 31 = .ok (.invokevirtual 232, 3) := by decide +kernel
theorem dX7_isFace_34 : decode cX7_isFace 34 = .ok (.iaload, 1) := by decide +kernel
theorem dX7_isFace_35 : decode cX7_isFace 35 = .ok (.if_icmp .ge 7, 3) := by decide +kernel
theorem dX7_isFace_38 : decode cX7_isFace 38 = .ok (.iconst 1, 1) := by decide +kernel
theorem dX7_isFace_39 : decode cX7_isFace 39 = .ok (.goto 4, 3) := by decide +kernel
theorem dX7_isFace_42 : decode cX7_isFace 42 = .ok (.iconst 0, 1) := by decide +kernel
theorem dX7_isFace_43 : decode cX7_isFace 43 = .ok (.ireturn, 1) := by decide +kernel
theorem dX7_linkOf_0 : decode cX7_linkOf 0 = .ok (.iconst 0, 1) := by decide +kernel
theorem dX7_linkOf_1 : decode cX7_linkOf 1 = .ok (.istore_n 3, 1) := by decide +kernel
theorem dX7_linkOf_2 : decode cX7_linkOf 2 = .ok (.iload_n 3, 1) := by decide +kernel
theorem dX7_linkOf_3 : decode cX7_linkOf 3 = .ok (.aload_n 0, 1) := by decide +kernel
theorem dX7_linkOf_4 : decode cX7_linkOf 4 = .ok (.getfield 34, 3) := by decide +kernel
theorem dX7_linkOf_7 : decode cX7_linkOf 7 = .ok (.iload_n 1, 1) := by decide +kernel
theorem dX7_linkOf_8 : decode cX7_linkOf 8 = .ok (.iaload, 1) := by decide +kernel
theorem dX7_linkOf_9 : decode cX7_linkOf 9 = .ok (.if_icmp .ge 41, 3) := by decide +kernel
theorem dX7_linkOf_12 : decode cX7_linkOf 12 = .ok (.aload_n 0, 1) := by decide +kernel
theorem dX7_linkOf_13 : decode cX7_linkOf 13 = .ok (.getfield 40, 3) := by decide +kernel
theorem dX7_linkOf_16 : decode cX7_linkOf 16 = .ok (.bipush 12, 2) := by decide +kernel
theorem dX7_linkOf_18 : decode cX7_linkOf 18 = .ok (.iload_n 1, 1) := by decide +kernel
theorem dX7_linkOf_19 : decode cX7_linkOf 19 = .ok (.imul, 1) := by decide +kernel
theorem dX7_linkOf_20 : decode cX7_linkOf 20 = .ok (.iload_n 3, 1) := by decide +kernel
theorem dX7_linkOf_21 : decode cX7_linkOf 21 = .ok (.iadd, 1) := by decide +kernel
theorem dX7_linkOf_22 : decode cX7_linkOf 22 = .ok (.iaload, 1) := by decide +kernel
theorem dX7_linkOf_23 : decode cX7_linkOf 23 = .ok (.iload_n 2, 1) := by decide +kernel
theorem dX7_linkOf_24 : decode cX7_linkOf 24 = .ok (.if_icmp .eq 18, 3) := by decide +kernel
theorem dX7_linkOf_27 : decode cX7_linkOf 27 = .ok (.aload_n 0, 1) := by decide +kernel
theorem dX7_linkOf_28 : decode cX7_linkOf 28 = .ok (.getfield 43, 3) := by decide +kernel
theorem dX7_linkOf_31 : decode cX7_linkOf 31 = .ok (.bipush 12, 2) := by decide +kernel
theorem dX7_linkOf_33 : decode cX7_linkOf 33 = .ok (.iload_n 1, 1) := by decide +kernel
theorem dX7_linkOf_34 : decode cX7_linkOf 34 = .ok (.imul, 1) := by decide +kernel
theorem dX7_linkOf_35 : decode cX7_linkOf 35 = .ok (.iload_n 3, 1) := by decide +kernel
theorem dX7_linkOf_36 : decode cX7_linkOf 36 = .ok (.iadd, 1) := by decide +kernel
theorem dX7_linkOf_37 : decode cX7_linkOf 37 = .ok (.iaload, 1) := by decide +kernel
theorem dX7_linkOf_38 : decode cX7_linkOf 38 = .ok (.iload_n 2, 1) := by decide +kernel
theorem dX7_linkOf_39 : decode cX7_linkOf 39 = .ok (.if_icmp .ne 5, 3) := by decide +kernel
theorem dX7_linkOf_42 : decode cX7_linkOf 42 = .ok (.iload_n 3, 1) := by decide +kernel
theorem dX7_linkOf_43 : decode cX7_linkOf 43 = .ok (.ireturn, 1) := by decide +kernel
theorem dX7_linkOf_44 : decode cX7_linkOf 44 = .ok (.iinc 3 1, 3) := by decide +kernel
theorem dX7_linkOf_47 : decode cX7_linkOf 47 = .ok (.goto (-45), 3) := by decide +kernel
theorem dX7_linkOf_50 : decode cX7_linkOf 50 = .ok (.bipush (-9), 2) := by decide +kernel
theorem dX7_linkOf_52 : decode cX7_linkOf 52 = .ok (.ireturn, 1) := by decide +kernel
theorem dX7_link_0 : decode cX7_link 0 = .ok (.aload_n 0, 1) := by decide +kernel
theorem dX7_link_1 : decode cX7_link 1 = .ok (.iload_n 1, 1) := by decide +kernel
theorem dX7_link_2 : decode cX7_link 2 = .ok (.invokevirtual 229, 3) := by decide +kernel
theorem dX7_link_5 : decode cX7_link 5 = .ok (.ifCond .eq 21, 3) := by decide +kernel
theorem dX7_link_8 : decode cX7_link 8 = .ok (.aload_n 0, 1) := by decide +kernel
theorem dX7_link_9 : decode cX7_link 9 = .ok (.iload_n 1, 1) := by decide +kernel
theorem dX7_link_10 : decode cX7_link 10 = .ok (.iload_n 2, 1) := by decide +kernel
theorem dX7_link_11 : decode cX7_link 11 = .ok (.invokevirtual 235, 3) := by decide +kernel
theorem dX7_link_14 : decode cX7_link 14 = .ok (.ifCond .eq 12, 3) := by decide +kernel
theorem dX7_link_17 : decode cX7_link 17 = .ok (.aload_n 0, 1) := by decide +kernel
theorem dX7_link_18 : decode cX7_link 18 = .ok (.iload_n 1, 1) := by decide +kernel
theorem dX7_link_19 : decode cX7_link 19 = .ok (.iload_n 3, 1) := by decide +kernel
theorem dX7_link_20 : decode cX7_link 20 = .ok (.invokevirtual 235, 3) := by decide +kernel
theorem dX7_link_23 : decode cX7_link 23 = .ok (.ifCond .ne 7, 3) := by decide +kernel
theorem dX7_link_26 : decode cX7_link 26 = .ok (.iconst (-1), 1) := by decide +kernel
theorem dX7_link_27 : decode cX7_link 27 = .ok (.goto 48, 3) := by decide +kernel
theorem dX7_link_30 : decode cX7_link 30 = .ok (.iload_n 2, 1) := by decide +kernel
theorem dX7_link_31 : decode cX7_link 31 = .ok (.iload_n 3, 1) := by decide +kernel
theorem dX7_link_32 : decode cX7_link 32 = .ok (.if_icmp .eq 21, 3) := by decide +kernel
theorem dX7_link_35 : decode cX7_link 35 = .ok (.aload_n 0, 1) := by decide +kernel
theorem dX7_link_36 : decode cX7_link 36 = .ok (.iload_n 1, 1) := by decide +kernel
theorem dX7_link_37 : decode cX7_link 37 = .ok (.iload_n 2, 1) := by decide +kernel
theorem dX7_link_38 : decode cX7_link 38 = .ok (.invokevirtual 238, 3) := by decide +kernel
theorem dX7_link_41 : decode cX7_link 41 = .ok (.ifCond .ge 12, 3) := by decide +kernel
theorem dX7_link_44 : decode cX7_link 44 = .ok (.aload_n 0, 1) := by decide +kernel
theorem dX7_link_45 : decode cX7_link 45 = .ok (.iload_n 1, 1) := by decide +kernel
theorem dX7_link_46 : decode cX7_link 46 = .ok (.iload_n 3, 1) := by decide +kernel
theorem dX7_link_47 : decode cX7_link 47 = .ok (.invokevirtual 238, 3) := by decide +kernel
theorem dX7_link_50 : decode cX7_link 50 = .ok (.ifCond .lt 8, 3) := by decide +kernel
theorem dX7_link_53 : decode cX7_link 53 = .ok (.bipush (-3), 2) := by decide +kernel
theorem dX7_link_55 : decode cX7_link 55 = .ok (.goto 20, 3) := by decide +kernel
theorem dX7_link_58 : decode cX7_link 58 = .ok (.aload_n 0, 1) := by decide +kernel
theorem dX7_link_59 : decode cX7_link 59 = .ok (.getfield 34, 3) := by decide +kernel
theorem dX7_link_62 : decode cX7_link 62 = .ok (.iload_n 1, 1) := by decide +kernel
theorem dX7_link_63 : decode cX7_link 63 = .ok (.iaload, 1) := by decide +kernel
theorem dX7_link_64 : decode cX7_link 64 = .ok (.bipush 12, 2) := by decide +kernel
theorem dX7_link_66 : decode cX7_link 66 = .ok (.if_icmp .ne 8, 3) := by decide +kernel
theorem dX7_link_69 : decode cX7_link 69 = .ok (.bipush (-6), 2) := by decide +kernel
theorem dX7_link_71 : decode cX7_link 71 = .ok (.goto 4, 3) := by decide +kernel
theorem dX7_link_74 : decode cX7_link 74 = .ok (.iconst 0, 1) := by decide +kernel
theorem dX7_link_75 : decode cX7_link 75 = .ok (.istore 4, 2) := by decide +kernel
theorem dX7_link_77 : decode cX7_link 77 = .ok (.iload 4, 2) := by decide +kernel
theorem dX7_link_79 : decode cX7_link 79 = .ok (.ifCond .eq 10, 3) := by decide +kernel
theorem dX7_link_82 : decode cX7_link 82 = .ok (.aload_n 0, 1) := by decide +kernel
theorem dX7_link_83 : decode cX7_link 83 = .ok (.iload 4, 2) := by decide +kernel
theorem dX7_link_85 : decode cX7_link 85 = .ok (.invokevirtual 72, 3) := by decide +kernel
theorem dX7_link_88 : decode cX7_link 88 = .ok (.ireturn, 1) := by decide +kernel
theorem dX7_link_89 : decode cX7_link 89 = .ok (.aload_n 0, 1) := by decide +kernel
theorem dX7_link_90 : decode cX7_link 90 = .ok (.getfield 40, 3) := by decide +kernel
theorem dX7_link_93 : decode cX7_link 93 = .ok (.bipush 12, 2) := by decide +kernel
theorem dX7_link_95 : decode cX7_link 95 = .ok (.iload_n 1, 1) := by decide +kernel
theorem dX7_link_96 : decode cX7_link 96 = .ok (.imul, 1) := by decide +kernel
theorem dX7_link_97 : decode cX7_link 97 = .ok (.aload_n 0, 1) := by decide +kernel
theorem dX7_link_98 : decode cX7_link 98 = .ok (.getfield 34, 3) := by decide +kernel
theorem dX7_link_101 : decode cX7_link 101 = .ok (.iload_n 1, 1) := by decide +kernel
theorem dX7_link_102 : decode cX7_link 102 = .ok (.iaload, 1) := by decide +kernel
theorem dX7_link_103 : decode cX7_link 103 = .ok (.iadd, 1) := by decide +kernel
theorem dX7_link_104 : decode cX7_link 104 = .ok (.iload_n 2, 1) := by decide +kernel
theorem dX7_link_105 : decode cX7_link 105 = .ok (.iastore, 1) := by decide +kernel
theorem dX7_link_106 : decode cX7_link 106 = .ok (.aload_n 0, 1) := by decide +kernel
theorem dX7_link_107 : decode cX7_link 107 = .ok (.getfield 43, 3) := by decide +kernel
theorem dX7_link_110 : decode cX7_link 110 = .ok (.bipush 12, 2) := by decide +kernel
theorem dX7_link_112 : decode cX7_link 112 = .ok (.iload_n 1, 1) := by decide +kernel
theorem dX7_link_113 : decode cX7_link 113 = .ok (.imul, 1) := by decide +kernel
theorem dX7_link_114 : decode cX7_link 114 = .ok (.aload_n 0, 1) := by decide +kernel
theorem dX7_link_115 : decode cX7_link 115 = .ok (.getfield 34, 3) := by decide +kernel
theorem dX7_link_118 : decode cX7_link 118 = .ok (.iload_n 1, 1) := by decide +kernel
theorem dX7_link_119 : decode cX7_link 119 = .ok (.iaload, 1) := by decide +kernel
theorem dX7_link_120 : decode cX7_link 120 = .ok (.iadd, 1) := by decide +kernel
theorem dX7_link_121 : decode cX7_link 121 = .ok (.iload_n 3, 1) := by decide +kernel
theorem dX7_link_122 : decode cX7_link 122 = .ok (.iastore, 1) := by decide +kernel
theorem dX7_link_123 : decode cX7_link 123 = .ok (.aload_n 0, 1) := by decide +kernel
theorem dX7_link_124 : decode cX7_link 124 = .ok (.getfield 34, 3) := by decide +kernel
theorem dX7_link_127 : decode cX7_link 127 = .ok (.iload_n 1, 1) := by decide +kernel
theorem dX7_link_128 : decode cX7_link 128 = .ok (.dup2, 1) := by decide +kernel
theorem dX7_link_129 : decode cX7_link 129 = .ok (.iaload, 1) := by decide +kernel
theorem dX7_link_130 : decode cX7_link 130 = .ok (.iconst 1, 1) := by decide +kernel
theorem dX7_link_131 : decode cX7_link 131 = .ok (.iadd, 1) := by decide +kernel
theorem dX7_link_132 : decode cX7_link 132 = .ok (.iastore, 1) := by decide +kernel
theorem dX7_link_133 : decode cX7_link 133 = .ok (.aload_n 0, 1) := by decide +kernel
theorem dX7_link_134 : decode cX7_link 134 = .ok (.getfield 34, 3) := by decide +kernel
theorem dX7_link_137 : decode cX7_link 137 = .ok (.iload_n 1, 1) := by decide +kernel
theorem dX7_link_138 : decode cX7_link 138 = .ok (.iaload, 1) := by decide +kernel
theorem dX7_link_139 : decode cX7_link 139 = .ok (.ireturn, 1) := by decide +kernel
theorem dX7_freeOf_0 : decode cX7_freeOf 0 = .ok (.iconst 0, 1) := by decide +kernel
theorem dX7_freeOf_1 : decode cX7_freeOf 1 = .ok (.istore_n 3, 1) := by decide +kernel
theorem dX7_freeOf_2 : decode cX7_freeOf 2 = .ok (.iconst 0, 1) := by decide +kernel
theorem dX7_freeOf_3 : decode cX7_freeOf 3 = .ok (.istore 4, 2) := by decide +kernel
theorem dX7_freeOf_5 : decode cX7_freeOf 5 = .ok (.iload 4, 2) := by decide +kernel
theorem dX7_freeOf_7 : decode cX7_freeOf 7 = .ok (.aload_n 0, 1) := by decide +kernel
theorem dX7_freeOf_8 : decode cX7_freeOf 8 = .ok (.getfield 31, 3) := by decide +kernel
theorem dX7_freeOf_11 : decode cX7_freeOf 11 = .ok (.iload_n 1, 1) := by decide +kernel
theorem dX7_freeOf_12 : decode cX7_freeOf 12 = .ok (.iaload, 1) := by decide +kernel
theorem dX7_freeOf_13 : decode cX7_freeOf 13 = .ok (.if_icmp .ge 71, 3) := by decide +kernel
theorem dX7_freeOf_16 : decode cX7_freeOf 16 = .ok (.iconst 0, 1) := by decide +kernel
theorem dX7_freeOf_17 : decode cX7_freeOf 17 = .ok (.istore 5, 2) := by decide +kernel
theorem dX7_freeOf_19 : decode cX7_freeOf 19 = .ok (.iload 5, 2) := by decide +kernel
theorem dX7_freeOf_21 : decode cX7_freeOf 21 = .ok (.aload_n 0, 1) := by decide +kernel
theorem dX7_freeOf_22 : decode cX7_freeOf 22 = .ok (.getfield 19, 3) := by decide +kernel
theorem dX7_freeOf_25 : decode cX7_freeOf 25 = .ok (.aload_n 0, 1) := by decide +kernel
theorem dX7_freeOf_26 : decode cX7_freeOf 26 = .ok (.iload_n 1, 1) := by decide +kernel
theorem dX7_freeOf_27 : decode cX7_freeOf 27 = .ok (.iload 4, 2) := by decide +kernel
theorem dX7_freeOf_29 : decode cX7_freeOf 29 = .ok (.invokevirtual 232, 3) := by decide +kernel
theorem dX7_freeOf_32 : decode cX7_freeOf 32 = .ok (.iaload, 1) := by decide +kernel
theorem dX7_freeOf_33 : decode cX7_freeOf 33 = .ok (.if_icmp .ge 45, 3) := by decide +kernel
theorem dX7_freeOf_36 : decode cX7_freeOf 36 = .ok (.aload_n 0, 1) := by decide +kernel
theorem dX7_freeOf_37 : decode cX7_freeOf 37 = .ok (.iload_n 1, 1) := by decide +kernel
theorem dX7_freeOf_38 : decode cX7_freeOf 38 = .ok (.bipush 10, 2) := by decide +kernel
theorem dX7_freeOf_40 : decode cX7_freeOf 40 = .ok (.iload 4, 2) := by decide +kernel
theorem dX7_freeOf_42 : decode cX7_freeOf 42 = .ok (.imul, 1) := by decide +kernel
theorem dX7_freeOf_43 : decode cX7_freeOf 43 = .ok (.iload 5, 2) := by decide +kernel
theorem dX7_freeOf_45 : decode cX7_freeOf 45 = .ok (.iadd, 1) := by decide +kernel
theorem dX7_freeOf_46 : decode cX7_freeOf 46 = .ok (.invokevirtual 238, 3) := by decide +kernel
theorem dX7_freeOf_49 : decode cX7_freeOf 49 = .ok (.ifCond .lt 6, 3) := by decide +kernel
theorem dX7_freeOf_52 : decode cX7_freeOf 52 = .ok (.goto 20, 3) := by decide +kernel
theorem dX7_freeOf_55 : decode cX7_freeOf 55 = .ok (.iload_n 3, 1) := by decide +kernel
theorem dX7_freeOf_56 : decode cX7_freeOf 56 = .ok (.iload_n 2, 1) := by decide +kernel
theorem dX7_freeOf_57 : decode cX7_freeOf 57 = .ok (.if_icmp .ne 12, 3) := by decide +kernel
theorem dX7_freeOf_60 : decode cX7_freeOf 60 = .ok (.bipush 10, 2) := by decide +kernel
theorem dX7_freeOf_62 : decode cX7_freeOf 62 = .ok (.iload 4, 2) := by decide +kernel
theorem dX7_freeOf_64 : decode cX7_freeOf 64 = .ok (.imul, 1) := by decide +kernel
theorem dX7_freeOf_65 : decode cX7_freeOf 65 = .ok (.iload 5, 2) := by decide +kernel
theorem dX7_freeOf_67 : decode cX7_freeOf 67 = .ok (.iadd, 1) := by decide +kernel
theorem dX7_freeOf_68 : decode cX7_freeOf 68 = .ok (.ireturn, 1) := by decide +kernel
theorem dX7_freeOf_69 : decode cX7_freeOf 69 = .ok (.iinc 3 1, 3) := by decide +kernel
theorem dX7_freeOf_72 : decode cX7_freeOf 72 = .ok (.iinc 5 1, 3) := by decide +kernel
theorem dX7_freeOf_75 : decode cX7_freeOf 75 = .ok (.goto (-56), 3) := by decide +kernel
theorem dX7_freeOf_78 : decode cX7_freeOf 78 = .ok (.iinc 4 1, 3) := by decide +kernel
theorem dX7_freeOf_81 : decode cX7_freeOf 81 = .ok (.goto (-76), 3) := by decide +kernel
theorem dX7_freeOf_84 : decode cX7_freeOf 84 = .ok (.iload_n 2, 1) := by decide +kernel
theorem dX7_freeOf_85 : decode cX7_freeOf 85 = .ok (.ifCond .ge 7, 3) := by decide +kernel
theorem dX7_freeOf_88 : decode cX7_freeOf 88 = .ok (.iload_n 3, 1) := by decide +kernel
theorem dX7_freeOf_89 : decode cX7_freeOf 89 = .ok (.goto 5, 3) := by decide +kernel
theorem dX7_freeOf_92 : decode cX7_freeOf 92 = .ok (.bipush (-9), 2) := by decide +kernel
theorem dX7_freeOf_94 : decode cX7_freeOf 94 = .ok (.ireturn, 1) := by decide +kernel
theorem dX7_free_0 : decode cX7_free 0 = .ok (.aload_n 0, 1) := by decide +kernel
theorem dX7_free_1 : decode cX7_free 1 = .ok (.iload_n 1, 1) := by decide +kernel
theorem dX7_free_2 : decode cX7_free 2 = .ok (.invokevirtual 229, 3) := by decide +kernel
theorem dX7_free_5 : decode cX7_free 5 = .ok (.ifCond .eq 17, 3) := by decide +kernel
theorem dX7_free_8 : decode cX7_free 8 = .ok (.iload_n 2, 1) := by decide +kernel
theorem dX7_free_9 : decode cX7_free 9 = .ok (.iconst (-1), 1) := by decide +kernel
theorem dX7_free_10 : decode cX7_free 10 = .ok (.if_icmp .lt 12, 3) := by decide +kernel
theorem dX7_free_13 : decode cX7_free 13 = .ok (.aload_n 0, 1) := by decide +kernel
theorem dX7_free_14 : decode cX7_free 14 = .ok (.iload_n 1, 1) := by decide +kernel
theorem dX7_free_15 : decode cX7_free 15 = .ok (.iload_n 2, 1) := by decide +kernel
theorem dX7_free_16 : decode cX7_free 16 = .ok (.invokevirtual 241, 3) := by decide +kernel
theorem dX7_free_19 : decode cX7_free 19 = .ok (.goto 8, 3) := by decide +kernel
theorem dX7_free_22 : decode cX7_free 22 = .ok (.aload_n 0, 1) := by decide +kernel
theorem dX7_free_23 : decode cX7_free 23 = .ok (.iconst (-1), 1) := by decide +kernel
theorem dX7_free_24 : decode cX7_free 24 = .ok (.invokevirtual 72, 3) := by decide +kernel
theorem dX7_free_27 : decode cX7_free 27 = .ok (.ireturn, 1) := by decide +kernel
theorem dX7_states__0 : decode cX7_states_ 0 = .ok (.iconst 0, 1) := by decide +kernel
theorem dX7_states__1 : decode cX7_states_ 1 = .ok (.istore 4, 2) := by decide +kernel
theorem dX7_states__3 : decode cX7_states_ 3 = .ok (.iconst 0, 1) := by decide +kernel
theorem dX7_states__4 : decode cX7_states_ 4 = .ok (.istore 5, 2) := by decide +kernel
theorem dX7_states__6 : decode cX7_states_ 6 = .ok (.iload 5, 2) := by decide +kernel
theorem dX7_states__8 : decode cX7_states_ 8 = .ok (.aload_n 0, 1) := by decide +kernel
theorem dX7_states__9 : decode cX7_states_ 9 = .ok (.getfield 31, 3) := by decide +kernel
theorem dX7_states__12 : decode cX7_states_ 12 = .ok (.iload_n 1, 1) := by decide +kernel
theorem dX7_states__13 : decode cX7_states_ 13 = .ok (.iaload, 1) := by decide +kernel
theorem dX7_states__14 : decode cX7_states_ 14 = .ok (.if_icmp .ge 110, 3) := by decide +kernel
theorem dX7_states__17 : decode cX7_states_ 17 = .ok (.aload_n 0, 1) := by decide +kernel
theorem dX7_states__18 : decode cX7_states_ 18 = .ok (.getfield 64, 3) := by decide +kernel
theorem dX7_states__21 : decode cX7_states_ 21 = .ok (.iload 5, 2) := by decide +kernel
theorem dX7_states__23 : decode cX7_states_ 23 = .ok (.iconst 0, 1) := by decide +kernel
theorem dX7_states__24 : decode cX7_states_ 24 = .ok (.iastore, 1) := by decide +kernel
theorem dX7_states__25 : decode cX7_states_ 25 = .ok (.iconst 0, 1) := by decide +kernel
theorem dX7_states__26 : decode cX7_states_ 26 = .ok (.istore 6, 2) := by decide +kernel
theorem dX7_states__28 : decode cX7_states_ 28 = .ok (.iload 6, 2) := by decide +kernel
theorem dX7_states__30 : decode cX7_states_ 30 = .ok (.aload_n 0, 1) := by decide +kernel
theorem dX7_states__31 : decode cX7_states_ 31 = .ok (.getfield 19, 3) := by decide +kernel
theorem dX7_states__34 : decode cX7_states_ 34 = .ok (.aload_n 0, 1) := by decide +kernel
theorem dX7_states__35 : decode cX7_states_ 35 = .ok (.iload_n 1, 1) := by decide +kernel
theorem dX7_states__36 : decode cX7_states_ 36 = .ok (.iload 5, 2) := by decide +kernel
theorem dX7_states__38 : decode cX7_states_ 38 = .ok (.invokevirtual 232, 3) := by decide +kernel
theorem dX7_states__41 : decode cX7_states_ 41 = .ok (.iaload, 1) := by decide +kernel
theorem dX7_states__42 : decode cX7_states_ 42 = .ok (.if_icmp .ge 76, 3) := by decide +kernel
theorem dX7_states__45 : decode cX7_states_ 45 = .ok (.aload_n 0, 1) := by decide +kernel
theorem dX7_states__46 : decode cX7_states_ 46 = .ok (.iload_n 1, 1) := by decide +kernel
theorem dX7_states__47 : decode cX7_states_ 47 = .ok (.bipush 10, 2) := by decide +kernel
theorem dX7_states__49 : decode cX7_states_ 49 = .ok (.iload 5, 2) := by decide +kernel
theorem dX7_states__51 : decode cX7_states_ 51 = .ok (.imul, 1) := by decide +kernel
theorem dX7_states__52 : decode cX7_states_ 52 = .ok (.iload 6, 2) := by decide +kernel
theorem dX7_states__54 : decode cX7_states_ 54 = .ok (.iadd, 1) := by decide +kernel
theorem dX7_states__55 : decode cX7_states_ 55 = .ok (.invokevirtual 238, 3) := by decide +kernel
theorem dX7_states__58 : decode cX7_states_ 58 = .ok (.istore 7, 2) := by decide +kernel
theorem dX7_states__60 : decode cX7_states_ 60 = .ok (.iload 7, 2) := by decide +kernel
theorem dX7_states__62 : decode cX7_states_ 62 = .ok (.ifCond .lt 12, 3) := by decide +kernel
theorem dX7_states__65 : decode cX7_states_ 65 = .ok (.iload_n 3, 1) := by decide +kernel
theorem dX7_states__66 : decode cX7_states_ 66 = .ok (.iload 7, 2) := by decide +kernel
theorem dX7_states__68 : decode cX7_states_ 68 = .ok (.ishr, 1) := by decide +kernel
theorem dX7_states__69 : decode cX7_states_ 69 = .ok (.iconst 1, 1) := by decide +kernel
theorem dX7_states__70 : decode cX7_states_ 70 = .ok (.iand, 1) := by decide +kernel
theorem dX7_states__71 : decode cX7_states_ 71 = .ok (.goto 9, 3) := by decide +kernel
theorem dX7_states__74 : decode cX7_states_ 74 = .ok (.iload_n 2, 1) := by decide +kernel
theorem dX7_states__75 : decode cX7_states_ 75 = .ok (.iload 4, 2) := by decide +kernel
theorem dX7_states__77 : decode cX7_states_ 77 = .ok (.ishr, 1) := by decide +kernel
theorem dX7_states__78 : decode cX7_states_ 78 = .ok (.iconst 1, 1) := by decide +kernel
theorem dX7_states__79 : decode cX7_states_ 79 = .ok (.iand, 1) := by decide +kernel
theorem dX7_states__80 : decode cX7_states_ 80 = .ok (.istore 8, 2) := by decide +kernel
theorem dX7_states__82 : decode cX7_states_ 82 = .ok (.iload 4, 2) := by decide +kernel
theorem dX7_states__84 : decode cX7_states_ 84 = .ok (.iload 7, 2) := by decide +kernel
theorem dX7_states__86 : decode cX7_states_ 86 = .ok (.ifCond .lt 7, 3) := by decide +kernel
theorem dX7_states__89 : decode cX7_states_ 89 = .ok (.iconst 0, 1) := by decide +kernel
theorem dX7_states__90 : decode cX7_states_ 90 = .ok (.goto 4, 3) := by decide +kernel
theorem dX7_states__93 : decode cX7_states_ 93 = .ok (.iconst 1, 1) := by decide +kernel
theorem dX7_states__94 : decode cX7_states_ 94 = .ok (.iadd, 1) := by decide +kernel
theorem dX7_states__95 : decode cX7_states_ 95 = .ok (.istore 4, 2) := by decide +kernel
theorem dX7_states__97 : decode cX7_states_ 97 = .ok (.aload_n 0, 1) := by decide +kernel
theorem dX7_states__98 : decode cX7_states_ 98 = .ok (.getfield 64, 3) := by decide +kernel
theorem dX7_states__101 : decode cX7_states_ 101 = .ok (.iload 5, 2) := by decide +kernel
theorem dX7_states__103 : decode cX7_states_ 103 = .ok (.dup2, 1) := by decide +kernel
theorem dX7_states__104 : decode cX7_states_ 104 = .ok (.iaload, 1) := by decide +kernel
theorem dX7_states__105 : decode cX7_states_ 105 = .ok (.iload 8, 2) := by decide +kernel
theorem dX7_states__107 : decode cX7_states_ 107 = .ok (.iload 6, 2) := by decide +kernel
theorem dX7_states__109 : decode cX7_states_ 109 = .ok (.ishl, 1) := by decide +kernel
theorem dX7_states__110 : decode cX7_states_ 110 = .ok (.ior, 1) := by decide +kernel
theorem dX7_states__111 : decode cX7_states_ 111 = .ok (.iastore, 1) := by decide +kernel
theorem dX7_states__112 : decode cX7_states_ 112 = .ok (.iinc 6 1, 3) := by decide +kernel
theorem dX7_states__115 : decode cX7_states_ 115 = .ok (.goto (-87), 3) := by decide +kernel
theorem dX7_states__118 : decode cX7_states_ 118 = .ok (.iinc 5 1, 3) := by decide +kernel
theorem dX7_states__121 : decode cX7_states_ 121 = .ok (.goto (-115), 3) := by decide +kernel
theorem dX7_states__124 : decode cX7_states_ 124 = .ok (.return_, 1) := by decide +kernel
theorem dX7_findWays_0 : decode cX7_findWays 0 = .ok (.iconst 0, 1) := by decide +kernel
theorem dX7_findWays_1 : decode cX7_findWays 1 = .ok (.istore_n 2, 1) := by decide +kernel
theorem dX7_findWays_2 : decode cX7_findWays 2 = .ok (.iload_n 2, 1) := by decide +kernel
theorem dX7_findWays_3 : decode cX7_findWays 3 = .ok (.aload_n 0, 1) := by decide +kernel
theorem dX7_findWays_4 : decode cX7_findWays 4 = .ok (.getfield 31, 3) := by decide +kernel
theorem dX7_findWays_7 : decode cX7_findWays 7 = .ok (.iload_n 1, 1) := by decide +kernel
theorem dX7_findWays_8 : decode cX7_findWays 8 = .ok (.iaload, 1) := by decide +kernel
theorem dX7_findWays_9 : decode cX7_findWays 9 = .ok (.if_icmp .ge 57, 3) := by decide +kernel
theorem dX7_findWays_12 : decode cX7_findWays 12 = .ok (.iconst 0, 1) := by decide +kernel
theorem dX7_findWays_13 : decode cX7_findWays 13 = .ok (.istore_n 3, 1) := by decide +kernel
theorem dX7_findWays_14 : decode cX7_findWays 14 = .ok (.iload_n 3, 1) := by decide +kernel
theorem dX7_findWays_15 : decode cX7_findWays 15 = .ok (.aload_n 0, 1) := by decide +kernel
theorem dX7_findWays_16 : decode cX7_findWays 16 = .ok (.aload_n 0, 1) := by decide +kernel
theorem dX7_findWays_17 : decode cX7_findWays 17 = .ok (.iload_n 1, 1) := by decide +kernel
theorem dX7_findWays_18 : decode cX7_findWays 18 = .ok (.iload_n 2, 1) := by decide +kernel
theorem dX7_findWays_19 : decode cX7_findWays 19 = .ok (.invokevirtual 232, 3) := by decide +kernel
theorem dX7_findWays_22 : decode cX7_findWays 22 = .ok (.invokevirtual 131, 3) := by decide +kernel
theorem dX7_findWays_25 : decode cX7_findWays 25 = .ok (.if_icmp .ge 35, 3) := by decide +kernel
theorem dX7_findWays_28 : decode cX7_findWays 28 = .ok (.aload_n 0, 1) := by decide +kernel
theorem dX7_findWays_29 : decode cX7_findWays 29 = .ok (.getfield 67, 3) := by decide +kernel
theorem dX7_findWays_32 : decode cX7_findWays 32 = .ok (.bipush 32, 2) := by decide +kernel
theorem dX7_findWays_34 : decode cX7_findWays 34 = .ok (.iload_n 2, 1) := by decide +kernel
theorem dX7_findWays_35 : decode cX7_findWays 35 = .ok (.imul, 1) := by decide +kernel
theorem dX7_findWays_36 : decode cX7_findWays 36 = .ok (.iload_n 3, 1) := by decide +kernel
theorem dX7_findWays_37 : decode cX7_findWays 37 = .ok (.iadd, 1) := by decide +kernel
theorem dX7_findWays_38 : decode cX7_findWays 38 = .ok (.aload_n 0, 1) := by decide +kernel
theorem dX7_findWays_39 : decode cX7_findWays 39 = .ok (.aload_n 0, 1) := by decide +kernel
theorem dX7_findWays_40 : decode cX7_findWays 40 = .ok (.aload_n 0, 1) := by decide +kernel
theorem dX7_findWays_41 : decode cX7_findWays 41 = .ok (.iload_n 1, 1) := by decide +kernel
theorem dX7_findWays_42 : decode cX7_findWays 42 = .ok (.iload_n 2, 1) := by decide +kernel
theorem dX7_findWays_43 : decode cX7_findWays 43 = .ok (.invokevirtual 232, 3) := by decide +kernel
theorem dX7_findWays_46 : decode cX7_findWays 46 = .ok (.iload_n 3, 1) := by decide +kernel
theorem dX7_findWays_47 : decode cX7_findWays 47 = .ok (.invokevirtual 134, 3) := by decide +kernel
theorem dX7_findWays_50 : decode cX7_findWays 50 = .ok (.invokevirtual 122, 3) := by decide +kernel
theorem dX7_findWays_53 : decode cX7_findWays 53 = .ok (.iastore, 1) := by decide +kernel
theorem dX7_findWays_54 : decode cX7_findWays 54 = .ok (.iinc 3 1, 3) := by decide +kernel
theorem dX7_findWays_57 : decode cX7_findWays 57 = .ok (.goto (-43), 3) := by decide +kernel
theorem dX7_findWays_60 : decode cX7_findWays 60 = .ok (.iinc 2 1, 3) := by decide +kernel
theorem dX7_findWays_63 : decode cX7_findWays 63 = .ok (.goto (-61), 3) := by decide +kernel
theorem dX7_findWays_66 : decode cX7_findWays 66 = .ok (.return_, 1) := by decide +kernel
theorem dX7_howOf_0 : decode cX7_howOf 0 = .ok (.lconst 0, 1) := by decide +kernel
theorem dX7_howOf_1 : decode cX7_howOf 1 = .ok (.lstore_n 3, 1) := by decide +kernel
theorem dX7_howOf_2 : decode cX7_howOf 2 = .ok (.iconst 0, 1) := by decide +kernel
theorem dX7_howOf_3 : decode cX7_howOf 3 = .ok (.istore 5, 2) := by decide +kernel
theorem dX7_howOf_5 : decode cX7_howOf 5 = .ok (.iload 5, 2) := by decide +kernel
theorem dX7_howOf_7 : decode cX7_howOf 7 = .ok (.iconst 1, 1) := by decide +kernel
theorem dX7_howOf_8 : decode cX7_howOf 8 = .ok (.aload_n 0, 1) := by decide +kernel
theorem dX7_howOf_9 : decode cX7_howOf 9 = .ok (.getfield 34, 3) := by decide +kernel
theorem dX7_howOf_12 : decode cX7_howOf 12 = .ok (.iload_n 1, 1) := by decide +kernel
theorem dX7_howOf_13 : decode cX7_howOf 13 = .ok (.iaload, 1) := by decide +kernel
theorem dX7_howOf_14 : decode cX7_howOf 14 = .ok (.ishl, 1) := by decide +kernel
theorem dX7_howOf_15 : decode cX7_howOf 15 = .ok (.if_icmp .ge 77, 3) := by decide +kernel
theorem dX7_howOf_18 : decode cX7_howOf 18 = .ok (.aload_n 0, 1) := by decide +kernel
theorem dX7_howOf_19 : decode cX7_howOf 19 = .ok (.iload_n 1, 1) := by decide +kernel
theorem dX7_howOf_20 : decode cX7_howOf 20 = .ok (.iload_n 2, 1) := by decide +kernel
theorem dX7_howOf_21 : decode cX7_howOf 21 = .ok (.iload 5, 2) := by decide +kernel
theorem dX7_howOf_23 : decode cX7_howOf 23 = .ok (.invokevirtual 244, 3) := by decide +kernel
theorem dX7_howOf_26 : decode cX7_howOf 26 = .ok (.lconst 1, 1) := by decide +kernel
theorem dX7_howOf_27 : decode cX7_howOf 27 = .ok (.lstore 6, 2) := by decide +kernel
theorem dX7_howOf_29 : decode cX7_howOf 29 = .ok (.iconst 0, 1) := by decide +kernel
theorem dX7_howOf_30 : decode cX7_howOf 30 = .ok (.istore 8, 2) := by decide +kernel
theorem dX7_howOf_32 : decode cX7_howOf 32 = .ok (.iload 8, 2) := by decide +kernel
theorem dX7_howOf_34 : decode cX7_howOf 34 = .ok (.aload_n 0, 1) := by decide +kernel
theorem dX7_howOf_35 : decode cX7_howOf 35 = .ok (.getfield 31, 3) := by decide +kernel
theorem dX7_howOf_38 : decode cX7_howOf 38 = .ok (.iload_n 1, 1) := by decide +kernel
theorem dX7_howOf_39 : decode cX7_howOf 39 = .ok (.iaload, 1) := by decide +kernel
theorem dX7_howOf_40 : decode cX7_howOf 40 = .ok (.if_icmp .ge 37, 3) := by decide +kernel
theorem dX7_howOf_43 : decode cX7_howOf 43 = .ok (.lload 6, 2) := by decide +kernel
theorem dX7_howOf_45 : decode cX7_howOf 45 = .ok (.aload_n 0, 1) := by decide +kernel
theorem dX7_howOf_46 : decode cX7_howOf 46 = .ok (.getfield 67, 3) := by decide +kernel
theorem dX7_howOf_49 : decode cX7_howOf 49 = .ok (.bipush 32, 2) := by decide +kernel
theorem dX7_howOf_51 : decode cX7_howOf 51 = .ok (.iload 8, 2) := by decide +kernel
theorem dX7_howOf_53 : decode cX7_howOf 53 = .ok (.imul, 1) := by decide +kernel
theorem dX7_howOf_54 : decode cX7_howOf 54 = .ok (.aload_n 0, 1) := by decide +kernel
theorem dX7_howOf_55 : decode cX7_howOf 55 = .ok (.getfield 64, 3) := by decide +kernel
theorem dX7_howOf_58 : decode cX7_howOf 58 = .ok (.iload 8, 2) := by decide +kernel
theorem dX7_howOf_60 : decode cX7_howOf 60 = .ok (.iaload, 1) := by decide +kernel
theorem dX7_howOf_61 : decode cX7_howOf 61 = .ok (.iadd, 1) := by decide +kernel
theorem dX7_howOf_62 : decode cX7_howOf 62 = .ok (.iaload, 1) := by decide +kernel
theorem dX7_howOf_63 : decode cX7_howOf 63 = .ok (.i2l, 1) := by decide +kernel
theorem dX7_howOf_64 : decode cX7_howOf 64 = .ok (.lmul, 1) := by decide +kernel
theorem dX7_howOf_65 : decode cX7_howOf 65 = .ok (.ldc2_w 247, 3) := by decide +kernel
theorem dX7_howOf_68 : decode cX7_howOf 68 = .ok (.lrem, 1) := by decide +kernel
theorem dX7_howOf_69 : decode cX7_howOf 69 = .ok (.lstore 6, 2) := by decide +kernel
theorem dX7_howOf_71 : decode cX7_howOf 71 = .ok (.iinc 8 1, 3) := by decide +kernel
theorem dX7_howOf_74 : decode cX7_howOf 74 = .ok (.goto (-42), 3) := by decide +kernel
theorem dX7_howOf_77 : decode cX7_howOf 77 = .ok (.lload_n 3, 1) := by decide +kernel
theorem dX7_howOf_78 : decode cX7_howOf 78 = .ok (.lload 6, 2) := by decide +kernel
theorem dX7_howOf_80 : decode cX7_howOf 80 = .ok (.ladd, 1) := by decide +kernel
theorem dX7_howOf_81 : decode cX7_howOf 81 = .ok (.ldc2_w 247, 3) := by decide +kernel
theorem dX7_howOf_84 : decode cX7_howOf 84 = .ok (.lrem, 1) := by decide +kernel
theorem dX7_howOf_85 : decode cX7_howOf 85 = .ok (.lstore_n 3, 1) := by decide +kernel
theorem dX7_howOf_86 : decode cX7_howOf 86 = .ok (.iinc 5 1, 3) := by decide +kernel
theorem dX7_howOf_89 : decode cX7_howOf 89 = .ok (.goto (-84), 3) := by decide +kernel
theorem dX7_howOf_92 : decode cX7_howOf 92 = .ok (.lload_n 3, 1) := by decide +kernel
theorem dX7_howOf_93 : decode cX7_howOf 93 = .ok (.lreturn, 1) := by decide +kernel
theorem dX7_isLet_0 : decode cX7_isLet 0 = .ok (.iconst 0, 1) := by decide +kernel
theorem dX7_isLet_1 : decode cX7_isLet 1 = .ok (.istore_n 3, 1) := by decide +kernel
theorem dX7_isLet_2 : decode cX7_isLet 2 = .ok (.iload_n 3, 1) := by decide +kernel
theorem dX7_isLet_3 : decode cX7_isLet 3 = .ok (.iconst 1, 1) := by decide +kernel
theorem dX7_isLet_4 : decode cX7_isLet 4 = .ok (.aload_n 0, 1) := by decide +kernel
theorem dX7_isLet_5 : decode cX7_isLet 5 = .ok (.getfield 34, 3) := by decide +kernel
theorem dX7_isLet_8 : decode cX7_isLet 8 = .ok (.iload_n 1, 1) := by decide +kernel
theorem dX7_isLet_9 : decode cX7_isLet 9 = .ok (.iaload, 1) := by decide +kernel
theorem dX7_isLet_10 : decode cX7_isLet 10 = .ok (.ishl, 1) := by decide +kernel
theorem dX7_isLet_11 : decode cX7_isLet 11 = .ok (.if_icmp .ge 79, 3) := by decide +kernel
theorem dX7_isLet_14 : decode cX7_isLet 14 = .ok (.aload_n 0, 1) := by decide +kernel
theorem dX7_isLet_15 : decode cX7_isLet 15 = .ok (.iload_n 1, 1) := by decide +kernel
theorem dX7_isLet_16 : decode cX7_isLet 16 = .ok (.iload_n 2, 1) := by decide +kernel
theorem dX7_isLet_17 : decode cX7_isLet 17 = .ok (.iload_n 3, 1) := by decide +kernel
theorem dX7_isLet_18 : decode cX7_isLet 18 = .ok (.invokevirtual 244, 3) := by decide +kernel
theorem dX7_isLet_21 : decode cX7_isLet 21 = .ok (.iconst 1, 1) := by decide +kernel
theorem dX7_isLet_22 : decode cX7_isLet 22 = .ok (.istore 4, 2) := by decide +kernel
theorem dX7_isLet_24 : decode cX7_isLet 24 = .ok (.iconst 0, 1) := by decide +kernel
theorem dX7_isLet_25 : decode cX7_isLet 25 = .ok (.istore 5, 2) := by decide +kernel
theorem dX7_isLet_27 : decode cX7_isLet 27 = .ok (.iload 5, 2) := by decide +kernel
theorem dX7_isLet_29 : decode cX7_isLet 29 = .ok (.aload_n 0, 1) := by decide +kernel
theorem dX7_isLet_30 : decode cX7_isLet 30 = .ok (.getfield 31, 3) := by decide +kernel
theorem dX7_isLet_33 : decode cX7_isLet 33 = .ok (.iload_n 1, 1) := by decide +kernel
theorem dX7_isLet_34 : decode cX7_isLet 34 = .ok (.iaload, 1) := by decide +kernel
theorem dX7_isLet_35 : decode cX7_isLet 35 = .ok (.if_icmp .ge 42, 3) := by decide +kernel
theorem dX7_isLet_38 : decode cX7_isLet 38 = .ok (.iload 4, 2) := by decide +kernel
theorem dX7_isLet_40 : decode cX7_isLet 40 = .ok (.ifCond .eq 28, 3) := by decide +kernel
theorem dX7_isLet_43 : decode cX7_isLet 43 = .ok (.aload_n 0, 1) := by decide +kernel
theorem dX7_isLet_44 : decode cX7_isLet 44 = .ok (.getfield 67, 3) := by decide +kernel
theorem dX7_isLet_47 : decode cX7_isLet 47 = .ok (.bipush 32, 2) := by decide +kernel
theorem dX7_isLet_49 : decode cX7_isLet 49 = .ok (.iload 5, 2) := by decide +kernel
theorem dX7_isLet_51 : decode cX7_isLet 51 = .ok (.imul, 1) := by decide +kernel
theorem dX7_isLet_52 : decode cX7_isLet 52 = .ok (.aload_n 0, 1) := by decide +kernel
theorem dX7_isLet_53 : decode cX7_isLet 53 = .ok (.getfield 64, 3) := by decide +kernel
theorem dX7_isLet_56 : decode cX7_isLet 56 = .ok (.iload 5, 2) := by decide +kernel
theorem dX7_isLet_58 : decode cX7_isLet 58 = .ok (.iaload, 1) := by decide +kernel
theorem dX7_isLet_59 : decode cX7_isLet 59 = .ok (.iadd, 1) := by decide +kernel
theorem dX7_isLet_60 : decode cX7_isLet 60 = .ok (.iaload, 1) := by decide +kernel
theorem dX7_isLet_61 : decode cX7_isLet 61 = .ok (.ifCond .le 7, 3) := by decide +kernel
theorem dX7_isLet_64 : decode cX7_isLet 64 = .ok (.iconst 1, 1) := by decide +kernel
theorem dX7_isLet_65 : decode cX7_isLet 65 = .ok (.goto 4, 3) := by decide +kernel
theorem dX7_isLet_68 : decode cX7_isLet 68 = .ok (.iconst 0, 1) := by decide +kernel
theorem dX7_isLet_69 : decode cX7_isLet 69 = .ok (.istore 4, 2) := by decide +kernel
theorem dX7_isLet_71 : decode cX7_isLet 71 = .ok (.iinc 5 1, 3) := by decide +kernel
theorem dX7_isLet_74 : decode cX7_isLet 74 = .ok (.goto (-47), 3) := by decide +kernel
theorem dX7_isLet_77 : decode cX7_isLet 77 = .ok (.iload 4, 2) := by decide +kernel
theorem dX7_isLet_79 : decode cX7_isLet 79 = .ok (.ifCond .eq 5, 3) := by decide +kernel
theorem dX7_isLet_82 : decode cX7_isLet 82 = .ok (.iconst 1, 1) := by decide +kernel
theorem dX7_isLet_83 : decode cX7_isLet 83 = .ok (.ireturn, 1) := by decide +kernel
theorem dX7_isLet_84 : decode cX7_isLet 84 = .ok (.iinc 3 1, 3) := by decide +kernel
theorem dX7_isLet_87 : decode cX7_isLet 87 = .ok (.goto (-85), 3) := by decide +kernel
theorem dX7_isLet_90 : decode cX7_isLet 90 = .ok (.iconst 0, 1) := by decide +kernel
theorem dX7_isLet_91 : decode cX7_isLet 91 = .ok (.ireturn, 1) := by decide +kernel
theorem dX7_wrongState_0 : decode cX7_wrongState 0 = .ok (.aload_n 0, 1) := by decide +kernel
theorem dX7_wrongState_1 : decode cX7_wrongState 1 = .ok (.iload_n 1, 1) := by decide +kernel
theorem dX7_wrongState_2 : decode cX7_wrongState 2 = .ok (.invokevirtual 229, 3) := by decide +kernel
theorem dX7_wrongState_5 : decode cX7_wrongState 5 = .ok (.ifCond .ne 7, 3) := by decide +kernel
theorem dX7_wrongState_8 : decode cX7_wrongState 8 = .ok (.iconst (-1), 1) := by decide +kernel
theorem dX7_wrongState_9 : decode cX7_wrongState 9 = .ok (.goto 39, 3) := by decide +kernel
theorem dX7_wrongState_12 : decode cX7_wrongState 12 = .ok (.aload_n 0, 1) := by decide +kernel
theorem dX7_wrongState_13 : decode cX7_wrongState 13 = .ok (.iload_n 1, 1) := by decide +kernel
theorem dX7_wrongState_14 : decode cX7_wrongState 14 = .ok (.iconst (-1), 1) := by decide +kernel
theorem dX7_wrongState_15 : decode cX7_wrongState 15 = .ok (.invokevirtual 241, 3) := by decide +kernel
theorem dX7_wrongState_18 : decode cX7_wrongState 18 = .ok (.bipush 10, 2) := by decide +kernel
theorem dX7_wrongState_20 : decode cX7_wrongState 20 = .ok (.if_icmp .le 8, 3) := by decide +kernel
theorem dX7_wrongState_23 : decode cX7_wrongState 23 = .ok (.bipush (-3), 2) := by decide +kernel
theorem dX7_wrongState_25 : decode cX7_wrongState 25 = .ok (.goto 23, 3) := by decide +kernel
theorem dX7_wrongState_28 : decode cX7_wrongState 28 = .ok (.iload_n 2, 1) := by decide +kernel
theorem dX7_wrongState_29 : decode cX7_wrongState 29 = .ok (.iconst 1, 1) := by decide +kernel
theorem dX7_wrongState_30 : decode cX7_wrongState 30 = .ok (.aload_n 0, 1) := by decide +kernel
theorem dX7_wrongState_31 : decode cX7_wrongState 31 = .ok (.iload_n 1, 1) := by decide +kernel
theorem dX7_wrongState_32 : decode cX7_wrongState 32 = .ok (.iconst (-1), 1) := by decide +kernel
theorem dX7_wrongState_33 : decode cX7_wrongState 33 = .ok (.invokevirtual 241, 3) := by decide +kernel
theorem dX7_wrongState_36 : decode cX7_wrongState 36 = .ok (.ishl, 1) := by decide +kernel
theorem dX7_wrongState_37 : decode cX7_wrongState 37 = .ok (.invokestatic 80, 3) := by decide +kernel
theorem dX7_wrongState_40 : decode cX7_wrongState 40 = .ok (.ifCond .eq 7, 3) := by decide +kernel
theorem dX7_wrongState_43 : decode cX7_wrongState 43 = .ok (.iconst 0, 1) := by decide +kernel
theorem dX7_wrongState_44 : decode cX7_wrongState 44 = .ok (.goto 4, 3) := by decide +kernel
theorem dX7_wrongState_47 : decode cX7_wrongState 47 = .ok (.iconst (-1), 1) := by decide +kernel
theorem dX7_wrongState_48 : decode cX7_wrongState 48 = .ok (.ireturn, 1) := by decide +kernel
theorem dX7_netLets_0 : decode cX7_netLets 0 = .ok (.aload_n 0, 1) := by decide +kernel
theorem dX7_netLets_1 : decode cX7_netLets 1 = .ok (.iload_n 1, 1) := by decide +kernel
theorem dX7_netLets_2 : decode cX7_netLets 2 = .ok (.iload_n 2, 1) := by decide +kernel
theorem dX7_netLets_3 : decode cX7_netLets 3 = .ok (.invokevirtual 249, 3) := by decide +kernel
theorem dX7_netLets_6 : decode cX7_netLets 6 = .ok (.istore_n 3, 1) := by decide +kernel
theorem dX7_netLets_7 : decode cX7_netLets 7 = .ok (.iload_n 3, 1) := by decide +kernel
theorem dX7_netLets_8 : decode cX7_netLets 8 = .ok (.ifCond .eq 9, 3) := by decide +kernel
theorem dX7_netLets_11 : decode cX7_netLets 11 = .ok (.aload_n 0, 1) := by decide +kernel
theorem dX7_netLets_12 : decode cX7_netLets 12 = .ok (.iload_n 3, 1) := by decide +kernel
theorem dX7_netLets_13 : decode cX7_netLets 13 = .ok (.invokevirtual 72, 3) := by decide +kernel
theorem dX7_netLets_16 : decode cX7_netLets 16 = .ok (.ireturn, 1) := by decide +kernel
theorem dX7_netLets_17 : decode cX7_netLets 17 = .ok (.aload_n 0, 1) := by decide +kernel
theorem dX7_netLets_18 : decode cX7_netLets 18 = .ok (.iload_n 1, 1) := by decide +kernel
theorem dX7_netLets_19 : decode cX7_netLets 19 = .ok (.invokevirtual 252, 3) := by decide +kernel
theorem dX7_netLets_22 : decode cX7_netLets 22 = .ok (.aload_n 0, 1) := by decide +kernel
theorem dX7_netLets_23 : decode cX7_netLets 23 = .ok (.iload_n 1, 1) := by decide +kernel
theorem dX7_netLets_24 : decode cX7_netLets 24 = .ok (.iload_n 2, 1) := by decide +kernel
theorem dX7_netLets_25 : decode cX7_netLets 25 = .ok (.invokevirtual 256, 3) := by decide +kernel
theorem dX7_netLets_28 : decode cX7_netLets 28 = .ok (.ifCond .eq 7, 3) := by decide +kernel
theorem dX7_netLets_31 : decode cX7_netLets 31 = .ok (.iconst 1, 1) := by decide +kernel
theorem dX7_netLets_32 : decode cX7_netLets 32 = .ok (.goto 4, 3) := by decide +kernel
theorem dX7_netLets_35 : decode cX7_netLets 35 = .ok (.iconst 0, 1) := by decide +kernel
theorem dX7_netLets_36 : decode cX7_netLets 36 = .ok (.ireturn, 1) := by decide +kernel
theorem dX7_howMany_0 : decode cX7_howMany 0 = .ok (.aload_n 0, 1) := by decide +kernel
theorem dX7_howMany_1 : decode cX7_howMany 1 = .ok (.iload_n 1, 1) := by decide +kernel
theorem dX7_howMany_2 : decode cX7_howMany 2 = .ok (.iload_n 2, 1) := by decide +kernel
theorem dX7_howMany_3 : decode cX7_howMany 3 = .ok (.invokevirtual 249, 3) := by decide +kernel
theorem dX7_howMany_6 : decode cX7_howMany 6 = .ok (.istore_n 3, 1) := by decide +kernel
theorem dX7_howMany_7 : decode cX7_howMany 7 = .ok (.iload_n 3, 1) := by decide +kernel
theorem dX7_howMany_8 : decode cX7_howMany 8 = .ok (.ifCond .eq 9, 3) := by decide +kernel
theorem dX7_howMany_11 : decode cX7_howMany 11 = .ok (.aload_n 0, 1) := by decide +kernel
theorem dX7_howMany_12 : decode cX7_howMany 12 = .ok (.iload_n 3, 1) := by decide +kernel
theorem dX7_howMany_13 : decode cX7_howMany 13 = .ok (.invokevirtual 72, 3) := by decide +kernel
theorem dX7_howMany_16 : decode cX7_howMany 16 = .ok (.ireturn, 1) := by decide +kernel
theorem dX7_howMany_17 : decode cX7_howMany 17 = .ok (.aload_n 0, 1) := by decide +kernel
theorem dX7_howMany_18 : decode cX7_howMany 18 = .ok (.iload_n 1, 1) := by decide +kernel
theorem dX7_howMany_19 : decode cX7_howMany 19 = .ok (.invokevirtual 252, 3) := by decide +kernel
theorem dX7_howMany_22 : decode cX7_howMany 22 = .ok (.aload_n 0, 1) := by decide +kernel
theorem dX7_howMany_23 : decode cX7_howMany 23 = .ok (.iload_n 1, 1) := by decide +kernel
theorem dX7_howMany_24 : decode cX7_howMany 24 = .ok (.iload_n 2, 1) := by decide +kernel
theorem dX7_howMany_25 : decode cX7_howMany 25 = .ok (.invokevirtual 259, 3) := by decide +kernel
theorem dX7_howMany_28 : decode cX7_howMany 28 = .ok (.l2i, 1) := by decide +kernel
theorem dX7_howMany_29 : decode cX7_howMany 29 = .ok (.ireturn, 1) := by decide +kernel
theorem dX7_netDoes_0 : decode cX7_netDoes 0 = .ok (.aload_n 0, 1) := by decide +kernel
theorem dX7_netDoes_1 : decode cX7_netDoes 1 = .ok (.iload_n 1, 1) := by decide +kernel
theorem dX7_netDoes_2 : decode cX7_netDoes 2 = .ok (.invokevirtual 229, 3) := by decide +kernel
theorem dX7_netDoes_5 : decode cX7_netDoes 5 = .ok (.ifCond .eq 11, 3) := by decide +kernel
theorem dX7_netDoes_8 : decode cX7_netDoes 8 = .ok (.aload_n 0, 1) := by decide +kernel
theorem dX7_netDoes_9 : decode cX7_netDoes 9 = .ok (.iload_n 2, 1) := by decide +kernel
theorem dX7_netDoes_10 : decode cX7_netDoes 10 = .ok (.invokevirtual 191, 3) := by decide +kernel
theorem dX7_netDoes_13 : decode cX7_netDoes 13 = .ok (.ifCond .ne 9, 3) := by decide +kernel
theorem dX7_netDoes_16 : decode cX7_netDoes 16 = .ok (.aload_n 0, 1) := by decide +kernel
theorem dX7_netDoes_17 : decode cX7_netDoes 17 = .ok (.iconst (-1), 1) := by decide +kernel
theorem dX7_netDoes_18 : decode cX7_netDoes 18 = .ok (.invokevirtual 72, 3) := by decide +kernel
theorem dX7_netDoes_21 : decode cX7_netDoes 21 = .ok (.ireturn, 1) := by decide +kernel
theorem dX7_netDoes_22 : decode cX7_netDoes 22 = .ok (.aload_n 0, 1) := by decide +kernel
theorem dX7_netDoes_23 : decode cX7_netDoes 23 = .ok (.iload_n 1, 1) := by decide +kernel
theorem dX7_netDoes_24 : decode cX7_netDoes 24 = .ok (.iconst (-1), 1) := by decide +kernel
theorem dX7_netDoes_25 : decode cX7_netDoes 25 = .ok (.invokevirtual 241, 3) := by decide +kernel
theorem dX7_netDoes_28 : decode cX7_netDoes 28 = .ok (.istore_n 3, 1) := by decide +kernel
theorem dX7_netDoes_29 : decode cX7_netDoes 29 = .ok (.iload_n 3, 1) := by decide +kernel
theorem dX7_netDoes_30 : decode cX7_netDoes 30 = .ok (.iconst 5, 1) := by decide +kernel
theorem dX7_netDoes_31 : decode cX7_netDoes 31 = .ok (.if_icmp .le 5, 3) := by decide +kernel
theorem dX7_netDoes_34 : decode cX7_netDoes 34 = .ok (.iconst 0, 1) := by decide +kernel
theorem dX7_netDoes_35 : decode cX7_netDoes 35 = .ok (.ireturn, 1) := by decide +kernel
theorem dX7_netDoes_36 : decode cX7_netDoes 36 = .ok (.aload_n 0, 1) := by decide +kernel
theorem dX7_netDoes_37 : decode cX7_netDoes 37 = .ok (.iload_n 1, 1) := by decide +kernel
theorem dX7_netDoes_38 : decode cX7_netDoes 38 = .ok (.invokevirtual 252, 3) := by decide +kernel
theorem dX7_netDoes_41 : decode cX7_netDoes 41 = .ok (.iconst 0, 1) := by decide +kernel
theorem dX7_netDoes_42 : decode cX7_netDoes 42 = .ok (.istore 4, 2) := by decide +kernel
theorem dX7_netDoes_44 : decode cX7_netDoes 44 = .ok (.iload 4, 2) := by decide +kernel
theorem dX7_netDoes_46 : decode cX7_netDoes 46 = .ok (.iconst 1, 1) := by decide +kernel
theorem dX7_netDoes_47 : decode cX7_netDoes 47 = .ok (.iload_n 3, 1) := by decide +kernel
theorem dX7_netDoes_48 : decode cX7_netDoes 48 = .ok (.ishl, 1) := by decide +kernel
theorem dX7_netDoes_49 : decode cX7_netDoes 49 = .ok (.if_icmp .ge 28, 3) := by decide +kernel
theorem dX7_netDoes_52 : decode cX7_netDoes 52 = .ok (.aload_n 0, 1) := by decide +kernel
theorem dX7_netDoes_53 : decode cX7_netDoes 53 = .ok (.iload_n 1, 1) := by decide +kernel
theorem dX7_netDoes_54 : decode cX7_netDoes 54 = .ok (.iload 4, 2) := by decide +kernel
theorem dX7_netDoes_56 : decode cX7_netDoes 56 = .ok (.invokevirtual 256, 3) := by decide +kernel
theorem dX7_netDoes_59 : decode cX7_netDoes 59 = .ok (.aload_n 0, 1) := by decide +kernel
theorem dX7_netDoes_60 : decode cX7_netDoes 60 = .ok (.iload_n 2, 1) := by decide +kernel
theorem dX7_netDoes_61 : decode cX7_netDoes 61 = .ok (.iload 4, 2) := by decide +kernel
theorem dX7_netDoes_63 : decode cX7_netDoes 63 = .ok (.invokevirtual 188, 3) := by decide +kernel
theorem dX7_netDoes_66 : decode cX7_netDoes 66 = .ok (.if_icmp .eq 5, 3) := by decide +kernel
theorem dX7_netDoes_69 : decode cX7_netDoes 69 = .ok (.iconst 0, 1) := by decide +kernel
theorem dX7_netDoes_70 : decode cX7_netDoes 70 = .ok (.ireturn, 1) := by decide +kernel
theorem dX7_netDoes_71 : decode cX7_netDoes 71 = .ok (.iinc 4 1, 3) := by decide +kernel
theorem dX7_netDoes_74 : decode cX7_netDoes 74 = .ok (.goto (-30), 3) := by decide +kernel
theorem dX7_netDoes_77 : decode cX7_netDoes 77 = .ok (.iconst 1, 1) := by decide +kernel
theorem dX7_netDoes_78 : decode cX7_netDoes 78 = .ok (.ireturn, 1) := by decide +kernel
theorem dX7_lay_0 : decode cX7_lay 0 = .ok (.aload_n 0, 1) := by decide +kernel
theorem dX7_lay_1 : decode cX7_lay 1 = .ok (.iload_n 1, 1) := by decide +kernel
theorem dX7_lay_2 : decode cX7_lay 2 = .ok (.invokevirtual 103, 3) := by decide +kernel
theorem dX7_lay_5 : decode cX7_lay 5 = .ok (.ifCond .ne 9, 3) := by decide +kernel
theorem dX7_lay_8 : decode cX7_lay 8 = .ok (.aload_n 0, 1) := by decide +kernel
theorem dX7_lay_9 : decode cX7_lay 9 = .ok (.iconst (-1), 1) := by decide +kernel
theorem dX7_lay_10 : decode cX7_lay 10 = .ok (.invokevirtual 72, 3) := by decide +kernel
theorem dX7_lay_13 : decode cX7_lay 13 = .ok (.ireturn, 1) := by decide +kernel
theorem dX7_lay_14 : decode cX7_lay 14 = .ok (.iload_n 2, 1) := by decide +kernel
theorem dX7_lay_15 : decode cX7_lay 15 = .ok (.ifCond .lt 7, 3) := by decide +kernel
theorem dX7_lay_18 : decode cX7_lay 18 = .ok (.iload_n 3, 1) := by decide +kernel
theorem dX7_lay_19 : decode cX7_lay 19 = .ok (.ifCond .ge 10, 3) := by decide +kernel
theorem dX7_lay_22 : decode cX7_lay 22 = .ok (.aload_n 0, 1) := by decide +kernel
theorem dX7_lay_23 : decode cX7_lay 23 = .ok (.bipush (-4), 2) := by decide +kernel
theorem dX7_lay_25 : decode cX7_lay 25 = .ok (.invokevirtual 72, 3) := by decide +kernel
theorem dX7_lay_28 : decode cX7_lay 28 = .ok (.ireturn, 1) := by decide +kernel
theorem dX7_lay_29 : decode cX7_lay 29 = .ok (.iload_n 2, 1) := by decide +kernel
theorem dX7_lay_30 : decode cX7_lay 30 = .ok (.bipush 12, 2) := by decide +kernel
theorem dX7_lay_32 : decode cX7_lay 32 = .ok (.aload_n 0, 1) := by decide +kernel
theorem dX7_lay_33 : decode cX7_lay 33 = .ok (.getfield 13, 3) := by decide +kernel
theorem dX7_lay_36 : decode cX7_lay 36 = .ok (.iload_n 1, 1) := by decide +kernel
theorem dX7_lay_37 : decode cX7_lay 37 = .ok (.iaload, 1) := by decide +kernel
theorem dX7_lay_38 : decode cX7_lay 38 = .ok (.isub, 1) := by decide +kernel
theorem dX7_lay_39 : decode cX7_lay 39 = .ok (.if_icmp .gt 25, 3) := by decide +kernel
theorem dX7_lay_42 : decode cX7_lay 42 = .ok (.iload_n 3, 1) := by decide +kernel
theorem dX7_lay_43 : decode cX7_lay 43 = .ok (.bipush 12, 2) := by decide +kernel
theorem dX7_lay_45 : decode cX7_lay 45 = .ok (.aload_n 0, 1) := by decide +kernel
theorem dX7_lay_46 : decode cX7_lay 46 = .ok (.getfield 16, 3) := by decide +kernel
theorem dX7_lay_49 : decode cX7_lay 49 = .ok (.iload_n 1, 1) := by decide +kernel
theorem dX7_lay_50 : decode cX7_lay 50 = .ok (.iaload, 1) := by decide +kernel
theorem dX7_lay_51 : decode cX7_lay 51 = .ok (.isub, 1) := by decide +kernel
theorem dX7_lay_52 : decode cX7_lay 52 = .ok (.if_icmp .gt 12, 3) := by decide +kernel
theorem dX7_lay_55 : decode cX7_lay 55 = .ok (.aload_n 0, 1) := by decide +kernel
theorem dX7_lay_56 : decode cX7_lay 56 = .ok (.getfield 262, 3) := by decide +kernel
theorem dX7_lay_59 : decode cX7_lay 59 = .ok (.bipush 10, 2) := by decide +kernel
theorem dX7_lay_61 : decode cX7_lay 61 = .ok (.if_icmp .ne 10, 3) := by decide +kernel
theorem dX7_lay_64 : decode cX7_lay 64 = .ok (.aload_n 0, 1) := by decide +kernel
theorem dX7_lay_65 : decode cX7_lay 65 = .ok (.bipush (-6), 2) := by decide +kernel
theorem dX7_lay_67 : decode cX7_lay 67 = .ok (.invokevirtual 72, 3) := by decide +kernel
theorem dX7_lay_70 : decode cX7_lay 70 = .ok (.ireturn, 1) := by decide +kernel
theorem dX7_lay_71 : decode cX7_lay 71 = .ok (.aload_n 0, 1) := by decide +kernel
theorem dX7_lay_72 : decode cX7_lay 72 = .ok (.getfield 46, 3) := by decide +kernel
theorem dX7_lay_75 : decode cX7_lay 75 = .ok (.aload_n 0, 1) := by decide +kernel
theorem dX7_lay_76 : decode cX7_lay 76 = .ok (.getfield 262, 3) := by decide +kernel
theorem dX7_lay_79 : decode cX7_lay 79 = .ok (.iload_n 1, 1) := by decide +kernel
theorem dX7_lay_80 : decode cX7_lay 80 = .ok (.iastore, 1) := by decide +kernel
theorem dX7_lay_81 : decode cX7_lay 81 = .ok (.aload_n 0, 1) := by decide +kernel
theorem dX7_lay_82 : decode cX7_lay 82 = .ok (.getfield 49, 3) := by decide +kernel
theorem dX7_lay_85 : decode cX7_lay 85 = .ok (.aload_n 0, 1) := by decide +kernel
theorem dX7_lay_86 : decode cX7_lay 86 = .ok (.getfield 262, 3) := by decide +kernel
theorem dX7_lay_89 : decode cX7_lay 89 = .ok (.iload_n 2, 1) := by decide +kernel
theorem dX7_lay_90 : decode cX7_lay 90 = .ok (.iastore, 1) := by decide +kernel
theorem dX7_lay_91 : decode cX7_lay 91 = .ok (.aload_n 0, 1) := by decide +kernel
theorem dX7_lay_92 : decode cX7_lay 92 = .ok (.getfield 52, 3) := by decide +kernel
theorem dX7_lay_95 : decode cX7_lay 95 = .ok (.aload_n 0, 1) := by decide +kernel
theorem dX7_lay_96 : decode cX7_lay 96 = .ok (.getfield 262, 3) := by decide +kernel
theorem dX7_lay_99 : decode cX7_lay 99 = .ok (.iload_n 3, 1) := by decide +kernel
theorem dX7_lay_100 : decode cX7_lay 100 = .ok (.iastore, 1) := by decide +kernel
theorem dX7_lay_101 : decode cX7_lay 101 = .ok (.aload_n 0, 1) := by decide +kernel
theorem dX7_lay_102 : decode cX7_lay 102 = .ok (.dup, 1) := by decide +kernel
theorem dX7_lay_103 : decode cX7_lay 103 = .ok (.getfield 262, 3) := by decide +kernel
theorem dX7_lay_106 : decode cX7_lay 106 = .ok (.iconst 1, 1) := by decide +kernel
theorem dX7_lay_107 : decode cX7_lay 107 = .ok (.iadd, 1) := by decide +kernel
theorem dX7_lay_108 : decode cX7_lay 108 = .ok (.putfield 262, 3) := by decide +kernel
theorem dX7_lay_111 : decode cX7_lay 111 = .ok (.aload_n 0, 1) := by decide +kernel
theorem dX7_lay_112 : decode cX7_lay 112 = .ok (.getfield 262, 3) := by decide +kernel
theorem dX7_lay_115 : decode cX7_lay 115 = .ok (.iconst 1, 1) := by decide +kernel
theorem dX7_lay_116 : decode cX7_lay 116 = .ok (.isub, 1) := by decide +kernel
theorem dX7_lay_117 : decode cX7_lay 117 = .ok (.ireturn, 1) := by decide +kernel
theorem dX7_on_0 : decode cX7_on 0 = .ok (.aload_n 0, 1) := by decide +kernel
theorem dX7_on_1 : decode cX7_on 1 = .ok (.getfield 46, 3) := by decide +kernel
theorem dX7_on_4 : decode cX7_on 4 = .ok (.iload_n 1, 1) := by decide +kernel
theorem dX7_on_5 : decode cX7_on 5 = .ok (.iaload, 1) := by decide +kernel
theorem dX7_on_6 : decode cX7_on 6 = .ok (.istore 4, 2) := by decide +kernel
theorem dX7_on_8 : decode cX7_on 8 = .ok (.iload_n 2, 1) := by decide +kernel
theorem dX7_on_9 : decode cX7_on 9 = .ok (.aload_n 0, 1) := by decide +kernel
theorem dX7_on_10 : decode cX7_on 10 = .ok (.getfield 49, 3) := by decide +kernel
theorem dX7_on_13 : decode cX7_on 13 = .ok (.iload_n 1, 1) := by decide +kernel
theorem dX7_on_14 : decode cX7_on 14 = .ok (.iaload, 1) := by decide +kernel
theorem dX7_on_15 : decode cX7_on 15 = .ok (.isub, 1) := by decide +kernel
theorem dX7_on_16 : decode cX7_on 16 = .ok (.istore 5, 2) := by decide +kernel
theorem dX7_on_18 : decode cX7_on 18 = .ok (.iload_n 3, 1) := by decide +kernel
theorem dX7_on_19 : decode cX7_on 19 = .ok (.aload_n 0, 1) := by decide +kernel
theorem dX7_on_20 : decode cX7_on 20 = .ok (.getfield 52, 3) := by decide +kernel
theorem dX7_on_23 : decode cX7_on 23 = .ok (.iload_n 1, 1) := by decide +kernel
theorem dX7_on_24 : decode cX7_on 24 = .ok (.iaload, 1) := by decide +kernel
theorem dX7_on_25 : decode cX7_on 25 = .ok (.isub, 1) := by decide +kernel
theorem dX7_on_26 : decode cX7_on 26 = .ok (.istore 6, 2) := by decide +kernel
theorem dX7_on_28 : decode cX7_on 28 = .ok (.iload 5, 2) := by decide +kernel
theorem dX7_on_30 : decode cX7_on 30 = .ok (.aload_n 0, 1) := by decide +kernel
theorem dX7_on_31 : decode cX7_on 31 = .ok (.getfield 13, 3) := by decide +kernel
theorem dX7_on_34 : decode cX7_on 34 = .ok (.iload 4, 2) := by decide +kernel
theorem dX7_on_36 : decode cX7_on 36 = .ok (.iaload, 1) := by decide +kernel
theorem dX7_on_37 : decode cX7_on 37 = .ok (.invokestatic 80, 3) := by decide +kernel
theorem dX7_on_40 : decode cX7_on 40 = .ok (.ifCond .eq 31, 3) := by decide +kernel
theorem dX7_on_43 : decode cX7_on 43 = .ok (.iload 6, 2) := by decide +kernel
theorem dX7_on_45 : decode cX7_on 45 = .ok (.aload_n 0, 1) := by decide +kernel
theorem dX7_on_46 : decode cX7_on 46 = .ok (.getfield 16, 3) := by decide +kernel
theorem dX7_on_49 : decode cX7_on 49 = .ok (.iload 4, 2) := by decide +kernel
theorem dX7_on_51 : decode cX7_on 51 = .ok (.iaload, 1) := by decide +kernel
theorem dX7_on_52 : decode cX7_on 52 = .ok (.invokestatic 80, 3) := by decide +kernel
theorem dX7_on_55 : decode cX7_on 55 = .ok (.ifCond .eq 16, 3) := by decide +kernel
theorem dX7_on_58 : decode cX7_on 58 = .ok (.aload_n 0, 1) := by decide +kernel
theorem dX7_on_59 : decode cX7_on 59 = .ok (.iload 4, 2) := by decide +kernel
theorem dX7_on_61 : decode cX7_on 61 = .ok (.iload 5, 2) := by decide +kernel
theorem dX7_on_63 : decode cX7_on 63 = .ok (.iload 6, 2) := by decide +kernel
theorem dX7_on_65 : decode cX7_on 65 = .ok (.invokevirtual 112, 3) := by decide +kernel
theorem dX7_on_68 : decode cX7_on 68 = .ok (.goto 4, 3) := by decide +kernel
theorem dX7_on_71 : decode cX7_on 71 = .ok (.iconst 0, 1) := by decide +kernel
theorem dX7_on_72 : decode cX7_on 72 = .ok (.ireturn, 1) := by decide +kernel
theorem dX7_overlapped_0 : decode cX7_overlapped 0 = .ok (.iconst 0, 1) := by decide +kernel
theorem dX7_overlapped_1 : decode cX7_overlapped 1 = .ok (.istore_n 1, 1) := by decide +kernel
theorem dX7_overlapped_2 : decode cX7_overlapped 2 = .ok (.iload_n 1, 1) := by decide +kernel
theorem dX7_overlapped_3 : decode cX7_overlapped 3 = .ok (.aload_n 0, 1) := by decide +kernel
theorem dX7_overlapped_4 : decode cX7_overlapped 4 = .ok (.getfield 262, 3) := by decide +kernel
theorem dX7_overlapped_7 : decode cX7_overlapped 7 = .ok (.if_icmp .ge 81, 3) := by decide +kernel
theorem dX7_overlapped_10 : decode cX7_overlapped 10 = .ok (.iload_n 1, 1) := by decide +kernel
theorem dX7_overlapped_11 : decode cX7_overlapped 11 = .ok (.iconst 1, 1) := by decide +kernel
theorem dX7_overlapped_12 : decode cX7_overlapped 12 = .ok (.iadd, 1) := by decide +kernel
theorem dX7_overlapped_13 : decode cX7_overlapped 13 = .ok (.istore_n 2, 1) := by decide +kernel
theorem dX7_overlapped_14 : decode cX7_overlapped 14 = .ok (.iload_n 2, 1) := by decide +kernel
theorem dX7_overlapped_15 : decode cX7_overlapped 15 = .ok (.aload_n 0, 1) := by decide +kernel
theorem dX7_overlapped_16 : decode cX7_overlapped 16 = .ok (.getfield 262, 3) := by decide +kernel
theorem dX7_overlapped_19 : decode cX7_overlapped 19 = .ok (.if_icmp .ge 63, 3) := by decide +kernel
theorem dX7_overlapped_22 : decode cX7_overlapped 22 = .ok (.iconst 0, 1) := by decide +kernel
theorem dX7_overlapped_23 : decode cX7_overlapped 23 = .ok (.istore_n 3, 1) := by decide +kernel
theorem dX7_overlapped_24 : decode cX7_overlapped 24 = .ok (.iload_n 3, 1) := by decide +kernel
theorem dX7_overlapped_25 : decode cX7_overlapped 25 = .ok (.sipush 144, 3) := by decide +kernel
theorem dX7_overlapped_28 : decode cX7_overlapped 28 = .ok (.if_icmp .ge 48, 3) := by decide +kernel
theorem dX7_overlapped_31 : decode cX7_overlapped 31 = .ok (.aload_n 0, 1) := by decide +kernel
theorem dX7_overlapped_32 : decode cX7_overlapped 32 = .ok (.iload_n 1, 1) := by decide +kernel
theorem dX7_overlapped_33 : decode cX7_overlapped 33 = .ok (.iload_n 3, 1) := by decide +kernel
theorem dX7_overlapped_34 : decode cX7_overlapped 34 = .ok (.bipush 12, 2) := by decide +kernel
theorem dX7_overlapped_36 : decode cX7_overlapped 36 = .ok (.idiv, 1) := by decide +kernel
theorem dX7_overlapped_37 : decode cX7_overlapped 37 = .ok (.iload_n 3, 1) := by decide +kernel
theorem dX7_overlapped_38 : decode cX7_overlapped 38 = .ok (.bipush 12, 2) := by decide +kernel
theorem dX7_overlapped_40 : decode cX7_overlapped 40 = .ok (.irem, 1) := by decide +kernel
theorem dX7_overlapped_41 : decode cX7_overlapped 41 = .ok (.invokevirtual 265, 3) := by decide +kernel
theorem dX7_overlapped_44 : decode cX7_overlapped 44 = .ok (.ifCond .eq 26, 3) := by decide +kernel
theorem dX7_overlapped_47 : decode cX7_overlapped 47 = .ok (.aload_n 0, 1) := by decide +kernel
theorem dX7_overlapped_48 : decode cX7_overlapped 48 = .ok (.iload_n 2, 1) := by decide +kernel
theorem dX7_overlapped_49 : decode cX7_overlapped 49 = .ok (.iload_n 3, 1) := by decide +kernel
theorem dX7_overlapped_50 : decode cX7_overlapped 50 = .ok (.bipush 12, 2) := by decide +kernel
theorem dX7_overlapped_52 : decode cX7_overlapped 52 = .ok (.idiv, 1) := by decide +kernel
theorem dX7_overlapped_53 : decode cX7_overlapped 53 = .ok (.iload_n 3, 1) := by decide +kernel
theorem dX7_overlapped_54 : decode cX7_overlapped 54 = .ok (.bipush 12, 2) := by decide +kernel
theorem dX7_overlapped_56 : decode cX7_overlapped 56 = .ok (.irem, 1) := by decide +kernel
theorem dX7_overlapped_57 : decode cX7_overlapped 57 = .ok (.invokevirtual 265, 3) := by decide +kernel
theorem dX7_overlapped_60 : decode cX7_overlapped 60 = .ok (.ifCond .eq 10, 3) := by decide +kernel
theorem dX7_overlapped_63 : decode cX7_overlapped 63 = .ok (.bipush 10, 2) := by decide +kernel
theorem dX7_overlapped_65 : decode cX7_overlapped 65 = .ok (.iload_n 1, 1) := by decide +kernel
theorem dX7_overlapped_66 : decode cX7_overlapped 66 = .ok (.imul, 1) := by decide +kernel
theorem dX7_overlapped_67 : decode cX7_overlapped 67 = .ok (.iload_n 2, 1) := by decide +kernel
theorem dX7_overlapped_68 : decode cX7_overlapped 68 = .ok (.iadd, 1) := by decide +kernel
theorem dX7_overlapped_69 : decode cX7_overlapped 69 = .ok (.ireturn, 1) := by decide +kernel
theorem dX7_overlapped_70 : decode cX7_overlapped 70 = .ok (.iinc 3 1, 3) := by decide +kernel
theorem dX7_overlapped_73 : decode cX7_overlapped 73 = .ok (.goto (-49), 3) := by decide +kernel
theorem dX7_overlapped_76 : decode cX7_overlapped 76 = .ok (.iinc 2 1, 3) := by decide +kernel
theorem dX7_overlapped_79 : decode cX7_overlapped 79 = .ok (.goto (-65), 3) := by decide +kernel
theorem dX7_overlapped_82 : decode cX7_overlapped 82 = .ok (.iinc 1 1, 3) := by decide +kernel
theorem dX7_overlapped_85 : decode cX7_overlapped 85 = .ok (.goto (-83), 3) := by decide +kernel
theorem dX7_overlapped_88 : decode cX7_overlapped 88 = .ok (.bipush (-9), 2) := by decide +kernel
theorem dX7_overlapped_90 : decode cX7_overlapped 90 = .ok (.ireturn, 1) := by decide +kernel
theorem dX7_overlap_0 : decode cX7_overlap 0 = .ok (.aload_n 0, 1) := by decide +kernel
theorem dX7_overlap_1 : decode cX7_overlap 1 = .ok (.invokevirtual 268, 3) := by decide +kernel
theorem dX7_overlap_4 : decode cX7_overlap 4 = .ok (.ireturn, 1) := by decide +kernel
theorem dX7_place_0 : decode cX7_place 0 = .ok (.iconst 0, 1) := by decide +kernel
theorem dX7_place_1 : decode cX7_place 1 = .ok (.istore_n 3, 1) := by decide +kernel
theorem dX7_place_2 : decode cX7_place 2 = .ok (.iload_n 3, 1) := by decide +kernel
theorem dX7_place_3 : decode cX7_place 3 = .ok (.bipush 12, 2) := by decide +kernel
theorem dX7_place_5 : decode cX7_place 5 = .ok (.if_icmp .ge 48, 3) := by decide +kernel
theorem dX7_place_8 : decode cX7_place 8 = .ok (.iconst 0, 1) := by decide +kernel
theorem dX7_place_9 : decode cX7_place 9 = .ok (.istore 4, 2) := by decide +kernel
theorem dX7_place_11 : decode cX7_place 11 = .ok (.iload 4, 2) := by decide +kernel
theorem dX7_place_13 : decode cX7_place 13 = .ok (.bipush 12, 2) := by decide +kernel
theorem dX7_place_15 : decode cX7_place 15 = .ok (.if_icmp .ge 32, 3) := by decide +kernel
theorem dX7_place_18 : decode cX7_place 18 = .ok (.aload_n 0, 1) := by decide +kernel
theorem dX7_place_19 : decode cX7_place 19 = .ok (.iload_n 1, 1) := by decide +kernel
theorem dX7_place_20 : decode cX7_place 20 = .ok (.iload_n 3, 1) := by decide +kernel
theorem dX7_place_21 : decode cX7_place 21 = .ok (.iload 4, 2) := by decide +kernel
theorem dX7_place_23 : decode cX7_place 23 = .ok (.invokevirtual 265, 3) := by decide +kernel
theorem dX7_place_26 : decode cX7_place 26 = .ok (.bipush 10, 2) := by decide +kernel
theorem dX7_place_28 : decode cX7_place 28 = .ok (.iload_n 2, 1) := by decide +kernel
theorem dX7_place_29 : decode cX7_place 29 = .ok (.iadd, 1) := by decide +kernel
theorem dX7_place_30 : decode cX7_place 30 = .ok (.if_icmp .ne 11, 3) := by decide +kernel
theorem dX7_place_33 : decode cX7_place 33 = .ok (.bipush 100, 2) := by decide +kernel
theorem dX7_place_35 : decode cX7_place 35 = .ok (.iload_n 3, 1) := by decide +kernel
theorem dX7_place_36 : decode cX7_place 36 = .ok (.imul, 1) := by decide +kernel
theorem dX7_place_37 : decode cX7_place 37 = .ok (.iload 4, 2) := by decide +kernel
theorem dX7_place_39 : decode cX7_place 39 = .ok (.iadd, 1) := by decide +kernel
theorem dX7_place_40 : decode cX7_place 40 = .ok (.ireturn, 1) := by decide +kernel
theorem dX7_place_41 : decode cX7_place 41 = .ok (.iinc 4 1, 3) := by decide +kernel
theorem dX7_place_44 : decode cX7_place 44 = .ok (.goto (-33), 3) := by decide +kernel
theorem dX7_place_47 : decode cX7_place 47 = .ok (.iinc 3 1, 3) := by decide +kernel
theorem dX7_place_50 : decode cX7_place 50 = .ok (.goto (-48), 3) := by decide +kernel
theorem dX7_place_53 : decode cX7_place 53 = .ok (.bipush (-9), 2) := by decide +kernel
theorem dX7_place_55 : decode cX7_place 55 = .ok (.ireturn, 1) := by decide +kernel
theorem dX7_isBeside_0 : decode cX7_isBeside 0 = .ok (.iload_n 0, 1) := by decide +kernel
theorem dX7_isBeside_1 : decode cX7_isBeside 1 = .ok (.bipush 100, 2) := by decide +kernel
theorem dX7_isBeside_3 : decode cX7_isBeside 3 = .ok (.idiv, 1) := by decide +kernel
theorem dX7_isBeside_4 : decode cX7_isBeside 4 = .ok (.iload_n 1, 1) := by decide +kernel
theorem dX7_isBeside_5 : decode cX7_isBeside 5 = .ok (.bipush 100, 2) := by decide +kernel
theorem dX7_isBeside_7 : decode cX7_isBeside 7 = .ok (.idiv, 1) := by decide +kernel
theorem dX7_isBeside_8 : decode cX7_isBeside 8 = .ok (.isub, 1) := by decide +kernel
theorem dX7_isBeside_9 : decode cX7_isBeside 9 = .ok (.istore_n 2, 1) := by decide +kernel
theorem dX7_isBeside_10 : decode cX7_isBeside 10 = .ok (.iload_n 0, 1) := by decide +kernel
theorem dX7_isBeside_11 : decode cX7_isBeside 11 = .ok (.bipush 100, 2) := by decide +kernel
theorem dX7_isBeside_13 : decode cX7_isBeside 13 = .ok (.irem, 1) := by decide +kernel
theorem dX7_isBeside_14 : decode cX7_isBeside 14 = .ok (.iload_n 1, 1) := by decide +kernel
theorem dX7_isBeside_15 : decode cX7_isBeside 15 = .ok (.bipush 100, 2) := by decide +kernel
theorem dX7_isBeside_17 : decode cX7_isBeside 17 = .ok (.irem, 1) := by decide +kernel
theorem dX7_isBeside_18 : decode cX7_isBeside 18 = .ok (.isub, 1) := by decide +kernel
theorem dX7_isBeside_19 : decode cX7_isBeside 19 = .ok (.istore_n 3, 1) := by decide +kernel
theorem dX7_isBeside_20 : decode cX7_isBeside 20 = .ok (.iload_n 2, 1) := by decide +kernel
theorem dX7_isBeside_21 : decode cX7_isBeside 21 = .ok (.iload_n 2, 1) := by decide +kernel
theorem dX7_isBeside_22 : decode cX7_isBeside 22 = .ok (.imul, 1) := by decide +kernel
theorem dX7_isBeside_23 : decode cX7_isBeside 23 = .ok (.iload_n 3, 1) := by decide +kernel
theorem dX7_isBeside_24 : decode cX7_isBeside 24 = .ok (.iload_n 3, 1) := by decide +kernel
theorem dX7_isBeside_25 : decode cX7_isBeside 25 = .ok (.imul, 1) := by decide +kernel
theorem dX7_isBeside_26 : decode cX7_isBeside 26 = .ok (.iadd, 1) := by decide +kernel
theorem dX7_isBeside_27 : decode cX7_isBeside 27 = .ok (.iconst 1, 1) := by decide +kernel
theorem dX7_isBeside_28 : decode cX7_isBeside 28 = .ok (.if_icmp .ne 7, 3) := by decide +kernel
theorem dX7_isBeside_31 : decode cX7_isBeside 31 = .ok (.iconst 1, 1) := by decide +kernel
theorem dX7_isBeside_32 : decode cX7_isBeside 32 = .ok (.goto 4, 3) := by decide +kernel
theorem dX7_isBeside_35 : decode cX7_isBeside 35 = .ok (.iconst 0, 1) := by decide +kernel
theorem dX7_isBeside_36 : decode cX7_isBeside 36 = .ok (.ireturn, 1) := by decide +kernel
theorem dX7_met_0 : decode cX7_met 0 = .ok (.aload_n 0, 1) := by decide +kernel
theorem dX7_met_1 : decode cX7_met 1 = .ok (.iload_n 1, 1) := by decide +kernel
theorem dX7_met_2 : decode cX7_met 2 = .ok (.iload_n 2, 1) := by decide +kernel
theorem dX7_met_3 : decode cX7_met 3 = .ok (.invokevirtual 271, 3) := by decide +kernel
theorem dX7_met_6 : decode cX7_met 6 = .ok (.istore 4, 2) := by decide +kernel
theorem dX7_met_8 : decode cX7_met 8 = .ok (.iconst 0, 1) := by decide +kernel
theorem dX7_met_9 : decode cX7_met 9 = .ok (.istore 5, 2) := by decide +kernel
theorem dX7_met_11 : decode cX7_met 11 = .ok (.iconst 0, 1) := by decide +kernel
theorem dX7_met_12 : decode cX7_met 12 = .ok (.istore 6, 2) := by decide +kernel
theorem dX7_met_14 : decode cX7_met 14 = .ok (.iload 6, 2) := by decide +kernel
theorem dX7_met_16 : decode cX7_met 16 = .ok (.aload_n 0, 1) := by decide +kernel
theorem dX7_met_17 : decode cX7_met 17 = .ok (.getfield 262, 3) := by decide +kernel
theorem dX7_met_20 : decode cX7_met 20 = .ok (.if_icmp .ge 78, 3) := by decide +kernel
theorem dX7_met_23 : decode cX7_met 23 = .ok (.iconst 0, 1) := by decide +kernel
theorem dX7_met_24 : decode cX7_met 24 = .ok (.istore 7, 2) := by decide +kernel
theorem dX7_met_26 : decode cX7_met 26 = .ok (.iload 7, 2) := by decide +kernel
theorem dX7_met_28 : decode cX7_met 28 = .ok (.aload_n 0, 1) := by decide +kernel
theorem dX7_met_29 : decode cX7_met 29 = .ok (.getfield 19, 3) := by decide +kernel
theorem dX7_met_32 : decode cX7_met 32 = .ok (.aload_n 0, 1) := by decide +kernel
theorem dX7_met_33 : decode cX7_met 33 = .ok (.getfield 46, 3) := by decide +kernel
theorem dX7_met_36 : decode cX7_met 36 = .ok (.iload 6, 2) := by decide +kernel
theorem dX7_met_38 : decode cX7_met 38 = .ok (.iaload, 1) := by decide +kernel
theorem dX7_met_39 : decode cX7_met 39 = .ok (.iaload, 1) := by decide +kernel
theorem dX7_met_40 : decode cX7_met 40 = .ok (.if_icmp .ge 52, 3) := by decide +kernel
theorem dX7_met_43 : decode cX7_met 43 = .ok (.iload 6, 2) := by decide +kernel
theorem dX7_met_45 : decode cX7_met 45 = .ok (.iload_n 1, 1) := by decide +kernel
theorem dX7_met_46 : decode cX7_met 46 = .ok (.if_icmp .eq 40, 3) := by decide +kernel
theorem dX7_met_49 : decode cX7_met 49 = .ok (.iload 4, 2) := by decide +kernel
theorem dX7_met_51 : decode cX7_met 51 = .ok (.aload_n 0, 1) := by decide +kernel
theorem dX7_met_52 : decode cX7_met 52 = .ok (.iload 6, 2) := by decide +kernel
theorem dX7_met_54 : decode cX7_met 54 = .ok (.iload 7, 2) := by decide +kernel
theorem dX7_met_56 : decode cX7_met 56 = .ok (.invokevirtual 271, 3) := by decide +kernel
theorem dX7_met_59 : decode cX7_met 59 = .ok (.invokestatic 274, 3) := by decide +kernel
theorem dX7_met_62 : decode cX7_met 62 = .ok (.ifCond .ne 6, 3) := by decide +kernel
theorem dX7_met_65 : decode cX7_met 65 = .ok (.goto 21, 3) := by decide +kernel
theorem dX7_met_68 : decode cX7_met 68 = .ok (.iload 5, 2) := by decide +kernel
theorem dX7_met_70 : decode cX7_met 70 = .ok (.iload_n 3, 1) := by decide +kernel
theorem dX7_met_71 : decode cX7_met 71 = .ok (.if_icmp .ne 12, 3) := by decide +kernel
theorem dX7_met_74 : decode cX7_met 74 = .ok (.bipush 10, 2) := by decide +kernel
theorem dX7_met_76 : decode cX7_met 76 = .ok (.iload 6, 2) := by decide +kernel
theorem dX7_met_78 : decode cX7_met 78 = .ok (.imul, 1) := by decide +kernel
theorem dX7_met_79 : decode cX7_met 79 = .ok (.iload 7, 2) := by decide +kernel
theorem dX7_met_81 : decode cX7_met 81 = .ok (.iadd, 1) := by decide +kernel
theorem dX7_met_82 : decode cX7_met 82 = .ok (.ireturn, 1) := by decide +kernel
theorem dX7_met_83 : decode cX7_met 83 = .ok (.iinc 5 1, 3) := by decide +kernel
theorem dX7_met_86 : decode cX7_met 86 = .ok (.iinc 7 1, 3) := by decide +kernel
theorem dX7_met_89 : decode cX7_met 89 = .ok (.goto (-63), 3) := by decide +kernel
theorem dX7_met_92 : decode cX7_met 92 = .ok (.iinc 6 1, 3) := by decide +kernel
theorem dX7_met_95 : decode cX7_met 95 = .ok (.goto (-81), 3) := by decide +kernel
theorem dX7_met_98 : decode cX7_met 98 = .ok (.bipush (-9), 2) := by decide +kernel
theorem dX7_met_100 : decode cX7_met 100 = .ok (.ireturn, 1) := by decide +kernel
theorem dX7_meets_0 : decode cX7_meets 0 = .ok (.iload_n 1, 1) := by decide +kernel
theorem dX7_meets_1 : decode cX7_meets 1 = .ok (.aload_n 0, 1) := by decide +kernel
theorem dX7_meets_2 : decode cX7_meets 2 = .ok (.getfield 262, 3) := by decide +kernel
theorem dX7_meets_5 : decode cX7_meets 5 = .ok (.invokestatic 80, 3) := by decide +kernel
theorem dX7_meets_8 : decode cX7_meets 8 = .ok (.ifCond .eq 31, 3) := by decide +kernel
theorem dX7_meets_11 : decode cX7_meets 11 = .ok (.iload_n 2, 1) := by decide +kernel
theorem dX7_meets_12 : decode cX7_meets 12 = .ok (.aload_n 0, 1) := by decide +kernel
theorem dX7_meets_13 : decode cX7_meets 13 = .ok (.getfield 19, 3) := by decide +kernel
theorem dX7_meets_16 : decode cX7_meets 16 = .ok (.aload_n 0, 1) := by decide +kernel
theorem dX7_meets_17 : decode cX7_meets 17 = .ok (.getfield 46, 3) := by decide +kernel
theorem dX7_meets_20 : decode cX7_meets 20 = .ok (.iload_n 1, 1) := by decide +kernel
theorem dX7_meets_21 : decode cX7_meets 21 = .ok (.iaload, 1) := by decide +kernel
theorem dX7_meets_22 : decode cX7_meets 22 = .ok (.iaload, 1) := by decide +kernel
theorem dX7_meets_23 : decode cX7_meets 23 = .ok (.invokestatic 80, 3) := by decide +kernel
theorem dX7_meets_26 : decode cX7_meets 26 = .ok (.ifCond .eq 13, 3) := by decide +kernel
theorem dX7_meets_29 : decode cX7_meets 29 = .ok (.aload_n 0, 1) := by decide +kernel
theorem dX7_meets_30 : decode cX7_meets 30 = .ok (.iload_n 1, 1) := by decide +kernel
theorem dX7_meets_31 : decode cX7_meets 31 = .ok (.iload_n 2, 1) := by decide +kernel
theorem dX7_meets_32 : decode cX7_meets 32 = .ok (.iconst 0, 1) := by decide +kernel
theorem dX7_meets_33 : decode cX7_meets 33 = .ok (.invokevirtual 277, 3) := by decide +kernel
theorem dX7_meets_36 : decode cX7_meets 36 = .ok (.goto 8, 3) := by decide +kernel
theorem dX7_meets_39 : decode cX7_meets 39 = .ok (.aload_n 0, 1) := by decide +kernel
theorem dX7_meets_40 : decode cX7_meets 40 = .ok (.iconst (-1), 1) := by decide +kernel
theorem dX7_meets_41 : decode cX7_meets 41 = .ok (.invokevirtual 72, 3) := by decide +kernel
theorem dX7_meets_44 : decode cX7_meets 44 = .ok (.ireturn, 1) := by decide +kernel
theorem dX7_isOther_0 : decode cX7_isOther 0 = .ok (.iload_n 2, 1) := by decide +kernel
theorem dX7_isOther_1 : decode cX7_isOther 1 = .ok (.bipush 12, 2) := by decide +kernel
theorem dX7_isOther_3 : decode cX7_isOther 3 = .ok (.invokestatic 80, 3) := by decide +kernel
theorem dX7_isOther_6 : decode cX7_isOther 6 = .ok (.ifCond .eq 12, 3) := by decide +kernel
theorem dX7_isOther_9 : decode cX7_isOther 9 = .ok (.iload_n 3, 1) := by decide +kernel
theorem dX7_isOther_10 : decode cX7_isOther 10 = .ok (.bipush 12, 2) := by decide +kernel
theorem dX7_isOther_12 : decode cX7_isOther 12 = .ok (.invokestatic 80, 3) := by decide +kernel
theorem dX7_isOther_15 : decode cX7_isOther 15 = .ok (.ifCond .ne 5, 3) := by decide +kernel
theorem dX7_isOther_18 : decode cX7_isOther 18 = .ok (.iconst 0, 1) := by decide +kernel
theorem dX7_isOther_19 : decode cX7_isOther 19 = .ok (.ireturn, 1) := by decide +kernel
theorem dX7_isOther_20 : decode cX7_isOther 20 = .ok (.iconst 0, 1) := by decide +kernel
theorem dX7_isOther_21 : decode cX7_isOther 21 = .ok (.istore 4, 2) := by decide +kernel
theorem dX7_isOther_23 : decode cX7_isOther 23 = .ok (.iload 4, 2) := by decide +kernel
theorem dX7_isOther_25 : decode cX7_isOther 25 = .ok (.aload_n 0, 1) := by decide +kernel
theorem dX7_isOther_26 : decode cX7_isOther 26 = .ok (.getfield 262, 3) := by decide +kernel
theorem dX7_isOther_29 : decode cX7_isOther 29 = .ok (.if_icmp .ge 28, 3) := by decide +kernel
theorem dX7_isOther_32 : decode cX7_isOther 32 = .ok (.iload 4, 2) := by decide +kernel
theorem dX7_isOther_34 : decode cX7_isOther 34 = .ok (.iload_n 1, 1) := by decide +kernel
theorem dX7_isOther_35 : decode cX7_isOther 35 = .ok (.if_icmp .eq 16, 3) := by decide +kernel
theorem dX7_isOther_38 : decode cX7_isOther 38 = .ok (.aload_n 0, 1) := by decide +kernel
theorem dX7_isOther_39 : decode cX7_isOther 39 = .ok (.iload 4, 2) := by decide +kernel
theorem dX7_isOther_41 : decode cX7_isOther 41 = .ok (.iload_n 2, 1) := by decide +kernel
theorem dX7_isOther_42 : decode cX7_isOther 42 = .ok (.iload_n 3, 1) := by decide +kernel
theorem dX7_isOther_43 : decode cX7_isOther 43 = .ok (.invokevirtual 265, 3) := by decide +kernel
theorem dX7_isOther_46 : decode cX7_isOther 46 = .ok (.ifCond .eq 5, 3) := by decide +kernel
theorem dX7_isOther_49 : decode cX7_isOther 49 = .ok (.iconst 1, 1) := by decide +kernel
theorem dX7_isOther_50 : decode cX7_isOther 50 = .ok (.ireturn, 1) := by decide +kernel
theorem dX7_isOther_51 : decode cX7_isOther 51 = .ok (.iinc 4 1, 3) := by decide +kernel
theorem dX7_isOther_54 : decode cX7_isOther 54 = .ok (.goto (-31), 3) := by decide +kernel
theorem dX7_isOther_57 : decode cX7_isOther 57 = .ok (.iconst 0, 1) := by decide +kernel
theorem dX7_isOther_58 : decode cX7_isOther 58 = .ok (.ireturn, 1) := by decide +kernel
theorem dX7_leaks_0 : decode cX7_leaks 0 = .ok (.iconst 0, 1) := by decide +kernel
theorem dX7_leaks_1 : decode cX7_leaks 1 = .ok (.istore_n 1, 1) := by decide +kernel
theorem dX7_leaks_2 : decode cX7_leaks 2 = .ok (.iload_n 1, 1) := by decide +kernel
theorem dX7_leaks_3 : decode cX7_leaks 3 = .ok (.aload_n 0, 1) := by decide +kernel
theorem dX7_leaks_4 : decode cX7_leaks 4 = .ok (.getfield 262, 3) := by decide +kernel
theorem dX7_leaks_7 : decode cX7_leaks 7 = .ok (.if_icmp .ge 133, 3) := by decide +kernel
theorem dX7_leaks_10 : decode cX7_leaks 10 = .ok (.iconst 0, 1) := by decide +kernel
theorem dX7_leaks_11 : decode cX7_leaks 11 = .ok (.istore_n 2, 1) := by decide +kernel
theorem dX7_leaks_12 : decode cX7_leaks 12 = .ok (.iload_n 2, 1) := by decide +kernel
theorem dX7_leaks_13 : decode cX7_leaks 13 = .ok (.aload_n 0, 1) := by decide +kernel
theorem dX7_leaks_14 : decode cX7_leaks 14 = .ok (.getfield 19, 3) := by decide +kernel
theorem dX7_leaks_17 : decode cX7_leaks 17 = .ok (.aload_n 0, 1) := by decide +kernel
theorem dX7_leaks_18 : decode cX7_leaks 18 = .ok (.getfield 46, 3) := by decide +kernel
theorem dX7_leaks_21 : decode cX7_leaks 21 = .ok (.iload_n 1, 1) := by decide +kernel
theorem dX7_leaks_22 : decode cX7_leaks 22 = .ok (.iaload, 1) := by decide +kernel
theorem dX7_leaks_23 : decode cX7_leaks 23 = .ok (.iaload, 1) := by decide +kernel
theorem dX7_leaks_24 : decode cX7_leaks 24 = .ok (.if_icmp .ge 21, 3) := by decide +kernel
theorem dX7_leaks_27 : decode cX7_leaks 27 = .ok (.aload_n 0, 1) := by decide +kernel
theorem dX7_leaks_28 : decode cX7_leaks 28 = .ok (.iload_n 1, 1) := by decide +kernel
theorem dX7_leaks_29 : decode cX7_leaks 29 = .ok (.iload_n 2, 1) := by decide +kernel
theorem dX7_leaks_30 : decode cX7_leaks 30 = .ok (.iconst 1, 1) := by decide +kernel
theorem dX7_leaks_31 : decode cX7_leaks 31 = .ok (.invokevirtual 277, 3) := by decide +kernel
theorem dX7_leaks_34 : decode cX7_leaks 34 = .ok (.ifCond .lt 5, 3) := by decide +kernel
theorem dX7_leaks_37 : decode cX7_leaks 37 = .ok (.iload_n 1, 1) := by decide +kernel
theorem dX7_leaks_38 : decode cX7_leaks 38 = .ok (.ireturn, 1) := by decide +kernel
theorem dX7_leaks_39 : decode cX7_leaks 39 = .ok (.iinc 2 1, 3) := by decide +kernel
theorem dX7_leaks_42 : decode cX7_leaks 42 = .ok (.goto (-30), 3) := by decide +kernel
theorem dX7_leaks_45 : decode cX7_leaks 45 = .ok (.iconst 0, 1) := by decide +kernel
theorem dX7_leaks_46 : decode cX7_leaks 46 = .ok (.istore_n 2, 1) := by decide +kernel
theorem dX7_leaks_47 : decode cX7_leaks 47 = .ok (.iload_n 2, 1) := by decide +kernel
theorem dX7_leaks_48 : decode cX7_leaks 48 = .ok (.bipush 12, 2) := by decide +kernel
theorem dX7_leaks_50 : decode cX7_leaks 50 = .ok (.if_icmp .ge 84, 3) := by decide +kernel
theorem dX7_leaks_53 : decode cX7_leaks 53 = .ok (.iconst 0, 1) := by decide +kernel
theorem dX7_leaks_54 : decode cX7_leaks 54 = .ok (.istore_n 3, 1) := by decide +kernel
theorem dX7_leaks_55 : decode cX7_leaks 55 = .ok (.iload_n 3, 1) := by decide +kernel
theorem dX7_leaks_56 : decode cX7_leaks 56 = .ok (.bipush 12, 2) := by decide +kernel
theorem dX7_leaks_58 : decode cX7_leaks 58 = .ok (.if_icmp .ge 70, 3) := by decide +kernel
theorem dX7_leaks_61 : decode cX7_leaks 61 = .ok (.aload_n 0, 1) := by decide +kernel
theorem dX7_leaks_62 : decode cX7_leaks 62 = .ok (.iload_n 1, 1) := by decide +kernel
theorem dX7_leaks_63 : decode cX7_leaks 63 = .ok (.iload_n 2, 1) := by decide +kernel
theorem dX7_leaks_64 : decode cX7_leaks 64 = .ok (.iload_n 3, 1) := by decide +kernel
theorem dX7_leaks_65 : decode cX7_leaks 65 = .ok (.invokevirtual 265, 3) := by decide +kernel
theorem dX7_leaks_68 : decode cX7_leaks 68 = .ok (.iconst 1, 1) := by decide +kernel
theorem dX7_leaks_69 : decode cX7_leaks 69 = .ok (.if_icmp .ne 53, 3) := by decide +kernel
theorem dX7_leaks_72 : decode cX7_leaks 72 = .ok (.aload_n 0, 1) := by decide +kernel
theorem dX7_leaks_73 : decode cX7_leaks 73 = .ok (.iload_n 1, 1) := by decide +kernel
theorem dX7_leaks_74 : decode cX7_leaks 74 = .ok (.iload_n 2, 1) := by decide +kernel
theorem dX7_leaks_75 : decode cX7_leaks 75 = .ok (.iconst 1, 1) := by decide +kernel
theorem dX7_leaks_76 : decode cX7_leaks 76 = .ok (.isub, 1) := by decide +kernel
theorem dX7_leaks_77 : decode cX7_leaks 77 = .ok (.iload_n 3, 1) := by decide +kernel
theorem dX7_leaks_78 : decode cX7_leaks 78 = .ok (.invokevirtual 280, 3) := by decide +kernel
theorem dX7_leaks_81 : decode cX7_leaks 81 = .ok (.ifCond .ne 39, 3) := by decide +kernel
theorem dX7_leaks_84 : decode cX7_leaks 84 = .ok (.aload_n 0, 1) := by decide +kernel
theorem dX7_leaks_85 : decode cX7_leaks 85 = .ok (.iload_n 1, 1) := by decide +kernel
theorem dX7_leaks_86 : decode cX7_leaks 86 = .ok (.iload_n 2, 1) := by decide +kernel
theorem dX7_leaks_87 : decode cX7_leaks 87 = .ok (.iconst 1, 1) := by decide +kernel
theorem dX7_leaks_88 : decode cX7_leaks 88 = .ok (.iadd, 1) := by decide +kernel
theorem dX7_leaks_89 : decode cX7_leaks 89 = .ok (.iload_n 3, 1) := by decide +kernel
theorem dX7_leaks_90 : decode cX7_leaks 90 = .ok (.invokevirtual 280, 3) := by decide +kernel
theorem dX7_leaks_93 : decode cX7_leaks 93 = .ok (.ifCond .ne 27, 3) := by decide +kernel
theorem dX7_leaks_96 : decode cX7_leaks 96 = .ok (.aload_n 0, 1) := by decide +kernel
theorem dX7_leaks_97 : decode cX7_leaks 97 = .ok (.iload_n 1, 1) := by decide +kernel
theorem dX7_leaks_98 : decode cX7_leaks 98 = .ok (.iload_n 2, 1) := by decide +kernel
theorem dX7_leaks_99 : decode cX7_leaks 99 = .ok (.iload_n 3, 1) := by decide +kernel
theorem dX7_leaks_100 : decode cX7_leaks 100 = .ok (.iconst 1, 1) := by decide +kernel
theorem dX7_leaks_101 : decode cX7_leaks 101 = .ok (.isub, 1) := by decide +kernel
theorem dX7_leaks_102 : decode cX7_leaks 102 = .ok (.invokevirtual 280, 3) := by decide +kernel
theorem dX7_leaks_105 : decode cX7_leaks 105 = .ok (.ifCond .ne 15, 3) := by decide +kernel
theorem dX7_leaks_108 : decode cX7_leaks 108 = .ok (.aload_n 0, 1) := by decide +kernel
theorem dX7_leaks_109 : decode cX7_leaks 109 = .ok (.iload_n 1, 1) := by decide +kernel
theorem dX7_leaks_110 : decode cX7_leaks 110 = .ok (.iload_n 2, 1) := by decide +kernel
theorem dX7_leaks_111 : decode cX7_leaks 111 = .ok (.iload_n 3, 1) := by decide +kernel
theorem dX7_leaks_112 : decode cX7_leaks 112 = .ok (.iconst 1, 1) := by decide +kernel
theorem dX7_leaks_113 : decode cX7_leaks 113 = .ok (.iadd, 1) := by decide +kernel
theorem dX7_leaks_114 : decode cX7_leaks 114 = .ok (.invokevirtual 280, 3) := by decide +kernel
theorem dX7_leaks_117 : decode cX7_leaks 117 = .ok (.ifCond .eq 5, 3) := by decide +kernel
theorem dX7_leaks_120 : decode cX7_leaks 120 = .ok (.iload_n 1, 1) := by decide +kernel
theorem dX7_leaks_121 : decode cX7_leaks 121 = .ok (.ireturn, 1) := by decide +kernel
theorem dX7_leaks_122 : decode cX7_leaks 122 = .ok (.iinc 3 1, 3) := by decide +kernel
theorem dX7_leaks_125 : decode cX7_leaks 125 = .ok (.goto (-70), 3) := by decide +kernel
theorem dX7_leaks_128 : decode cX7_leaks 128 = .ok (.iinc 2 1, 3) := by decide +kernel
theorem dX7_leaks_131 : decode cX7_leaks 131 = .ok (.goto (-84), 3) := by decide +kernel
theorem dX7_leaks_134 : decode cX7_leaks 134 = .ok (.iinc 1 1, 3) := by decide +kernel
theorem dX7_leaks_137 : decode cX7_leaks 137 = .ok (.goto (-135), 3) := by decide +kernel
theorem dX7_leaks_140 : decode cX7_leaks 140 = .ok (.bipush (-9), 2) := by decide +kernel
theorem dX7_leaks_142 : decode cX7_leaks 142 = .ok (.ireturn, 1) := by decide +kernel
theorem dX7_leak_0 : decode cX7_leak 0 = .ok (.aload_n 0, 1) := by decide +kernel
theorem dX7_leak_1 : decode cX7_leak 1 = .ok (.invokevirtual 284, 3) := by decide +kernel
theorem dX7_leak_4 : decode cX7_leak 4 = .ok (.ireturn, 1) := by decide +kernel
theorem dX7_meetings_0 : decode cX7_meetings 0 = .ok (.iconst 0, 1) := by decide +kernel
theorem dX7_meetings_1 : decode cX7_meetings 1 = .ok (.istore_n 1, 1) := by decide +kernel
theorem dX7_meetings_2 : decode cX7_meetings 2 = .ok (.iconst 0, 1) := by decide +kernel
theorem dX7_meetings_3 : decode cX7_meetings 3 = .ok (.istore_n 2, 1) := by decide +kernel
theorem dX7_meetings_4 : decode cX7_meetings 4 = .ok (.iload_n 2, 1) := by decide +kernel
theorem dX7_meetings_5 : decode cX7_meetings 5 = .ok (.aload_n 0, 1) := by decide +kernel
theorem dX7_meetings_6 : decode cX7_meetings 6 = .ok (.getfield 262, 3) := by decide +kernel
theorem dX7_meetings_9 : decode cX7_meetings 9 = .ok (.if_icmp .ge 54, 3) := by decide +kernel
theorem dX7_meetings_12 : decode cX7_meetings 12 = .ok (.iconst 0, 1) := by decide +kernel
theorem dX7_meetings_13 : decode cX7_meetings 13 = .ok (.istore_n 3, 1) := by decide +kernel
theorem dX7_meetings_14 : decode cX7_meetings 14 = .ok (.iload_n 3, 1) := by decide +kernel
theorem dX7_meetings_15 : decode cX7_meetings 15 = .ok (.aload_n 0, 1) := by decide +kernel
theorem dX7_meetings_16 : decode cX7_meetings 16 = .ok (.getfield 19, 3) := by decide +kernel
theorem dX7_meetings_19 : decode cX7_meetings 19 = .ok (.aload_n 0, 1) := by decide +kernel
theorem dX7_meetings_20 : decode cX7_meetings 20 = .ok (.getfield 46, 3) := by decide +kernel
theorem dX7_meetings_23 : decode cX7_meetings 23 = .ok (.iload_n 2, 1) := by decide +kernel
theorem dX7_meetings_24 : decode cX7_meetings 24 = .ok (.iaload, 1) := by decide +kernel
theorem dX7_meetings_25 : decode cX7_meetings 25 = .ok (.iaload, 1) := by decide +kernel
theorem dX7_meetings_26 : decode cX7_meetings 26 = .ok (.if_icmp .ge 31, 3) := by decide +kernel
theorem dX7_meetings_29 : decode cX7_meetings 29 = .ok (.iload_n 1, 1) := by decide +kernel
theorem dX7_meetings_30 : decode cX7_meetings 30 = .ok (.aload_n 0, 1) := by decide +kernel
theorem dX7_meetings_31 : decode cX7_meetings 31 = .ok (.iload_n 2, 1) := by decide +kernel
theorem dX7_meetings_32 : decode cX7_meetings 32 = .ok (.iload_n 3, 1) := by decide +kernel
theorem dX7_meetings_33 : decode cX7_meetings 33 = .ok (.iconst 0, 1) := by decide +kernel
theorem dX7_meetings_34 : decode cX7_meetings 34 = .ok (.invokevirtual 277, 3) := by decide +kernel
theorem dX7_meetings_37 : decode cX7_meetings 37 = .ok (.bipush 10, 2) := by decide +kernel
theorem dX7_meetings_39 : decode cX7_meetings 39 = .ok (.idiv, 1) := by decide +kernel
theorem dX7_meetings_40 : decode cX7_meetings 40 = .ok (.iload_n 2, 1) := by decide +kernel
theorem dX7_meetings_41 : decode cX7_meetings 41 = .ok (.if_icmp .le 7, 3) := by decide +kernel
theorem dX7_meetings_44 : decode cX7_meetings 44 = .ok (.iconst 1, 1) := by decide +kernel
theorem dX7_meetings_45 : decode cX7_meetings 45 = .ok (.goto 4, 3) := by decide +kernel
theorem dX7_meetings_48 : decode cX7_meetings 48 = .ok (.iconst 0, 1) := by decide +kernel
theorem dX7_meetings_49 : decode cX7_meetings 49 = .ok (.iadd, 1) := by decide +kernel
theorem dX7_meetings_50 : decode cX7_meetings 50 = .ok (.istore_n 1, 1) := by decide +kernel
theorem dX7_meetings_51 : decode cX7_meetings 51 = .ok (.iinc 3 1, 3) := by decide +kernel
theorem dX7_meetings_54 : decode cX7_meetings 54 = .ok (.goto (-40), 3) := by decide +kernel
theorem dX7_meetings_57 : decode cX7_meetings 57 = .ok (.iinc 2 1, 3) := by decide +kernel
theorem dX7_meetings_60 : decode cX7_meetings 60 = .ok (.goto (-56), 3) := by decide +kernel
theorem dX7_meetings_63 : decode cX7_meetings 63 = .ok (.iload_n 1, 1) := by decide +kernel
theorem dX7_meetings_64 : decode cX7_meetings 64 = .ok (.ireturn, 1) := by decide +kernel
theorem dX7_floorNet_0 : decode cX7_floorNet 0 = .ok (.aload_n 0, 1) := by decide +kernel
theorem dX7_floorNet_1 : decode cX7_floorNet 1 = .ok (.getfield 262, 3) := by decide +kernel
theorem dX7_floorNet_4 : decode cX7_floorNet 4 = .ok (.ifCond .eq 17, 3) := by decide +kernel
theorem dX7_floorNet_7 : decode cX7_floorNet 7 = .ok (.aload_n 0, 1) := by decide +kernel
theorem dX7_floorNet_8 : decode cX7_floorNet 8 = .ok (.invokevirtual 268, 3) := by decide +kernel
theorem dX7_floorNet_11 : decode cX7_floorNet 11 = .ok (.ifCond .ge 10, 3) := by decide +kernel
theorem dX7_floorNet_14 : decode cX7_floorNet 14 = .ok (.aload_n 0, 1) := by decide +kernel
theorem dX7_floorNet_15 : decode cX7_floorNet 15 = .ok (.invokevirtual 284, 3) := by decide +kernel
theorem dX7_floorNet_18 : decode cX7_floorNet 18 = .ok (.ifCond .lt 10, 3) := by decide +kernel
theorem dX7_floorNet_21 : decode cX7_floorNet 21 = .ok (.aload_n 0, 1) := by decide +kernel
theorem dX7_floorNet_22 : decode cX7_floorNet 22 = .ok (.bipush (-3), 2) := by decide +kernel
theorem dX7_floorNet_24 : decode cX7_floorNet 24 = .ok (.invokevirtual 72, 3) := by decide +kernel
theorem dX7_floorNet_27 : decode cX7_floorNet 27 = .ok (.ireturn, 1) := by decide +kernel
theorem dX7_floorNet_28 : decode cX7_floorNet 28 = .ok (.aload_n 0, 1) := by decide +kernel
theorem dX7_floorNet_29 : decode cX7_floorNet 29 = .ok (.getfield 226, 3) := by decide +kernel
theorem dX7_floorNet_32 : decode cX7_floorNet 32 = .ok (.bipush 6, 2) := by decide +kernel
theorem dX7_floorNet_34 : decode cX7_floorNet 34 = .ok (.if_icmp .eq 21, 3) := by decide +kernel
theorem dX7_floorNet_37 : decode cX7_floorNet 37 = .ok (.aload_n 0, 1) := by decide +kernel
theorem dX7_floorNet_38 : decode cX7_floorNet 38 = .ok (.getfield 262, 3) := by decide +kernel
theorem dX7_floorNet_41 : decode cX7_floorNet 41 = .ok (.bipush 8, 2) := by decide +kernel
theorem dX7_floorNet_43 : decode cX7_floorNet 43 = .ok (.if_icmp .gt 12, 3) := by decide +kernel
theorem dX7_floorNet_46 : decode cX7_floorNet 46 = .ok (.aload_n 0, 1) := by decide +kernel
theorem dX7_floorNet_47 : decode cX7_floorNet 47 = .ok (.invokevirtual 287, 3) := by decide +kernel
theorem dX7_floorNet_50 : decode cX7_floorNet 50 = .ok (.bipush 12, 2) := by decide +kernel
theorem dX7_floorNet_52 : decode cX7_floorNet 52 = .ok (.if_icmp .le 10, 3) := by decide +kernel
theorem dX7_floorNet_55 : decode cX7_floorNet 55 = .ok (.aload_n 0, 1) := by decide +kernel
theorem dX7_floorNet_56 : decode cX7_floorNet 56 = .ok (.bipush (-6), 2) := by decide +kernel
theorem dX7_floorNet_58 : decode cX7_floorNet 58 = .ok (.invokevirtual 72, 3) := by decide +kernel
theorem dX7_floorNet_61 : decode cX7_floorNet 61 = .ok (.ireturn, 1) := by decide +kernel
theorem dX7_floorNet_62 : decode cX7_floorNet 62 = .ok (.aload_n 0, 1) := by decide +kernel
theorem dX7_floorNet_63 : decode cX7_floorNet 63 = .ok (.getfield 226, 3) := by decide +kernel
theorem dX7_floorNet_66 : decode cX7_floorNet 66 = .ok (.istore_n 1, 1) := by decide +kernel
theorem dX7_floorNet_67 : decode cX7_floorNet 67 = .ok (.aload_n 0, 1) := by decide +kernel
theorem dX7_floorNet_68 : decode cX7_floorNet 68 = .ok (.dup, 1) := by decide +kernel
theorem dX7_floorNet_69 : decode cX7_floorNet 69 = .ok (.getfield 226, 3) := by decide +kernel
theorem dX7_floorNet_72 : decode cX7_floorNet 72 = .ok (.iconst 1, 1) := by decide +kernel
theorem dX7_floorNet_73 : decode cX7_floorNet 73 = .ok (.iadd, 1) := by decide +kernel
theorem dX7_floorNet_74 : decode cX7_floorNet 74 = .ok (.putfield 226, 3) := by decide +kernel
theorem dX7_floorNet_77 : decode cX7_floorNet 77 = .ok (.aload_n 0, 1) := by decide +kernel
theorem dX7_floorNet_78 : decode cX7_floorNet 78 = .ok (.getfield 31, 3) := by decide +kernel
theorem dX7_floorNet_81 : decode cX7_floorNet 81 = .ok (.iload_n 1, 1) := by decide +kernel
theorem dX7_floorNet_82 : decode cX7_floorNet 82 = .ok (.aload_n 0, 1) := by decide +kernel
theorem dX7_floorNet_83 : decode cX7_floorNet 83 = .ok (.getfield 262, 3) := by decide +kernel
theorem dX7_floorNet_86 : decode cX7_floorNet 86 = .ok (.iastore, 1) := by decide +kernel
theorem dX7_floorNet_87 : decode cX7_floorNet 87 = .ok (.aload_n 0, 1) := by decide +kernel
theorem dX7_floorNet_88 : decode cX7_floorNet 88 = .ok (.getfield 34, 3) := by decide +kernel
theorem dX7_floorNet_91 : decode cX7_floorNet 91 = .ok (.iload_n 1, 1) := by decide +kernel
theorem dX7_floorNet_92 : decode cX7_floorNet 92 = .ok (.iconst 0, 1) := by decide +kernel
theorem dX7_floorNet_93 : decode cX7_floorNet 93 = .ok (.iastore, 1) := by decide +kernel
theorem dX7_floorNet_94 : decode cX7_floorNet 94 = .ok (.iconst 0, 1) := by decide +kernel
theorem dX7_floorNet_95 : decode cX7_floorNet 95 = .ok (.istore_n 2, 1) := by decide +kernel
theorem dX7_floorNet_96 : decode cX7_floorNet 96 = .ok (.iload_n 2, 1) := by decide +kernel
theorem dX7_floorNet_97 : decode cX7_floorNet 97 = .ok (.aload_n 0, 1) := by decide +kernel
theorem dX7_floorNet_98 : decode cX7_floorNet 98 = .ok (.getfield 262, 3) := by decide +kernel
theorem dX7_floorNet_101 : decode cX7_floorNet 101 = .ok (.if_icmp .ge 26, 3) := by decide +kernel
theorem dX7_floorNet_104 : decode cX7_floorNet 104 = .ok (.aload_n 0, 1) := by decide +kernel
theorem dX7_floorNet_105 : decode cX7_floorNet 105 = .ok (.getfield 37, 3) := by decide +kernel
theorem dX7_floorNet_108 : decode cX7_floorNet 108 = .ok (.bipush 8, 2) := by decide +kernel
theorem dX7_floorNet_110 : decode cX7_floorNet 110 = .ok (.iload_n 1, 1) := by decide +kernel
theorem dX7_floorNet_111 : decode cX7_floorNet 111 = .ok (.imul, 1) := by decide +kernel
theorem dX7_floorNet_112 : decode cX7_floorNet 112 = .ok (.iload_n 2, 1) := by decide +kernel
theorem dX7_floorNet_113 : decode cX7_floorNet 113 = .ok (.iadd, 1) := by decide +kernel
theorem dX7_floorNet_114 : decode cX7_floorNet 114 = .ok (.aload_n 0, 1) := by decide +kernel
theorem dX7_floorNet_115 : decode cX7_floorNet 115 = .ok (.getfield 46, 3) := by decide +kernel
theorem dX7_floorNet_118 : decode cX7_floorNet 118 = .ok (.iload_n 2, 1) := by decide +kernel
theorem dX7_floorNet_119 : decode cX7_floorNet 119 = .ok (.iaload, 1) := by decide +kernel
theorem dX7_floorNet_120 : decode cX7_floorNet 120 = .ok (.iastore, 1) := by decide +kernel
theorem dX7_floorNet_121 : decode cX7_floorNet 121 = .ok (.iinc 2 1, 3) := by decide +kernel
theorem dX7_floorNet_124 : decode cX7_floorNet 124 = .ok (.goto (-28), 3) := by decide +kernel
theorem dX7_floorNet_127 : decode cX7_floorNet 127 = .ok (.iconst 0, 1) := by decide +kernel
theorem dX7_floorNet_128 : decode cX7_floorNet 128 = .ok (.istore_n 2, 1) := by decide +kernel
theorem dX7_floorNet_129 : decode cX7_floorNet 129 = .ok (.iload_n 2, 1) := by decide +kernel
theorem dX7_floorNet_130 : decode cX7_floorNet 130 = .ok (.aload_n 0, 1) := by decide +kernel
theorem dX7_floorNet_131 : decode cX7_floorNet 131 = .ok (.getfield 262, 3) := by decide +kernel
theorem dX7_floorNet_134 : decode cX7_floorNet 134 = .ok (.if_icmp .ge 108, 3) := by decide +kernel
theorem dX7_floorNet_137 : decode cX7_floorNet 137 = .ok (.iconst 0, 1) := by decide +kernel
theorem dX7_floorNet_138 : decode cX7_floorNet 138 = .ok (.istore_n 3, 1) := by decide +kernel
theorem dX7_floorNet_139 : decode cX7_floorNet 139 = .ok (.iload_n 3, 1) := by decide +kernel
theorem dX7_floorNet_140 : decode cX7_floorNet 140 = .ok (.aload_n 0, 1) := by decide +kernel
theorem dX7_floorNet_141 : decode cX7_floorNet 141 = .ok (.getfield 19, 3) := by decide +kernel
theorem dX7_floorNet_144 : decode cX7_floorNet 144 = .ok (.aload_n 0, 1) := by decide +kernel
theorem dX7_floorNet_145 : decode cX7_floorNet 145 = .ok (.getfield 46, 3) := by decide +kernel
theorem dX7_floorNet_148 : decode cX7_floorNet 148 = .ok (.iload_n 2, 1) := by decide +kernel
theorem dX7_floorNet_149 : decode cX7_floorNet 149 = .ok (.iaload, 1) := by decide +kernel
theorem dX7_floorNet_150 : decode cX7_floorNet 150 = .ok (.iaload, 1) := by decide +kernel
theorem dX7_floorNet_151 : decode cX7_floorNet 151 = .ok (.if_icmp .ge 85, 3) := by decide +kernel
theorem dX7_floorNet_154 : decode cX7_floorNet 154 = .ok (.aload_n 0, 1) := by decide +kernel
theorem dX7_floorNet_155 : decode cX7_floorNet 155 = .ok (.iload_n 2, 1) := by decide +kernel
theorem dX7_floorNet_156 : decode cX7_floorNet 156 = .ok (.iload_n 3, 1) := by decide +kernel
theorem dX7_floorNet_157 : decode cX7_floorNet 157 = .ok (.iconst 0, 1) := by decide +kernel
theorem dX7_floorNet_158 : decode cX7_floorNet 158 = .ok (.invokevirtual 277, 3) := by decide +kernel
theorem dX7_floorNet_161 : decode cX7_floorNet 161 = .ok (.istore 4, 2) := by decide +kernel
theorem dX7_floorNet_163 : decode cX7_floorNet 163 = .ok (.iload 4, 2) := by decide +kernel
theorem dX7_floorNet_165 : decode cX7_floorNet 165 = .ok (.ifCond .lt 65, 3) := by decide +kernel
theorem dX7_floorNet_168 : decode cX7_floorNet 168 = .ok (.iload 4, 2) := by decide +kernel
theorem dX7_floorNet_170 : decode cX7_floorNet 170 = .ok (.bipush 10, 2) := by decide +kernel
theorem dX7_floorNet_172 : decode cX7_floorNet 172 = .ok (.idiv, 1) := by decide +kernel
theorem dX7_floorNet_173 : decode cX7_floorNet 173 = .ok (.iload_n 2, 1) := by decide +kernel
theorem dX7_floorNet_174 : decode cX7_floorNet 174 = .ok (.if_icmp .ge 6, 3) := by decide +kernel
theorem dX7_floorNet_177 : decode cX7_floorNet 177 = .ok (.goto 53, 3) := by decide +kernel
theorem dX7_floorNet_180 : decode cX7_floorNet 180 = .ok (.aload_n 0, 1) := by decide +kernel
theorem dX7_floorNet_181 : decode cX7_floorNet 181 = .ok (.getfield 40, 3) := by decide +kernel
theorem dX7_floorNet_184 : decode cX7_floorNet 184 = .ok (.bipush 12, 2) := by decide +kernel
theorem dX7_floorNet_186 : decode cX7_floorNet 186 = .ok (.iload_n 1, 1) := by decide +kernel
theorem dX7_floorNet_187 : decode cX7_floorNet 187 = .ok (.imul, 1) := by decide +kernel
theorem dX7_floorNet_188 : decode cX7_floorNet 188 = .ok (.aload_n 0, 1) := by decide +kernel
theorem dX7_floorNet_189 : decode cX7_floorNet 189 = .ok (.getfield 34, 3) := by decide +kernel
theorem dX7_floorNet_192 : decode cX7_floorNet 192 = .ok (.iload_n 1, 1) := by decide +kernel
theorem dX7_floorNet_193 : decode cX7_floorNet 193 = .ok (.iaload, 1) := by decide +kernel
theorem dX7_floorNet_194 : decode cX7_floorNet 194 = .ok (.iadd, 1) := by decide +kernel
theorem dX7_floorNet_195 : decode cX7_floorNet 195 = .ok (.bipush 10, 2) := by decide +kernel
theorem dX7_floorNet_197 : decode cX7_floorNet 197 = .ok (.iload_n 2, 1) := by decide +kernel
theorem dX7_floorNet_198 : decode cX7_floorNet 198 = .ok (.imul, 1) := by decide +kernel
theorem dX7_floorNet_199 : decode cX7_floorNet 199 = .ok (.iload_n 3, 1) := by decide +kernel
theorem dX7_floorNet_200 : decode cX7_floorNet 200 = .ok (.iadd, 1) := by decide +kernel
theorem dX7_floorNet_201 : decode cX7_floorNet 201 = .ok (.iastore, 1) := by decide +kernel
theorem dX7_floorNet_202 : decode cX7_floorNet 202 = .ok (.aload_n 0, 1) := by decide +kernel
theorem dX7_floorNet_203 : decode cX7_floorNet 203 = .ok (.getfield 43, 3) := by decide +kernel
theorem dX7_floorNet_206 : decode cX7_floorNet 206 = .ok (.bipush 12, 2) := by decide +kernel
theorem dX7_floorNet_208 : decode cX7_floorNet 208 = .ok (.iload_n 1, 1) := by decide +kernel
theorem dX7_floorNet_209 : decode cX7_floorNet 209 = .ok (.imul, 1) := by decide +kernel
theorem dX7_floorNet_210 : decode cX7_floorNet 210 = .ok (.aload_n 0, 1) := by decide +kernel
theorem dX7_floorNet_211 : decode cX7_floorNet 211 = .ok (.getfield 34, 3) := by decide +kernel
theorem dX7_floorNet_214 : decode cX7_floorNet 214 = .ok (.iload_n 1, 1) := by decide +kernel
theorem dX7_floorNet_215 : decode cX7_floorNet 215 = .ok (.iaload, 1) := by decide +kernel
theorem dX7_floorNet_216 : decode cX7_floorNet 216 = .ok (.iadd, 1) := by decide +kernel
theorem dX7_floorNet_217 : decode cX7_floorNet 217 = .ok (.iload 4, 2) := by decide +kernel
theorem dX7_floorNet_219 : decode cX7_floorNet 219 = .ok (.iastore, 1) := by decide +kernel
theorem dX7_floorNet_220 : decode cX7_floorNet 220 = .ok (.aload_n 0, 1) := by decide +kernel
theorem dX7_floorNet_221 : decode cX7_floorNet 221 = .ok (.getfield 34, 3) := by decide +kernel
theorem dX7_floorNet_224 : decode cX7_floorNet 224 = .ok (.iload_n 1, 1) := by decide +kernel
theorem dX7_floorNet_225 : decode cX7_floorNet 225 = .ok (.dup2, 1) := by decide +kernel
theorem dX7_floorNet_226 : decode cX7_floorNet 226 = .ok (.iaload, 1) := by decide +kernel
theorem dX7_floorNet_227 : decode cX7_floorNet 227 = .ok (.iconst 1, 1) := by decide +kernel
theorem dX7_floorNet_228 : decode cX7_floorNet 228 = .ok (.iadd, 1) := by decide +kernel
theorem dX7_floorNet_229 : decode cX7_floorNet 229 = .ok (.iastore, 1) := by decide +kernel
theorem dX7_floorNet_230 : decode cX7_floorNet 230 = .ok (.iinc 3 1, 3) := by decide +kernel
theorem dX7_floorNet_233 : decode cX7_floorNet 233 = .ok (.goto (-94), 3) := by decide +kernel
theorem dX7_floorNet_236 : decode cX7_floorNet 236 = .ok (.iinc 2 1, 3) := by decide +kernel
theorem dX7_floorNet_239 : decode cX7_floorNet 239 = .ok (.goto (-110), 3) := by decide +kernel
theorem dX7_floorNet_242 : decode cX7_floorNet 242 = .ok (.iload_n 1, 1) := by decide +kernel
theorem dX7_floorNet_243 : decode cX7_floorNet 243 = .ok (.ireturn, 1) := by decide +kernel
theorem dX7_clear_0 : decode cX7_clear 0 = .ok (.aload_n 0, 1) := by decide +kernel
theorem dX7_clear_1 : decode cX7_clear 1 = .ok (.getfield 262, 3) := by decide +kernel
theorem dX7_clear_4 : decode cX7_clear 4 = .ok (.istore_n 1, 1) := by decide +kernel
theorem dX7_clear_5 : decode cX7_clear 5 = .ok (.aload_n 0, 1) := by decide +kernel
theorem dX7_clear_6 : decode cX7_clear 6 = .ok (.iconst 0, 1) := by decide +kernel
theorem dX7_clear_7 : decode cX7_clear 7 = .ok (.putfield 262, 3) := by decide +kernel
theorem dX7_clear_10 : decode cX7_clear 10 = .ok (.iload_n 1, 1) := by decide +kernel
theorem dX7_clear_11 : decode cX7_clear 11 = .ok (.ireturn, 1) := by decide +kernel
theorem dX7_count_0 : decode cX7_count 0 = .ok (.iload_n 1, 1) := by decide +kernel
theorem dX7_count_1 : decode cX7_count 1 = .ok (.bipush 10, 2) := by decide +kernel
theorem dX7_count_3 : decode cX7_count 3 = .ok (.if_icmp .le 19, 3) := by decide +kernel
theorem dX7_count_6 : decode cX7_count 6 = .ok (.iload_n 1, 1) := by decide +kernel
theorem dX7_count_7 : decode cX7_count 7 = .ok (.bipush 17, 2) := by decide +kernel
theorem dX7_count_9 : decode cX7_count 9 = .ok (.if_icmp .ge 13, 3) := by decide +kernel
theorem dX7_count_12 : decode cX7_count 12 = .ok (.aload_n 0, 1) := by decide +kernel
theorem dX7_count_13 : decode cX7_count 13 = .ok (.getfield 7, 3) := by decide +kernel
theorem dX7_count_16 : decode cX7_count 16 = .ok (.iload_n 1, 1) := by decide +kernel
theorem dX7_count_17 : decode cX7_count 17 = .ok (.bipush 10, 2) := by decide +kernel
theorem dX7_count_19 : decode cX7_count 19 = .ok (.isub, 1) := by decide +kernel
theorem dX7_count_20 : decode cX7_count 20 = .ok (.iaload, 1) := by decide +kernel
theorem dX7_count_21 : decode cX7_count 21 = .ok (.ireturn, 1) := by decide +kernel
theorem dX7_count_22 : decode cX7_count 22 = .ok (.iload_n 1, 1) := by decide +kernel
theorem dX7_count_23 : decode cX7_count 23 = .ok (.tableswitch 67 0 5 #[37, 42, 47, 52, 57, 62], 37) := by decide +kernel
theorem dX7_count_60 : decode cX7_count 60 = .ok (.aload_n 0, 1) := by decide +kernel
theorem dX7_count_61 : decode cX7_count 61 = .ok (.getfield 76, 3) := by decide +kernel
theorem dX7_count_64 : decode cX7_count 64 = .ok (.ireturn, 1) := by decide +kernel
theorem dX7_count_65 : decode cX7_count 65 = .ok (.aload_n 0, 1) := by decide +kernel
theorem dX7_count_66 : decode cX7_count 66 = .ok (.getfield 181, 3) := by decide +kernel
theorem dX7_count_69 : decode cX7_count 69 = .ok (.ireturn, 1) := by decide +kernel
theorem dX7_count_70 : decode cX7_count 70 = .ok (.aload_n 0, 1) := by decide +kernel
theorem dX7_count_71 : decode cX7_count 71 = .ok (.getfield 226, 3) := by decide +kernel
theorem dX7_count_74 : decode cX7_count 74 = .ok (.ireturn, 1) := by decide +kernel
theorem dX7_count_75 : decode cX7_count 75 = .ok (.aload_n 0, 1) := by decide +kernel
theorem dX7_count_76 : decode cX7_count 76 = .ok (.getfield 262, 3) := by decide +kernel
theorem dX7_count_79 : decode cX7_count 79 = .ok (.ireturn, 1) := by decide +kernel
theorem dX7_count_80 : decode cX7_count 80 = .ok (.aload_n 0, 1) := by decide +kernel
theorem dX7_count_81 : decode cX7_count 81 = .ok (.getfield 84, 3) := by decide +kernel
theorem dX7_count_84 : decode cX7_count 84 = .ok (.ireturn, 1) := by decide +kernel
theorem dX7_count_85 : decode cX7_count 85 = .ok (.aload_n 0, 1) := by decide +kernel
theorem dX7_count_86 : decode cX7_count 86 = .ok (.getfield 214, 3) := by decide +kernel
theorem dX7_count_89 : decode cX7_count 89 = .ok (.ireturn, 1) := by decide +kernel
theorem dX7_count_90 : decode cX7_count 90 = .ok (.bipush (-9), 2) := by decide +kernel
theorem dX7_count_92 : decode cX7_count 92 = .ok (.ireturn, 1) := by decide +kernel
theorem dJ6_bitCount_0f7a4_0 : decode cJ6_bitCount_0f7a4 0 = .ok (.iload_n 0, 1) := by decide +kernel
theorem dJ6_bitCount_0f7a4_1 : decode cJ6_bitCount_0f7a4 1 = .ok (.iload_n 0, 1) := by decide +kernel
theorem dJ6_bitCount_0f7a4_2 : decode cJ6_bitCount_0f7a4 2 = .ok (.iconst 1, 1) := by decide +kernel
theorem dJ6_bitCount_0f7a4_3 : decode cJ6_bitCount_0f7a4 3 = .ok (.iushr, 1) := by decide +kernel
theorem dJ6_bitCount_0f7a4_4 : decode cJ6_bitCount_0f7a4 4 = .ok (.ldc_w 265, 3) := by decide +kernel
theorem dJ6_bitCount_0f7a4_7 : decode cJ6_bitCount_0f7a4 7 = .ok (.iand, 1) := by decide +kernel
theorem dJ6_bitCount_0f7a4_8 : decode cJ6_bitCount_0f7a4 8 = .ok (.isub, 1) := by decide +kernel
theorem dJ6_bitCount_0f7a4_9 : decode cJ6_bitCount_0f7a4 9 = .ok (.istore_n 0, 1) := by decide +kernel
theorem dJ6_bitCount_0f7a4_10 : decode cJ6_bitCount_0f7a4 10 = .ok (.iload_n 0, 1) := by decide +kernel
theorem dJ6_bitCount_0f7a4_11 : decode cJ6_bitCount_0f7a4 11 = .ok (.ldc_w 266, 3) := by decide +kernel
theorem dJ6_bitCount_0f7a4_14 : decode cJ6_bitCount_0f7a4 14 = .ok (.iand, 1) := by decide +kernel
theorem dJ6_bitCount_0f7a4_15 : decode cJ6_bitCount_0f7a4 15 = .ok (.iload_n 0, 1) := by decide +kernel
theorem dJ6_bitCount_0f7a4_16 : decode cJ6_bitCount_0f7a4 16 = .ok (.iconst 2, 1) := by decide +kernel
theorem dJ6_bitCount_0f7a4_17 : decode cJ6_bitCount_0f7a4 17 = .ok (.iushr, 1) := by decide +kernel
theorem dJ6_bitCount_0f7a4_18 : decode cJ6_bitCount_0f7a4 18 = .ok (.ldc_w 266, 3) := by decide +kernel
theorem dJ6_bitCount_0f7a4_21 : decode cJ6_bitCount_0f7a4 21 = .ok (.iand, 1) := by decide +kernel
theorem dJ6_bitCount_0f7a4_22 : decode cJ6_bitCount_0f7a4 22 = .ok (.iadd, 1) := by decide +kernel
theorem dJ6_bitCount_0f7a4_23 : decode cJ6_bitCount_0f7a4 23 = .ok (.istore_n 0, 1) := by decide +kernel
theorem dJ6_bitCount_0f7a4_24 : decode cJ6_bitCount_0f7a4 24 = .ok (.iload_n 0, 1) := by decide +kernel
theorem dJ6_bitCount_0f7a4_25 : decode cJ6_bitCount_0f7a4 25 = .ok (.iload_n 0, 1) := by decide +kernel
theorem dJ6_bitCount_0f7a4_26 : decode cJ6_bitCount_0f7a4 26 = .ok (.iconst 4, 1) := by decide +kernel
theorem dJ6_bitCount_0f7a4_27 : decode cJ6_bitCount_0f7a4 27 = .ok (.iushr, 1) := by decide +kernel
theorem dJ6_bitCount_0f7a4_28 : decode cJ6_bitCount_0f7a4 28 = .ok (.iadd, 1) := by decide +kernel
theorem dJ6_bitCount_0f7a4_29 : decode cJ6_bitCount_0f7a4 29 = .ok (.ldc_w 267, 3) := by decide +kernel
theorem dJ6_bitCount_0f7a4_32 : decode cJ6_bitCount_0f7a4 32 = .ok (.iand, 1) := by decide +kernel
theorem dJ6_bitCount_0f7a4_33 : decode cJ6_bitCount_0f7a4 33 = .ok (.istore_n 0, 1) := by decide +kernel
theorem dJ6_bitCount_0f7a4_34 : decode cJ6_bitCount_0f7a4 34 = .ok (.iload_n 0, 1) := by decide +kernel
theorem dJ6_bitCount_0f7a4_35 : decode cJ6_bitCount_0f7a4 35 = .ok (.iload_n 0, 1) := by decide +kernel
theorem dJ6_bitCount_0f7a4_36 : decode cJ6_bitCount_0f7a4 36 = .ok (.bipush 8, 2) := by decide +kernel
theorem dJ6_bitCount_0f7a4_38 : decode cJ6_bitCount_0f7a4 38 = .ok (.iushr, 1) := by decide +kernel
theorem dJ6_bitCount_0f7a4_39 : decode cJ6_bitCount_0f7a4 39 = .ok (.iadd, 1) := by decide +kernel
theorem dJ6_bitCount_0f7a4_40 : decode cJ6_bitCount_0f7a4 40 = .ok (.istore_n 0, 1) := by decide +kernel
theorem dJ6_bitCount_0f7a4_41 : decode cJ6_bitCount_0f7a4 41 = .ok (.iload_n 0, 1) := by decide +kernel
theorem dJ6_bitCount_0f7a4_42 : decode cJ6_bitCount_0f7a4 42 = .ok (.iload_n 0, 1) := by decide +kernel
theorem dJ6_bitCount_0f7a4_43 : decode cJ6_bitCount_0f7a4 43 = .ok (.bipush 16, 2) := by decide +kernel
theorem dJ6_bitCount_0f7a4_45 : decode cJ6_bitCount_0f7a4 45 = .ok (.iushr, 1) := by decide +kernel
theorem dJ6_bitCount_0f7a4_46 : decode cJ6_bitCount_0f7a4 46 = .ok (.iadd, 1) := by decide +kernel
theorem dJ6_bitCount_0f7a4_47 : decode cJ6_bitCount_0f7a4 47 = .ok (.istore_n 0, 1) := by decide +kernel
theorem dJ6_bitCount_0f7a4_48 : decode cJ6_bitCount_0f7a4 48 = .ok (.iload_n 0, 1) := by decide +kernel
theorem dJ6_bitCount_0f7a4_49 : decode cJ6_bitCount_0f7a4 49 = .ok (.bipush 63, 2) := by decide +kernel
theorem dJ6_bitCount_0f7a4_51 : decode cJ6_bitCount_0f7a4 51 = .ok (.iand, 1) := by decide +kernel
theorem dJ6_bitCount_0f7a4_52 : decode cJ6_bitCount_0f7a4 52 = .ok (.ireturn, 1) := by decide +kernel
theorem dJ9_abs_0f7a4_0 : decode cJ9_abs_0f7a4 0 = .ok (.iload_n 0, 1) := by decide +kernel
theorem dJ9_abs_0f7a4_1 : decode cJ9_abs_0f7a4 1 = .ok (.ifCond .ge 8, 3) := by decide +kernel
theorem dJ9_abs_0f7a4_4 : decode cJ9_abs_0f7a4 4 = .ok (.iload_n 0, 1) := by decide +kernel
theorem dJ9_abs_0f7a4_5 : decode cJ9_abs_0f7a4 5 = .ok (.ineg, 1) := by decide +kernel
theorem dJ9_abs_0f7a4_6 : decode cJ9_abs_0f7a4 6 = .ok (.goto 4, 3) := by decide +kernel
theorem dJ9_abs_0f7a4_9 : decode cJ9_abs_0f7a4 9 = .ok (.iload_n 0, 1) := by decide +kernel
theorem dJ9_abs_0f7a4_10 : decode cJ9_abs_0f7a4 10 = .ok (.ireturn, 1) := by decide +kernel
theorem dL_law_0 : decode cL_law 0 = .ok (.new 7, 3) := by decide +kernel
theorem dL_law_3 : decode cL_law 3 = .ok (.dup, 1) := by decide +kernel
theorem dL_law_4 : decode cL_law 4 = .ok (.invokespecial 9, 3) := by decide +kernel
theorem dL_law_7 : decode cL_law 7 = .ok (.astore_n 1, 1) := by decide +kernel
theorem dL_law_8 : decode cL_law 8 = .ok (.new 10, 3) := by decide +kernel
theorem dL_law_11 : decode cL_law 11 = .ok (.dup, 1) := by decide +kernel
theorem dL_law_12 : decode cL_law 12 = .ok (.invokespecial 12, 3) := by decide +kernel
theorem dL_law_15 : decode cL_law 15 = .ok (.astore_n 2, 1) := by decide +kernel
theorem dL_law_16 : decode cL_law 16 = .ok (.iconst 0, 1) := by decide +kernel
theorem dL_law_17 : decode cL_law 17 = .ok (.istore_n 3, 1) := by decide +kernel
theorem dL_law_18 : decode cL_law 18 = .ok (.iload_n 3, 1) := by decide +kernel
theorem dL_law_19 : decode cL_law 19 = .ok (.aload_n 0, 1) := by decide +kernel
theorem dL_law_20 : decode cL_law 20 = .ok (.arraylength, 1) := by decide +kernel
theorem dL_law_21 : decode cL_law 21 = .ok (.iconst 4, 1) := by decide +kernel
theorem dL_law_22 : decode cL_law 22 = .ok (.isub, 1) := by decide +kernel
theorem dL_law_23 : decode cL_law 23 = .ok (.if_icmp .gt 1152, 3) := by decide +kernel
theorem dL_law_26 : decode cL_law 26 = .ok (.aload_n 0, 1) := by decide +kernel
theorem dL_law_27 : decode cL_law 27 = .ok (.iload_n 3, 1) := by decide +kernel
theorem dL_law_28 : decode cL_law 28 = .ok (.iaload, 1) := by decide +kernel
theorem dL_law_29 : decode cL_law 29 = .ok (.bipush 63, 2) := by decide +kernel
theorem dL_law_31 : decode cL_law 31 = .ok (.iand, 1) := by decide +kernel
theorem dL_law_32 : decode cL_law 32 = .ok (.tableswitch 1137 0 33 #[152, 215, 228, 261, 294, 318, 351, 394, 418, 431, 465, 498, 531, 554, 577, 610, 643, 676, 699, 722, 765, 778, 811, 854, 887, 920, 953, 986, 1029, 1042, 1075, 1088, 1101, 1114], 152) := by decide +kernel
theorem dL_law_184 : decode cL_law 184 = .ok (.aload_n 1, 1) := by decide +kernel
theorem dL_law_185 : decode cL_law 185 = .ok (.aload_n 0, 1) := by decide +kernel
theorem dL_law_186 : decode cL_law 186 = .ok (.iload_n 3, 1) := by decide +kernel
theorem dL_law_187 : decode cL_law 187 = .ok (.iconst 1, 1) := by decide +kernel
theorem dL_law_188 : decode cL_law 188 = .ok (.iadd, 1) := by decide +kernel
theorem dL_law_189 : decode cL_law 189 = .ok (.iaload, 1) := by decide +kernel
theorem dL_law_190 : decode cL_law 190 = .ok (.aload_n 0, 1) := by decide +kernel
theorem dL_law_191 : decode cL_law 191 = .ok (.iload_n 3, 1) := by decide +kernel
theorem dL_law_192 : decode cL_law 192 = .ok (.iconst 2, 1) := by decide +kernel
theorem dL_law_193 : decode cL_law 193 = .ok (.iadd, 1) := by decide +kernel
theorem dL_law_194 : decode cL_law 194 = .ok (.iaload, 1) := by decide +kernel
theorem dL_law_195 : decode cL_law 195 = .ok (.i2l, 1) := by decide +kernel
theorem dL_law_196 : decode cL_law 196 = .ok (.bipush 32, 2) := by decide +kernel
theorem dL_law_198 : decode cL_law 198 = .ok (.lshl, 1) := by decide +kernel
theorem dL_law_199 : decode cL_law 199 = .ok (.aload_n 0, 1) := by decide +kernel
theorem dL_law_200 : decode cL_law 200 = .ok (.iload_n 3, 1) := by decide +kernel
theorem dL_law_201 : decode cL_law 201 = .ok (.iconst 3, 1) := by decide +kernel
theorem dL_law_202 : decode cL_law 202 = .ok (.iadd, 1) := by decide +kernel
theorem dL_law_203 : decode cL_law 203 = .ok (.iaload, 1) := by decide +kernel
theorem dL_law_204 : decode cL_law 204 = .ok (.i2l, 1) := by decide +kernel
theorem dL_law_205 : decode cL_law 205 = .ok (.ldc2_w 13, 3) := by decide +kernel
theorem dL_law_208 : decode cL_law 208 = .ok (.land, 1) := by decide +kernel
theorem dL_law_209 : decode cL_law 209 = .ok (.lor, 1) := by decide +kernel
theorem dL_law_210 : decode cL_law 210 = .ok (.invokevirtual 15, 3) := by decide +kernel
theorem dL_law_213 : decode cL_law 213 = .ok (.aload_n 2, 1) := by decide +kernel
theorem dL_law_214 : decode cL_law 214 = .ok (.aload_n 0, 1) := by decide +kernel
theorem dL_law_215 : decode cL_law 215 = .ok (.iload_n 3, 1) := by decide +kernel
theorem dL_law_216 : decode cL_law 216 = .ok (.iconst 1, 1) := by decide +kernel
theorem dL_law_217 : decode cL_law 217 = .ok (.iadd, 1) := by decide +kernel
theorem dL_law_218 : decode cL_law 218 = .ok (.iaload, 1) := by decide +kernel
theorem dL_law_219 : decode cL_law 219 = .ok (.aload_n 0, 1) := by decide +kernel
theorem dL_law_220 : decode cL_law 220 = .ok (.iload_n 3, 1) := by decide +kernel
theorem dL_law_221 : decode cL_law 221 = .ok (.iconst 2, 1) := by decide +kernel
theorem dL_law_222 : decode cL_law 222 = .ok (.iadd, 1) := by decide +kernel
theorem dL_law_223 : decode cL_law 223 = .ok (.iaload, 1) := by decide +kernel
theorem dL_law_224 : decode cL_law 224 = .ok (.i2l, 1) := by decide +kernel
theorem dL_law_225 : decode cL_law 225 = .ok (.bipush 32, 2) := by decide +kernel
theorem dL_law_227 : decode cL_law 227 = .ok (.lshl, 1) := by decide +kernel
theorem dL_law_228 : decode cL_law 228 = .ok (.aload_n 0, 1) := by decide +kernel
theorem dL_law_229 : decode cL_law 229 = .ok (.iload_n 3, 1) := by decide +kernel
theorem dL_law_230 : decode cL_law 230 = .ok (.iconst 3, 1) := by decide +kernel
theorem dL_law_231 : decode cL_law 231 = .ok (.iadd, 1) := by decide +kernel
theorem dL_law_232 : decode cL_law 232 = .ok (.iaload, 1) := by decide +kernel
theorem dL_law_233 : decode cL_law 233 = .ok (.i2l, 1) := by decide +kernel
theorem dL_law_234 : decode cL_law 234 = .ok (.ldc2_w 13, 3) := by decide +kernel
theorem dL_law_237 : decode cL_law 237 = .ok (.land, 1) := by decide +kernel
theorem dL_law_238 : decode cL_law 238 = .ok (.lor, 1) := by decide +kernel
theorem dL_law_239 : decode cL_law 239 = .ok (.invokevirtual 19, 3) := by decide +kernel
theorem dL_law_242 : decode cL_law 242 = .ok (.if_icmp .eq 927, 3) := by decide +kernel
theorem dL_law_245 : decode cL_law 245 = .ok (.iconst 0, 1) := by decide +kernel
theorem dL_law_246 : decode cL_law 246 = .ok (.ireturn, 1) := by decide +kernel
theorem dL_law_247 : decode cL_law 247 = .ok (.aload_n 1, 1) := by decide +kernel
theorem dL_law_248 : decode cL_law 248 = .ok (.invokevirtual 20, 3) := by decide +kernel
theorem dL_law_251 : decode cL_law 251 = .ok (.aload_n 2, 1) := by decide +kernel
theorem dL_law_252 : decode cL_law 252 = .ok (.invokevirtual 24, 3) := by decide +kernel
theorem dL_law_255 : decode cL_law 255 = .ok (.if_icmp .eq 914, 3) := by decide +kernel
theorem dL_law_258 : decode cL_law 258 = .ok (.iconst 0, 1) := by decide +kernel
theorem dL_law_259 : decode cL_law 259 = .ok (.ireturn, 1) := by decide +kernel
theorem dL_law_260 : decode cL_law 260 = .ok (.aload_n 1, 1) := by decide +kernel
theorem dL_law_261 : decode cL_law 261 = .ok (.aload_n 0, 1) := by decide +kernel
theorem dL_law_262 : decode cL_law 262 = .ok (.iload_n 3, 1) := by decide +kernel
theorem dL_law_263 : decode cL_law 263 = .ok (.iconst 1, 1) := by decide +kernel
theorem dL_law_264 : decode cL_law 264 = .ok (.iadd, 1) := by decide +kernel
theorem dL_law_265 : decode cL_law 265 = .ok (.iaload, 1) := by decide +kernel
theorem dL_law_266 : decode cL_law 266 = .ok (.aload_n 0, 1) := by decide +kernel
theorem dL_law_267 : decode cL_law 267 = .ok (.iload_n 3, 1) := by decide +kernel
theorem dL_law_268 : decode cL_law 268 = .ok (.iconst 2, 1) := by decide +kernel
theorem dL_law_269 : decode cL_law 269 = .ok (.iadd, 1) := by decide +kernel
theorem dL_law_270 : decode cL_law 270 = .ok (.iaload, 1) := by decide +kernel
theorem dL_law_271 : decode cL_law 271 = .ok (.invokevirtual 25, 3) := by decide +kernel
theorem dL_law_274 : decode cL_law 274 = .ok (.aload_n 2, 1) := by decide +kernel
theorem dL_law_275 : decode cL_law 275 = .ok (.aload_n 0, 1) := by decide +kernel
theorem dL_law_276 : decode cL_law 276 = .ok (.iload_n 3, 1) := by decide +kernel
theorem dL_law_277 : decode cL_law 277 = .ok (.iconst 1, 1) := by decide +kernel
theorem dL_law_278 : decode cL_law 278 = .ok (.iadd, 1) := by decide +kernel
theorem dL_law_279 : decode cL_law 279 = .ok (.iaload, 1) := by decide +kernel
theorem dL_law_280 : decode cL_law 280 = .ok (.aload_n 0, 1) := by decide +kernel
theorem dL_law_281 : decode cL_law 281 = .ok (.iload_n 3, 1) := by decide +kernel
theorem dL_law_282 : decode cL_law 282 = .ok (.iconst 2, 1) := by decide +kernel
theorem dL_law_283 : decode cL_law 283 = .ok (.iadd, 1) := by decide +kernel
theorem dL_law_284 : decode cL_law 284 = .ok (.iaload, 1) := by decide +kernel
theorem dL_law_285 : decode cL_law 285 = .ok (.invokevirtual 29, 3) := by decide +kernel
theorem dL_law_288 : decode cL_law 288 = .ok (.if_icmp .eq 881, 3) := by decide +kernel
theorem dL_law_291 : decode cL_law 291 = .ok (.iconst 0, 1) := by decide +kernel
theorem dL_law_292 : decode cL_law 292 = .ok (.ireturn, 1) := by decide +kernel
theorem dL_law_293 : decode cL_law 293 = .ok (.aload_n 1, 1) := by decide +kernel
theorem dL_law_294 : decode cL_law 294 = .ok (.aload_n 0, 1) := by decide +kernel
theorem dL_law_295 : decode cL_law 295 = .ok (.iload_n 3, 1) := by decide +kernel
theorem dL_law_296 : decode cL_law 296 = .ok (.iconst 1, 1) := by decide +kernel
theorem dL_law_297 : decode cL_law 297 = .ok (.iadd, 1) := by decide +kernel
theorem dL_law_298 : decode cL_law 298 = .ok (.iaload, 1) := by decide +kernel
theorem dL_law_299 : decode cL_law 299 = .ok (.aload_n 0, 1) := by decide +kernel
theorem dL_law_300 : decode cL_law 300 = .ok (.iload_n 3, 1) := by decide +kernel
theorem dL_law_301 : decode cL_law 301 = .ok (.iconst 2, 1) := by decide +kernel
theorem dL_law_302 : decode cL_law 302 = .ok (.iadd, 1) := by decide +kernel
theorem dL_law_303 : decode cL_law 303 = .ok (.iaload, 1) := by decide +kernel
theorem dL_law_304 : decode cL_law 304 = .ok (.invokevirtual 30, 3) := by decide +kernel
theorem dL_law_307 : decode cL_law 307 = .ok (.aload_n 2, 1) := by decide +kernel
theorem dL_law_308 : decode cL_law 308 = .ok (.aload_n 0, 1) := by decide +kernel
theorem dL_law_309 : decode cL_law 309 = .ok (.iload_n 3, 1) := by decide +kernel
theorem dL_law_310 : decode cL_law 310 = .ok (.iconst 1, 1) := by decide +kernel
theorem dL_law_311 : decode cL_law 311 = .ok (.iadd, 1) := by decide +kernel
theorem dL_law_312 : decode cL_law 312 = .ok (.iaload, 1) := by decide +kernel
theorem dL_law_313 : decode cL_law 313 = .ok (.aload_n 0, 1) := by decide +kernel
theorem dL_law_314 : decode cL_law 314 = .ok (.iload_n 3, 1) := by decide +kernel
theorem dL_law_315 : decode cL_law 315 = .ok (.iconst 2, 1) := by decide +kernel
theorem dL_law_316 : decode cL_law 316 = .ok (.iadd, 1) := by decide +kernel
theorem dL_law_317 : decode cL_law 317 = .ok (.iaload, 1) := by decide +kernel
theorem dL_law_318 : decode cL_law 318 = .ok (.invokevirtual 33, 3) := by decide +kernel
theorem dL_law_321 : decode cL_law 321 = .ok (.if_icmp .eq 848, 3) := by decide +kernel
theorem dL_law_324 : decode cL_law 324 = .ok (.iconst 0, 1) := by decide +kernel
theorem dL_law_325 : decode cL_law 325 = .ok (.ireturn, 1) := by decide +kernel
theorem dL_law_326 : decode cL_law 326 = .ok (.aload_n 1, 1) := by decide +kernel
theorem dL_law_327 : decode cL_law 327 = .ok (.aload_n 0, 1) := by decide +kernel
theorem dL_law_328 : decode cL_law 328 = .ok (.iload_n 3, 1) := by decide +kernel
theorem dL_law_329 : decode cL_law 329 = .ok (.iconst 1, 1) := by decide +kernel
theorem dL_law_330 : decode cL_law 330 = .ok (.iadd, 1) := by decide +kernel
theorem dL_law_331 : decode cL_law 331 = .ok (.iaload, 1) := by decide +kernel
theorem dL_law_332 : decode cL_law 332 = .ok (.invokevirtual 34, 3) := by decide +kernel
theorem dL_law_335 : decode cL_law 335 = .ok (.aload_n 2, 1) := by decide +kernel
theorem dL_law_336 : decode cL_law 336 = .ok (.aload_n 0, 1) := by decide +kernel
theorem dL_law_337 : decode cL_law 337 = .ok (.iload_n 3, 1) := by decide +kernel
theorem dL_law_338 : decode cL_law 338 = .ok (.iconst 1, 1) := by decide +kernel
theorem dL_law_339 : decode cL_law 339 = .ok (.iadd, 1) := by decide +kernel
theorem dL_law_340 : decode cL_law 340 = .ok (.iaload, 1) := by decide +kernel
theorem dL_law_341 : decode cL_law 341 = .ok (.invokevirtual 38, 3) := by decide +kernel
theorem dL_law_344 : decode cL_law 344 = .ok (.lcmp, 1) := by decide +kernel
theorem dL_law_345 : decode cL_law 345 = .ok (.ifCond .eq 824, 3) := by decide +kernel
theorem dL_law_348 : decode cL_law 348 = .ok (.iconst 0, 1) := by decide +kernel
theorem dL_law_349 : decode cL_law 349 = .ok (.ireturn, 1) := by decide +kernel
theorem dL_law_350 : decode cL_law 350 = .ok (.aload_n 1, 1) := by decide +kernel
theorem dL_law_351 : decode cL_law 351 = .ok (.aload_n 0, 1) := by decide +kernel
theorem dL_law_352 : decode cL_law 352 = .ok (.iload_n 3, 1) := by decide +kernel
theorem dL_law_353 : decode cL_law 353 = .ok (.iconst 1, 1) := by decide +kernel
theorem dL_law_354 : decode cL_law 354 = .ok (.iadd, 1) := by decide +kernel
theorem dL_law_355 : decode cL_law 355 = .ok (.iaload, 1) := by decide +kernel
theorem dL_law_356 : decode cL_law 356 = .ok (.aload_n 0, 1) := by decide +kernel
theorem dL_law_357 : decode cL_law 357 = .ok (.iload_n 3, 1) := by decide +kernel
theorem dL_law_358 : decode cL_law 358 = .ok (.iconst 2, 1) := by decide +kernel
theorem dL_law_359 : decode cL_law 359 = .ok (.iadd, 1) := by decide +kernel
theorem dL_law_360 : decode cL_law 360 = .ok (.iaload, 1) := by decide +kernel
theorem dL_law_361 : decode cL_law 361 = .ok (.invokevirtual 39, 3) := by decide +kernel
theorem dL_law_364 : decode cL_law 364 = .ok (.aload_n 2, 1) := by decide +kernel
theorem dL_law_365 : decode cL_law 365 = .ok (.aload_n 0, 1) := by decide +kernel
theorem dL_law_366 : decode cL_law 366 = .ok (.iload_n 3, 1) := by decide +kernel
theorem dL_law_367 : decode cL_law 367 = .ok (.iconst 1, 1) := by decide +kernel
theorem dL_law_368 : decode cL_law 368 = .ok (.iadd, 1) := by decide +kernel
theorem dL_law_369 : decode cL_law 369 = .ok (.iaload, 1) := by decide +kernel
theorem dL_law_370 : decode cL_law 370 = .ok (.aload_n 0, 1) := by decide +kernel
theorem dL_law_371 : decode cL_law 371 = .ok (.iload_n 3, 1) := by decide +kernel
theorem dL_law_372 : decode cL_law 372 = .ok (.iconst 2, 1) := by decide +kernel
theorem dL_law_373 : decode cL_law 373 = .ok (.iadd, 1) := by decide +kernel
theorem dL_law_374 : decode cL_law 374 = .ok (.iaload, 1) := by decide +kernel
theorem dL_law_375 : decode cL_law 375 = .ok (.invokevirtual 42, 3) := by decide +kernel
theorem dL_law_378 : decode cL_law 378 = .ok (.if_icmp .eq 791, 3) := by decide +kernel
theorem dL_law_381 : decode cL_law 381 = .ok (.iconst 0, 1) := by decide +kernel
theorem dL_law_382 : decode cL_law 382 = .ok (.ireturn, 1) := by decide +kernel
theorem dL_law_383 : decode cL_law 383 = .ok (.aload_n 1, 1) := by decide +kernel
theorem dL_law_384 : decode cL_law 384 = .ok (.aload_n 0, 1) := by decide +kernel
theorem dL_law_385 : decode cL_law 385 = .ok (.iload_n 3, 1) := by decide +kernel
theorem dL_law_386 : decode cL_law 386 = .ok (.iconst 1, 1) := by decide +kernel
theorem dL_law_387 : decode cL_law 387 = .ok (.iadd, 1) := by decide +kernel
theorem dL_law_388 : decode cL_law 388 = .ok (.iaload, 1) := by decide +kernel
theorem dL_law_389 : decode cL_law 389 = .ok (.aload_n 0, 1) := by decide +kernel
theorem dL_law_390 : decode cL_law 390 = .ok (.iload_n 3, 1) := by decide +kernel
theorem dL_law_391 : decode cL_law 391 = .ok (.iconst 2, 1) := by decide +kernel
theorem dL_law_392 : decode cL_law 392 = .ok (.iadd, 1) := by decide +kernel
theorem dL_law_393 : decode cL_law 393 = .ok (.iaload, 1) := by decide +kernel
theorem dL_law_394 : decode cL_law 394 = .ok (.aload_n 0, 1) := by decide +kernel
theorem dL_law_395 : decode cL_law 395 = .ok (.iload_n 3, 1) := by decide +kernel
theorem dL_law_396 : decode cL_law 396 = .ok (.iconst 3, 1) := by decide +kernel
theorem dL_law_397 : decode cL_law 397 = .ok (.iadd, 1) := by decide +kernel
theorem dL_law_398 : decode cL_law 398 = .ok (.iaload, 1) := by decide +kernel
theorem dL_law_399 : decode cL_law 399 = .ok (.invokevirtual 43, 3) := by decide +kernel
theorem dL_law_402 : decode cL_law 402 = .ok (.aload_n 2, 1) := by decide +kernel
theorem dL_law_403 : decode cL_law 403 = .ok (.aload_n 0, 1) := by decide +kernel
theorem dL_law_404 : decode cL_law 404 = .ok (.iload_n 3, 1) := by decide +kernel
theorem dL_law_405 : decode cL_law 405 = .ok (.iconst 1, 1) := by decide +kernel
theorem dL_law_406 : decode cL_law 406 = .ok (.iadd, 1) := by decide +kernel
theorem dL_law_407 : decode cL_law 407 = .ok (.iaload, 1) := by decide +kernel
theorem dL_law_408 : decode cL_law 408 = .ok (.aload_n 0, 1) := by decide +kernel
theorem dL_law_409 : decode cL_law 409 = .ok (.iload_n 3, 1) := by decide +kernel
theorem dL_law_410 : decode cL_law 410 = .ok (.iconst 2, 1) := by decide +kernel
theorem dL_law_411 : decode cL_law 411 = .ok (.iadd, 1) := by decide +kernel
theorem dL_law_412 : decode cL_law 412 = .ok (.iaload, 1) := by decide +kernel
theorem dL_law_413 : decode cL_law 413 = .ok (.aload_n 0, 1) := by decide +kernel
theorem dL_law_414 : decode cL_law 414 = .ok (.iload_n 3, 1) := by decide +kernel
theorem dL_law_415 : decode cL_law 415 = .ok (.iconst 3, 1) := by decide +kernel
theorem dL_law_416 : decode cL_law 416 = .ok (.iadd, 1) := by decide +kernel
theorem dL_law_417 : decode cL_law 417 = .ok (.iaload, 1) := by decide +kernel
theorem dL_law_418 : decode cL_law 418 = .ok (.invokevirtual 47, 3) := by decide +kernel
theorem dL_law_421 : decode cL_law 421 = .ok (.if_icmp .eq 748, 3) := by decide +kernel
theorem dL_law_424 : decode cL_law 424 = .ok (.iconst 0, 1) := by decide +kernel
theorem dL_law_425 : decode cL_law 425 = .ok (.ireturn, 1) := by decide +kernel
theorem dL_law_426 : decode cL_law 426 = .ok (.aload_n 1, 1) := by decide +kernel
theorem dL_law_427 : decode cL_law 427 = .ok (.aload_n 0, 1) := by decide +kernel
theorem dL_law_428 : decode cL_law 428 = .ok (.iload_n 3, 1) := by decide +kernel
theorem dL_law_429 : decode cL_law 429 = .ok (.iconst 1, 1) := by decide +kernel
theorem dL_law_430 : decode cL_law 430 = .ok (.iadd, 1) := by decide +kernel
theorem dL_law_431 : decode cL_law 431 = .ok (.iaload, 1) := by decide +kernel
theorem dL_law_432 : decode cL_law 432 = .ok (.invokevirtual 48, 3) := by decide +kernel
theorem dL_law_435 : decode cL_law 435 = .ok (.aload_n 2, 1) := by decide +kernel
theorem dL_law_436 : decode cL_law 436 = .ok (.aload_n 0, 1) := by decide +kernel
theorem dL_law_437 : decode cL_law 437 = .ok (.iload_n 3, 1) := by decide +kernel
theorem dL_law_438 : decode cL_law 438 = .ok (.iconst 1, 1) := by decide +kernel
theorem dL_law_439 : decode cL_law 439 = .ok (.iadd, 1) := by decide +kernel
theorem dL_law_440 : decode cL_law 440 = .ok (.iaload, 1) := by decide +kernel
theorem dL_law_441 : decode cL_law 441 = .ok (.invokevirtual 51, 3) := by decide +kernel
theorem dL_law_444 : decode cL_law 444 = .ok (.lcmp, 1) := by decide +kernel
theorem dL_law_445 : decode cL_law 445 = .ok (.ifCond .eq 724, 3) := by decide +kernel
theorem dL_law_448 : decode cL_law 448 = .ok (.iconst 0, 1) := by decide +kernel
theorem dL_law_449 : decode cL_law 449 = .ok (.ireturn, 1) := by decide +kernel
theorem dL_law_450 : decode cL_law 450 = .ok (.aload_n 1, 1) := by decide +kernel
theorem dL_law_451 : decode cL_law 451 = .ok (.invokevirtual 52, 3) := by decide +kernel
theorem dL_law_454 : decode cL_law 454 = .ok (.aload_n 2, 1) := by decide +kernel
theorem dL_law_455 : decode cL_law 455 = .ok (.invokevirtual 55, 3) := by decide +kernel
theorem dL_law_458 : decode cL_law 458 = .ok (.if_icmp .eq 711, 3) := by decide +kernel
theorem dL_law_461 : decode cL_law 461 = .ok (.iconst 0, 1) := by decide +kernel
theorem dL_law_462 : decode cL_law 462 = .ok (.ireturn, 1) := by decide +kernel
theorem dL_law_463 : decode cL_law 463 = .ok (.aload_n 1, 1) := by decide +kernel
theorem dL_law_464 : decode cL_law 464 = .ok (.aload_n 0, 1) := by decide +kernel
theorem dL_law_465 : decode cL_law 465 = .ok (.iload_n 3, 1) := by decide +kernel
theorem dL_law_466 : decode cL_law 466 = .ok (.iconst 1, 1) := by decide +kernel
theorem dL_law_467 : decode cL_law 467 = .ok (.iadd, 1) := by decide +kernel
theorem dL_law_468 : decode cL_law 468 = .ok (.iaload, 1) := by decide +kernel
theorem dL_law_469 : decode cL_law 469 = .ok (.aload_n 0, 1) := by decide +kernel
theorem dL_law_470 : decode cL_law 470 = .ok (.iload_n 3, 1) := by decide +kernel
theorem dL_law_471 : decode cL_law 471 = .ok (.iconst 2, 1) := by decide +kernel
theorem dL_law_472 : decode cL_law 472 = .ok (.iadd, 1) := by decide +kernel
theorem dL_law_473 : decode cL_law 473 = .ok (.iaload, 1) := by decide +kernel
theorem dL_law_474 : decode cL_law 474 = .ok (.invokevirtual 56, 3) := by decide +kernel
theorem dL_law_477 : decode cL_law 477 = .ok (.aload_n 2, 1) := by decide +kernel
theorem dL_law_478 : decode cL_law 478 = .ok (.aload_n 0, 1) := by decide +kernel
theorem dL_law_479 : decode cL_law 479 = .ok (.iload_n 3, 1) := by decide +kernel
theorem dL_law_480 : decode cL_law 480 = .ok (.iconst 1, 1) := by decide +kernel
theorem dL_law_481 : decode cL_law 481 = .ok (.iadd, 1) := by decide +kernel
theorem dL_law_482 : decode cL_law 482 = .ok (.iaload, 1) := by decide +kernel
theorem dL_law_483 : decode cL_law 483 = .ok (.aload_n 0, 1) := by decide +kernel
theorem dL_law_484 : decode cL_law 484 = .ok (.iload_n 3, 1) := by decide +kernel
theorem dL_law_485 : decode cL_law 485 = .ok (.iconst 2, 1) := by decide +kernel
theorem dL_law_486 : decode cL_law 486 = .ok (.iadd, 1) := by decide +kernel
theorem dL_law_487 : decode cL_law 487 = .ok (.iaload, 1) := by decide +kernel
theorem dL_law_488 : decode cL_law 488 = .ok (.invokevirtual 60, 3) := by decide +kernel
theorem dL_law_491 : decode cL_law 491 = .ok (.lcmp, 1) := by decide +kernel
theorem dL_law_492 : decode cL_law 492 = .ok (.ifCond .eq 677, 3) := by decide +kernel
theorem dL_law_495 : decode cL_law 495 = .ok (.iconst 0, 1) := by decide +kernel
theorem dL_law_496 : decode cL_law 496 = .ok (.ireturn, 1) := by decide +kernel
theorem dL_law_497 : decode cL_law 497 = .ok (.aload_n 1, 1) := by decide +kernel
theorem dL_law_498 : decode cL_law 498 = .ok (.aload_n 0, 1) := by decide +kernel
theorem dL_law_499 : decode cL_law 499 = .ok (.iload_n 3, 1) := by decide +kernel
theorem dL_law_500 : decode cL_law 500 = .ok (.iconst 1, 1) := by decide +kernel
theorem dL_law_501 : decode cL_law 501 = .ok (.iadd, 1) := by decide +kernel
theorem dL_law_502 : decode cL_law 502 = .ok (.iaload, 1) := by decide +kernel
theorem dL_law_503 : decode cL_law 503 = .ok (.aload_n 0, 1) := by decide +kernel
theorem dL_law_504 : decode cL_law 504 = .ok (.iload_n 3, 1) := by decide +kernel
theorem dL_law_505 : decode cL_law 505 = .ok (.iconst 2, 1) := by decide +kernel
theorem dL_law_506 : decode cL_law 506 = .ok (.iadd, 1) := by decide +kernel
theorem dL_law_507 : decode cL_law 507 = .ok (.iaload, 1) := by decide +kernel
theorem dL_law_508 : decode cL_law 508 = .ok (.invokevirtual 61, 3) := by decide +kernel
theorem dL_law_511 : decode cL_law 511 = .ok (.aload_n 2, 1) := by decide +kernel
theorem dL_law_512 : decode cL_law 512 = .ok (.aload_n 0, 1) := by decide +kernel
theorem dL_law_513 : decode cL_law 513 = .ok (.iload_n 3, 1) := by decide +kernel
theorem dL_law_514 : decode cL_law 514 = .ok (.iconst 1, 1) := by decide +kernel
theorem dL_law_515 : decode cL_law 515 = .ok (.iadd, 1) := by decide +kernel
theorem dL_law_516 : decode cL_law 516 = .ok (.iaload, 1) := by decide +kernel
theorem dL_law_517 : decode cL_law 517 = .ok (.aload_n 0, 1) := by decide +kernel
theorem dL_law_518 : decode cL_law 518 = .ok (.iload_n 3, 1) := by decide +kernel
theorem dL_law_519 : decode cL_law 519 = .ok (.iconst 2, 1) := by decide +kernel
theorem dL_law_520 : decode cL_law 520 = .ok (.iadd, 1) := by decide +kernel
theorem dL_law_521 : decode cL_law 521 = .ok (.iaload, 1) := by decide +kernel
theorem dL_law_522 : decode cL_law 522 = .ok (.invokevirtual 64, 3) := by decide +kernel
theorem dL_law_525 : decode cL_law 525 = .ok (.if_icmp .eq 644, 3) := by decide +kernel
theorem dL_law_528 : decode cL_law 528 = .ok (.iconst 0, 1) := by decide +kernel
theorem dL_law_529 : decode cL_law 529 = .ok (.ireturn, 1) := by decide +kernel
theorem dL_law_530 : decode cL_law 530 = .ok (.aload_n 1, 1) := by decide +kernel
theorem dL_law_531 : decode cL_law 531 = .ok (.aload_n 0, 1) := by decide +kernel
theorem dL_law_532 : decode cL_law 532 = .ok (.iload_n 3, 1) := by decide +kernel
theorem dL_law_533 : decode cL_law 533 = .ok (.iconst 1, 1) := by decide +kernel
theorem dL_law_534 : decode cL_law 534 = .ok (.iadd, 1) := by decide +kernel
theorem dL_law_535 : decode cL_law 535 = .ok (.iaload, 1) := by decide +kernel
theorem dL_law_536 : decode cL_law 536 = .ok (.aload_n 0, 1) := by decide +kernel
theorem dL_law_537 : decode cL_law 537 = .ok (.iload_n 3, 1) := by decide +kernel
theorem dL_law_538 : decode cL_law 538 = .ok (.iconst 2, 1) := by decide +kernel
theorem dL_law_539 : decode cL_law 539 = .ok (.iadd, 1) := by decide +kernel
theorem dL_law_540 : decode cL_law 540 = .ok (.iaload, 1) := by decide +kernel
theorem dL_law_541 : decode cL_law 541 = .ok (.invokevirtual 65, 3) := by decide +kernel
theorem dL_law_544 : decode cL_law 544 = .ok (.aload_n 2, 1) := by decide +kernel
theorem dL_law_545 : decode cL_law 545 = .ok (.aload_n 0, 1) := by decide +kernel
theorem dL_law_546 : decode cL_law 546 = .ok (.iload_n 3, 1) := by decide +kernel
theorem dL_law_547 : decode cL_law 547 = .ok (.iconst 1, 1) := by decide +kernel
theorem dL_law_548 : decode cL_law 548 = .ok (.iadd, 1) := by decide +kernel
theorem dL_law_549 : decode cL_law 549 = .ok (.iaload, 1) := by decide +kernel
theorem dL_law_550 : decode cL_law 550 = .ok (.aload_n 0, 1) := by decide +kernel
theorem dL_law_551 : decode cL_law 551 = .ok (.iload_n 3, 1) := by decide +kernel
theorem dL_law_552 : decode cL_law 552 = .ok (.iconst 2, 1) := by decide +kernel
theorem dL_law_553 : decode cL_law 553 = .ok (.iadd, 1) := by decide +kernel
theorem dL_law_554 : decode cL_law 554 = .ok (.iaload, 1) := by decide +kernel
theorem dL_law_555 : decode cL_law 555 = .ok (.invokevirtual 68, 3) := by decide +kernel
theorem dL_law_558 : decode cL_law 558 = .ok (.if_icmp .eq 611, 3) := by decide +kernel
theorem dL_law_561 : decode cL_law 561 = .ok (.iconst 0, 1) := by decide +kernel
theorem dL_law_562 : decode cL_law 562 = .ok (.ireturn, 1) := by decide +kernel
theorem dL_law_563 : decode cL_law 563 = .ok (.aload_n 1, 1) := by decide +kernel
theorem dL_law_564 : decode cL_law 564 = .ok (.aload_n 0, 1) := by decide +kernel
theorem dL_law_565 : decode cL_law 565 = .ok (.iload_n 3, 1) := by decide +kernel
theorem dL_law_566 : decode cL_law 566 = .ok (.iconst 1, 1) := by decide +kernel
theorem dL_law_567 : decode cL_law 567 = .ok (.iadd, 1) := by decide +kernel
theorem dL_law_568 : decode cL_law 568 = .ok (.iaload, 1) := by decide +kernel
theorem dL_law_569 : decode cL_law 569 = .ok (.invokevirtual 69, 3) := by decide +kernel
theorem dL_law_572 : decode cL_law 572 = .ok (.aload_n 2, 1) := by decide +kernel
theorem dL_law_573 : decode cL_law 573 = .ok (.aload_n 0, 1) := by decide +kernel
theorem dL_law_574 : decode cL_law 574 = .ok (.iload_n 3, 1) := by decide +kernel
theorem dL_law_575 : decode cL_law 575 = .ok (.iconst 1, 1) := by decide +kernel
theorem dL_law_576 : decode cL_law 576 = .ok (.iadd, 1) := by decide +kernel
theorem dL_law_577 : decode cL_law 577 = .ok (.iaload, 1) := by decide +kernel
theorem dL_law_578 : decode cL_law 578 = .ok (.invokevirtual 73, 3) := by decide +kernel
theorem dL_law_581 : decode cL_law 581 = .ok (.if_icmp .eq 588, 3) := by decide +kernel
theorem dL_law_584 : decode cL_law 584 = .ok (.iconst 0, 1) := by decide +kernel
theorem dL_law_585 : decode cL_law 585 = .ok (.ireturn, 1) := by decide +kernel
theorem dL_law_586 : decode cL_law 586 = .ok (.aload_n 1, 1) := by decide +kernel
theorem dL_law_587 : decode cL_law 587 = .ok (.aload_n 0, 1) := by decide +kernel
theorem dL_law_588 : decode cL_law 588 = .ok (.iload_n 3, 1) := by decide +kernel
theorem dL_law_589 : decode cL_law 589 = .ok (.iconst 1, 1) := by decide +kernel
theorem dL_law_590 : decode cL_law 590 = .ok (.iadd, 1) := by decide +kernel
theorem dL_law_591 : decode cL_law 591 = .ok (.iaload, 1) := by decide +kernel
theorem dL_law_592 : decode cL_law 592 = .ok (.invokevirtual 74, 3) := by decide +kernel
theorem dL_law_595 : decode cL_law 595 = .ok (.aload_n 2, 1) := by decide +kernel
theorem dL_law_596 : decode cL_law 596 = .ok (.aload_n 0, 1) := by decide +kernel
theorem dL_law_597 : decode cL_law 597 = .ok (.iload_n 3, 1) := by decide +kernel
theorem dL_law_598 : decode cL_law 598 = .ok (.iconst 1, 1) := by decide +kernel
theorem dL_law_599 : decode cL_law 599 = .ok (.iadd, 1) := by decide +kernel
theorem dL_law_600 : decode cL_law 600 = .ok (.iaload, 1) := by decide +kernel
theorem dL_law_601 : decode cL_law 601 = .ok (.invokevirtual 77, 3) := by decide +kernel
theorem dL_law_604 : decode cL_law 604 = .ok (.if_icmp .eq 565, 3) := by decide +kernel
theorem dL_law_607 : decode cL_law 607 = .ok (.iconst 0, 1) := by decide +kernel
theorem dL_law_608 : decode cL_law 608 = .ok (.ireturn, 1) := by decide +kernel
theorem dL_law_609 : decode cL_law 609 = .ok (.aload_n 1, 1) := by decide +kernel
theorem dL_law_610 : decode cL_law 610 = .ok (.aload_n 0, 1) := by decide +kernel
theorem dL_law_611 : decode cL_law 611 = .ok (.iload_n 3, 1) := by decide +kernel
theorem dL_law_612 : decode cL_law 612 = .ok (.iconst 1, 1) := by decide +kernel
theorem dL_law_613 : decode cL_law 613 = .ok (.iadd, 1) := by decide +kernel
theorem dL_law_614 : decode cL_law 614 = .ok (.iaload, 1) := by decide +kernel
theorem dL_law_615 : decode cL_law 615 = .ok (.aload_n 0, 1) := by decide +kernel
theorem dL_law_616 : decode cL_law 616 = .ok (.iload_n 3, 1) := by decide +kernel
theorem dL_law_617 : decode cL_law 617 = .ok (.iconst 2, 1) := by decide +kernel
theorem dL_law_618 : decode cL_law 618 = .ok (.iadd, 1) := by decide +kernel
theorem dL_law_619 : decode cL_law 619 = .ok (.iaload, 1) := by decide +kernel
theorem dL_law_620 : decode cL_law 620 = .ok (.invokevirtual 78, 3) := by decide +kernel
theorem dL_law_623 : decode cL_law 623 = .ok (.aload_n 2, 1) := by decide +kernel
theorem dL_law_624 : decode cL_law 624 = .ok (.aload_n 0, 1) := by decide +kernel
theorem dL_law_625 : decode cL_law 625 = .ok (.iload_n 3, 1) := by decide +kernel
theorem dL_law_626 : decode cL_law 626 = .ok (.iconst 1, 1) := by decide +kernel
theorem dL_law_627 : decode cL_law 627 = .ok (.iadd, 1) := by decide +kernel
theorem dL_law_628 : decode cL_law 628 = .ok (.iaload, 1) := by decide +kernel
theorem dL_law_629 : decode cL_law 629 = .ok (.aload_n 0, 1) := by decide +kernel
theorem dL_law_630 : decode cL_law 630 = .ok (.iload_n 3, 1) := by decide +kernel
theorem dL_law_631 : decode cL_law 631 = .ok (.iconst 2, 1) := by decide +kernel
theorem dL_law_632 : decode cL_law 632 = .ok (.iadd, 1) := by decide +kernel
theorem dL_law_633 : decode cL_law 633 = .ok (.iaload, 1) := by decide +kernel
theorem dL_law_634 : decode cL_law 634 = .ok (.invokevirtual 81, 3) := by decide +kernel
theorem dL_law_637 : decode cL_law 637 = .ok (.if_icmp .eq 532, 3) := by decide +kernel
theorem dL_law_640 : decode cL_law 640 = .ok (.iconst 0, 1) := by decide +kernel
theorem dL_law_641 : decode cL_law 641 = .ok (.ireturn, 1) := by decide +kernel
theorem dL_law_642 : decode cL_law 642 = .ok (.aload_n 1, 1) := by decide +kernel
theorem dL_law_643 : decode cL_law 643 = .ok (.aload_n 0, 1) := by decide +kernel
theorem dL_law_644 : decode cL_law 644 = .ok (.iload_n 3, 1) := by decide +kernel
theorem dL_law_645 : decode cL_law 645 = .ok (.iconst 1, 1) := by decide +kernel
theorem dL_law_646 : decode cL_law 646 = .ok (.iadd, 1) := by decide +kernel
theorem dL_law_647 : decode cL_law 647 = .ok (.iaload, 1) := by decide +kernel
theorem dL_law_648 : decode cL_law 648 = .ok (.aload_n 0, 1) := by decide +kernel
theorem dL_law_649 : decode cL_law 649 = .ok (.iload_n 3, 1) := by decide +kernel
theorem dL_law_650 : decode cL_law 650 = .ok (.iconst 2, 1) := by decide +kernel
theorem dL_law_651 : decode cL_law 651 = .ok (.iadd, 1) := by decide +kernel
theorem dL_law_652 : decode cL_law 652 = .ok (.iaload, 1) := by decide +kernel
theorem dL_law_653 : decode cL_law 653 = .ok (.invokevirtual 82, 3) := by decide +kernel
theorem dL_law_656 : decode cL_law 656 = .ok (.aload_n 2, 1) := by decide +kernel
theorem dL_law_657 : decode cL_law 657 = .ok (.aload_n 0, 1) := by decide +kernel
theorem dL_law_658 : decode cL_law 658 = .ok (.iload_n 3, 1) := by decide +kernel
theorem dL_law_659 : decode cL_law 659 = .ok (.iconst 1, 1) := by decide +kernel
theorem dL_law_660 : decode cL_law 660 = .ok (.iadd, 1) := by decide +kernel
theorem dL_law_661 : decode cL_law 661 = .ok (.iaload, 1) := by decide +kernel
theorem dL_law_662 : decode cL_law 662 = .ok (.aload_n 0, 1) := by decide +kernel
theorem dL_law_663 : decode cL_law 663 = .ok (.iload_n 3, 1) := by decide +kernel
theorem dL_law_664 : decode cL_law 664 = .ok (.iconst 2, 1) := by decide +kernel
theorem dL_law_665 : decode cL_law 665 = .ok (.iadd, 1) := by decide +kernel
theorem dL_law_666 : decode cL_law 666 = .ok (.iaload, 1) := by decide +kernel
theorem dL_law_667 : decode cL_law 667 = .ok (.invokevirtual 85, 3) := by decide +kernel
theorem dL_law_670 : decode cL_law 670 = .ok (.if_icmp .eq 499, 3) := by decide +kernel
theorem dL_law_673 : decode cL_law 673 = .ok (.iconst 0, 1) := by decide +kernel
theorem dL_law_674 : decode cL_law 674 = .ok (.ireturn, 1) := by decide +kernel
theorem dL_law_675 : decode cL_law 675 = .ok (.aload_n 1, 1) := by decide +kernel
theorem dL_law_676 : decode cL_law 676 = .ok (.aload_n 0, 1) := by decide +kernel
theorem dL_law_677 : decode cL_law 677 = .ok (.iload_n 3, 1) := by decide +kernel
theorem dL_law_678 : decode cL_law 678 = .ok (.iconst 1, 1) := by decide +kernel
theorem dL_law_679 : decode cL_law 679 = .ok (.iadd, 1) := by decide +kernel
theorem dL_law_680 : decode cL_law 680 = .ok (.iaload, 1) := by decide +kernel
theorem dL_law_681 : decode cL_law 681 = .ok (.aload_n 0, 1) := by decide +kernel
theorem dL_law_682 : decode cL_law 682 = .ok (.iload_n 3, 1) := by decide +kernel
theorem dL_law_683 : decode cL_law 683 = .ok (.iconst 2, 1) := by decide +kernel
theorem dL_law_684 : decode cL_law 684 = .ok (.iadd, 1) := by decide +kernel
theorem dL_law_685 : decode cL_law 685 = .ok (.iaload, 1) := by decide +kernel
theorem dL_law_686 : decode cL_law 686 = .ok (.invokevirtual 86, 3) := by decide +kernel
theorem dL_law_689 : decode cL_law 689 = .ok (.aload_n 2, 1) := by decide +kernel
theorem dL_law_690 : decode cL_law 690 = .ok (.aload_n 0, 1) := by decide +kernel
theorem dL_law_691 : decode cL_law 691 = .ok (.iload_n 3, 1) := by decide +kernel
theorem dL_law_692 : decode cL_law 692 = .ok (.iconst 1, 1) := by decide +kernel
theorem dL_law_693 : decode cL_law 693 = .ok (.iadd, 1) := by decide +kernel
theorem dL_law_694 : decode cL_law 694 = .ok (.iaload, 1) := by decide +kernel
theorem dL_law_695 : decode cL_law 695 = .ok (.aload_n 0, 1) := by decide +kernel
theorem dL_law_696 : decode cL_law 696 = .ok (.iload_n 3, 1) := by decide +kernel
theorem dL_law_697 : decode cL_law 697 = .ok (.iconst 2, 1) := by decide +kernel
theorem dL_law_698 : decode cL_law 698 = .ok (.iadd, 1) := by decide +kernel
theorem dL_law_699 : decode cL_law 699 = .ok (.iaload, 1) := by decide +kernel
theorem dL_law_700 : decode cL_law 700 = .ok (.invokevirtual 89, 3) := by decide +kernel
theorem dL_law_703 : decode cL_law 703 = .ok (.if_icmp .eq 466, 3) := by decide +kernel
theorem dL_law_706 : decode cL_law 706 = .ok (.iconst 0, 1) := by decide +kernel
theorem dL_law_707 : decode cL_law 707 = .ok (.ireturn, 1) := by decide +kernel
theorem dL_law_708 : decode cL_law 708 = .ok (.aload_n 1, 1) := by decide +kernel
theorem dL_law_709 : decode cL_law 709 = .ok (.aload_n 0, 1) := by decide +kernel
theorem dL_law_710 : decode cL_law 710 = .ok (.iload_n 3, 1) := by decide +kernel
theorem dL_law_711 : decode cL_law 711 = .ok (.iconst 1, 1) := by decide +kernel
theorem dL_law_712 : decode cL_law 712 = .ok (.iadd, 1) := by decide +kernel
theorem dL_law_713 : decode cL_law 713 = .ok (.iaload, 1) := by decide +kernel
theorem dL_law_714 : decode cL_law 714 = .ok (.invokevirtual 90, 3) := by decide +kernel
theorem dL_law_717 : decode cL_law 717 = .ok (.aload_n 2, 1) := by decide +kernel
theorem dL_law_718 : decode cL_law 718 = .ok (.aload_n 0, 1) := by decide +kernel
theorem dL_law_719 : decode cL_law 719 = .ok (.iload_n 3, 1) := by decide +kernel
theorem dL_law_720 : decode cL_law 720 = .ok (.iconst 1, 1) := by decide +kernel
theorem dL_law_721 : decode cL_law 721 = .ok (.iadd, 1) := by decide +kernel
theorem dL_law_722 : decode cL_law 722 = .ok (.iaload, 1) := by decide +kernel
theorem dL_law_723 : decode cL_law 723 = .ok (.invokevirtual 93, 3) := by decide +kernel
theorem dL_law_726 : decode cL_law 726 = .ok (.if_icmp .eq 443, 3) := by decide +kernel
theorem dL_law_729 : decode cL_law 729 = .ok (.iconst 0, 1) := by decide +kernel
theorem dL_law_730 : decode cL_law 730 = .ok (.ireturn, 1) := by decide +kernel
theorem dL_law_731 : decode cL_law 731 = .ok (.aload_n 1, 1) := by decide +kernel
theorem dL_law_732 : decode cL_law 732 = .ok (.aload_n 0, 1) := by decide +kernel
theorem dL_law_733 : decode cL_law 733 = .ok (.iload_n 3, 1) := by decide +kernel
theorem dL_law_734 : decode cL_law 734 = .ok (.iconst 1, 1) := by decide +kernel
theorem dL_law_735 : decode cL_law 735 = .ok (.iadd, 1) := by decide +kernel
theorem dL_law_736 : decode cL_law 736 = .ok (.iaload, 1) := by decide +kernel
theorem dL_law_737 : decode cL_law 737 = .ok (.invokevirtual 94, 3) := by decide +kernel
theorem dL_law_740 : decode cL_law 740 = .ok (.aload_n 2, 1) := by decide +kernel
theorem dL_law_741 : decode cL_law 741 = .ok (.aload_n 0, 1) := by decide +kernel
theorem dL_law_742 : decode cL_law 742 = .ok (.iload_n 3, 1) := by decide +kernel
theorem dL_law_743 : decode cL_law 743 = .ok (.iconst 1, 1) := by decide +kernel
theorem dL_law_744 : decode cL_law 744 = .ok (.iadd, 1) := by decide +kernel
theorem dL_law_745 : decode cL_law 745 = .ok (.iaload, 1) := by decide +kernel
theorem dL_law_746 : decode cL_law 746 = .ok (.invokevirtual 97, 3) := by decide +kernel
theorem dL_law_749 : decode cL_law 749 = .ok (.if_icmp .eq 420, 3) := by decide +kernel
theorem dL_law_752 : decode cL_law 752 = .ok (.iconst 0, 1) := by decide +kernel
theorem dL_law_753 : decode cL_law 753 = .ok (.ireturn, 1) := by decide +kernel
theorem dL_law_754 : decode cL_law 754 = .ok (.aload_n 1, 1) := by decide +kernel
theorem dL_law_755 : decode cL_law 755 = .ok (.aload_n 0, 1) := by decide +kernel
theorem dL_law_756 : decode cL_law 756 = .ok (.iload_n 3, 1) := by decide +kernel
theorem dL_law_757 : decode cL_law 757 = .ok (.iconst 1, 1) := by decide +kernel
theorem dL_law_758 : decode cL_law 758 = .ok (.iadd, 1) := by decide +kernel
theorem dL_law_759 : decode cL_law 759 = .ok (.iaload, 1) := by decide +kernel
theorem dL_law_760 : decode cL_law 760 = .ok (.aload_n 0, 1) := by decide +kernel
theorem dL_law_761 : decode cL_law 761 = .ok (.iload_n 3, 1) := by decide +kernel
theorem dL_law_762 : decode cL_law 762 = .ok (.iconst 2, 1) := by decide +kernel
theorem dL_law_763 : decode cL_law 763 = .ok (.iadd, 1) := by decide +kernel
theorem dL_law_764 : decode cL_law 764 = .ok (.iaload, 1) := by decide +kernel
theorem dL_law_765 : decode cL_law 765 = .ok (.aload_n 0, 1) := by decide +kernel
theorem dL_law_766 : decode cL_law 766 = .ok (.iload_n 3, 1) := by decide +kernel
theorem dL_law_767 : decode cL_law 767 = .ok (.iconst 3, 1) := by decide +kernel
theorem dL_law_768 : decode cL_law 768 = .ok (.iadd, 1) := by decide +kernel
theorem dL_law_769 : decode cL_law 769 = .ok (.iaload, 1) := by decide +kernel
theorem dL_law_770 : decode cL_law 770 = .ok (.invokevirtual 98, 3) := by decide +kernel
theorem dL_law_773 : decode cL_law 773 = .ok (.aload_n 2, 1) := by decide +kernel
theorem dL_law_774 : decode cL_law 774 = .ok (.aload_n 0, 1) := by decide +kernel
theorem dL_law_775 : decode cL_law 775 = .ok (.iload_n 3, 1) := by decide +kernel
theorem dL_law_776 : decode cL_law 776 = .ok (.iconst 1, 1) := by decide +kernel
theorem dL_law_777 : decode cL_law 777 = .ok (.iadd, 1) := by decide +kernel
theorem dL_law_778 : decode cL_law 778 = .ok (.iaload, 1) := by decide +kernel
theorem dL_law_779 : decode cL_law 779 = .ok (.aload_n 0, 1) := by decide +kernel
theorem dL_law_780 : decode cL_law 780 = .ok (.iload_n 3, 1) := by decide +kernel
theorem dL_law_781 : decode cL_law 781 = .ok (.iconst 2, 1) := by decide +kernel
theorem dL_law_782 : decode cL_law 782 = .ok (.iadd, 1) := by decide +kernel
theorem dL_law_783 : decode cL_law 783 = .ok (.iaload, 1) := by decide +kernel
theorem dL_law_784 : decode cL_law 784 = .ok (.aload_n 0, 1) := by decide +kernel
theorem dL_law_785 : decode cL_law 785 = .ok (.iload_n 3, 1) := by decide +kernel
theorem dL_law_786 : decode cL_law 786 = .ok (.iconst 3, 1) := by decide +kernel
theorem dL_law_787 : decode cL_law 787 = .ok (.iadd, 1) := by decide +kernel
theorem dL_law_788 : decode cL_law 788 = .ok (.iaload, 1) := by decide +kernel
theorem dL_law_789 : decode cL_law 789 = .ok (.invokevirtual 101, 3) := by decide +kernel
theorem dL_law_792 : decode cL_law 792 = .ok (.if_icmp .eq 377, 3) := by decide +kernel
theorem dL_law_795 : decode cL_law 795 = .ok (.iconst 0, 1) := by decide +kernel
theorem dL_law_796 : decode cL_law 796 = .ok (.ireturn, 1) := by decide +kernel
theorem dL_law_797 : decode cL_law 797 = .ok (.aload_n 1, 1) := by decide +kernel
theorem dL_law_798 : decode cL_law 798 = .ok (.invokevirtual 102, 3) := by decide +kernel
theorem dL_law_801 : decode cL_law 801 = .ok (.aload_n 2, 1) := by decide +kernel
theorem dL_law_802 : decode cL_law 802 = .ok (.invokevirtual 105, 3) := by decide +kernel
theorem dL_law_805 : decode cL_law 805 = .ok (.if_icmp .eq 364, 3) := by decide +kernel
theorem dL_law_808 : decode cL_law 808 = .ok (.iconst 0, 1) := by decide +kernel
theorem dL_law_809 : decode cL_law 809 = .ok (.ireturn, 1) := by decide +kernel
theorem dL_law_810 : decode cL_law 810 = .ok (.aload_n 1, 1) := by decide +kernel
theorem dL_law_811 : decode cL_law 811 = .ok (.aload_n 0, 1) := by decide +kernel
theorem dL_law_812 : decode cL_law 812 = .ok (.iload_n 3, 1) := by decide +kernel
theorem dL_law_813 : decode cL_law 813 = .ok (.iconst 1, 1) := by decide +kernel
theorem dL_law_814 : decode cL_law 814 = .ok (.iadd, 1) := by decide +kernel
theorem dL_law_815 : decode cL_law 815 = .ok (.iaload, 1) := by decide +kernel
theorem dL_law_816 : decode cL_law 816 = .ok (.aload_n 0, 1) := by decide +kernel
theorem dL_law_817 : decode cL_law 817 = .ok (.iload_n 3, 1) := by decide +kernel
theorem dL_law_818 : decode cL_law 818 = .ok (.iconst 2, 1) := by decide +kernel
theorem dL_law_819 : decode cL_law 819 = .ok (.iadd, 1) := by decide +kernel
theorem dL_law_820 : decode cL_law 820 = .ok (.iaload, 1) := by decide +kernel
theorem dL_law_821 : decode cL_law 821 = .ok (.invokevirtual 106, 3) := by decide +kernel
theorem dL_law_824 : decode cL_law 824 = .ok (.aload_n 2, 1) := by decide +kernel
theorem dL_law_825 : decode cL_law 825 = .ok (.aload_n 0, 1) := by decide +kernel
theorem dL_law_826 : decode cL_law 826 = .ok (.iload_n 3, 1) := by decide +kernel
theorem dL_law_827 : decode cL_law 827 = .ok (.iconst 1, 1) := by decide +kernel
theorem dL_law_828 : decode cL_law 828 = .ok (.iadd, 1) := by decide +kernel
theorem dL_law_829 : decode cL_law 829 = .ok (.iaload, 1) := by decide +kernel
theorem dL_law_830 : decode cL_law 830 = .ok (.aload_n 0, 1) := by decide +kernel
theorem dL_law_831 : decode cL_law 831 = .ok (.iload_n 3, 1) := by decide +kernel
theorem dL_law_832 : decode cL_law 832 = .ok (.iconst 2, 1) := by decide +kernel
theorem dL_law_833 : decode cL_law 833 = .ok (.iadd, 1) := by decide +kernel
theorem dL_law_834 : decode cL_law 834 = .ok (.iaload, 1) := by decide +kernel
theorem dL_law_835 : decode cL_law 835 = .ok (.invokevirtual 109, 3) := by decide +kernel
theorem dL_law_838 : decode cL_law 838 = .ok (.if_icmp .eq 331, 3) := by decide +kernel
theorem dL_law_841 : decode cL_law 841 = .ok (.iconst 0, 1) := by decide +kernel
theorem dL_law_842 : decode cL_law 842 = .ok (.ireturn, 1) := by decide +kernel
theorem dL_law_843 : decode cL_law 843 = .ok (.aload_n 1, 1) := by decide +kernel
theorem dL_law_844 : decode cL_law 844 = .ok (.aload_n 0, 1) := by decide +kernel
theorem dL_law_845 : decode cL_law 845 = .ok (.iload_n 3, 1) := by decide +kernel
theorem dL_law_846 : decode cL_law 846 = .ok (.iconst 1, 1) := by decide +kernel
theorem dL_law_847 : decode cL_law 847 = .ok (.iadd, 1) := by decide +kernel
theorem dL_law_848 : decode cL_law 848 = .ok (.iaload, 1) := by decide +kernel
theorem dL_law_849 : decode cL_law 849 = .ok (.aload_n 0, 1) := by decide +kernel
theorem dL_law_850 : decode cL_law 850 = .ok (.iload_n 3, 1) := by decide +kernel
theorem dL_law_851 : decode cL_law 851 = .ok (.iconst 2, 1) := by decide +kernel
theorem dL_law_852 : decode cL_law 852 = .ok (.iadd, 1) := by decide +kernel
theorem dL_law_853 : decode cL_law 853 = .ok (.iaload, 1) := by decide +kernel
theorem dL_law_854 : decode cL_law 854 = .ok (.aload_n 0, 1) := by decide +kernel
theorem dL_law_855 : decode cL_law 855 = .ok (.iload_n 3, 1) := by decide +kernel
theorem dL_law_856 : decode cL_law 856 = .ok (.iconst 3, 1) := by decide +kernel
theorem dL_law_857 : decode cL_law 857 = .ok (.iadd, 1) := by decide +kernel
theorem dL_law_858 : decode cL_law 858 = .ok (.iaload, 1) := by decide +kernel
theorem dL_law_859 : decode cL_law 859 = .ok (.invokevirtual 110, 3) := by decide +kernel
theorem dL_law_862 : decode cL_law 862 = .ok (.aload_n 2, 1) := by decide +kernel
theorem dL_law_863 : decode cL_law 863 = .ok (.aload_n 0, 1) := by decide +kernel
theorem dL_law_864 : decode cL_law 864 = .ok (.iload_n 3, 1) := by decide +kernel
theorem dL_law_865 : decode cL_law 865 = .ok (.iconst 1, 1) := by decide +kernel
theorem dL_law_866 : decode cL_law 866 = .ok (.iadd, 1) := by decide +kernel
theorem dL_law_867 : decode cL_law 867 = .ok (.iaload, 1) := by decide +kernel
theorem dL_law_868 : decode cL_law 868 = .ok (.aload_n 0, 1) := by decide +kernel
theorem dL_law_869 : decode cL_law 869 = .ok (.iload_n 3, 1) := by decide +kernel
theorem dL_law_870 : decode cL_law 870 = .ok (.iconst 2, 1) := by decide +kernel
theorem dL_law_871 : decode cL_law 871 = .ok (.iadd, 1) := by decide +kernel
theorem dL_law_872 : decode cL_law 872 = .ok (.iaload, 1) := by decide +kernel
theorem dL_law_873 : decode cL_law 873 = .ok (.aload_n 0, 1) := by decide +kernel
theorem dL_law_874 : decode cL_law 874 = .ok (.iload_n 3, 1) := by decide +kernel
theorem dL_law_875 : decode cL_law 875 = .ok (.iconst 3, 1) := by decide +kernel
theorem dL_law_876 : decode cL_law 876 = .ok (.iadd, 1) := by decide +kernel
theorem dL_law_877 : decode cL_law 877 = .ok (.iaload, 1) := by decide +kernel
theorem dL_law_878 : decode cL_law 878 = .ok (.invokevirtual 113, 3) := by decide +kernel
theorem dL_law_881 : decode cL_law 881 = .ok (.if_icmp .eq 288, 3) := by decide +kernel
theorem dL_law_884 : decode cL_law 884 = .ok (.iconst 0, 1) := by decide +kernel
theorem dL_law_885 : decode cL_law 885 = .ok (.ireturn, 1) := by decide +kernel
theorem dL_law_886 : decode cL_law 886 = .ok (.aload_n 1, 1) := by decide +kernel
theorem dL_law_887 : decode cL_law 887 = .ok (.aload_n 0, 1) := by decide +kernel
theorem dL_law_888 : decode cL_law 888 = .ok (.iload_n 3, 1) := by decide +kernel
theorem dL_law_889 : decode cL_law 889 = .ok (.iconst 1, 1) := by decide +kernel
theorem dL_law_890 : decode cL_law 890 = .ok (.iadd, 1) := by decide +kernel
theorem dL_law_891 : decode cL_law 891 = .ok (.iaload, 1) := by decide +kernel
theorem dL_law_892 : decode cL_law 892 = .ok (.aload_n 0, 1) := by decide +kernel
theorem dL_law_893 : decode cL_law 893 = .ok (.iload_n 3, 1) := by decide +kernel
theorem dL_law_894 : decode cL_law 894 = .ok (.iconst 2, 1) := by decide +kernel
theorem dL_law_895 : decode cL_law 895 = .ok (.iadd, 1) := by decide +kernel
theorem dL_law_896 : decode cL_law 896 = .ok (.iaload, 1) := by decide +kernel
theorem dL_law_897 : decode cL_law 897 = .ok (.invokevirtual 114, 3) := by decide +kernel
theorem dL_law_900 : decode cL_law 900 = .ok (.aload_n 2, 1) := by decide +kernel
theorem dL_law_901 : decode cL_law 901 = .ok (.aload_n 0, 1) := by decide +kernel
theorem dL_law_902 : decode cL_law 902 = .ok (.iload_n 3, 1) := by decide +kernel
theorem dL_law_903 : decode cL_law 903 = .ok (.iconst 1, 1) := by decide +kernel
theorem dL_law_904 : decode cL_law 904 = .ok (.iadd, 1) := by decide +kernel
theorem dL_law_905 : decode cL_law 905 = .ok (.iaload, 1) := by decide +kernel
theorem dL_law_906 : decode cL_law 906 = .ok (.aload_n 0, 1) := by decide +kernel
theorem dL_law_907 : decode cL_law 907 = .ok (.iload_n 3, 1) := by decide +kernel
theorem dL_law_908 : decode cL_law 908 = .ok (.iconst 2, 1) := by decide +kernel
theorem dL_law_909 : decode cL_law 909 = .ok (.iadd, 1) := by decide +kernel
theorem dL_law_910 : decode cL_law 910 = .ok (.iaload, 1) := by decide +kernel
theorem dL_law_911 : decode cL_law 911 = .ok (.invokevirtual 117, 3) := by decide +kernel
theorem dL_law_914 : decode cL_law 914 = .ok (.if_icmp .eq 255, 3) := by decide +kernel
theorem dL_law_917 : decode cL_law 917 = .ok (.iconst 0, 1) := by decide +kernel
theorem dL_law_918 : decode cL_law 918 = .ok (.ireturn, 1) := by decide +kernel
theorem dL_law_919 : decode cL_law 919 = .ok (.aload_n 1, 1) := by decide +kernel
theorem dL_law_920 : decode cL_law 920 = .ok (.aload_n 0, 1) := by decide +kernel
theorem dL_law_921 : decode cL_law 921 = .ok (.iload_n 3, 1) := by decide +kernel
theorem dL_law_922 : decode cL_law 922 = .ok (.iconst 1, 1) := by decide +kernel
theorem dL_law_923 : decode cL_law 923 = .ok (.iadd, 1) := by decide +kernel
theorem dL_law_924 : decode cL_law 924 = .ok (.iaload, 1) := by decide +kernel
theorem dL_law_925 : decode cL_law 925 = .ok (.aload_n 0, 1) := by decide +kernel
theorem dL_law_926 : decode cL_law 926 = .ok (.iload_n 3, 1) := by decide +kernel
theorem dL_law_927 : decode cL_law 927 = .ok (.iconst 2, 1) := by decide +kernel
theorem dL_law_928 : decode cL_law 928 = .ok (.iadd, 1) := by decide +kernel
theorem dL_law_929 : decode cL_law 929 = .ok (.iaload, 1) := by decide +kernel
theorem dL_law_930 : decode cL_law 930 = .ok (.invokevirtual 118, 3) := by decide +kernel
theorem dL_law_933 : decode cL_law 933 = .ok (.aload_n 2, 1) := by decide +kernel
theorem dL_law_934 : decode cL_law 934 = .ok (.aload_n 0, 1) := by decide +kernel
theorem dL_law_935 : decode cL_law 935 = .ok (.iload_n 3, 1) := by decide +kernel
theorem dL_law_936 : decode cL_law 936 = .ok (.iconst 1, 1) := by decide +kernel
theorem dL_law_937 : decode cL_law 937 = .ok (.iadd, 1) := by decide +kernel
theorem dL_law_938 : decode cL_law 938 = .ok (.iaload, 1) := by decide +kernel
theorem dL_law_939 : decode cL_law 939 = .ok (.aload_n 0, 1) := by decide +kernel
theorem dL_law_940 : decode cL_law 940 = .ok (.iload_n 3, 1) := by decide +kernel
theorem dL_law_941 : decode cL_law 941 = .ok (.iconst 2, 1) := by decide +kernel
theorem dL_law_942 : decode cL_law 942 = .ok (.iadd, 1) := by decide +kernel
theorem dL_law_943 : decode cL_law 943 = .ok (.iaload, 1) := by decide +kernel
theorem dL_law_944 : decode cL_law 944 = .ok (.invokevirtual 121, 3) := by decide +kernel
theorem dL_law_947 : decode cL_law 947 = .ok (.if_icmp .eq 222, 3) := by decide +kernel
theorem dL_law_950 : decode cL_law 950 = .ok (.iconst 0, 1) := by decide +kernel
theorem dL_law_951 : decode cL_law 951 = .ok (.ireturn, 1) := by decide +kernel
theorem dL_law_952 : decode cL_law 952 = .ok (.aload_n 1, 1) := by decide +kernel
theorem dL_law_953 : decode cL_law 953 = .ok (.aload_n 0, 1) := by decide +kernel
theorem dL_law_954 : decode cL_law 954 = .ok (.iload_n 3, 1) := by decide +kernel
theorem dL_law_955 : decode cL_law 955 = .ok (.iconst 1, 1) := by decide +kernel
theorem dL_law_956 : decode cL_law 956 = .ok (.iadd, 1) := by decide +kernel
theorem dL_law_957 : decode cL_law 957 = .ok (.iaload, 1) := by decide +kernel
theorem dL_law_958 : decode cL_law 958 = .ok (.aload_n 0, 1) := by decide +kernel
theorem dL_law_959 : decode cL_law 959 = .ok (.iload_n 3, 1) := by decide +kernel
theorem dL_law_960 : decode cL_law 960 = .ok (.iconst 2, 1) := by decide +kernel
theorem dL_law_961 : decode cL_law 961 = .ok (.iadd, 1) := by decide +kernel
theorem dL_law_962 : decode cL_law 962 = .ok (.iaload, 1) := by decide +kernel
theorem dL_law_963 : decode cL_law 963 = .ok (.invokevirtual 122, 3) := by decide +kernel
theorem dL_law_966 : decode cL_law 966 = .ok (.aload_n 2, 1) := by decide +kernel
theorem dL_law_967 : decode cL_law 967 = .ok (.aload_n 0, 1) := by decide +kernel
theorem dL_law_968 : decode cL_law 968 = .ok (.iload_n 3, 1) := by decide +kernel
theorem dL_law_969 : decode cL_law 969 = .ok (.iconst 1, 1) := by decide +kernel
theorem dL_law_970 : decode cL_law 970 = .ok (.iadd, 1) := by decide +kernel
theorem dL_law_971 : decode cL_law 971 = .ok (.iaload, 1) := by decide +kernel
theorem dL_law_972 : decode cL_law 972 = .ok (.aload_n 0, 1) := by decide +kernel
theorem dL_law_973 : decode cL_law 973 = .ok (.iload_n 3, 1) := by decide +kernel
theorem dL_law_974 : decode cL_law 974 = .ok (.iconst 2, 1) := by decide +kernel
theorem dL_law_975 : decode cL_law 975 = .ok (.iadd, 1) := by decide +kernel
theorem dL_law_976 : decode cL_law 976 = .ok (.iaload, 1) := by decide +kernel
theorem dL_law_977 : decode cL_law 977 = .ok (.invokevirtual 125, 3) := by decide +kernel
theorem dL_law_980 : decode cL_law 980 = .ok (.if_icmp .eq 189, 3) := by decide +kernel
theorem dL_law_983 : decode cL_law 983 = .ok (.iconst 0, 1) := by decide +kernel
theorem dL_law_984 : decode cL_law 984 = .ok (.ireturn, 1) := by decide +kernel
theorem dL_law_985 : decode cL_law 985 = .ok (.aload_n 1, 1) := by decide +kernel
theorem dL_law_986 : decode cL_law 986 = .ok (.aload_n 0, 1) := by decide +kernel
theorem dL_law_987 : decode cL_law 987 = .ok (.iload_n 3, 1) := by decide +kernel
theorem dL_law_988 : decode cL_law 988 = .ok (.iconst 1, 1) := by decide +kernel
theorem dL_law_989 : decode cL_law 989 = .ok (.iadd, 1) := by decide +kernel
theorem dL_law_990 : decode cL_law 990 = .ok (.iaload, 1) := by decide +kernel
theorem dL_law_991 : decode cL_law 991 = .ok (.aload_n 0, 1) := by decide +kernel
theorem dL_law_992 : decode cL_law 992 = .ok (.iload_n 3, 1) := by decide +kernel
theorem dL_law_993 : decode cL_law 993 = .ok (.iconst 2, 1) := by decide +kernel
theorem dL_law_994 : decode cL_law 994 = .ok (.iadd, 1) := by decide +kernel
theorem dL_law_995 : decode cL_law 995 = .ok (.iaload, 1) := by decide +kernel
theorem dL_law_996 : decode cL_law 996 = .ok (.invokevirtual 126, 3) := by decide +kernel
theorem dL_law_999 : decode cL_law 999 = .ok (.aload_n 2, 1) := by decide +kernel
theorem dL_law_1000 : decode cL_law 1000 = .ok (.aload_n 0, 1) := by decide +kernel
theorem dL_law_1001 : decode cL_law 1001 = .ok (.iload_n 3, 1) := by decide +kernel
theorem dL_law_1002 : decode cL_law 1002 = .ok (.iconst 1, 1) := by decide +kernel
theorem dL_law_1003 : decode cL_law 1003 = .ok (.iadd, 1) := by decide +kernel
theorem dL_law_1004 : decode cL_law 1004 = .ok (.iaload, 1) := by decide +kernel
theorem dL_law_1005 : decode cL_law 1005 = .ok (.aload_n 0, 1) := by decide +kernel
theorem dL_law_1006 : decode cL_law 1006 = .ok (.iload_n 3, 1) := by decide +kernel
theorem dL_law_1007 : decode cL_law 1007 = .ok (.iconst 2, 1) := by decide +kernel
theorem dL_law_1008 : decode cL_law 1008 = .ok (.iadd, 1) := by decide +kernel
theorem dL_law_1009 : decode cL_law 1009 = .ok (.iaload, 1) := by decide +kernel
theorem dL_law_1010 : decode cL_law 1010 = .ok (.invokevirtual 129, 3) := by decide +kernel
theorem dL_law_1013 : decode cL_law 1013 = .ok (.if_icmp .eq 156, 3) := by decide +kernel
theorem dL_law_1016 : decode cL_law 1016 = .ok (.iconst 0, 1) := by decide +kernel
theorem dL_law_1017 : decode cL_law 1017 = .ok (.ireturn, 1) := by decide +kernel
theorem dL_law_1018 : decode cL_law 1018 = .ok (.aload_n 1, 1) := by decide +kernel
theorem dL_law_1019 : decode cL_law 1019 = .ok (.aload_n 0, 1) := by decide +kernel
theorem dL_law_1020 : decode cL_law 1020 = .ok (.iload_n 3, 1) := by decide +kernel
theorem dL_law_1021 : decode cL_law 1021 = .ok (.iconst 1, 1) := by decide +kernel
theorem dL_law_1022 : decode cL_law 1022 = .ok (.iadd, 1) := by decide +kernel
theorem dL_law_1023 : decode cL_law 1023 = .ok (.iaload, 1) := by decide +kernel
theorem dL_law_1024 : decode cL_law 1024 = .ok (.aload_n 0, 1) := by decide +kernel
theorem dL_law_1025 : decode cL_law 1025 = .ok (.iload_n 3, 1) := by decide +kernel
theorem dL_law_1026 : decode cL_law 1026 = .ok (.iconst 2, 1) := by decide +kernel
theorem dL_law_1027 : decode cL_law 1027 = .ok (.iadd, 1) := by decide +kernel
theorem dL_law_1028 : decode cL_law 1028 = .ok (.iaload, 1) := by decide +kernel
theorem dL_law_1029 : decode cL_law 1029 = .ok (.aload_n 0, 1) := by decide +kernel
theorem dL_law_1030 : decode cL_law 1030 = .ok (.iload_n 3, 1) := by decide +kernel
theorem dL_law_1031 : decode cL_law 1031 = .ok (.iconst 3, 1) := by decide +kernel
theorem dL_law_1032 : decode cL_law 1032 = .ok (.iadd, 1) := by decide +kernel
theorem dL_law_1033 : decode cL_law 1033 = .ok (.iaload, 1) := by decide +kernel
theorem dL_law_1034 : decode cL_law 1034 = .ok (.invokevirtual 130, 3) := by decide +kernel
theorem dL_law_1037 : decode cL_law 1037 = .ok (.aload_n 2, 1) := by decide +kernel
theorem dL_law_1038 : decode cL_law 1038 = .ok (.aload_n 0, 1) := by decide +kernel
theorem dL_law_1039 : decode cL_law 1039 = .ok (.iload_n 3, 1) := by decide +kernel
theorem dL_law_1040 : decode cL_law 1040 = .ok (.iconst 1, 1) := by decide +kernel
theorem dL_law_1041 : decode cL_law 1041 = .ok (.iadd, 1) := by decide +kernel
theorem dL_law_1042 : decode cL_law 1042 = .ok (.iaload, 1) := by decide +kernel
theorem dL_law_1043 : decode cL_law 1043 = .ok (.aload_n 0, 1) := by decide +kernel
theorem dL_law_1044 : decode cL_law 1044 = .ok (.iload_n 3, 1) := by decide +kernel
theorem dL_law_1045 : decode cL_law 1045 = .ok (.iconst 2, 1) := by decide +kernel
theorem dL_law_1046 : decode cL_law 1046 = .ok (.iadd, 1) := by decide +kernel
theorem dL_law_1047 : decode cL_law 1047 = .ok (.iaload, 1) := by decide +kernel
theorem dL_law_1048 : decode cL_law 1048 = .ok (.aload_n 0, 1) := by decide +kernel
theorem dL_law_1049 : decode cL_law 1049 = .ok (.iload_n 3, 1) := by decide +kernel
theorem dL_law_1050 : decode cL_law 1050 = .ok (.iconst 3, 1) := by decide +kernel
theorem dL_law_1051 : decode cL_law 1051 = .ok (.iadd, 1) := by decide +kernel
theorem dL_law_1052 : decode cL_law 1052 = .ok (.iaload, 1) := by decide +kernel
theorem dL_law_1053 : decode cL_law 1053 = .ok (.invokevirtual 133, 3) := by decide +kernel
theorem dL_law_1056 : decode cL_law 1056 = .ok (.if_icmp .eq 113, 3) := by decide +kernel
theorem dL_law_1059 : decode cL_law 1059 = .ok (.iconst 0, 1) := by decide +kernel
theorem dL_law_1060 : decode cL_law 1060 = .ok (.ireturn, 1) := by decide +kernel
theorem dL_law_1061 : decode cL_law 1061 = .ok (.aload_n 1, 1) := by decide +kernel
theorem dL_law_1062 : decode cL_law 1062 = .ok (.invokevirtual 134, 3) := by decide +kernel
theorem dL_law_1065 : decode cL_law 1065 = .ok (.aload_n 2, 1) := by decide +kernel
theorem dL_law_1066 : decode cL_law 1066 = .ok (.invokevirtual 137, 3) := by decide +kernel
theorem dL_law_1069 : decode cL_law 1069 = .ok (.if_icmp .eq 100, 3) := by decide +kernel
theorem dL_law_1072 : decode cL_law 1072 = .ok (.iconst 0, 1) := by decide +kernel
theorem dL_law_1073 : decode cL_law 1073 = .ok (.ireturn, 1) := by decide +kernel
theorem dL_law_1074 : decode cL_law 1074 = .ok (.aload_n 1, 1) := by decide +kernel
theorem dL_law_1075 : decode cL_law 1075 = .ok (.aload_n 0, 1) := by decide +kernel
theorem dL_law_1076 : decode cL_law 1076 = .ok (.iload_n 3, 1) := by decide +kernel
theorem dL_law_1077 : decode cL_law 1077 = .ok (.iconst 1, 1) := by decide +kernel
theorem dL_law_1078 : decode cL_law 1078 = .ok (.iadd, 1) := by decide +kernel
theorem dL_law_1079 : decode cL_law 1079 = .ok (.iaload, 1) := by decide +kernel
theorem dL_law_1080 : decode cL_law 1080 = .ok (.aload_n 0, 1) := by decide +kernel
theorem dL_law_1081 : decode cL_law 1081 = .ok (.iload_n 3, 1) := by decide +kernel
theorem dL_law_1082 : decode cL_law 1082 = .ok (.iconst 2, 1) := by decide +kernel
theorem dL_law_1083 : decode cL_law 1083 = .ok (.iadd, 1) := by decide +kernel
theorem dL_law_1084 : decode cL_law 1084 = .ok (.iaload, 1) := by decide +kernel
theorem dL_law_1085 : decode cL_law 1085 = .ok (.invokevirtual 138, 3) := by decide +kernel
theorem dL_law_1088 : decode cL_law 1088 = .ok (.aload_n 2, 1) := by decide +kernel
theorem dL_law_1089 : decode cL_law 1089 = .ok (.aload_n 0, 1) := by decide +kernel
theorem dL_law_1090 : decode cL_law 1090 = .ok (.iload_n 3, 1) := by decide +kernel
theorem dL_law_1091 : decode cL_law 1091 = .ok (.iconst 1, 1) := by decide +kernel
theorem dL_law_1092 : decode cL_law 1092 = .ok (.iadd, 1) := by decide +kernel
theorem dL_law_1093 : decode cL_law 1093 = .ok (.iaload, 1) := by decide +kernel
theorem dL_law_1094 : decode cL_law 1094 = .ok (.aload_n 0, 1) := by decide +kernel
theorem dL_law_1095 : decode cL_law 1095 = .ok (.iload_n 3, 1) := by decide +kernel
theorem dL_law_1096 : decode cL_law 1096 = .ok (.iconst 2, 1) := by decide +kernel
theorem dL_law_1097 : decode cL_law 1097 = .ok (.iadd, 1) := by decide +kernel
theorem dL_law_1098 : decode cL_law 1098 = .ok (.iaload, 1) := by decide +kernel
theorem dL_law_1099 : decode cL_law 1099 = .ok (.invokevirtual 141, 3) := by decide +kernel
theorem dL_law_1102 : decode cL_law 1102 = .ok (.if_icmp .eq 67, 3) := by decide +kernel
theorem dL_law_1105 : decode cL_law 1105 = .ok (.iconst 0, 1) := by decide +kernel
theorem dL_law_1106 : decode cL_law 1106 = .ok (.ireturn, 1) := by decide +kernel
theorem dL_law_1107 : decode cL_law 1107 = .ok (.aload_n 1, 1) := by decide +kernel
theorem dL_law_1108 : decode cL_law 1108 = .ok (.invokevirtual 142, 3) := by decide +kernel
theorem dL_law_1111 : decode cL_law 1111 = .ok (.aload_n 2, 1) := by decide +kernel
theorem dL_law_1112 : decode cL_law 1112 = .ok (.invokevirtual 145, 3) := by decide +kernel
theorem dL_law_1115 : decode cL_law 1115 = .ok (.if_icmp .eq 54, 3) := by decide +kernel
theorem dL_law_1118 : decode cL_law 1118 = .ok (.iconst 0, 1) := by decide +kernel
theorem dL_law_1119 : decode cL_law 1119 = .ok (.ireturn, 1) := by decide +kernel
theorem dL_law_1120 : decode cL_law 1120 = .ok (.aload_n 1, 1) := by decide +kernel
theorem dL_law_1121 : decode cL_law 1121 = .ok (.invokevirtual 146, 3) := by decide +kernel
theorem dL_law_1124 : decode cL_law 1124 = .ok (.aload_n 2, 1) := by decide +kernel
theorem dL_law_1125 : decode cL_law 1125 = .ok (.invokevirtual 149, 3) := by decide +kernel
theorem dL_law_1128 : decode cL_law 1128 = .ok (.if_icmp .eq 41, 3) := by decide +kernel
theorem dL_law_1131 : decode cL_law 1131 = .ok (.iconst 0, 1) := by decide +kernel
theorem dL_law_1132 : decode cL_law 1132 = .ok (.ireturn, 1) := by decide +kernel
theorem dL_law_1133 : decode cL_law 1133 = .ok (.aload_n 1, 1) := by decide +kernel
theorem dL_law_1134 : decode cL_law 1134 = .ok (.invokevirtual 150, 3) := by decide +kernel
theorem dL_law_1137 : decode cL_law 1137 = .ok (.aload_n 2, 1) := by decide +kernel
theorem dL_law_1138 : decode cL_law 1138 = .ok (.invokevirtual 153, 3) := by decide +kernel
theorem dL_law_1141 : decode cL_law 1141 = .ok (.if_icmp .eq 28, 3) := by decide +kernel
theorem dL_law_1144 : decode cL_law 1144 = .ok (.iconst 0, 1) := by decide +kernel
theorem dL_law_1145 : decode cL_law 1145 = .ok (.ireturn, 1) := by decide +kernel
theorem dL_law_1146 : decode cL_law 1146 = .ok (.aload_n 1, 1) := by decide +kernel
theorem dL_law_1147 : decode cL_law 1147 = .ok (.aload_n 0, 1) := by decide +kernel
theorem dL_law_1148 : decode cL_law 1148 = .ok (.iload_n 3, 1) := by decide +kernel
theorem dL_law_1149 : decode cL_law 1149 = .ok (.iconst 1, 1) := by decide +kernel
theorem dL_law_1150 : decode cL_law 1150 = .ok (.iadd, 1) := by decide +kernel
theorem dL_law_1151 : decode cL_law 1151 = .ok (.iaload, 1) := by decide +kernel
theorem dL_law_1152 : decode cL_law 1152 = .ok (.invokevirtual 154, 3) := by decide +kernel
theorem dL_law_1155 : decode cL_law 1155 = .ok (.aload_n 2, 1) := by decide +kernel
theorem dL_law_1156 : decode cL_law 1156 = .ok (.aload_n 0, 1) := by decide +kernel
theorem dL_law_1157 : decode cL_law 1157 = .ok (.iload_n 3, 1) := by decide +kernel
theorem dL_law_1158 : decode cL_law 1158 = .ok (.iconst 1, 1) := by decide +kernel
theorem dL_law_1159 : decode cL_law 1159 = .ok (.iadd, 1) := by decide +kernel
theorem dL_law_1160 : decode cL_law 1160 = .ok (.iaload, 1) := by decide +kernel
theorem dL_law_1161 : decode cL_law 1161 = .ok (.invokevirtual 157, 3) := by decide +kernel
theorem dL_law_1164 : decode cL_law 1164 = .ok (.if_icmp .eq 5, 3) := by decide +kernel
theorem dL_law_1167 : decode cL_law 1167 = .ok (.iconst 0, 1) := by decide +kernel
theorem dL_law_1168 : decode cL_law 1168 = .ok (.ireturn, 1) := by decide +kernel
theorem dL_law_1169 : decode cL_law 1169 = .ok (.iinc 3 4, 3) := by decide +kernel
theorem dL_law_1172 : decode cL_law 1172 = .ok (.goto (-1154), 3) := by decide +kernel
theorem dL_law_1175 : decode cL_law 1175 = .ok (.iconst 1, 1) := by decide +kernel
theorem dL_law_1176 : decode cL_law 1176 = .ok (.ireturn, 1) := by decide +kernel
abbrev vwCl : List vw_C := [(RX0, TX0, 9), (RX2, TX2, 4), (RX3, TX3, 4), (RX4, TX4, 5), (RX6, TX6, 12), (RX7, TX7, 32)]
end
section
/-! the tables' words serve every method; blocks of cells; contracts; rows over blocks -/
def WT : List Cond := lw_tbl.filter goodWord
theorem wt_m {w : Cond} (h : w ∈ lw_tbl) (hg : goodWord w = true) : w ∈ WT := List.mem_filter.mpr ⟨h, hg⟩
theorem wt_g {w : Cond} (h : w ∈ WT) : goodWord w = true := (List.mem_filter.mp h).2
theorem wt_in {y : MethodName} {cc : ByteArray} {mL : Nat} {ret : Option FieldType} (h : Cond.code y cc mL ret ∈ WT) : GoodIn WT (.code y cc mL ret :: WT) := by
  intro w hw
  have hm : w ∈ WT := by
    rcases List.mem_cons.mp hw with rfl | h2
    · exact h
    · exact h2
  exact ⟨hm, good_of_word (wt_g hm)⟩
def b2i (b : Bool) : Int32 := if b then 1 else 0
theorem b2i_t {b : Bool} (h : b = true) : b2i b = 1 := by rw [h]; rfl
theorem b2i_f {b : Bool} (h : b = false) : b2i b = 0 := by rw [h]; rfl
theorem b2i_ne {b : Bool} (h : ¬ b2i b = 0) : b = true := by cases b <;> simp_all [b2i]
theorem b2i_eq {b : Bool} (h : b2i b = 0) : b = false := by cases b <;> simp_all [b2i]
def rL (f mc ms : Nat) : Room := { frames := f, cells := mc, slots := ms, locals := 40 * f }
abbrev Gt : Type := va_G × (Nat → ClassId) × (Nat × Cell × Nat × Cell)
abbrev gTys (G : Gt) : List (ClassId × FieldType) := [(G.2.1 0, .int), (G.2.1 1, .long), (G.2.1 2, .object "PuzzleParts$Board"), (G.2.1 3, .object "PuzzleParts$Net")]
/-- links to nest mates' own constructors, and that arrays of objects can be made -/
def gN (U : State) : Prop := va_Nw (.methodLinkNest "PuzzleParts" 34 ⟨"PuzzleParts$Floor", "<init>", "()V"⟩ "PuzzleParts") U ∧ va_Nw (.methodLinkNest "PuzzleParts" 184 ⟨"PuzzleParts$Net", "<init>", "()V"⟩ "PuzzleParts") U ∧ va_Nw (.methodLinkNest "PuzzleParts$Floor" 53 ⟨"PuzzleParts$Net", "<init>", "()V"⟩ "PuzzleParts") U ∧ va_AO "PuzzleParts$Board" U ∧ va_AO "PuzzleParts$Net" U
theorem gN.same {u U : State} (h : u.vm = U.vm) (hN : gN u) : gN U := ⟨va_Nw.same rfl h hN.1, va_Nw.same rfl h hN.2.1, va_Nw.same rfl h hN.2.2.1, va_AO.moved (by rw [h]; exact Vm.Alike.refl _) hN.2.2.2.1, va_AO.moved (by rw [h]; exact Vm.Alike.refl _) hN.2.2.2.2⟩
theorem gN.warm {s U : State} (hW : s.WarmedH U.vm) (hN : gN s) : gN U := ⟨va_Nw.warmM hW hN.1, va_Nw.warmM hW hN.2.1, va_Nw.warmM hW hN.2.2.1, va_AO.moved hW.alike hN.2.2.2.1, va_AO.moved hW.alike hN.2.2.2.2⟩
/-- the static array of letters: what the tables say of it -/
def gZ (Z : Nat × Cell × Nat × Cell) (U : State) : Prop := ∃ (cf : ClassId) (kf : Class) (fi : Nat) (f : Field), U.fieldFound? "PuzzleParts$FormulaText" "LETTERS" "[J" = some (cf, kf, fi, f) ∧ f.isStatic = true ∧ kf.init = .initialized ∧ kf.statics = some Z.2.2.1 ∧ Z.2.2.2.vm.isStatics = true ∧ Z.2.2.2.slots[f.slot]? = some (.ref Z.1) ∧ U.isArrayOf Z.2.1 .long
theorem gZ.moved {Z : Nat × Cell × Nat × Cell} {u U : State} (hvm : u.vm.Alike U.vm) (h : gZ Z u) : gZ Z U := by
  obtain ⟨cf, kf, fi, f, h1, h2, h3, h4, h5, h6, h7⟩ := h
  obtain ⟨k', hi', he⟩ := State.fieldFound?_setVm hvm h1
  exact ⟨cf, k', fi, f, hi', h2, by rw [he]; exact h3, by rw [he]; exact h4, h5, h6, State.isArrayOf_alike hvm h7⟩
def gK (G : Gt) (U : State) : Prop := va_K G.1 vwCl (gTys G) U ∧ gN U ∧ gZ G.2.2 U
theorem gK.same {G : Gt} {u U : State} (h : u.vm = U.vm) (hK : gK G u) : gK G U := ⟨va_K.moved (by rw [h]; exact Vm.Alike.refl _) hK.1, hK.2.1.same h, hK.2.2.moved (by rw [h]; exact Vm.Alike.refl _)⟩
theorem gK.warm {G : Gt} {s U : State} (hW : s.WarmedH U.vm) (hK : gK G s) : gK G U := ⟨va_K.moved hW.alike hK.1, hK.2.1.warm hW, hK.2.2.moved hW.alike⟩
def bk (G : Gt) (b : Nat) (L : List va_E) (H : Heap) : Prop := ∀ (k : Nat) (e : va_E), L[k]? = some e → va_at G.1 vwCl (b + k, e) H
theorem bk.kept {G : Gt} {b : Nat} {L : List va_E} {H H1 : Heap} (h : bk G b L H) (hq : ∀ q : Nat, b ≤ q → q < b + L.length → H1[q]? = H[q]?) : bk G b L H1 :=
  fun k e hk => (h k e hk).kept (hq _ (Nat.le_add_right _ _) (Nat.add_lt_add_left (List.getElem?_eq_some_iff.mp hk).1 b))
theorem bk.lt {G : Gt} {b k : Nat} {L : List va_E} {H : Heap} (h : bk G b L H) (hk : k < L.length) : b + k < H.size := (h k L[k] (List.getElem?_eq_getElem hk)).lt
theorem bk.set {G : Gt} {b j : Nat} {L : List va_E} {H H1 : Heap} {e0 e : va_E} (h : bk G b L H) (hj : L[j]? = some e0) (he : va_at G.1 vwCl (b + j, e) H1) (oq : ∀ q : Nat, q ≠ b + j → H1[q]? = H[q]?) : bk G b (L.set j e) H1 := by
  have hl := (List.getElem?_eq_some_iff.mp hj).1
  intro k q hk
  by_cases hkj : k = j
  · subst hkj
    rw [List.getElem?_set_self hl] at hk
    cases hk
    exact he
  · rw [List.getElem?_set_ne (Ne.symm hkj)] at hk
    exact (h k q hk).kept (oq _ (fun z => hkj (Nat.add_left_cancel z)))
theorem bk.push {G : Gt} {b : Nat} {L : List va_E} {H H1 : Heap} {e : va_E} (h : bk G b L H) (hb : H.size = b + L.length) (he : va_at G.1 vwCl (b + L.length, e) H1) (oq : ∀ q : Nat, q < H.size → H1[q]? = H[q]?) : bk G b (L ++ [e]) H1 := by
  intro k q hk
  by_cases hl : k < L.length
  · rw [List.getElem?_append_left hl] at hk
    exact (h k q hk).kept (oq _ (h k q hk).lt)
  · rw [List.getElem?_append_right (by omega)] at hk
    have hz : k - L.length < 1 := (List.getElem?_eq_some_iff.mp hk).1
    have hk0 : k = L.length := by omega
    subst hk0
    rw [Nat.sub_self] at hk
    cases hk
    exact he
theorem bk.one {G : Gt} {b : Nat} {H : Heap} {e : va_E} (he : va_at G.1 vwCl (b, e) H) : bk G b [e] H := by
  intro k q hk
  have hz : k < 1 := (List.getElem?_eq_some_iff.mp hk).1
  have hk0 : k = 0 := by omega
  subst hk0
  cases hk
  exact he
/-- one cell of a block, as a world of one cell -/
theorem bk.P {G : Gt} {b j : Nat} {L : List va_E} {H : Heap} {e : va_E} (h : bk G b L H) (hj : L[j]? = some e) : va_P G.1 vwCl [(b + j, e)] H := by
  intro k q hk
  have hz : k < 1 := (List.getElem?_eq_some_iff.mp hk).1
  have hk0 : k = 0 := by omega
  subst hk0
  cases hk
  exact h j e hj
abbrev iA (G : Gt) (n : Nat) (f : Nat → Nat) : va_E := .inl (G.2.1 0, n, .inl (fun j => nI (f j)))
abbrev lA (G : Gt) (n : Nat) (f : Nat → Nat) : va_E := .inl (G.2.1 1, n, .inr (.inl (fun j => lN (f j))))
abbrev qA (G : Gt) (t n : Nat) (f : Nat → Option Nat) : va_E := .inl (G.2.1 t, n, .inr (.inr (.inr (.inr f))))
def uN (f : Nat → Nat) (i v : Nat) : Nat → Nat := fun j => if j = i then v else f j
theorem uN_s (f : Nat → Nat) (i v : Nat) : uN f i v i = v := by simp [uN]
theorem uN_n {f : Nat → Nat} {i v j : Nat} (h : j ≠ i) : uN f i v j = f j := by simp [uN, h]
/-- how a method's last instruction gives its answer -/
def KRet (cc : ByteArray) (pc : Nat) (ret : Option FieldType) (r : Option Value) : Prop :=
  (ret = none ∧ r = none ∧ decode cc pc = .ok (.return_, 1)) ∨ (∃ v, ret = some .int ∧ r = some (.int v) ∧ decode cc pc = .ok (.ireturn, 1)) ∨
  (∃ b, ret = some .boolean ∧ r = some (.int (b2i b)) ∧ decode cc pc = .ok (.ireturn, 1)) ∨ (∃ v, ret = some .long ∧ r = some (.long v) ∧ decode cc pc = .ok (.lreturn, 1)) ∨
  (∃ n, ret = some (.object n) ∧ (r = some .null ∨ ∃ a, r = some (.ref a)) ∧ decode cc pc = .ok (.areturn, 1))
theorem kr_v {cc : ByteArray} {pc : Nat} (h : decode cc pc = .ok (.return_, 1)) : KRet cc pc none none := Or.inl ⟨rfl, rfl, h⟩
theorem kr_i {cc : ByteArray} {pc : Nat} {v : Int32} (h : decode cc pc = .ok (.ireturn, 1)) : KRet cc pc (some .int) (some (.int v)) := Or.inr (Or.inl ⟨v, rfl, rfl, h⟩)
theorem kr_z {cc : ByteArray} {pc : Nat} {b : Bool} (h : decode cc pc = .ok (.ireturn, 1)) : KRet cc pc (some .boolean) (some (.int (b2i b))) := Or.inr (Or.inr (Or.inl ⟨b, rfl, rfl, h⟩))
theorem kr_l {cc : ByteArray} {pc : Nat} {v : Int64} (h : decode cc pc = .ok (.lreturn, 1)) : KRet cc pc (some .long) (some (.long v)) := Or.inr (Or.inr (Or.inr (Or.inl ⟨v, rfl, rfl, h⟩)))
theorem kr_a {cc : ByteArray} {pc a : Nat} {n : String} (h : decode cc pc = .ok (.areturn, 1)) : KRet cc pc (some (.object n)) (some (.ref a)) := Or.inr (Or.inr (Or.inr (Or.inr ⟨n, rfl, Or.inr ⟨a, rfl⟩, h⟩)))
theorem kr_n {cc : ByteArray} {pc : Nat} {n : String} (h : decode cc pc = .ok (.areturn, 1)) : KRet cc pc (some (.object n)) (some .null) := Or.inr (Or.inr (Or.inr (Or.inr ⟨n, rfl, Or.inl rfl, h⟩)))
theorem kr_q {cc : ByteArray} {pc : Nat} {r : Option Nat} {n : String} (h : decode cc pc = .ok (.areturn, 1)) : KRet cc pc (some (.object n)) (some (va_rf r)) := by
  cases r with
  | none => exact kr_n h
  | some a => exact kr_a h
/-- a contract: args, what the heap must be, the answer, what the heap then is; it writes in A alone -/
def Ct (l : Launch) (G : Gt) (y : MethodName) (cc : ByteArray) (mL : Nat) (ret : Option FieldType) (f mc ms : Nat) (av : List Value) (Pre : Heap → Prop) (r : Option Value) (Post : Heap → Prop) (A : Nat → Prop) : Prop :=
  Met l y (.code y cc mL ret :: WT) (rL f mc ms) (fun v U => v = av.toArray ∧ gK G U ∧ Pre U.heap) (fun _ st o t => (o = .returned r ∧ Post t.heap) ∧ va_F A st t) mc ms A
/-- a contract of a method that reads alone -/
def Cr (l : Launch) (G : Gt) (y : MethodName) (cc : ByteArray) (mL : Nat) (ret : Option FieldType) (f : Nat) (av : List Value) (Pre : Heap → Prop) (r : Option Value) : Prop :=
  Met l y (.code y cc mL ret :: WT) (rL f 0 0) (fun v U => v = av.toArray ∧ gK G U ∧ Pre U.heap) (fun _ st o t => o = .returned r ∧ t.heap = st.heap) 0 0 (fun _ => False)
section KE
variable {p : Program} {l : Launch} {e : Env} {R : Room} {s : State} {m : MethodId} {args : Array Value} {below : List Frame} {meth : Method} {c : Code} {H : Heap} {locs : List Loc} {cells slots : Nat} {Q : State → Prop}
variable {cc : ByteArray} {pc : Nat} {ls : Array Slot} {rest : List Value}
theorem kr_end {ret : Option FieldType} {r : Option Value} {Qc : Array Value → State → Outcome → State → Prop} {free : Addr → Prop} (hx : p.tables.exec = Jvm.exec) (hb : c.code = cc) (hr : meth.sig.returnType = ret) (hlocks : meth.locks = false) (hk : KRet cc pc ret r)
    (hq : ∀ t : State, t.heap = H → s.WarmedH t.vm → Qc args s (.returned r) t) (hf : ∀ q ∈ locs, free q.base) : W p l e R s m args below meth c H locs cells slots (MQ below Qc args s cells slots free) (F0 m pc ls r.toList) := by
  rcases hk with ⟨h1, h2, h3⟩ | ⟨v, h1, h2, h3⟩ | ⟨v, h1, h2, h3⟩ | ⟨v, h1, h2, h3⟩ | ⟨n, h1, h2, h3⟩
  · subst h2; subst h1
    exact W.vret hx hb hr hq hf h3 hlocks
  · subst h2; subst h1
    exact W.iret hx hb hr hq hf h3 hlocks
  · subst h2; subst h1
    exact W.zret hx hb hr (by cases v <;> rfl) hq hf h3 hlocks
  · subst h2; subst h1
    exact W.lret hx hb hr hq hf h3 hlocks
  · rcases h2 with h2 | ⟨a, h2⟩
    · subst h2; subst h1
      exact W.aret hx hb hr (Or.inl ⟨n, rfl⟩) (Or.inl rfl) hq hf h3 hlocks
    · subst h2; subst h1
      exact W.aret hx hb hr (Or.inl ⟨n, rfl⟩) (Or.inr ⟨a, rfl⟩) hq hf h3 hlocks
end KE
theorem ct_entry {l : Launch} {G : Gt} {y : MethodName} {cc : ByteArray} {mL : Nat} {ret : Option FieldType} {f mc ms : Nat} {av : List Value} {Pre : Heap → Prop} {r : Option Value} {Post : Heap → Prop} {A : Nat → Prop} (lv : List (Nat × Value)) (hy : plainName y.cls = true) (hlen : (lg_sl av).length ≤ mL) (hlv : lv_args 0 av = lv)
    (body : ∀ (p : Program) (e : Env) (s : State) (m : MethodId) (args : Array Value) (below : List Frame) (meth : Method) (c : Code) (Q : State → Prop), CallFix p m c cc mL s args WT y.cls → gK G s → Pre s.heap → meth.name = y.name →
      (∀ (H : Heap) (locs : List Loc) (cells slots pc : Nat) (ls : Array Slot), KRet cc pc ret r → va_S A s.heap H locs → cells ≤ mc → slots ≤ ms → Post H → W p l e (rL f mc ms) s m args below meth c H locs cells slots Q (F0 m pc ls r.toList)) →
      ∀ ls : Array Slot, lv_has ls mL lv → W p l e (rL f mc ms) s m args below meth c s.heap [] 0 0 Q (F0 m 0 ls [])) : Ct l G y cc mL ret f mc ms av Pre r Post A := by
  refine Met.ofW (cc := cc) (maxL := mL) (ret := ret) hy rfl ?_
  intro p e s m args below meth c s₁ B hml hv
  obtain ⟨hav, hK, hPre⟩ := hv
  have hts := atoms_spec (ws := (.code y cc mL ret :: WT)) B.pre
  have hl := lv_entry av (n := mL) hlen
  rw [hav, lg_entry_eq]
  rw [hlv] at hl
  generalize (lg_sl av ++ List.replicate (mL - (lg_sl av).length) Slot.unset).toArray = ls at hl ⊢
  rw [← hav]
  refine body p e s m args below meth c _ ⟨B.exec, B.bytes, hml, findClass_of_methodNamed B.named, fun w hw => hts w (List.mem_cons_of_mem _ hw)⟩ hK hPre (name_of_methodNamed B.named B.method).1 ?_ ls hl
  intro H locs cells slots pc ls hk hS hc hs hPost
  refine W.widen (k := mc) (n := ms) hc hs ?_
  exact kr_end B.exec B.bytes B.returns B.notSynchronized hk (fun t ht hW => ⟨⟨rfl, by rw [ht]; exact hPost⟩, hS.F ht⟩) hS.2.2
theorem cr_entry {l : Launch} {G : Gt} {y : MethodName} {cc : ByteArray} {mL : Nat} {ret : Option FieldType} {f : Nat} {av : List Value} {Pre : Heap → Prop} {r : Option Value} (lv : List (Nat × Value)) (hy : plainName y.cls = true) (hlen : (lg_sl av).length ≤ mL) (hlv : lv_args 0 av = lv)
    (body : ∀ (p : Program) (e : Env) (s : State) (m : MethodId) (args : Array Value) (below : List Frame) (meth : Method) (c : Code) (Q : State → Prop), CallFix p m c cc mL s args WT y.cls → gK G s → Pre s.heap →
      (∀ (pc : Nat) (ls : Array Slot), KRet cc pc ret r → W p l e (rL f 0 0) s m args below meth c s.heap [] 0 0 Q (F0 m pc ls r.toList)) →
      ∀ ls : Array Slot, lv_has ls mL lv → W p l e (rL f 0 0) s m args below meth c s.heap [] 0 0 Q (F0 m 0 ls [])) : Cr l G y cc mL ret f av Pre r := by
  refine Met.ofW (cc := cc) (maxL := mL) (ret := ret) hy rfl ?_
  intro p e s m args below meth c s₁ B hml hv
  obtain ⟨hav, hK, hPre⟩ := hv
  have hts := atoms_spec (ws := (.code y cc mL ret :: WT)) B.pre
  have hl := lv_entry av (n := mL) hlen
  rw [hav, lg_entry_eq]
  rw [hlv] at hl
  generalize (lg_sl av ++ List.replicate (mL - (lg_sl av).length) Slot.unset).toArray = ls at hl ⊢
  rw [← hav]
  refine body p e s m args below meth c _ ⟨B.exec, B.bytes, hml, findClass_of_methodNamed B.named, fun w hw => hts w (List.mem_cons_of_mem _ hw)⟩ hK hPre ?_ ls hl
  intro pc ls hk
  exact kr_end B.exec B.bytes B.returns B.notSynchronized hk (fun t ht hW => ⟨rfl, ht⟩) (fun _ h => by cases h)
section KC
variable {p : Program} {l : Launch} {e : Env} {R : Room} {s : State} {m : MethodId} {args : Array Value} {below : List Frame} {meth : Method} {c : Code} {H : Heap} {locs : List Loc} {cells slots : Nat} {Q : State → Prop}
variable {cc : ByteArray} {pc nL : Nat} {ls : Array Slot} {rest st0 : List Value} {own : String} {G : Gt} {y : MethodName} {bytes : ByteArray} {maxL f mc ms n idx b : Nat} {ret : Option FieldType} {As : List Value} {Pre Post : Heap → Prop} {A0 A1 : Nat → Prop} {v : Value}
/-- what a call's place tells, by the tables: a method of objects, a static one, a constructor; and its link -/
abbrev CwL (own : String) (idx : Nat) (y : MethodName) (bytes : ByteArray) (maxL : Nat) (ret : Option FieldType) (n : Nat) : Prop :=
  (Cond.methodLink own idx y ∈ WT ∨ ∃ h, ∀ U, gN U → va_Nw (.methodLinkNest own idx y h) U) ∧ Cond.initialized y.cls ∈ WT ∧ Cond.code y bytes maxL ret ∈ WT ∧
  (y.cls ≠ "java/lang/invoke/MethodHandle" ∧ y.cls ≠ "java/lang/invoke/VarHandle" ∧ (parseMethodDescriptor y.desc).map (fun d => d.parameters.length) = some n)
abbrev CwV (own : String) (idx : Nat) (y : MethodName) (bytes : ByteArray) (maxL : Nat) (ret : Option FieldType) (n : Nat) : Prop :=
  CwL own idx y bytes maxL ret n ∧ Cond.instanceMethod y ∈ WT ∧ Cond.selects y.cls y y ∈ WT
abbrev CwS (own : String) (idx : Nat) (y : MethodName) (bytes : ByteArray) (maxL : Nat) (ret : Option FieldType) (n : Nat) : Prop :=
  CwL own idx y bytes maxL ret n ∧ Cond.static y ∈ WT
abbrev CwI (own : String) (idx : Nat) (y : MethodName) (bytes : ByteArray) (maxL : Nat) (n : Nat) : Prop :=
  CwL own idx y bytes maxL none n ∧ y.name = "<init>" ∧ Cond.instanceMethod y ∈ WT
theorem cb_of (S : CallFix p m c cc nL s args WT own) (h : Cond.methodLink own idx y ∈ WT) (hi : Cond.initialized y.cls ∈ WT) (hc : Cond.code y bytes maxL ret ∈ WT) (hd : y.cls ≠ "java/lang/invoke/MethodHandle" ∧ y.cls ≠ "java/lang/invoke/VarHandle" ∧ (parseMethodDescriptor y.desc).map (fun d => d.parameters.length) = some n) (hR : f + 1 ≤ R.frames ∧ 8 + (maxL + 11) + 40 * f ≤ R.locals) :
    CallB R s args own idx y bytes maxL ret (.code y bytes maxL ret :: WT) (rL f mc ms) mc ms n := by
  obtain ⟨-, -, -, -, hts⟩ := S
  exact callB_of n hts (wt_in hc) rfl rfl rfl (hts _ hi) (hts _ h) hd hR
theorem cn_of (S : CallFix p m c cc nL s args WT own) (hK : gK G s) {host : String} (h : ∀ U, gN U → va_Nw (.methodLinkNest own idx y host) U) (hi : Cond.initialized y.cls ∈ WT) (hc : Cond.code y bytes maxL ret ∈ WT) (hd : y.cls ≠ "java/lang/invoke/MethodHandle" ∧ y.cls ≠ "java/lang/invoke/VarHandle" ∧ (parseMethodDescriptor y.desc).map (fun d => d.parameters.length) = some n) (hR : f + 1 ≤ R.frames ∧ 8 + (maxL + 11) + 40 * f ≤ R.locals) :
    va_CN R s args own idx y host bytes maxL ret (.code y bytes maxL ret :: WT) (rL f mc ms) mc ms n := by
  obtain ⟨-, -, -, -, hts⟩ := S
  exact va_cnB n hts (wt_in hc) rfl rfl rfl (h s hK.2.1) (hts _ hi) hd hR
theorem pc_blind {av : List Value} : FrameBlind (fun v U => v = av.toArray ∧ gK G U ∧ Pre U.heap) := fun a U g mk q => ⟨q.1, gK.same (u := U) (U := U.calling g mk a) rfl q.2.1, q.2.2⟩
theorem pc_at {av : List Value} (hK : gK G s) (hpre : Pre H) : ∀ U : State, U.heap = H → s.WarmedH U.vm → (av.toArray = av.toArray ∧ gK G U ∧ Pre U.heap) := fun U hU hW => ⟨rfl, gK.warm hW hK, by rw [hU]; exact hpre⟩
abbrev KRun (p : Program) (l : Launch) (e : Env) (R : Room) (s : State) (m : MethodId) (args : Array Value) (below : List Frame) (meth : Method) (c : Code) (H : Heap) (locs : List Loc) (cells slots mc ms : Nat) (g : JFrame) (rest : List Value) (Qa : State → Outcome → State → Prop) (free : Addr → Prop) : Prop :=
  va_Run p l e R s m args below meth c H locs cells slots mc ms g rest Qa free
theorem kc_runV {Qc : Array Value → State → Outcome → State → Prop} (S : CallFix p m c cc nL s args WT own) (hK : gK G s) (hM : Met l y (.code y bytes maxL ret :: WT) (rL f mc ms) (fun v U => v = (Value.ref b :: As).toArray ∧ gK G U ∧ Pre U.heap) Qc mc ms A1) (cw : CwV own idx y bytes maxL ret n) (hn : As.length = n) (hR : f + 1 ≤ R.frames ∧ 8 + (maxL + 11) + 40 * f ≤ R.locals) (hf : cells + mc ≤ R.cells ∧ slots + ms ≤ R.slots) (hob : ∃ cell : Cell, H[b]? = some cell ∧ cell.vm.isStatics = false ∧ s.vm.findClass y.cls = some cell.cls) (hls : ls.size = nL) (hst : st0 = As.reverse ++ .ref b :: rest) (hW : (rest.map fun v => v.category).sum ≤ 8) (hdg : decode cc pc = .ok (.invokevirtual idx, 3)) (hpre : Pre H) :
    KRun p l e R s m args below meth c H locs cells slots mc ms (F0 m pc ls st0) rest (Qc (Value.ref b :: As).toArray) A1 := by
  obtain ⟨⟨hl, hi, hc, hd⟩, h2, h3⟩ := cw
  have hts := S.2.2.2.2
  rcases hl with hl | ⟨host, hl⟩
  · exact va_runV S hM ⟨cb_of S hl hi hc hd hR, hts _ h2, hts _ h3⟩ ⟨pc_blind, hob, pc_at hK hpre⟩ rfl hn hls hst (lv_room hW) hdg hf
  · exact va_runVN S hM ⟨cn_of S hK hl hi hc hd hR, hts _ h2, hts _ h3⟩ ⟨pc_blind, hob, pc_at hK hpre⟩ rfl hn hls hst (lv_room hW) hdg hf
theorem kc_runS {Qc : Array Value → State → Outcome → State → Prop} (S : CallFix p m c cc nL s args WT own) (hK : gK G s) (hM : Met l y (.code y bytes maxL ret :: WT) (rL f mc ms) (fun v U => v = As.toArray ∧ gK G U ∧ Pre U.heap) Qc mc ms A1) (cw : CwS own idx y bytes maxL ret n) (hn : As.length = n) (hR : f + 1 ≤ R.frames ∧ 8 + (maxL + 11) + 40 * f ≤ R.locals) (hf : cells + mc ≤ R.cells ∧ slots + ms ≤ R.slots) (hls : ls.size = nL) (hst : st0 = As.reverse ++ rest) (hW : (rest.map fun v => v.category).sum ≤ 8) (hdg : decode cc pc = .ok (.invokestatic idx, 3)) (hpre : Pre H) :
    KRun p l e R s m args below meth c H locs cells slots mc ms (F0 m pc ls st0) rest (Qc As.toArray) A1 := by
  obtain ⟨⟨hl, hi, hc, hd⟩, h2⟩ := cw
  have hts := S.2.2.2.2
  rcases hl with hl | ⟨host, hl⟩
  · exact va_runS S hM ⟨cb_of S hl hi hc hd hR, hts _ h2⟩ ⟨pc_blind, pc_at hK hpre⟩ rfl hn hls hst (lv_room hW) hdg hf
  · exact va_runSN S hM ⟨cn_of S hK hl hi hc hd hR, hts _ h2, trivial⟩ ⟨pc_blind, pc_at hK hpre⟩ rfl hn hls hst (lv_room hW) hdg hf
theorem kc_runI {Qc : Array Value → State → Outcome → State → Prop} (S : CallFix p m c cc nL s args WT own) (hK : gK G s) (hM : Met l y (.code y bytes maxL none :: WT) (rL f mc ms) (fun v U => v = (Value.ref b :: As).toArray ∧ gK G U ∧ Pre U.heap) Qc mc ms A1) (cw : CwI own idx y bytes maxL n) (hn : As.length = n) (hR : f + 1 ≤ R.frames ∧ 8 + (maxL + 11) + 40 * f ≤ R.locals) (hf : cells + mc ≤ R.cells ∧ slots + ms ≤ R.slots) (hls : ls.size = nL) (hst : st0 = As.reverse ++ .ref b :: rest) (hW : (rest.map fun v => v.category).sum ≤ 8) (hdg : decode cc pc = .ok (.invokespecial idx, 3)) (hpre : Pre H) :
    KRun p l e R s m args below meth c H locs cells slots mc ms (F0 m pc ls st0) rest (Qc (Value.ref b :: As).toArray) A1 := by
  obtain ⟨⟨hl, hi, hc, hd⟩, h2, h3⟩ := cw
  have hts := S.2.2.2.2
  rcases hl with hl | ⟨host, hl⟩
  · exact va_runI S hM ⟨cb_of S hl hi hc hd hR, h2, hts _ h3⟩ ⟨pc_blind, pc_at hK hpre⟩ rfl hn hls hst (lv_room hW) hdg hf
  · exact va_runIN S hM ⟨cn_of S hK hl hi hc hd hR, h2, hts _ h3⟩ ⟨pc_blind, pc_at hK hpre⟩ rfl hn hls hst (lv_room hW) hdg hf
/-- behind a call of a method that writes: the new heap, what stayed -/
theorem kc_go {r : Option Value} {a : Array Value} (hr : KRun p l e R s m args below meth c H locs cells slots mc ms (F0 m pc ls st0) rest (fun st o t => (o = .returned r ∧ Post t.heap) ∧ va_F A1 st t) A1) (hS : va_S A0 s.heap H locs) (hA : ∀ q, A1 q → A0 q)
    (kk : ∀ (H1 : Heap) (locs1 : List Loc), Post H1 → H.size ≤ H1.size → (∀ q : Nat, q < H.size → ¬ A1 q → H1[q]? = H[q]?) → va_S A0 s.heap H1 locs1 → W p l e R s m args below meth c H1 locs1 (cells + mc) (slots + ms) Q (F0 m (pc + 3) ls (r.toList ++ rest))) : W p l e R s m args below meth c H locs cells slots Q (F0 m pc ls st0) := by
  intro T hT X
  obtain ⟨v, st₀, t, T', L, h0, X', hL, e1, e2, ⟨⟨hv, hp⟩, hz, hk⟩, st⟩ := hr T hT X
  cases hv
  rw [h0] at hz hk
  obtain ⟨t2, a1, b1⟩ := kk T'.heap (locs ++ L) (by rw [e1]; exact hp) (by rw [e1]; exact hz) (fun q h1 h2 => by rw [e1]; exact hk q h1 h2)
    ⟨Nat.le_trans hS.1 (by rw [e1]; exact hz), fun q h1 h2 => by rw [e1, hk q (Nat.lt_of_lt_of_le h1 hS.1) (fun z => h2 (hA q z))]; exact hS.2.1 q h1 h2, fun q hq => by
      rcases List.mem_append.mp hq with h | h
      · exact hS.2.2 q h
      · exact hA _ (hL q h)⟩ T' rfl X'
  exact ⟨t2, st t2 a1, b1⟩
theorem kc_goR {r : Option Value} (hr : KRun p l e R s m args below meth c H locs cells slots 0 0 (F0 m pc ls st0) rest (fun st o t => o = .returned r ∧ t.heap = st.heap) (fun _ => False))
    (kk : W p l e R s m args below meth c H locs cells slots Q (F0 m (pc + 3) ls (r.toList ++ rest))) : W p l e R s m args below meth c H locs cells slots Q (F0 m pc ls st0) := by
  intro T hT X
  obtain ⟨v, st₀, t, T', L, h0, X', hL, e1, e2, ⟨hv, hh⟩, st⟩ := hr T hT X
  cases hv
  have hL0 : L = [] := by
    cases L with
    | nil => rfl
    | cons q _ => exact (hL q List.mem_cons_self).elim
  subst hL0
  rw [List.append_nil] at X'
  obtain ⟨t2, a1, b1⟩ := kk T' (by rw [e1, hh, h0]) X'
  exact ⟨t2, st t2 a1, b1⟩
/-- the rows of a call: with an answer, without; reading alone, writing -/
theorem crV (S : CallFix p m c cc nL s args WT own) (hK : gK G s) (hC : Cr l G y bytes maxL ret f (.ref b :: As) Pre (some v)) (cw : CwV own idx y bytes maxL ret n) (hn : As.length = n) (hR : f + 1 ≤ R.frames ∧ 8 + (maxL + 11) + 40 * f ≤ R.locals) (hf : cells + 0 ≤ R.cells ∧ slots + 0 ≤ R.slots) (hob : ∃ cell : Cell, H[b]? = some cell ∧ cell.vm.isStatics = false ∧ s.vm.findClass y.cls = some cell.cls) (hls : ls.size = nL) (hst : st0 = As.reverse ++ .ref b :: rest) (hW : (rest.map fun v => v.category).sum ≤ 8) (hdg : decode cc pc = .ok (.invokevirtual idx, 3)) (hpre : Pre H)
    (kk : W p l e R s m args below meth c H locs cells slots Q (F0 m (pc + 3) ls (v :: rest))) : W p l e R s m args below meth c H locs cells slots Q (F0 m pc ls st0) :=
  kc_goR (kc_runV S hK hC cw hn hR hf hob hls hst hW hdg hpre) kk
theorem crS (S : CallFix p m c cc nL s args WT own) (hK : gK G s) (hC : Cr l G y bytes maxL ret f As Pre (some v)) (cw : CwS own idx y bytes maxL ret n) (hn : As.length = n) (hR : f + 1 ≤ R.frames ∧ 8 + (maxL + 11) + 40 * f ≤ R.locals) (hf : cells + 0 ≤ R.cells ∧ slots + 0 ≤ R.slots) (hls : ls.size = nL) (hst : st0 = As.reverse ++ rest) (hW : (rest.map fun v => v.category).sum ≤ 8) (hdg : decode cc pc = .ok (.invokestatic idx, 3)) (hpre : Pre H)
    (kk : W p l e R s m args below meth c H locs cells slots Q (F0 m (pc + 3) ls (v :: rest))) : W p l e R s m args below meth c H locs cells slots Q (F0 m pc ls st0) :=
  kc_goR (kc_runS S hK hC cw hn hR hf hls hst hW hdg hpre) kk
theorem ctV (S : CallFix p m c cc nL s args WT own) (hK : gK G s) (hC : Ct l G y bytes maxL ret f mc ms (.ref b :: As) Pre (some v) Post A1) (cw : CwV own idx y bytes maxL ret n) (hn : As.length = n) (hR : f + 1 ≤ R.frames ∧ 8 + (maxL + 11) + 40 * f ≤ R.locals) (hf : cells + mc ≤ R.cells ∧ slots + ms ≤ R.slots) (hob : ∃ cell : Cell, H[b]? = some cell ∧ cell.vm.isStatics = false ∧ s.vm.findClass y.cls = some cell.cls) (hls : ls.size = nL) (hst : st0 = As.reverse ++ .ref b :: rest) (hW : (rest.map fun v => v.category).sum ≤ 8) (hdg : decode cc pc = .ok (.invokevirtual idx, 3)) (hpre : Pre H) (hS : va_S A0 s.heap H locs) (hA : ∀ q, A1 q → A0 q)
    (kk : ∀ (H1 : Heap) (locs1 : List Loc), Post H1 → H.size ≤ H1.size → (∀ q : Nat, q < H.size → ¬ A1 q → H1[q]? = H[q]?) → va_S A0 s.heap H1 locs1 → W p l e R s m args below meth c H1 locs1 (cells + mc) (slots + ms) Q (F0 m (pc + 3) ls (v :: rest))) : W p l e R s m args below meth c H locs cells slots Q (F0 m pc ls st0) :=
  kc_go (a := args) (kc_runV S hK hC cw hn hR hf hob hls hst hW hdg hpre) hS hA kk
theorem ctVv (S : CallFix p m c cc nL s args WT own) (hK : gK G s) (hC : Ct l G y bytes maxL ret f mc ms (.ref b :: As) Pre none Post A1) (cw : CwV own idx y bytes maxL ret n) (hn : As.length = n) (hR : f + 1 ≤ R.frames ∧ 8 + (maxL + 11) + 40 * f ≤ R.locals) (hf : cells + mc ≤ R.cells ∧ slots + ms ≤ R.slots) (hob : ∃ cell : Cell, H[b]? = some cell ∧ cell.vm.isStatics = false ∧ s.vm.findClass y.cls = some cell.cls) (hls : ls.size = nL) (hst : st0 = As.reverse ++ .ref b :: rest) (hW : (rest.map fun v => v.category).sum ≤ 8) (hdg : decode cc pc = .ok (.invokevirtual idx, 3)) (hpre : Pre H) (hS : va_S A0 s.heap H locs) (hA : ∀ q, A1 q → A0 q)
    (kk : ∀ (H1 : Heap) (locs1 : List Loc), Post H1 → H.size ≤ H1.size → (∀ q : Nat, q < H.size → ¬ A1 q → H1[q]? = H[q]?) → va_S A0 s.heap H1 locs1 → W p l e R s m args below meth c H1 locs1 (cells + mc) (slots + ms) Q (F0 m (pc + 3) ls rest)) : W p l e R s m args below meth c H locs cells slots Q (F0 m pc ls st0) :=
  kc_go (a := args) (kc_runV S hK hC cw hn hR hf hob hls hst hW hdg hpre) hS hA kk
theorem ctS (S : CallFix p m c cc nL s args WT own) (hK : gK G s) (hC : Ct l G y bytes maxL ret f mc ms As Pre (some v) Post A1) (cw : CwS own idx y bytes maxL ret n) (hn : As.length = n) (hR : f + 1 ≤ R.frames ∧ 8 + (maxL + 11) + 40 * f ≤ R.locals) (hf : cells + mc ≤ R.cells ∧ slots + ms ≤ R.slots) (hls : ls.size = nL) (hst : st0 = As.reverse ++ rest) (hW : (rest.map fun v => v.category).sum ≤ 8) (hdg : decode cc pc = .ok (.invokestatic idx, 3)) (hpre : Pre H) (hS : va_S A0 s.heap H locs) (hA : ∀ q, A1 q → A0 q)
    (kk : ∀ (H1 : Heap) (locs1 : List Loc), Post H1 → H.size ≤ H1.size → (∀ q : Nat, q < H.size → ¬ A1 q → H1[q]? = H[q]?) → va_S A0 s.heap H1 locs1 → W p l e R s m args below meth c H1 locs1 (cells + mc) (slots + ms) Q (F0 m (pc + 3) ls (v :: rest))) : W p l e R s m args below meth c H locs cells slots Q (F0 m pc ls st0) :=
  kc_go (a := args) (kc_runS S hK hC cw hn hR hf hls hst hW hdg hpre) hS hA kk
theorem ctI (S : CallFix p m c cc nL s args WT own) (hK : gK G s) (hC : Ct l G y bytes maxL none f mc ms (.ref b :: As) Pre none Post A1) (cw : CwI own idx y bytes maxL n) (hn : As.length = n) (hR : f + 1 ≤ R.frames ∧ 8 + (maxL + 11) + 40 * f ≤ R.locals) (hf : cells + mc ≤ R.cells ∧ slots + ms ≤ R.slots) (hls : ls.size = nL) (hst : st0 = As.reverse ++ .ref b :: rest) (hW : (rest.map fun v => v.category).sum ≤ 8) (hdg : decode cc pc = .ok (.invokespecial idx, 3)) (hpre : Pre H) (hS : va_S A0 s.heap H locs) (hA : ∀ q, A1 q → A0 q)
    (kk : ∀ (H1 : Heap) (locs1 : List Loc), Post H1 → H.size ≤ H1.size → (∀ q : Nat, q < H.size → ¬ A1 q → H1[q]? = H[q]?) → va_S A0 s.heap H1 locs1 → W p l e R s m args below meth c H1 locs1 (cells + mc) (slots + ms) Q (F0 m (pc + 3) ls rest)) : W p l e R s m args below meth c H locs cells slots Q (F0 m pc ls st0) :=
  kc_go (a := args) (kc_runI S hK hC cw hn hR hf hls hst hW hdg hpre) hS hA kk
end KC
end
