section
-- ===== PART A: goes FIRST, ahead of the names: the tables' words, and 'selects' of the private methods out of them =====
/-- a private method of a class that the tables say can be made, by its rows of tables_1 -/
def lw_okq (q : MethodName × Nat) : Prop := (q.1.cls ≠ "java/lang/invoke/MethodHandle" ∧ q.1.cls ≠ "java/lang/invoke/VarHandle") ∧ Cond.instantiable q.1.cls q.2 ∈ tables_1 ∧ Cond.privateMethod q.1 ∈ tables_1 ∧ Cond.instanceMethod q.1 ∈ tables_1
theorem lw_p0 : lw_okq (⟨"HintedStems$History", "slotAt", "(I)LHintedStems$Font;"⟩, 3) := ⟨⟨by decide +kernel, by decide +kernel⟩, List.mem_of_getElem? (i := 182) (by decide +kernel), List.mem_of_getElem? (i := 226) (by decide +kernel), List.mem_of_getElem? (i := 227) (by decide +kernel)⟩
theorem lw_p1 : lw_okq (⟨"HintedStems", "settled", "(I)I"⟩, 5) := ⟨⟨by decide +kernel, by decide +kernel⟩, List.mem_of_getElem? (i := 12) (by decide +kernel), List.mem_of_getElem? (i := 257) (by decide +kernel), List.mem_of_getElem? (i := 258) (by decide +kernel)⟩
theorem lw_p2 : lw_okq (⟨"HintedStems$Font", "moveStem", "(II)V"⟩, 11) := ⟨⟨by decide +kernel, by decide +kernel⟩, List.mem_of_getElem? (i := 20) (by decide +kernel), List.mem_of_getElem? (i := 285) (by decide +kernel), List.mem_of_getElem? (i := 286) (by decide +kernel)⟩
theorem lw_p3 : lw_okq (⟨"HintedStems$Font", "putStem", "(IIII)V"⟩, 11) := ⟨⟨by decide +kernel, by decide +kernel⟩, List.mem_of_getElem? (i := 20) (by decide +kernel), List.mem_of_getElem? (i := 289) (by decide +kernel), List.mem_of_getElem? (i := 290) (by decide +kernel)⟩
theorem lw_p4 : lw_okq (⟨"HintedStems$Font", "standardAt", "(I)I"⟩, 11) := ⟨⟨by decide +kernel, by decide +kernel⟩, List.mem_of_getElem? (i := 20) (by decide +kernel), List.mem_of_getElem? (i := 321) (by decide +kernel), List.mem_of_getElem? (i := 322) (by decide +kernel)⟩
theorem lw_p5 : lw_okq (⟨"HintedStems$Font", "snappingTo", "(I)I"⟩, 11) := ⟨⟨by decide +kernel, by decide +kernel⟩, List.mem_of_getElem? (i := 20) (by decide +kernel), List.mem_of_getElem? (i := 325) (by decide +kernel), List.mem_of_getElem? (i := 326) (by decide +kernel)⟩
theorem lw_p6 : lw_okq (⟨"HintedStems$Fit", "light", "(III)V"⟩, 7) := ⟨⟨by decide +kernel, by decide +kernel⟩, List.mem_of_getElem? (i := 110) (by decide +kernel), List.mem_of_getElem? (i := 404) (by decide +kernel), List.mem_of_getElem? (i := 405) (by decide +kernel)⟩
theorem lw_p7 : lw_okq (⟨"HintedStems$Sheets", "olderThan", "(I)I"⟩, 6) := ⟨⟨by decide +kernel, by decide +kernel⟩, List.mem_of_getElem? (i := 26) (by decide +kernel), List.mem_of_getElem? (i := 494) (by decide +kernel), List.mem_of_getElem? (i := 495) (by decide +kernel)⟩
theorem lw_p8 : lw_okq (⟨"HintedStems$Fit", "isEvenAhead", "(LHintedStems$Font;I)Z"⟩, 7) := ⟨⟨by decide +kernel, by decide +kernel⟩, List.mem_of_getElem? (i := 110) (by decide +kernel), List.mem_of_getElem? (i := 517) (by decide +kernel), List.mem_of_getElem? (i := 518) (by decide +kernel)⟩
theorem lw_p9 : lw_okq (⟨"HintedStems", "clearSizes", "(LHintedStems$Font;I)I"⟩, 5) := ⟨⟨by decide +kernel, by decide +kernel⟩, List.mem_of_getElem? (i := 12) (by decide +kernel), List.mem_of_getElem? (i := 532) (by decide +kernel), List.mem_of_getElem? (i := 533) (by decide +kernel)⟩
theorem lw_p10 : lw_okq (⟨"HintedStems", "staleSheets", "()I"⟩, 5) := ⟨⟨by decide +kernel, by decide +kernel⟩, List.mem_of_getElem? (i := 12) (by decide +kernel), List.mem_of_getElem? (i := 557) (by decide +kernel), List.mem_of_getElem? (i := 558) (by decide +kernel)⟩
theorem lw_p11 : lw_okq (⟨"HintedStems$Font", "isAlikeAhead", "(I)Z"⟩, 11) := ⟨⟨by decide +kernel, by decide +kernel⟩, List.mem_of_getElem? (i := 20) (by decide +kernel), List.mem_of_getElem? (i := 566) (by decide +kernel), List.mem_of_getElem? (i := 567) (by decide +kernel)⟩
theorem lw_p12 : lw_okq (⟨"HintedStems$Orders", "isOrder", "(I)Z"⟩, 8) := ⟨⟨by decide +kernel, by decide +kernel⟩, List.mem_of_getElem? (i := 146) (by decide +kernel), List.mem_of_getElem? (i := 601) (by decide +kernel), List.mem_of_getElem? (i := 602) (by decide +kernel)⟩
theorem lw_p13 : lw_okq (⟨"HintedStems$Orders", "signAt", "(I)I"⟩, 8) := ⟨⟨by decide +kernel, by decide +kernel⟩, List.mem_of_getElem? (i := 146) (by decide +kernel), List.mem_of_getElem? (i := 605) (by decide +kernel), List.mem_of_getElem? (i := 606) (by decide +kernel)⟩
theorem lw_p14 : lw_okq (⟨"HintedStems$Orders", "isNumber", "(I)Z"⟩, 8) := ⟨⟨by decide +kernel, by decide +kernel⟩, List.mem_of_getElem? (i := 146) (by decide +kernel), List.mem_of_getElem? (i := 613) (by decide +kernel), List.mem_of_getElem? (i := 614) (by decide +kernel)⟩
theorem lw_p15 : lw_okq (⟨"HintedStems$Orders", "tell", "(III)V"⟩, 8) := ⟨⟨by decide +kernel, by decide +kernel⟩, List.mem_of_getElem? (i := 146) (by decide +kernel), List.mem_of_getElem? (i := 618) (by decide +kernel), List.mem_of_getElem? (i := 619) (by decide +kernel)⟩
def lw_privs_1 : List (MethodName × Nat) := [(⟨"HintedStems$History", "slotAt", "(I)LHintedStems$Font;"⟩, 3), (⟨"HintedStems", "settled", "(I)I"⟩, 5), (⟨"HintedStems$Font", "moveStem", "(II)V"⟩, 11), (⟨"HintedStems$Font", "putStem", "(IIII)V"⟩, 11), (⟨"HintedStems$Font", "standardAt", "(I)I"⟩, 11), (⟨"HintedStems$Font", "snappingTo", "(I)I"⟩, 11), (⟨"HintedStems$Fit", "light", "(III)V"⟩, 7), (⟨"HintedStems$Sheets", "olderThan", "(I)I"⟩, 6), (⟨"HintedStems$Fit", "isEvenAhead", "(LHintedStems$Font;I)Z"⟩, 7), (⟨"HintedStems", "clearSizes", "(LHintedStems$Font;I)I"⟩, 5), (⟨"HintedStems", "staleSheets", "()I"⟩, 5), (⟨"HintedStems$Font", "isAlikeAhead", "(I)Z"⟩, 11), (⟨"HintedStems$Orders", "isOrder", "(I)Z"⟩, 8), (⟨"HintedStems$Orders", "signAt", "(I)I"⟩, 8), (⟨"HintedStems$Orders", "isNumber", "(I)Z"⟩, 8), (⟨"HintedStems$Orders", "tell", "(III)V"⟩, 8)]
theorem lw_r1 : ∀ q ∈ lw_privs_1, lw_okq q := List.forall_mem_cons.mpr ⟨lw_p0, List.forall_mem_cons.mpr ⟨lw_p1, List.forall_mem_cons.mpr ⟨lw_p2, List.forall_mem_cons.mpr ⟨lw_p3, List.forall_mem_cons.mpr ⟨lw_p4, List.forall_mem_cons.mpr ⟨lw_p5, List.forall_mem_cons.mpr ⟨lw_p6, List.forall_mem_cons.mpr ⟨lw_p7, List.forall_mem_cons.mpr ⟨lw_p8, List.forall_mem_cons.mpr ⟨lw_p9, List.forall_mem_cons.mpr ⟨lw_p10, List.forall_mem_cons.mpr ⟨lw_p11, List.forall_mem_cons.mpr ⟨lw_p12, List.forall_mem_cons.mpr ⟨lw_p13, List.forall_mem_cons.mpr ⟨lw_p14, List.forall_mem_cons.mpr ⟨lw_p15, fun _ h => absurd h List.not_mem_nil⟩⟩⟩⟩⟩⟩⟩⟩⟩⟩⟩⟩⟩⟩⟩⟩
theorem lw_p16 : lw_okq (⟨"HintedStems$Orders", "carryOut", "(ILHintedStems$Font;LHintedStems$Fit;)I"⟩, 8) := ⟨⟨by decide +kernel, by decide +kernel⟩, List.mem_of_getElem? (i := 146) (by decide +kernel), List.mem_of_getElem? (i := 622) (by decide +kernel), List.mem_of_getElem? (i := 623) (by decide +kernel)⟩
theorem lw_p17 : lw_okq (⟨"HintedStemsModel", "changes", "()V"⟩, 17) := ⟨⟨by decide +kernel, by decide +kernel⟩, List.mem_of_getElem? (i := 635) (by decide +kernel), List.mem_of_getElem? (i := 702) (by decide +kernel), List.mem_of_getElem? (i := 703) (by decide +kernel)⟩
theorem lw_p18 : lw_okq (⟨"HintedStemsModel", "isGlyph", "(I)Z"⟩, 17) := ⟨⟨by decide +kernel, by decide +kernel⟩, List.mem_of_getElem? (i := 635) (by decide +kernel), List.mem_of_getElem? (i := 710) (by decide +kernel), List.mem_of_getElem? (i := 711) (by decide +kernel)⟩
theorem lw_p19 : lw_okq (⟨"HintedStemsModel", "ahead", "(II)I"⟩, 17) := ⟨⟨by decide +kernel, by decide +kernel⟩, List.mem_of_getElem? (i := 635) (by decide +kernel), List.mem_of_getElem? (i := 714) (by decide +kernel), List.mem_of_getElem? (i := 715) (by decide +kernel)⟩
theorem lw_p20 : lw_okq (⟨"HintedStemsModel", "of", "(II)I"⟩, 17) := ⟨⟨by decide +kernel, by decide +kernel⟩, List.mem_of_getElem? (i := 635) (by decide +kernel), List.mem_of_getElem? (i := 718) (by decide +kernel), List.mem_of_getElem? (i := 719) (by decide +kernel)⟩
theorem lw_p21 : lw_okq (⟨"HintedStemsModel", "ofStem", "(III)I"⟩, 17) := ⟨⟨by decide +kernel, by decide +kernel⟩, List.mem_of_getElem? (i := 635) (by decide +kernel), List.mem_of_getElem? (i := 722) (by decide +kernel), List.mem_of_getElem? (i := 723) (by decide +kernel)⟩
theorem lw_p22 : lw_okq (⟨"HintedStemsModel", "endOf", "(II)I"⟩, 17) := ⟨⟨by decide +kernel, by decide +kernel⟩, List.mem_of_getElem? (i := 635) (by decide +kernel), List.mem_of_getElem? (i := 729) (by decide +kernel), List.mem_of_getElem? (i := 730) (by decide +kernel)⟩
theorem lw_p23 : lw_okq (⟨"HintedStemsModel", "isStem", "(II)Z"⟩, 17) := ⟨⟨by decide +kernel, by decide +kernel⟩, List.mem_of_getElem? (i := 635) (by decide +kernel), List.mem_of_getElem? (i := 738) (by decide +kernel), List.mem_of_getElem? (i := 739) (by decide +kernel)⟩
theorem lw_p24 : lw_okq (⟨"HintedStemsModel", "wideAt", "(I)I"⟩, 17) := ⟨⟨by decide +kernel, by decide +kernel⟩, List.mem_of_getElem? (i := 635) (by decide +kernel), List.mem_of_getElem? (i := 750) (by decide +kernel), List.mem_of_getElem? (i := 751) (by decide +kernel)⟩
theorem lw_p25 : lw_okq (⟨"HintedStemsModel", "snaps", "(I)I"⟩, 17) := ⟨⟨by decide +kernel, by decide +kernel⟩, List.mem_of_getElem? (i := 635) (by decide +kernel), List.mem_of_getElem? (i := 755) (by decide +kernel), List.mem_of_getElem? (i := 756) (by decide +kernel)⟩
theorem lw_p26 : lw_okq (⟨"HintedStemsModel", "sheetAt", "(I)I"⟩, 17) := ⟨⟨by decide +kernel, by decide +kernel⟩, List.mem_of_getElem? (i := 635) (by decide +kernel), List.mem_of_getElem? (i := 773) (by decide +kernel), List.mem_of_getElem? (i := 774) (by decide +kernel)⟩
theorem lw_p27 : lw_okq (⟨"HintedStemsModel", "ofSheet", "(II)I"⟩, 17) := ⟨⟨by decide +kernel, by decide +kernel⟩, List.mem_of_getElem? (i := 635) (by decide +kernel), List.mem_of_getElem? (i := 777) (by decide +kernel), List.mem_of_getElem? (i := 778) (by decide +kernel)⟩
theorem lw_p28 : lw_okq (⟨"HintedStemsModel", "takesSheet", "(I)V"⟩, 17) := ⟨⟨by decide +kernel, by decide +kernel⟩, List.mem_of_getElem? (i := 635) (by decide +kernel), List.mem_of_getElem? (i := 781) (by decide +kernel), List.mem_of_getElem? (i := 782) (by decide +kernel)⟩
theorem lw_p29 : lw_okq (⟨"HintedStemsModel", "lays", "(II)V"⟩, 17) := ⟨⟨by decide +kernel, by decide +kernel⟩, List.mem_of_getElem? (i := 635) (by decide +kernel), List.mem_of_getElem? (i := 785) (by decide +kernel), List.mem_of_getElem? (i := 786) (by decide +kernel)⟩
theorem lw_p30 : lw_okq (⟨"HintedStemsModel", "pixelsOf", "(III)I"⟩, 17) := ⟨⟨by decide +kernel, by decide +kernel⟩, List.mem_of_getElem? (i := 635) (by decide +kernel), List.mem_of_getElem? (i := 789) (by decide +kernel), List.mem_of_getElem? (i := 790) (by decide +kernel)⟩
theorem lw_p31 : lw_okq (⟨"HintedStemsModel", "hinted", "(II)I"⟩, 17) := ⟨⟨by decide +kernel, by decide +kernel⟩, List.mem_of_getElem? (i := 635) (by decide +kernel), List.mem_of_getElem? (i := 793) (by decide +kernel), List.mem_of_getElem? (i := 794) (by decide +kernel)⟩
def lw_privs_2 : List (MethodName × Nat) := [(⟨"HintedStems$Orders", "carryOut", "(ILHintedStems$Font;LHintedStems$Fit;)I"⟩, 8), (⟨"HintedStemsModel", "changes", "()V"⟩, 17), (⟨"HintedStemsModel", "isGlyph", "(I)Z"⟩, 17), (⟨"HintedStemsModel", "ahead", "(II)I"⟩, 17), (⟨"HintedStemsModel", "of", "(II)I"⟩, 17), (⟨"HintedStemsModel", "ofStem", "(III)I"⟩, 17), (⟨"HintedStemsModel", "endOf", "(II)I"⟩, 17), (⟨"HintedStemsModel", "isStem", "(II)Z"⟩, 17), (⟨"HintedStemsModel", "wideAt", "(I)I"⟩, 17), (⟨"HintedStemsModel", "snaps", "(I)I"⟩, 17), (⟨"HintedStemsModel", "sheetAt", "(I)I"⟩, 17), (⟨"HintedStemsModel", "ofSheet", "(II)I"⟩, 17), (⟨"HintedStemsModel", "takesSheet", "(I)V"⟩, 17), (⟨"HintedStemsModel", "lays", "(II)V"⟩, 17), (⟨"HintedStemsModel", "pixelsOf", "(III)I"⟩, 17), (⟨"HintedStemsModel", "hinted", "(II)I"⟩, 17)]
theorem lw_r2 : ∀ q ∈ lw_privs_2, lw_okq q := List.forall_mem_cons.mpr ⟨lw_p16, List.forall_mem_cons.mpr ⟨lw_p17, List.forall_mem_cons.mpr ⟨lw_p18, List.forall_mem_cons.mpr ⟨lw_p19, List.forall_mem_cons.mpr ⟨lw_p20, List.forall_mem_cons.mpr ⟨lw_p21, List.forall_mem_cons.mpr ⟨lw_p22, List.forall_mem_cons.mpr ⟨lw_p23, List.forall_mem_cons.mpr ⟨lw_p24, List.forall_mem_cons.mpr ⟨lw_p25, List.forall_mem_cons.mpr ⟨lw_p26, List.forall_mem_cons.mpr ⟨lw_p27, List.forall_mem_cons.mpr ⟨lw_p28, List.forall_mem_cons.mpr ⟨lw_p29, List.forall_mem_cons.mpr ⟨lw_p30, List.forall_mem_cons.mpr ⟨lw_p31, fun _ h => absurd h List.not_mem_nil⟩⟩⟩⟩⟩⟩⟩⟩⟩⟩⟩⟩⟩⟩⟩⟩
theorem lw_p32 : lw_okq (⟨"HintedStemsModel", "rounded", "(III)I"⟩, 17) := ⟨⟨by decide +kernel, by decide +kernel⟩, List.mem_of_getElem? (i := 635) (by decide +kernel), List.mem_of_getElem? (i := 800) (by decide +kernel), List.mem_of_getElem? (i := 801) (by decide +kernel)⟩
theorem lw_p33 : lw_okq (⟨"HintedStemsModel", "columns", "(II)I"⟩, 17) := ⟨⟨by decide +kernel, by decide +kernel⟩, List.mem_of_getElem? (i := 635) (by decide +kernel), List.mem_of_getElem? (i := 807) (by decide +kernel), List.mem_of_getElem? (i := 808) (by decide +kernel)⟩
theorem lw_p34 : lw_okq (⟨"HintedStemsModel", "litHalf", "(III)I"⟩, 17) := ⟨⟨by decide +kernel, by decide +kernel⟩, List.mem_of_getElem? (i := 635) (by decide +kernel), List.mem_of_getElem? (i := 811) (by decide +kernel), List.mem_of_getElem? (i := 812) (by decide +kernel)⟩
theorem lw_p35 : lw_okq (⟨"HintedStemsModel", "isLit", "(II)Z"⟩, 17) := ⟨⟨by decide +kernel, by decide +kernel⟩, List.mem_of_getElem? (i := 635) (by decide +kernel), List.mem_of_getElem? (i := 815) (by decide +kernel), List.mem_of_getElem? (i := 816) (by decide +kernel)⟩
theorem lw_p36 : lw_okq (⟨"HintedStemsModel", "alike", "(I)I"⟩, 17) := ⟨⟨by decide +kernel, by decide +kernel⟩, List.mem_of_getElem? (i := 635) (by decide +kernel), List.mem_of_getElem? (i := 827) (by decide +kernel), List.mem_of_getElem? (i := 828) (by decide +kernel)⟩
theorem lw_p37 : lw_okq (⟨"HintedStemsModel", "cuts", "(II)I"⟩, 17) := ⟨⟨by decide +kernel, by decide +kernel⟩, List.mem_of_getElem? (i := 635) (by decide +kernel), List.mem_of_getElem? (i := 835) (by decide +kernel), List.mem_of_getElem? (i := 836) (by decide +kernel)⟩
theorem lw_p38 : lw_okq (⟨"HintedStemsModel", "isClear", "(II)Z"⟩, 17) := ⟨⟨by decide +kernel, by decide +kernel⟩, List.mem_of_getElem? (i := 635) (by decide +kernel), List.mem_of_getElem? (i := 846) (by decide +kernel), List.mem_of_getElem? (i := 847) (by decide +kernel)⟩
theorem lw_p39 : lw_okq (⟨"HintedStemsModel", "runsOf", "(II)I"⟩, 17) := ⟨⟨by decide +kernel, by decide +kernel⟩, List.mem_of_getElem? (i := 635) (by decide +kernel), List.mem_of_getElem? (i := 850) (by decide +kernel), List.mem_of_getElem? (i := 851) (by decide +kernel)⟩
theorem lw_p40 : lw_okq (⟨"HintedStemsModel", "isStale", "(I)Z"⟩, 17) := ⟨⟨by decide +kernel, by decide +kernel⟩, List.mem_of_getElem? (i := 635) (by decide +kernel), List.mem_of_getElem? (i := 866) (by decide +kernel), List.mem_of_getElem? (i := 867) (by decide +kernel)⟩
theorem lw_p41 : lw_okq (⟨"HintedStemsModel", "litIn", "(I)I"⟩, 17) := ⟨⟨by decide +kernel, by decide +kernel⟩, List.mem_of_getElem? (i := 635) (by decide +kernel), List.mem_of_getElem? (i := 870) (by decide +kernel), List.mem_of_getElem? (i := 871) (by decide +kernel)⟩
theorem lw_p42 : lw_okq (⟨"HintedStemsModel", "isEven", "(III)Z"⟩, 17) := ⟨⟨by decide +kernel, by decide +kernel⟩, List.mem_of_getElem? (i := 635) (by decide +kernel), List.mem_of_getElem? (i := 878) (by decide +kernel), List.mem_of_getElem? (i := 879) (by decide +kernel)⟩
theorem lw_p43 : lw_okq (⟨"HintedStemsModel", "clearSizes", "(I)I"⟩, 17) := ⟨⟨by decide +kernel, by decide +kernel⟩, List.mem_of_getElem? (i := 635) (by decide +kernel), List.mem_of_getElem? (i := 890) (by decide +kernel), List.mem_of_getElem? (i := 891) (by decide +kernel)⟩
theorem lw_p44 : lw_okq (⟨"HintedStemsModel", "stems", "()I"⟩, 17) := ⟨⟨by decide +kernel, by decide +kernel⟩, List.mem_of_getElem? (i := 635) (by decide +kernel), List.mem_of_getElem? (i := 898) (by decide +kernel), List.mem_of_getElem? (i := 899) (by decide +kernel)⟩
theorem lw_p45 : lw_okq (⟨"HintedStemsModel", "stales", "()I"⟩, 17) := ⟨⟨by decide +kernel, by decide +kernel⟩, List.mem_of_getElem? (i := 635) (by decide +kernel), List.mem_of_getElem? (i := 916) (by decide +kernel), List.mem_of_getElem? (i := 917) (by decide +kernel)⟩
theorem lw_p46 : lw_okq (⟨"HintedStemsModel", "unlikeWidths", "()I"⟩, 17) := ⟨⟨by decide +kernel, by decide +kernel⟩, List.mem_of_getElem? (i := 635) (by decide +kernel), List.mem_of_getElem? (i := 920) (by decide +kernel), List.mem_of_getElem? (i := 921) (by decide +kernel)⟩
theorem lw_p47 : lw_okq (⟨"HintedStemsModel", "plays", "()Z"⟩, 17) := ⟨⟨by decide +kernel, by decide +kernel⟩, List.mem_of_getElem? (i := 635) (by decide +kernel), List.mem_of_getElem? (i := 943) (by decide +kernel), List.mem_of_getElem? (i := 944) (by decide +kernel)⟩
def lw_privs_3 : List (MethodName × Nat) := [(⟨"HintedStemsModel", "rounded", "(III)I"⟩, 17), (⟨"HintedStemsModel", "columns", "(II)I"⟩, 17), (⟨"HintedStemsModel", "litHalf", "(III)I"⟩, 17), (⟨"HintedStemsModel", "isLit", "(II)Z"⟩, 17), (⟨"HintedStemsModel", "alike", "(I)I"⟩, 17), (⟨"HintedStemsModel", "cuts", "(II)I"⟩, 17), (⟨"HintedStemsModel", "isClear", "(II)Z"⟩, 17), (⟨"HintedStemsModel", "runsOf", "(II)I"⟩, 17), (⟨"HintedStemsModel", "isStale", "(I)Z"⟩, 17), (⟨"HintedStemsModel", "litIn", "(I)I"⟩, 17), (⟨"HintedStemsModel", "isEven", "(III)Z"⟩, 17), (⟨"HintedStemsModel", "clearSizes", "(I)I"⟩, 17), (⟨"HintedStemsModel", "stems", "()I"⟩, 17), (⟨"HintedStemsModel", "stales", "()I"⟩, 17), (⟨"HintedStemsModel", "unlikeWidths", "()I"⟩, 17), (⟨"HintedStemsModel", "plays", "()Z"⟩, 17)]
theorem lw_r3 : ∀ q ∈ lw_privs_3, lw_okq q := List.forall_mem_cons.mpr ⟨lw_p32, List.forall_mem_cons.mpr ⟨lw_p33, List.forall_mem_cons.mpr ⟨lw_p34, List.forall_mem_cons.mpr ⟨lw_p35, List.forall_mem_cons.mpr ⟨lw_p36, List.forall_mem_cons.mpr ⟨lw_p37, List.forall_mem_cons.mpr ⟨lw_p38, List.forall_mem_cons.mpr ⟨lw_p39, List.forall_mem_cons.mpr ⟨lw_p40, List.forall_mem_cons.mpr ⟨lw_p41, List.forall_mem_cons.mpr ⟨lw_p42, List.forall_mem_cons.mpr ⟨lw_p43, List.forall_mem_cons.mpr ⟨lw_p44, List.forall_mem_cons.mpr ⟨lw_p45, List.forall_mem_cons.mpr ⟨lw_p46, List.forall_mem_cons.mpr ⟨lw_p47, fun _ h => absurd h List.not_mem_nil⟩⟩⟩⟩⟩⟩⟩⟩⟩⟩⟩⟩⟩⟩⟩⟩
theorem lw_p48 : lw_okq (⟨"HintedStemsModel", "reads", "()Z"⟩, 17) := ⟨⟨by decide +kernel, by decide +kernel⟩, List.mem_of_getElem? (i := 635) (by decide +kernel), List.mem_of_getElem? (i := 947) (by decide +kernel), List.mem_of_getElem? (i := 948) (by decide +kernel)⟩
theorem lw_p49 : lw_okq (⟨"HintedStemsModel", "isAt", "(II)Z"⟩, 17) := ⟨⟨by decide +kernel, by decide +kernel⟩, List.mem_of_getElem? (i := 635) (by decide +kernel), List.mem_of_getElem? (i := 951) (by decide +kernel), List.mem_of_getElem? (i := 952) (by decide +kernel)⟩
theorem lw_p50 : lw_okq (⟨"HintedStemsModel", "numbered", "(I)Z"⟩, 17) := ⟨⟨by decide +kernel, by decide +kernel⟩, List.mem_of_getElem? (i := 635) (by decide +kernel), List.mem_of_getElem? (i := 958) (by decide +kernel), List.mem_of_getElem? (i := 959) (by decide +kernel)⟩
theorem lw_p51 : lw_okq (⟨"HintedStemsModel", "sign", "(I)Z"⟩, 17) := ⟨⟨by decide +kernel, by decide +kernel⟩, List.mem_of_getElem? (i := 635) (by decide +kernel), List.mem_of_getElem? (i := 962) (by decide +kernel), List.mem_of_getElem? (i := 963) (by decide +kernel)⟩
theorem lw_p52 : lw_okq (⟨"HintedStemsModel", "calls", "()I"⟩, 17) := ⟨⟨by decide +kernel, by decide +kernel⟩, List.mem_of_getElem? (i := 635) (by decide +kernel), List.mem_of_getElem? (i := 966) (by decide +kernel), List.mem_of_getElem? (i := 967) (by decide +kernel)⟩
def lw_privs_4 : List (MethodName × Nat) := [(⟨"HintedStemsModel", "reads", "()Z"⟩, 17), (⟨"HintedStemsModel", "isAt", "(II)Z"⟩, 17), (⟨"HintedStemsModel", "numbered", "(I)Z"⟩, 17), (⟨"HintedStemsModel", "sign", "(I)Z"⟩, 17), (⟨"HintedStemsModel", "calls", "()I"⟩, 17)]
theorem lw_r4 : ∀ q ∈ lw_privs_4, lw_okq q := List.forall_mem_cons.mpr ⟨lw_p48, List.forall_mem_cons.mpr ⟨lw_p49, List.forall_mem_cons.mpr ⟨lw_p50, List.forall_mem_cons.mpr ⟨lw_p51, List.forall_mem_cons.mpr ⟨lw_p52, fun _ h => absurd h List.not_mem_nil⟩⟩⟩⟩⟩
def lw_privs : List (MethodName × Nat) := lw_privs_1 ++ (lw_privs_2 ++ (lw_privs_3 ++ (lw_privs_4)))
def lw_tbl : List Cond := k2_sels lw_privs ++ tables_1
theorem lw_privs_ok : ∀ q ∈ lw_privs, lw_okq q := by
  show ∀ q ∈ lw_privs_1 ++ (lw_privs_2 ++ (lw_privs_3 ++ (lw_privs_4))), lw_okq q
  exact List.forall_mem_append.mpr ⟨lw_r1, List.forall_mem_append.mpr ⟨lw_r2, List.forall_mem_append.mpr ⟨lw_r3, lw_r4⟩⟩⟩
/-- the streams that the claim lets the run draw from -/
abbrev lw_cs : List Choice := [Jvm.Choice.named "NaN.bits"]
theorem lw_bits : nanBits ∈ lw_cs := by first | decide | exact List.mem_cons_self | simp [lw_cs, nanBits]
-- ===== end of PART A; then your names; then what follows =====
end
section
def RX0 : String := "HintedStems$Fit"
def TX0 : u_T := fun k => match k with
  | 0 => ("HintedStems$Fit", "columns", "I", false)
  | 1 => ("HintedStems$Fit", "pushed", "I", false)
  | 2 => ("HintedStems$Fit", "clipped", "I", false)
  | 3 => ("HintedStems$Fit", "lit", "J", false)
  | 4 => ("HintedStems$Fit", "lefts", "[I", true)
  | 5 => ("HintedStems$Fit", "wides", "[I", true)
  | _ => ("HintedStems$Fit", "allWides", "[I", true)
def tyX0 : Nat → FieldType := fun k => match k with
  | 0 => .int
  | 1 => .int
  | 2 => .int
  | 3 => .long
  | 4 => .array .int
  | 5 => .array .int
  | _ => .array .int
theorem nmX0 : ∀ a, a < 7 → ∀ b, b < 7 → a ≠ b → (TX0 a).2.1 ≠ (TX0 b).2.1 := by decide +kernel
theorem tyX0_ok : ∀ k, k < 7 → parseFieldDescriptor (TX0 k).2.2.1 = some (tyX0 k) := by decide +kernel
abbrev cX0_init : ByteArray := prog_2_method_1_code
def yX0_init : MethodName := ⟨RX0, "<init>", "()V"⟩
abbrev cX0_lay : ByteArray := prog_2_method_2_code
def yX0_lay : MethodName := ⟨RX0, "lay", "(LHintedStems$Font;II)V"⟩
abbrev cX0_light : ByteArray := prog_2_method_3_code
def yX0_light : MethodName := ⟨RX0, "light", "(III)V"⟩
abbrev cX0_isClear : ByteArray := prog_2_method_4_code
def yX0_isClear : MethodName := ⟨RX0, "isClear", "()Z"⟩
abbrev cX0_isEven : ByteArray := prog_2_method_5_code
def yX0_isEven : MethodName := ⟨RX0, "isEven", "(LHintedStems$Font;I)Z"⟩
abbrev cX0_isEvenAhead : ByteArray := prog_2_method_6_code
def yX0_isEvenAhead : MethodName := ⟨RX0, "isEvenAhead", "(LHintedStems$Font;I)Z"⟩
abbrev cX0_columnsOf : ByteArray := prog_2_method_7_code
def yX0_columnsOf : MethodName := ⟨RX0, "columnsOf", "(II)I"⟩
abbrev cX0_rounded : ByteArray := prog_2_method_8_code
def yX0_rounded : MethodName := ⟨RX0, "rounded", "(LHintedStems$Font;III)I"⟩
def RX1 : String := "HintedStems$Font"
def TX1 : u_T := fun k => match k with
  | 0 => ("HintedStems$Font", "glyphs", "I", false)
  | 1 => ("HintedStems$Font", "standards", "I", false)
  | 2 => ("HintedStems$Font", "cutoff", "I", false)
  | 3 => ("HintedStems$Font", "leastGap", "I", false)
  | 4 => ("HintedStems$Font", "advances", "[I", true)
  | 5 => ("HintedStems$Font", "stems", "[I", true)
  | 6 => ("HintedStems$Font", "places", "[I", true)
  | 7 => ("HintedStems$Font", "widths", "[I", true)
  | 8 => ("HintedStems$Font", "hints", "[I", true)
  | 9 => ("HintedStems$Font", "standard", "[I", true)
  | _ => ("HintedStems$Font", "sheets", "LHintedStems$Sheets;", true)
def tyX1 : Nat → FieldType := fun k => match k with
  | 0 => .int
  | 1 => .int
  | 2 => .int
  | 3 => .int
  | 4 => .array .int
  | 5 => .array .int
  | 6 => .array .int
  | 7 => .array .int
  | 8 => .array .int
  | 9 => .array .int
  | _ => .object "HintedStems$Sheets"
theorem nmX1 : ∀ a, a < 11 → ∀ b, b < 11 → a ≠ b → (TX1 a).2.1 ≠ (TX1 b).2.1 := by decide +kernel
theorem tyX1_ok : ∀ k, k < 11 → parseFieldDescriptor (TX1 k).2.2.1 = some (tyX1 k) := by decide +kernel
abbrev cX1_init : ByteArray := prog_3_method_1_code
def yX1_init : MethodName := ⟨RX1, "<init>", "()V"⟩
abbrev cX1_copy : ByteArray := prog_3_method_2_code
def yX1_copy : MethodName := ⟨RX1, "copy", "(LHintedStems$Font;)V"⟩
abbrev cX1_hasGlyph : ByteArray := prog_3_method_3_code
def yX1_hasGlyph : MethodName := ⟨RX1, "hasGlyph", "(I)Z"⟩
abbrev cX1_hasStem : ByteArray := prog_3_method_4_code
def yX1_hasStem : MethodName := ⟨RX1, "hasStem", "(II)Z"⟩
abbrev cX1_endOf : ByteArray := prog_3_method_5_code
def yX1_endOf : MethodName := ⟨RX1, "endOf", "(I)I"⟩
abbrev cX1_addGlyph : ByteArray := prog_3_method_6_code
def yX1_addGlyph : MethodName := ⟨RX1, "addGlyph", "(I)I"⟩
abbrev cX1_addStem : ByteArray := prog_3_method_7_code
def yX1_addStem : MethodName := ⟨RX1, "addStem", "(III)I"⟩
abbrev cX1_cutStem : ByteArray := prog_3_method_8_code
def yX1_cutStem : MethodName := ⟨RX1, "cutStem", "(II)I"⟩
abbrev cX1_moveStem : ByteArray := prog_3_method_9_code
def yX1_moveStem : MethodName := ⟨RX1, "moveStem", "(II)V"⟩
abbrev cX1_putStem : ByteArray := prog_3_method_10_code
def yX1_putStem : MethodName := ⟨RX1, "putStem", "(IIII)V"⟩
abbrev cX1_hintStem : ByteArray := prog_3_method_11_code
def yX1_hintStem : MethodName := ⟨RX1, "hintStem", "(III)I"⟩
abbrev cX1_addStandard : ByteArray := prog_3_method_12_code
def yX1_addStandard : MethodName := ⟨RX1, "addStandard", "(I)I"⟩
abbrev cX1_dropStandard : ByteArray := prog_3_method_13_code
def yX1_dropStandard : MethodName := ⟨RX1, "dropStandard", "(I)I"⟩
abbrev cX1_standardAt : ByteArray := prog_3_method_14_code
def yX1_standardAt : MethodName := ⟨RX1, "standardAt", "(I)I"⟩
abbrev cX1_changeSetting : ByteArray := prog_3_method_15_code
def yX1_changeSetting : MethodName := ⟨RX1, "changeSetting", "(II)I"⟩
abbrev cX1_makeSheet : ByteArray := prog_3_method_16_code
def yX1_makeSheet : MethodName := ⟨RX1, "makeSheet", "(ILHintedStems$Fit;)I"⟩
abbrev cX1_isStale : ByteArray := prog_3_method_17_code
def yX1_isStale : MethodName := ⟨RX1, "isStale", "(ILHintedStems$Fit;)Z"⟩
abbrev cX1_snapOf : ByteArray := prog_3_method_18_code
def yX1_snapOf : MethodName := ⟨RX1, "snapOf", "(I)I"⟩
abbrev cX1_hintedWidth : ByteArray := prog_3_method_19_code
def yX1_hintedWidth : MethodName := ⟨RX1, "hintedWidth", "(I)I"⟩
abbrev cX1_wideOf : ByteArray := prog_3_method_20_code
def yX1_wideOf : MethodName := ⟨RX1, "wideOf", "(II)I"⟩
abbrev cX1_alikeWith : ByteArray := prog_3_method_21_code
def yX1_alikeWith : MethodName := ⟨RX1, "alikeWith", "(I)I"⟩
abbrev cX1_snappingTo : ByteArray := prog_3_method_22_code
def yX1_snappingTo : MethodName := ⟨RX1, "snappingTo", "(I)I"⟩
abbrev cX1_unlikeWidths : ByteArray := prog_3_method_23_code
def yX1_unlikeWidths : MethodName := ⟨RX1, "unlikeWidths", "()I"⟩
abbrev cX1_isAlikeAhead : ByteArray := prog_3_method_24_code
def yX1_isAlikeAhead : MethodName := ⟨RX1, "isAlikeAhead", "(I)Z"⟩
abbrev cX1_stemsTogether : ByteArray := prog_3_method_25_code
def yX1_stemsTogether : MethodName := ⟨RX1, "stemsTogether", "()I"⟩
abbrev cX1_widthsTogether : ByteArray := prog_3_method_26_code
def yX1_widthsTogether : MethodName := ⟨RX1, "widthsTogether", "()I"⟩
def RX2 : String := "HintedStems$History"
def TX2 : u_T := fun k => match k with
  | 0 => ("HintedStems$History", "slots", "[LHintedStems$Font;", true)
  | 1 => ("HintedStems$History", "oldest", "I", false)
  | _ => ("HintedStems$History", "kept", "I", false)
def tyX2 : Nat → FieldType := fun k => match k with
  | 0 => .array (.object "HintedStems$Font")
  | 1 => .int
  | _ => .int
theorem nmX2 : ∀ a, a < 3 → ∀ b, b < 3 → a ≠ b → (TX2 a).2.1 ≠ (TX2 b).2.1 := by decide +kernel
theorem tyX2_ok : ∀ k, k < 3 → parseFieldDescriptor (TX2 k).2.2.1 = some (tyX2 k) := by decide +kernel
abbrev cX2_init : ByteArray := prog_4_method_1_code
def yX2_init : MethodName := ⟨RX2, "<init>", "()V"⟩
abbrev cX2_note : ByteArray := prog_4_method_2_code
def yX2_note : MethodName := ⟨RX2, "note", "(LHintedStems$Font;)V"⟩
abbrev cX2_keep : ByteArray := prog_4_method_3_code
def yX2_keep : MethodName := ⟨RX2, "keep", "()V"⟩
abbrev cX2_giveBack : ByteArray := prog_4_method_4_code
def yX2_giveBack : MethodName := ⟨RX2, "giveBack", "(LHintedStems$Font;)Z"⟩
abbrev cX2_slotAt : ByteArray := prog_4_method_5_code
def yX2_slotAt : MethodName := ⟨RX2, "slotAt", "(I)LHintedStems$Font;"⟩
def RX3 : String := "HintedStems$Orders"
def TX3 : u_T := fun k => match k with
  | 0 => ("HintedStems$Orders", "signs", "[I", true)
  | 1 => ("HintedStems$Orders", "length", "I", false)
  | 2 => ("HintedStems$Orders", "numbers", "[I", true)
  | 3 => ("HintedStems$Orders", "reached", "I", false)
  | 4 => ("HintedStems$Orders", "done", "I", false)
  | 5 => ("HintedStems$Orders", "position", "I", false)
  | 6 => ("HintedStems$Orders", "reason", "I", false)
  | _ => ("HintedStems$Orders", "cause", "I", false)
def tyX3 : Nat → FieldType := fun k => match k with
  | 0 => .array .int
  | 1 => .int
  | 2 => .array .int
  | 3 => .int
  | 4 => .int
  | 5 => .int
  | 6 => .int
  | _ => .int
theorem nmX3 : ∀ a, a < 8 → ∀ b, b < 8 → a ≠ b → (TX3 a).2.1 ≠ (TX3 b).2.1 := by decide +kernel
theorem tyX3_ok : ∀ k, k < 8 → parseFieldDescriptor (TX3 k).2.2.1 = some (tyX3 k) := by decide +kernel
abbrev cX3_init : ByteArray := prog_5_method_1_code
def yX3_init : MethodName := ⟨RX3, "<init>", "()V"⟩
abbrev cX3_append : ByteArray := prog_5_method_2_code
def yX3_append : MethodName := ⟨RX3, "append", "(I)Z"⟩
abbrev cX3_run : ByteArray := prog_5_method_3_code
def yX3_run : MethodName := ⟨RX3, "run", "(LHintedStems$Font;LHintedStems$Fit;)V"⟩
abbrev cX3_tell : ByteArray := prog_5_method_4_code
def yX3_tell : MethodName := ⟨RX3, "tell", "(III)V"⟩
abbrev cX3_signAt : ByteArray := prog_5_method_5_code
def yX3_signAt : MethodName := ⟨RX3, "signAt", "(I)I"⟩
abbrev cX3_isOrder : ByteArray := prog_5_method_6_code
def yX3_isOrder : MethodName := ⟨RX3, "isOrder", "(I)Z"⟩
abbrev cX3_numbersOf : ByteArray := prog_5_method_7_code
def yX3_numbersOf : MethodName := ⟨RX3, "numbersOf", "(I)I"⟩
abbrev cX3_isNumber : ByteArray := prog_5_method_8_code
def yX3_isNumber : MethodName := ⟨RX3, "isNumber", "(I)Z"⟩
abbrev cX3_carryOut : ByteArray := prog_5_method_9_code
def yX3_carryOut : MethodName := ⟨RX3, "carryOut", "(ILHintedStems$Font;LHintedStems$Fit;)I"⟩
def RX4 : String := "HintedStems$Sheets"
def TX4 : u_T := fun k => match k with
  | 0 => ("HintedStems$Sheets", "made", "I", false)
  | 1 => ("HintedStems$Sheets", "turns", "[I", true)
  | 2 => ("HintedStems$Sheets", "sizes", "[I", true)
  | 3 => ("HintedStems$Sheets", "glyphs", "[I", true)
  | 4 => ("HintedStems$Sheets", "columns", "[I", true)
  | _ => ("HintedStems$Sheets", "lit", "[J", true)
def tyX4 : Nat → FieldType := fun k => match k with
  | 0 => .int
  | 1 => .array .int
  | 2 => .array .int
  | 3 => .array .int
  | 4 => .array .int
  | _ => .array .long
theorem nmX4 : ∀ a, a < 6 → ∀ b, b < 6 → a ≠ b → (TX4 a).2.1 ≠ (TX4 b).2.1 := by decide +kernel
theorem tyX4_ok : ∀ k, k < 6 → parseFieldDescriptor (TX4 k).2.2.1 = some (tyX4 k) := by decide +kernel
abbrev cX4_init : ByteArray := prog_6_method_1_code
def yX4_init : MethodName := ⟨RX4, "<init>", "()V"⟩
abbrev cX4_copy : ByteArray := prog_6_method_2_code
def yX4_copy : MethodName := ⟨RX4, "copy", "(LHintedStems$Sheets;)V"⟩
abbrev cX4_isMade : ByteArray := prog_6_method_3_code
def yX4_isMade : MethodName := ⟨RX4, "isMade", "(I)Z"⟩
abbrev cX4_held : ByteArray := prog_6_method_4_code
def yX4_held : MethodName := ⟨RX4, "held", "()I"⟩
abbrev cX4_slotOf : ByteArray := prog_6_method_5_code
def yX4_slotOf : MethodName := ⟨RX4, "slotOf", "(I)I"⟩
abbrev cX4_slotAt : ByteArray := prog_6_method_6_code
def yX4_slotAt : MethodName := ⟨RX4, "slotAt", "(I)I"⟩
abbrev cX4_olderThan : ByteArray := prog_6_method_7_code
def yX4_olderThan : MethodName := ⟨RX4, "olderThan", "(I)I"⟩
abbrev cX4_slotToMake : ByteArray := prog_6_method_8_code
def yX4_slotToMake : MethodName := ⟨RX4, "slotToMake", "(I)I"⟩
abbrev cX4_begin : ByteArray := prog_6_method_9_code
def yX4_begin : MethodName := ⟨RX4, "begin", "(III)V"⟩
abbrev cX4_keep : ByteArray := prog_6_method_10_code
def yX4_keep : MethodName := ⟨RX4, "keep", "(IIJ)V"⟩
abbrev cX4_litAt : ByteArray := prog_6_method_11_code
def yX4_litAt : MethodName := ⟨RX4, "litAt", "(I)J"⟩
abbrev cX4_litTogether : ByteArray := prog_6_method_12_code
def yX4_litTogether : MethodName := ⟨RX4, "litTogether", "(I)I"⟩
def RX5 : String := "HintedStems"
def TX5 : u_T := fun k => match k with
  | 0 => ("HintedStems", "font", "LHintedStems$Font;", true)
  | 1 => ("HintedStems", "trial", "LHintedStems$Font;", true)
  | 2 => ("HintedStems", "fit", "LHintedStems$Fit;", true)
  | 3 => ("HintedStems", "orders", "LHintedStems$Orders;", true)
  | _ => ("HintedStems", "history", "LHintedStems$History;", true)
def tyX5 : Nat → FieldType := fun k => match k with
  | 0 => .object "HintedStems$Font"
  | 1 => .object "HintedStems$Font"
  | 2 => .object "HintedStems$Fit"
  | 3 => .object "HintedStems$Orders"
  | _ => .object "HintedStems$History"
theorem nmX5 : ∀ a, a < 5 → ∀ b, b < 5 → a ≠ b → (TX5 a).2.1 ≠ (TX5 b).2.1 := by decide +kernel
theorem tyX5_ok : ∀ k, k < 5 → parseFieldDescriptor (TX5 k).2.2.1 = some (tyX5 k) := by decide +kernel
abbrev cX5_init : ByteArray := prog_1_method_1_code
def yX5_init : MethodName := ⟨RX5, "<init>", "()V"⟩
abbrev cX5_glyph : ByteArray := prog_1_method_2_code
def yX5_glyph : MethodName := ⟨RX5, "glyph", "(I)I"⟩
abbrev cX5_stem : ByteArray := prog_1_method_3_code
def yX5_stem : MethodName := ⟨RX5, "stem", "(III)I"⟩
abbrev cX5_cut : ByteArray := prog_1_method_4_code
def yX5_cut : MethodName := ⟨RX5, "cut", "(II)I"⟩
abbrev cX5_hint : ByteArray := prog_1_method_5_code
def yX5_hint : MethodName := ⟨RX5, "hint", "(III)I"⟩
abbrev cX5_standard : ByteArray := prog_1_method_6_code
def yX5_standard : MethodName := ⟨RX5, "standard", "(I)I"⟩
abbrev cX5_drop : ByteArray := prog_1_method_7_code
def yX5_drop : MethodName := ⟨RX5, "drop", "(I)I"⟩
abbrev cX5_make : ByteArray := prog_1_method_8_code
def yX5_make : MethodName := ⟨RX5, "make", "(I)I"⟩
abbrev cX5_set : ByteArray := prog_1_method_9_code
def yX5_set : MethodName := ⟨RX5, "set", "(II)I"⟩
abbrev cX5_stemOf : ByteArray := prog_1_method_10_code
def yX5_stemOf : MethodName := ⟨RX5, "stemOf", "(III)I"⟩
abbrev cX5_pixels : ByteArray := prog_1_method_11_code
def yX5_pixels : MethodName := ⟨RX5, "pixels", "(IIII)I"⟩
abbrev cX5_glyphOf : ByteArray := prog_1_method_12_code
def yX5_glyphOf : MethodName := ⟨RX5, "glyphOf", "(III)I"⟩
abbrev cX5_lit : ByteArray := prog_1_method_13_code
def yX5_lit : MethodName := ⟨RX5, "lit", "(III)I"⟩
abbrev cX5_inSheet : ByteArray := prog_1_method_14_code
def yX5_inSheet : MethodName := ⟨RX5, "inSheet", "(III)I"⟩
abbrev cX5_sheetOf : ByteArray := prog_1_method_15_code
def yX5_sheetOf : MethodName := ⟨RX5, "sheetOf", "(II)I"⟩
abbrev cX5_even : ByteArray := prog_1_method_16_code
def yX5_even : MethodName := ⟨RX5, "even", "(I)I"⟩
abbrev cX5_clear : ByteArray := prog_1_method_17_code
def yX5_clear : MethodName := ⟨RX5, "clear", "(I)I"⟩
abbrev cX5_best : ByteArray := prog_1_method_18_code
def yX5_best : MethodName := ⟨RX5, "best", "(III)I"⟩
abbrev cX5_mean : ByteArray := prog_1_method_19_code
def yX5_mean : MethodName := ⟨RX5, "mean", "()I"⟩
abbrev cX5_count : ByteArray := prog_1_method_20_code
def yX5_count : MethodName := ⟨RX5, "count", "(I)I"⟩
abbrev cX5_undo : ByteArray := prog_1_method_21_code
def yX5_undo : MethodName := ⟨RX5, "undo", "()I"⟩
abbrev cX5_type : ByteArray := prog_1_method_22_code
def yX5_type : MethodName := ⟨RX5, "type", "(I)I"⟩
abbrev cX5_clearText : ByteArray := prog_1_method_23_code
def yX5_clearText : MethodName := ⟨RX5, "clearText", "()I"⟩
abbrev cX5_fault : ByteArray := prog_1_method_24_code
def yX5_fault : MethodName := ⟨RX5, "fault", "(I)I"⟩
abbrev cX5_play : ByteArray := prog_1_method_25_code
def yX5_play : MethodName := ⟨RX5, "play", "()I"⟩
abbrev cX5_settled : ByteArray := prog_1_method_26_code
def yX5_settled : MethodName := ⟨RX5, "settled", "(I)I"⟩
abbrev cX5_clearSizes : ByteArray := prog_1_method_27_code
def yX5_clearSizes : MethodName := ⟨RX5, "clearSizes", "(LHintedStems$Font;I)I"⟩
abbrev cX5_staleSheets : ByteArray := prog_1_method_28_code
def yX5_staleSheets : MethodName := ⟨RX5, "staleSheets", "()I"⟩
abbrev cX5_within : ByteArray := prog_1_method_29_code
def yX5_within : MethodName := ⟨RX5, "within", "(III)Z"⟩
abbrev cX5_isSize : ByteArray := prog_1_method_30_code
def yX5_isSize : MethodName := ⟨RX5, "isSize", "(I)Z"⟩
abbrev cX5_inPixels : ByteArray := prog_1_method_31_code
def yX5_inPixels : MethodName := ⟨RX5, "inPixels", "(II)I"⟩
abbrev cX5_cell : ByteArray := prog_1_method_32_code
def yX5_cell : MethodName := ⟨RX5, "cell", "([II)I"⟩
abbrev cX5_put : ByteArray := prog_1_method_33_code
def yX5_put : MethodName := ⟨RX5, "put", "([III)V"⟩
abbrev cX5_copyRow : ByteArray := prog_1_method_34_code
def yX5_copyRow : MethodName := ⟨RX5, "copyRow", "([I[I)V"⟩
abbrev cX5_bitOf : ByteArray := prog_1_method_35_code
def yX5_bitOf : MethodName := ⟨RX5, "bitOf", "(JI)I"⟩
abbrev cX5_runsOf : ByteArray := prog_1_method_36_code
def yX5_runsOf : MethodName := ⟨RX5, "runsOf", "(J)I"⟩
abbrev cX5_bitsOf : ByteArray := prog_1_method_37_code
def yX5_bitsOf : MethodName := ⟨RX5, "bitsOf", "(F)I"⟩
def RX6 : String := "HintedStemsModel"
def TX6 : u_T := fun k => match k with
  | 0 => ("HintedStemsModel", "s", "[I", true)
  | 1 => ("HintedStemsModel", "past", "[I", true)
  | 2 => ("HintedStemsModel", "held", "[I", true)
  | 3 => ("HintedStemsModel", "pasts", "I", false)
  | 4 => ("HintedStemsModel", "runs", "Z", false)
  | 5 => ("HintedStemsModel", "text", "[I", true)
  | 6 => ("HintedStemsModel", "typed", "I", false)
  | 7 => ("HintedStemsModel", "left", "[I", true)
  | 8 => ("HintedStemsModel", "wide", "[I", true)
  | 9 => ("HintedStemsModel", "pushed", "I", false)
  | 10 => ("HintedStemsModel", "spot", "I", false)
  | 11 => ("HintedStemsModel", "from", "I", false)
  | 12 => ("HintedStemsModel", "reason", "I", false)
  | 13 => ("HintedStemsModel", "cause", "I", false)
  | 14 => ("HintedStemsModel", "orders", "I", false)
  | 15 => ("HintedStemsModel", "order", "I", false)
  | _ => ("HintedStemsModel", "numbers", "[I", true)
def tyX6 : Nat → FieldType := fun k => match k with
  | 0 => .array .int
  | 1 => .array .int
  | 2 => .array .int
  | 3 => .int
  | 4 => .boolean
  | 5 => .array .int
  | 6 => .int
  | 7 => .array .int
  | 8 => .array .int
  | 9 => .int
  | 10 => .int
  | 11 => .int
  | 12 => .int
  | 13 => .int
  | 14 => .int
  | 15 => .int
  | _ => .array .int
theorem nmX6 : ∀ a, a < 17 → ∀ b, b < 17 → a ≠ b → (TX6 a).2.1 ≠ (TX6 b).2.1 := by decide +kernel
theorem tyX6_ok : ∀ k, k < 17 → parseFieldDescriptor (TX6 k).2.2.1 = some (tyX6 k) := by decide +kernel
abbrev cX6_init : ByteArray := prog_8_method_1_code
def yX6_init : MethodName := ⟨RX6, "<init>", "()V"⟩
abbrev cX6_in : ByteArray := prog_8_method_3_code
def yX6_in : MethodName := ⟨RX6, "in", "(III)Z"⟩
abbrev cX6_floor : ByteArray := prog_8_method_4_code
def yX6_floor : MethodName := ⟨RX6, "floor", "(II)I"⟩
abbrev cX6_copies : ByteArray := prog_8_method_5_code
def yX6_copies : MethodName := ⟨RX6, "copies", "([I[I)V"⟩
abbrev cX6_changes : ByteArray := prog_8_method_6_code
def yX6_changes : MethodName := ⟨RX6, "changes", "()V"⟩
abbrev cX6_isSize : ByteArray := prog_8_method_7_code
def yX6_isSize : MethodName := ⟨RX6, "isSize", "(I)Z"⟩
abbrev cX6_isGlyph : ByteArray := prog_8_method_8_code
def yX6_isGlyph : MethodName := ⟨RX6, "isGlyph", "(I)Z"⟩
abbrev cX6_of : ByteArray := prog_8_method_9_code
def yX6_of : MethodName := ⟨RX6, "of", "(II)I"⟩
abbrev cX6_isStem : ByteArray := prog_8_method_10_code
def yX6_isStem : MethodName := ⟨RX6, "isStem", "(II)Z"⟩
abbrev cX6_at : ByteArray := prog_8_method_11_code
def yX6_at : MethodName := ⟨RX6, "at", "(III)I"⟩
abbrev cX6_ofStem : ByteArray := prog_8_method_12_code
def yX6_ofStem : MethodName := ⟨RX6, "ofStem", "(III)I"⟩
abbrev cX6_endOf : ByteArray := prog_8_method_13_code
def yX6_endOf : MethodName := ⟨RX6, "endOf", "(II)I"⟩
abbrev cX6_glyph : ByteArray := prog_8_method_14_code
def yX6_glyph : MethodName := ⟨RX6, "glyph", "(I)I"⟩
abbrev cX6_ahead : ByteArray := prog_8_method_15_code
def yX6_ahead : MethodName := ⟨RX6, "ahead", "(II)I"⟩
abbrev cX6_stem : ByteArray := prog_8_method_16_code
def yX6_stem : MethodName := ⟨RX6, "stem", "(III)I"⟩
abbrev cX6_cut : ByteArray := prog_8_method_17_code
def yX6_cut : MethodName := ⟨RX6, "cut", "(II)I"⟩
abbrev cX6_hint : ByteArray := prog_8_method_18_code
def yX6_hint : MethodName := ⟨RX6, "hint", "(III)I"⟩
abbrev cX6_wideAt : ByteArray := prog_8_method_19_code
def yX6_wideAt : MethodName := ⟨RX6, "wideAt", "(I)I"⟩
abbrev cX6_size : ByteArray := prog_8_method_20_code
def yX6_size : MethodName := ⟨RX6, "size", "(I)I"⟩
abbrev cX6_snaps : ByteArray := prog_8_method_21_code
def yX6_snaps : MethodName := ⟨RX6, "snaps", "(I)I"⟩
abbrev cX6_hinted : ByteArray := prog_8_method_22_code
def yX6_hinted : MethodName := ⟨RX6, "hinted", "(II)I"⟩
abbrev cX6_standard : ByteArray := prog_8_method_23_code
def yX6_standard : MethodName := ⟨RX6, "standard", "(I)I"⟩
abbrev cX6_drop : ByteArray := prog_8_method_24_code
def yX6_drop : MethodName := ⟨RX6, "drop", "(I)I"⟩
abbrev cX6_inPixels : ByteArray := prog_8_method_25_code
def yX6_inPixels : MethodName := ⟨RX6, "inPixels", "(II)I"⟩
abbrev cX6_pixelsOf : ByteArray := prog_8_method_26_code
def yX6_pixelsOf : MethodName := ⟨RX6, "pixelsOf", "(III)I"⟩
abbrev cX6_columns : ByteArray := prog_8_method_27_code
def yX6_columns : MethodName := ⟨RX6, "columns", "(II)I"⟩
abbrev cX6_rounded : ByteArray := prog_8_method_28_code
def yX6_rounded : MethodName := ⟨RX6, "rounded", "(III)I"⟩
abbrev cX6_lays : ByteArray := prog_8_method_29_code
def yX6_lays : MethodName := ⟨RX6, "lays", "(II)V"⟩
abbrev cX6_cuts : ByteArray := prog_8_method_30_code
def yX6_cuts : MethodName := ⟨RX6, "cuts", "(II)I"⟩
abbrev cX6_isClear : ByteArray := prog_8_method_31_code
def yX6_isClear : MethodName := ⟨RX6, "isClear", "(II)Z"⟩
abbrev cX6_isLit : ByteArray := prog_8_method_32_code
def yX6_isLit : MethodName := ⟨RX6, "isLit", "(II)Z"⟩
abbrev cX6_litHalf : ByteArray := prog_8_method_33_code
def yX6_litHalf : MethodName := ⟨RX6, "litHalf", "(III)I"⟩
abbrev cX6_ofSheet : ByteArray := prog_8_method_34_code
def yX6_ofSheet : MethodName := ⟨RX6, "ofSheet", "(II)I"⟩
abbrev cX6_sheetAt : ByteArray := prog_8_method_35_code
def yX6_sheetAt : MethodName := ⟨RX6, "sheetAt", "(I)I"⟩
abbrev cX6_takesSheet : ByteArray := prog_8_method_36_code
def yX6_takesSheet : MethodName := ⟨RX6, "takesSheet", "(I)V"⟩
abbrev cX6_make : ByteArray := prog_8_method_37_code
def yX6_make : MethodName := ⟨RX6, "make", "(I)I"⟩
abbrev cX6_isStale : ByteArray := prog_8_method_38_code
def yX6_isStale : MethodName := ⟨RX6, "isStale", "(I)Z"⟩
abbrev cX6_ones : ByteArray := prog_8_method_39_code
def yX6_ones : MethodName := ⟨RX6, "ones", "(I)I"⟩
abbrev cX6_litIn : ByteArray := prog_8_method_40_code
def yX6_litIn : MethodName := ⟨RX6, "litIn", "(I)I"⟩
abbrev cX6_set : ByteArray := prog_8_method_41_code
def yX6_set : MethodName := ⟨RX6, "set", "(II)I"⟩
abbrev cX6_alike : ByteArray := prog_8_method_42_code
def yX6_alike : MethodName := ⟨RX6, "alike", "(I)I"⟩
abbrev cX6_stemOf : ByteArray := prog_8_method_43_code
def yX6_stemOf : MethodName := ⟨RX6, "stemOf", "(III)I"⟩
abbrev cX6_pixels : ByteArray := prog_8_method_44_code
def yX6_pixels : MethodName := ⟨RX6, "pixels", "(IIII)I"⟩
abbrev cX6_runsOf : ByteArray := prog_8_method_45_code
def yX6_runsOf : MethodName := ⟨RX6, "runsOf", "(II)I"⟩
abbrev cX6_glyphOf : ByteArray := prog_8_method_46_code
def yX6_glyphOf : MethodName := ⟨RX6, "glyphOf", "(III)I"⟩
abbrev cX6_lit : ByteArray := prog_8_method_47_code
def yX6_lit : MethodName := ⟨RX6, "lit", "(III)I"⟩
abbrev cX6_inSheet : ByteArray := prog_8_method_48_code
def yX6_inSheet : MethodName := ⟨RX6, "inSheet", "(III)I"⟩
abbrev cX6_sheetOf : ByteArray := prog_8_method_49_code
def yX6_sheetOf : MethodName := ⟨RX6, "sheetOf", "(II)I"⟩
abbrev cX6_isEven : ByteArray := prog_8_method_50_code
def yX6_isEven : MethodName := ⟨RX6, "isEven", "(III)Z"⟩
abbrev cX6_even : ByteArray := prog_8_method_51_code
def yX6_even : MethodName := ⟨RX6, "even", "(I)I"⟩
abbrev cX6_clear : ByteArray := prog_8_method_52_code
def yX6_clear : MethodName := ⟨RX6, "clear", "(I)I"⟩
abbrev cX6_clearSizes : ByteArray := prog_8_method_53_code
def yX6_clearSizes : MethodName := ⟨RX6, "clearSizes", "(I)I"⟩
abbrev cX6_best : ByteArray := prog_8_method_54_code
def yX6_best : MethodName := ⟨RX6, "best", "(III)I"⟩
abbrev cX6_stems : ByteArray := prog_8_method_55_code
def yX6_stems : MethodName := ⟨RX6, "stems", "()I"⟩
abbrev cX6_mean : ByteArray := prog_8_method_56_code
def yX6_mean : MethodName := ⟨RX6, "mean", "()I"⟩
abbrev cX6_stales : ByteArray := prog_8_method_57_code
def yX6_stales : MethodName := ⟨RX6, "stales", "()I"⟩
abbrev cX6_unlikeWidths : ByteArray := prog_8_method_58_code
def yX6_unlikeWidths : MethodName := ⟨RX6, "unlikeWidths", "()I"⟩
abbrev cX6_count : ByteArray := prog_8_method_59_code
def yX6_count : MethodName := ⟨RX6, "count", "(I)I"⟩
abbrev cX6_undo : ByteArray := prog_8_method_60_code
def yX6_undo : MethodName := ⟨RX6, "undo", "()I"⟩
abbrev cX6_type : ByteArray := prog_8_method_61_code
def yX6_type : MethodName := ⟨RX6, "type", "(I)I"⟩
abbrev cX6_clearText : ByteArray := prog_8_method_62_code
def yX6_clearText : MethodName := ⟨RX6, "clearText", "()I"⟩
abbrev cX6_isAt : ByteArray := prog_8_method_63_code
def yX6_isAt : MethodName := ⟨RX6, "isAt", "(II)Z"⟩
abbrev cX6_sign : ByteArray := prog_8_method_64_code
def yX6_sign : MethodName := ⟨RX6, "sign", "(I)Z"⟩
abbrev cX6_numbered : ByteArray := prog_8_method_65_code
def yX6_numbered : MethodName := ⟨RX6, "numbered", "(I)Z"⟩
abbrev cX6_numbersOf : ByteArray := prog_8_method_66_code
def yX6_numbersOf : MethodName := ⟨RX6, "numbersOf", "(I)I"⟩
abbrev cX6_reads : ByteArray := prog_8_method_67_code
def yX6_reads : MethodName := ⟨RX6, "reads", "()Z"⟩
abbrev cX6_calls : ByteArray := prog_8_method_68_code
def yX6_calls : MethodName := ⟨RX6, "calls", "()I"⟩
abbrev cX6_plays : ByteArray := prog_8_method_69_code
def yX6_plays : MethodName := ⟨RX6, "plays", "()Z"⟩
abbrev cX6_fault : ByteArray := prog_8_method_70_code
def yX6_fault : MethodName := ⟨RX6, "fault", "(I)I"⟩
abbrev cX6_play : ByteArray := prog_8_method_71_code
def yX6_play : MethodName := ⟨RX6, "play", "()I"⟩
def RJxf58ca : String := "java/lang/Float"
def TJxf58ca : u_T := fun k => match k with
  | _ => ("", "", "", false)
def tyJxf58ca : Nat → FieldType := fun k => match k with
  | _ => .int
theorem nmJxf58ca : ∀ a, a < 0 → ∀ b, b < 0 → a ≠ b → (TJxf58ca a).2.1 ≠ (TJxf58ca b).2.1 := by decide +kernel
theorem tyJxf58ca_ok : ∀ k, k < 0 → parseFieldDescriptor (TJxf58ca k).2.2.1 = some (tyJxf58ca k) := by decide +kernel
abbrev cJxf58ca_isNaN_12338 : ByteArray := prog_9_method_6_code
def yJxf58ca_isNaN_12338 : MethodName := ⟨RJxf58ca, "isNaN", "(F)Z"⟩
abbrev cJxf58ca_floatToIntBits_5c35a : ByteArray := prog_9_method_24_code
def yJxf58ca_floatToIntBits_5c35a : MethodName := ⟨RJxf58ca, "floatToIntBits", "(F)I"⟩
def RJ13 : String := "java/lang/Long"
def TJ13 : u_T := fun k => match k with
  | _ => ("", "", "", false)
def tyJ13 : Nat → FieldType := fun k => match k with
  | _ => .int
theorem nmJ13 : ∀ a, a < 0 → ∀ b, b < 0 → a ≠ b → (TJ13 a).2.1 ≠ (TJ13 b).2.1 := by decide +kernel
theorem tyJ13_ok : ∀ k, k < 0 → parseFieldDescriptor (TJ13 k).2.2.1 = some (tyJ13 k) := by decide +kernel
abbrev cJ13_bitCount_95d88 : ByteArray := prog_10_method_50_code
def yJ13_bitCount_95d88 : MethodName := ⟨RJ13, "bitCount", "(J)I"⟩
def RJ9 : String := "java/lang/Math"
def TJ9 : u_T := fun k => match k with
  | _ => ("", "", "", false)
def tyJ9 : Nat → FieldType := fun k => match k with
  | _ => .int
theorem nmJ9 : ∀ a, a < 0 → ∀ b, b < 0 → a ≠ b → (TJ9 a).2.1 ≠ (TJ9 b).2.1 := by decide +kernel
theorem tyJ9_ok : ∀ k, k < 0 → parseFieldDescriptor (TJ9 k).2.2.1 = some (tyJ9 k) := by decide +kernel
abbrev cJ9_floorDiv_7cf53 : ByteArray := prog_11_method_47_code
def yJ9_floorDiv_7cf53 : MethodName := ⟨RJ9, "floorDiv", "(II)I"⟩
abbrev cJ9_floorMod_7cf53 : ByteArray := prog_11_method_50_code
def yJ9_floorMod_7cf53 : MethodName := ⟨RJ9, "floorMod", "(II)I"⟩
abbrev cJ9_abs_0f7a4 : ByteArray := prog_11_method_59_code
def yJ9_abs_0f7a4 : MethodName := ⟨RJ9, "abs", "(I)I"⟩
abbrev cJ9_max_7cf53 : ByteArray := prog_11_method_65_code
def yJ9_max_7cf53 : MethodName := ⟨RJ9, "max", "(II)I"⟩
abbrev cJ9_min_7cf53 : ByteArray := prog_11_method_69_code
def yJ9_min_7cf53 : MethodName := ⟨RJ9, "min", "(II)I"⟩
def RL : String := "HintedStemsLaw"
abbrev cL_law : ByteArray := code
def yL_law : MethodName := ⟨RL, "law", "([I)Z"⟩
abbrev vwCl : List vw_C := [(RX0, TX0, 7), (RX1, TX1, 11), (RX2, TX2, 3), (RX3, TX3, 8), (RX4, TX4, 6), (RX5, TX5, 5), (RX6, TX6, 17)]
end
section
def hNest : Cond → Bool
  | .fieldLinkNest _ _ _ _ _ _ => true
  | .methodLinkNest _ _ _ _ => true
  | _ => false
def hWall : List Cond := lw_tbl.filter goodWord
def hNestL : List Cond := lw_tbl.filter hNest
theorem hWall_good : ∀ w ∈ hWall, w ∈ lw_tbl ∧ ((w.onTables && w.keeps) = true ∨ ∃ ty, w = .arrayClass ty) := fun w h => ⟨(List.mem_filter.mp h).1, good_of_word (List.mem_filter.mp h).2⟩
theorem hWall_of {w : Cond} (h : w ∈ lw_tbl) (g : goodWord w = true) : w ∈ hWall := List.mem_filter.mpr ⟨h, g⟩
theorem hNest_of {w : Cond} (h : w ∈ lw_tbl) (g : hNest w = true) : w ∈ hNestL := List.mem_filter.mpr ⟨h, g⟩
theorem tb1 {w : Cond} (h : w ∈ tables_1_1) : w ∈ lw_tbl := List.mem_append_right _ (List.mem_append_left _ h)
theorem tb2 {w : Cond} (h : w ∈ tables_1_2) : w ∈ lw_tbl := List.mem_append_right _ (List.mem_append_right _ (List.mem_append_left _ h))
theorem tb3 {w : Cond} (h : w ∈ tables_1_3) : w ∈ lw_tbl := List.mem_append_right _ (List.mem_append_right _ (List.mem_append_right _ (List.mem_append_left _ h)))
theorem tb4 {w : Cond} (h : w ∈ tables_1_4) : w ∈ lw_tbl := List.mem_append_right _ (List.mem_append_right _ (List.mem_append_right _ (List.mem_append_right _ (List.mem_append_left _ h))))
theorem tb5 {w : Cond} (h : w ∈ tables_1_5) : w ∈ lw_tbl := List.mem_append_right _ (List.mem_append_right _ (List.mem_append_right _ (List.mem_append_right _ (List.mem_append_right _ h))))
theorem q1_0 : (Jvm.Cond.initialized "HintedStemsLaw") ∈ hWall := hWall_of (tb1 (List.mem_of_getElem? (i := 0) (by decide +kernel))) (by decide +kernel)
theorem q1_1 : (Jvm.Cond.initialized "HintedStems") ∈ hWall := hWall_of (tb1 (List.mem_of_getElem? (i := 1) (by decide +kernel))) (by decide +kernel)
theorem q1_2 : (Jvm.Cond.initialized "HintedStems$Font") ∈ hWall := hWall_of (tb1 (List.mem_of_getElem? (i := 2) (by decide +kernel))) (by decide +kernel)
theorem q1_3 : (Jvm.Cond.initialized "HintedStems$Sheets") ∈ hWall := hWall_of (tb1 (List.mem_of_getElem? (i := 3) (by decide +kernel))) (by decide +kernel)
theorem q1_4 : (Jvm.Cond.initialized "HintedStems$Fit") ∈ hWall := hWall_of (tb1 (List.mem_of_getElem? (i := 4) (by decide +kernel))) (by decide +kernel)
theorem q1_5 : (Jvm.Cond.initialized "HintedStems$Orders") ∈ hWall := hWall_of (tb1 (List.mem_of_getElem? (i := 5) (by decide +kernel))) (by decide +kernel)
theorem q1_6 : (Jvm.Cond.initialized "HintedStems$History") ∈ hWall := hWall_of (tb1 (List.mem_of_getElem? (i := 6) (by decide +kernel))) (by decide +kernel)
theorem q1_7 : (Jvm.Cond.initialized "HintedStemsModel") ∈ hWall := hWall_of (tb1 (List.mem_of_getElem? (i := 7) (by decide +kernel))) (by decide +kernel)
theorem q1_8 : (Jvm.Cond.initialized "java/lang/Math") ∈ hWall := hWall_of (tb1 (List.mem_of_getElem? (i := 8) (by decide +kernel))) (by decide +kernel)
theorem q1_9 : (Jvm.Cond.initialized "java/lang/Long") ∈ hWall := hWall_of (tb1 (List.mem_of_getElem? (i := 9) (by decide +kernel))) (by decide +kernel)
theorem q1_10 : (Jvm.Cond.initialized "java/lang/Float") ∈ hWall := hWall_of (tb1 (List.mem_of_getElem? (i := 10) (by decide +kernel))) (by decide +kernel)
theorem q1_11 : (Jvm.Cond.classLink "HintedStemsLaw" (7 : Nat) "HintedStems") ∈ hWall := hWall_of (tb1 (List.mem_of_getElem? (i := 11) (by decide +kernel))) (by decide +kernel)
theorem q1_12 : (Jvm.Cond.instantiable "HintedStems" (5 : Nat)) ∈ hWall := hWall_of (tb1 (List.mem_of_getElem? (i := 12) (by decide +kernel))) (by decide +kernel)
theorem q1_13 : (Jvm.Cond.methodLink "HintedStemsLaw" (9 : Nat) ({ cls := "HintedStems", name := "<init>", desc := "()V" } : Jvm.MethodName)) ∈ hWall := hWall_of (tb1 (List.mem_of_getElem? (i := 13) (by decide +kernel))) (by decide +kernel)
theorem q1_14 : (Jvm.Cond.instanceMethod ({ cls := "HintedStems", name := "<init>", desc := "()V" } : Jvm.MethodName)) ∈ hWall := hWall_of (tb1 (List.mem_of_getElem? (i := 14) (by decide +kernel))) (by decide +kernel)
theorem q1_15 : (Jvm.Cond.code ({ cls := "HintedStems", name := "<init>", desc := "()V" } : Jvm.MethodName) prog_1_method_1_code (1 : Nat) (Option.none : Option Jvm.ClassFile.FieldType)) ∈ hWall := hWall_of (tb1 (List.mem_of_getElem? (i := 15) (by decide +kernel))) (by decide +kernel)
theorem q1_16 : (Jvm.Cond.methodLink "HintedStems" (1 : Nat) ({ cls := "java/lang/Object", name := "<init>", desc := "()V" } : Jvm.MethodName)) ∈ hWall := hWall_of (tb1 (List.mem_of_getElem? (i := 16) (by decide +kernel))) (by decide +kernel)
theorem q1_17 : (Jvm.Cond.instanceMethod ({ cls := "java/lang/Object", name := "<init>", desc := "()V" } : Jvm.MethodName)) ∈ hWall := hWall_of (tb1 (List.mem_of_getElem? (i := 17) (by decide +kernel))) (by decide +kernel)
theorem q1_18 : (Jvm.Cond.code ({ cls := "java/lang/Object", name := "<init>", desc := "()V" } : Jvm.MethodName) object_method_1_code (1 : Nat) (Option.none : Option Jvm.ClassFile.FieldType)) ∈ hWall := hWall_of (tb1 (List.mem_of_getElem? (i := 18) (by decide +kernel))) (by decide +kernel)
theorem q1_19 : (Jvm.Cond.classLink "HintedStems" (7 : Nat) "HintedStems$Font") ∈ hWall := hWall_of (tb1 (List.mem_of_getElem? (i := 19) (by decide +kernel))) (by decide +kernel)
theorem q1_20 : (Jvm.Cond.instantiable "HintedStems$Font" (11 : Nat)) ∈ hWall := hWall_of (tb1 (List.mem_of_getElem? (i := 20) (by decide +kernel))) (by decide +kernel)
theorem q1_21 : (Jvm.Cond.methodLinkNest "HintedStems" (9 : Nat) ({ cls := "HintedStems$Font", name := "<init>", desc := "()V" } : Jvm.MethodName) "HintedStems") ∈ hNestL := hNest_of (tb1 (List.mem_of_getElem? (i := 21) (by decide +kernel))) rfl
theorem q1_22 : (Jvm.Cond.instanceMethod ({ cls := "HintedStems$Font", name := "<init>", desc := "()V" } : Jvm.MethodName)) ∈ hWall := hWall_of (tb1 (List.mem_of_getElem? (i := 22) (by decide +kernel))) (by decide +kernel)
theorem q1_23 : (Jvm.Cond.code ({ cls := "HintedStems$Font", name := "<init>", desc := "()V" } : Jvm.MethodName) prog_3_method_1_code (1 : Nat) (Option.none : Option Jvm.ClassFile.FieldType)) ∈ hWall := hWall_of (tb1 (List.mem_of_getElem? (i := 23) (by decide +kernel))) (by decide +kernel)
theorem q1_24 : (Jvm.Cond.methodLink "HintedStems$Font" (3 : Nat) ({ cls := "java/lang/Object", name := "<init>", desc := "()V" } : Jvm.MethodName)) ∈ hWall := hWall_of (tb1 (List.mem_of_getElem? (i := 24) (by decide +kernel))) (by decide +kernel)
theorem q1_25 : (Jvm.Cond.classLink "HintedStems$Font" (37 : Nat) "HintedStems$Sheets") ∈ hWall := hWall_of (tb1 (List.mem_of_getElem? (i := 25) (by decide +kernel))) (by decide +kernel)
theorem q1_26 : (Jvm.Cond.instantiable "HintedStems$Sheets" (6 : Nat)) ∈ hWall := hWall_of (tb1 (List.mem_of_getElem? (i := 26) (by decide +kernel))) (by decide +kernel)
theorem q1_27 : (Jvm.Cond.methodLinkNest "HintedStems$Font" (39 : Nat) ({ cls := "HintedStems$Sheets", name := "<init>", desc := "()V" } : Jvm.MethodName) "HintedStems") ∈ hNestL := hNest_of (tb1 (List.mem_of_getElem? (i := 27) (by decide +kernel))) rfl
theorem q1_28 : (Jvm.Cond.instanceMethod ({ cls := "HintedStems$Sheets", name := "<init>", desc := "()V" } : Jvm.MethodName)) ∈ hWall := hWall_of (tb1 (List.mem_of_getElem? (i := 28) (by decide +kernel))) (by decide +kernel)
theorem q1_29 : (Jvm.Cond.code ({ cls := "HintedStems$Sheets", name := "<init>", desc := "()V" } : Jvm.MethodName) prog_6_method_1_code (1 : Nat) (Option.none : Option Jvm.ClassFile.FieldType)) ∈ hWall := hWall_of (tb1 (List.mem_of_getElem? (i := 29) (by decide +kernel))) (by decide +kernel)
theorem q1_30 : (Jvm.Cond.methodLink "HintedStems$Sheets" (3 : Nat) ({ cls := "java/lang/Object", name := "<init>", desc := "()V" } : Jvm.MethodName)) ∈ hWall := hWall_of (tb1 (List.mem_of_getElem? (i := 30) (by decide +kernel))) (by decide +kernel)
theorem q1_31 : (Jvm.Cond.fieldLink "HintedStems$Sheets" (28 : Nat) "HintedStems$Sheets" "made" "I") ∈ hWall := hWall_of (tb1 (List.mem_of_getElem? (i := 31) (by decide +kernel))) (by decide +kernel)
theorem q1_32 : (Jvm.Cond.fieldLinkNest "HintedStems" (230 : Nat) "HintedStems$Sheets" "made" "I" "HintedStems") ∈ hNestL := hNest_of (tb1 (List.mem_of_getElem? (i := 32) (by decide +kernel))) rfl
theorem q1_33 : (Jvm.Cond.fieldLink "HintedStems$Sheets" (9 : Nat) "HintedStems$Sheets" "turns" "[I") ∈ hWall := hWall_of (tb1 (List.mem_of_getElem? (i := 33) (by decide +kernel))) (by decide +kernel)
theorem q1_34 : (Jvm.Cond.fieldLink "HintedStems$Sheets" (15 : Nat) "HintedStems$Sheets" "sizes" "[I") ∈ hWall := hWall_of (tb1 (List.mem_of_getElem? (i := 34) (by decide +kernel))) (by decide +kernel)
theorem q1_35 : (Jvm.Cond.fieldLinkNest "HintedStems" (180 : Nat) "HintedStems$Sheets" "sizes" "[I" "HintedStems") ∈ hNestL := hNest_of (tb1 (List.mem_of_getElem? (i := 35) (by decide +kernel))) rfl
theorem q1_36 : (Jvm.Cond.fieldLinkNest "HintedStems$Font" (132 : Nat) "HintedStems$Sheets" "sizes" "[I" "HintedStems") ∈ hNestL := hNest_of (tb1 (List.mem_of_getElem? (i := 36) (by decide +kernel))) rfl
theorem q1_37 : (Jvm.Cond.fieldLink "HintedStems$Sheets" (18 : Nat) "HintedStems$Sheets" "glyphs" "[I") ∈ hWall := hWall_of (tb1 (List.mem_of_getElem? (i := 37) (by decide +kernel))) (by decide +kernel)
theorem q1_38 : (Jvm.Cond.fieldLinkNest "HintedStems" (168 : Nat) "HintedStems$Sheets" "glyphs" "[I" "HintedStems") ∈ hNestL := hNest_of (tb1 (List.mem_of_getElem? (i := 38) (by decide +kernel))) rfl
theorem q1_39 : (Jvm.Cond.fieldLinkNest "HintedStems$Font" (130 : Nat) "HintedStems$Sheets" "glyphs" "[I" "HintedStems") ∈ hNestL := hNest_of (tb1 (List.mem_of_getElem? (i := 39) (by decide +kernel))) rfl
theorem q1_40 : (Jvm.Cond.fieldLink "HintedStems$Sheets" (21 : Nat) "HintedStems$Sheets" "columns" "[I") ∈ hWall := hWall_of (tb1 (List.mem_of_getElem? (i := 40) (by decide +kernel))) (by decide +kernel)
theorem q1_41 : (Jvm.Cond.fieldLinkNest "HintedStems" (171 : Nat) "HintedStems$Sheets" "columns" "[I" "HintedStems") ∈ hNestL := hNest_of (tb1 (List.mem_of_getElem? (i := 41) (by decide +kernel))) rfl
theorem q1_42 : (Jvm.Cond.fieldLinkNest "HintedStems$Font" (135 : Nat) "HintedStems$Sheets" "columns" "[I" "HintedStems") ∈ hNestL := hNest_of (tb1 (List.mem_of_getElem? (i := 42) (by decide +kernel))) rfl
theorem q1_43 : (Jvm.Cond.fieldLink "HintedStems$Sheets" (24 : Nat) "HintedStems$Sheets" "lit" "[J") ∈ hWall := hWall_of (tb1 (List.mem_of_getElem? (i := 43) (by decide +kernel))) (by decide +kernel)
theorem q1_44 : (Jvm.Cond.lays "HintedStems$Sheets" "HintedStems$Sheets" "made" "I") ∈ hWall := hWall_of (tb1 (List.mem_of_getElem? (i := 44) (by decide +kernel))) (by decide +kernel)
theorem q1_45 : (Jvm.Cond.soleField "HintedStems$Sheets" "made") ∈ hWall := hWall_of (tb1 (List.mem_of_getElem? (i := 45) (by decide +kernel))) (by decide +kernel)
theorem q1_46 : (Jvm.Cond.laysFinal "HintedStems$Sheets" "HintedStems$Sheets" "turns" "[I") ∈ hWall := hWall_of (tb1 (List.mem_of_getElem? (i := 46) (by decide +kernel))) (by decide +kernel)
theorem q1_47 : (Jvm.Cond.soleField "HintedStems$Sheets" "turns") ∈ hWall := hWall_of (tb1 (List.mem_of_getElem? (i := 47) (by decide +kernel))) (by decide +kernel)
theorem q1_48 : (Jvm.Cond.laysFinal "HintedStems$Sheets" "HintedStems$Sheets" "sizes" "[I") ∈ hWall := hWall_of (tb1 (List.mem_of_getElem? (i := 48) (by decide +kernel))) (by decide +kernel)
theorem q1_49 : (Jvm.Cond.soleField "HintedStems$Sheets" "sizes") ∈ hWall := hWall_of (tb1 (List.mem_of_getElem? (i := 49) (by decide +kernel))) (by decide +kernel)
theorem q1_50 : (Jvm.Cond.laysFinal "HintedStems$Sheets" "HintedStems$Sheets" "glyphs" "[I") ∈ hWall := hWall_of (tb1 (List.mem_of_getElem? (i := 50) (by decide +kernel))) (by decide +kernel)
theorem q1_51 : (Jvm.Cond.soleField "HintedStems$Sheets" "glyphs") ∈ hWall := hWall_of (tb1 (List.mem_of_getElem? (i := 51) (by decide +kernel))) (by decide +kernel)
theorem q1_52 : (Jvm.Cond.laysFinal "HintedStems$Sheets" "HintedStems$Sheets" "columns" "[I") ∈ hWall := hWall_of (tb1 (List.mem_of_getElem? (i := 52) (by decide +kernel))) (by decide +kernel)
theorem q1_53 : (Jvm.Cond.soleField "HintedStems$Sheets" "columns") ∈ hWall := hWall_of (tb1 (List.mem_of_getElem? (i := 53) (by decide +kernel))) (by decide +kernel)
theorem q1_54 : (Jvm.Cond.laysFinal "HintedStems$Sheets" "HintedStems$Sheets" "lit" "[J") ∈ hWall := hWall_of (tb1 (List.mem_of_getElem? (i := 54) (by decide +kernel))) (by decide +kernel)
theorem q1_55 : (Jvm.Cond.soleField "HintedStems$Sheets" "lit") ∈ hWall := hWall_of (tb1 (List.mem_of_getElem? (i := 55) (by decide +kernel))) (by decide +kernel)
theorem q1_56 : (Jvm.Cond.superclass "HintedStems$Sheets" "java/lang/Object") ∈ hWall := hWall_of (tb1 (List.mem_of_getElem? (i := 56) (by decide +kernel))) (by decide +kernel)
theorem q1_57 : (Jvm.Cond.arrayClass Jvm.ClassFile.FieldType.int) ∈ hWall := hWall_of (tb1 (List.mem_of_getElem? (i := 57) (by decide +kernel))) (by decide +kernel)
theorem q1_58 : (Jvm.Cond.arrayClass Jvm.ClassFile.FieldType.long) ∈ hWall := hWall_of (tb1 (List.mem_of_getElem? (i := 58) (by decide +kernel))) (by decide +kernel)
theorem q1_59 : (Jvm.Cond.fieldLink "HintedStems$Font" (44 : Nat) "HintedStems$Font" "glyphs" "I") ∈ hWall := hWall_of (tb1 (List.mem_of_getElem? (i := 59) (by decide +kernel))) (by decide +kernel)
theorem q1_60 : (Jvm.Cond.fieldLinkNest "HintedStems" (216 : Nat) "HintedStems$Font" "glyphs" "I" "HintedStems") ∈ hNestL := hNest_of (tb1 (List.mem_of_getElem? (i := 60) (by decide +kernel))) rfl
theorem q1_61 : (Jvm.Cond.fieldLink "HintedStems$Font" (47 : Nat) "HintedStems$Font" "standards" "I") ∈ hWall := hWall_of (tb1 (List.mem_of_getElem? (i := 61) (by decide +kernel))) (by decide +kernel)
theorem q1_62 : (Jvm.Cond.fieldLinkNest "HintedStems" (218 : Nat) "HintedStems$Font" "standards" "I" "HintedStems") ∈ hNestL := hNest_of (tb1 (List.mem_of_getElem? (i := 62) (by decide +kernel))) rfl
theorem q1_63 : (Jvm.Cond.fieldLink "HintedStems$Font" (9 : Nat) "HintedStems$Font" "cutoff" "I") ∈ hWall := hWall_of (tb1 (List.mem_of_getElem? (i := 63) (by decide +kernel))) (by decide +kernel)
theorem q1_64 : (Jvm.Cond.fieldLinkNest "HintedStems$Fit" (100 : Nat) "HintedStems$Font" "cutoff" "I" "HintedStems") ∈ hNestL := hNest_of (tb1 (List.mem_of_getElem? (i := 64) (by decide +kernel))) rfl
theorem q1_65 : (Jvm.Cond.fieldLinkNest "HintedStems" (242 : Nat) "HintedStems$Font" "cutoff" "I" "HintedStems") ∈ hNestL := hNest_of (tb1 (List.mem_of_getElem? (i := 65) (by decide +kernel))) rfl
theorem q1_66 : (Jvm.Cond.fieldLink "HintedStems$Font" (15 : Nat) "HintedStems$Font" "leastGap" "I") ∈ hWall := hWall_of (tb1 (List.mem_of_getElem? (i := 66) (by decide +kernel))) (by decide +kernel)
theorem q1_67 : (Jvm.Cond.fieldLinkNest "HintedStems$Fit" (66 : Nat) "HintedStems$Font" "leastGap" "I" "HintedStems") ∈ hNestL := hNest_of (tb1 (List.mem_of_getElem? (i := 67) (by decide +kernel))) rfl
theorem q1_68 : (Jvm.Cond.fieldLinkNest "HintedStems" (245 : Nat) "HintedStems$Font" "leastGap" "I" "HintedStems") ∈ hNestL := hNest_of (tb1 (List.mem_of_getElem? (i := 68) (by decide +kernel))) rfl
theorem q1_69 : (Jvm.Cond.fieldLink "HintedStems$Font" (18 : Nat) "HintedStems$Font" "advances" "[I") ∈ hWall := hWall_of (tb1 (List.mem_of_getElem? (i := 69) (by decide +kernel))) (by decide +kernel)
theorem q1_70 : (Jvm.Cond.fieldLinkNest "HintedStems$Fit" (30 : Nat) "HintedStems$Font" "advances" "[I" "HintedStems") ∈ hNestL := hNest_of (tb1 (List.mem_of_getElem? (i := 70) (by decide +kernel))) rfl
theorem q1_71 : (Jvm.Cond.fieldLink "HintedStems$Font" (22 : Nat) "HintedStems$Font" "stems" "[I") ∈ hWall := hWall_of (tb1 (List.mem_of_getElem? (i := 71) (by decide +kernel))) (by decide +kernel)
theorem q1_72 : (Jvm.Cond.fieldLinkNest "HintedStems$Fit" (21 : Nat) "HintedStems$Font" "stems" "[I" "HintedStems") ∈ hNestL := hNest_of (tb1 (List.mem_of_getElem? (i := 72) (by decide +kernel))) rfl
theorem q1_73 : (Jvm.Cond.fieldLink "HintedStems$Font" (25 : Nat) "HintedStems$Font" "places" "[I") ∈ hWall := hWall_of (tb1 (List.mem_of_getElem? (i := 73) (by decide +kernel))) (by decide +kernel)
theorem q1_74 : (Jvm.Cond.fieldLinkNest "HintedStems$Fit" (51 : Nat) "HintedStems$Font" "places" "[I" "HintedStems") ∈ hNestL := hNest_of (tb1 (List.mem_of_getElem? (i := 74) (by decide +kernel))) rfl
theorem q1_75 : (Jvm.Cond.fieldLinkNest "HintedStems" (92 : Nat) "HintedStems$Font" "places" "[I" "HintedStems") ∈ hNestL := hNest_of (tb1 (List.mem_of_getElem? (i := 75) (by decide +kernel))) rfl
theorem q1_76 : (Jvm.Cond.fieldLink "HintedStems$Font" (28 : Nat) "HintedStems$Font" "widths" "[I") ∈ hWall := hWall_of (tb1 (List.mem_of_getElem? (i := 76) (by decide +kernel))) (by decide +kernel)
theorem q1_77 : (Jvm.Cond.fieldLinkNest "HintedStems$Fit" (54 : Nat) "HintedStems$Font" "widths" "[I" "HintedStems") ∈ hNestL := hNest_of (tb1 (List.mem_of_getElem? (i := 77) (by decide +kernel))) rfl
theorem q1_78 : (Jvm.Cond.fieldLinkNest "HintedStems" (84 : Nat) "HintedStems$Font" "widths" "[I" "HintedStems") ∈ hNestL := hNest_of (tb1 (List.mem_of_getElem? (i := 78) (by decide +kernel))) rfl
theorem q1_79 : (Jvm.Cond.fieldLink "HintedStems$Font" (31 : Nat) "HintedStems$Font" "hints" "[I") ∈ hWall := hWall_of (tb1 (List.mem_of_getElem? (i := 79) (by decide +kernel))) (by decide +kernel)
theorem q1_80 : (Jvm.Cond.fieldLinkNest "HintedStems$Fit" (60 : Nat) "HintedStems$Font" "hints" "[I" "HintedStems") ∈ hNestL := hNest_of (tb1 (List.mem_of_getElem? (i := 80) (by decide +kernel))) rfl
theorem q1_81 : (Jvm.Cond.fieldLinkNest "HintedStems" (95 : Nat) "HintedStems$Font" "hints" "[I" "HintedStems") ∈ hNestL := hNest_of (tb1 (List.mem_of_getElem? (i := 81) (by decide +kernel))) rfl
theorem q1_82 : (Jvm.Cond.fieldLink "HintedStems$Font" (34 : Nat) "HintedStems$Font" "standard" "[I") ∈ hWall := hWall_of (tb1 (List.mem_of_getElem? (i := 82) (by decide +kernel))) (by decide +kernel)
theorem q1_83 : (Jvm.Cond.fieldLinkNest "HintedStems" (239 : Nat) "HintedStems$Font" "standard" "[I" "HintedStems") ∈ hNestL := hNest_of (tb1 (List.mem_of_getElem? (i := 83) (by decide +kernel))) rfl
theorem q1_84 : (Jvm.Cond.fieldLink "HintedStems$Font" (40 : Nat) "HintedStems$Font" "sheets" "LHintedStems$Sheets;") ∈ hWall := hWall_of (tb1 (List.mem_of_getElem? (i := 84) (by decide +kernel))) (by decide +kernel)
theorem q1_85 : (Jvm.Cond.fieldLinkNest "HintedStems" (159 : Nat) "HintedStems$Font" "sheets" "LHintedStems$Sheets;" "HintedStems") ∈ hNestL := hNest_of (tb1 (List.mem_of_getElem? (i := 85) (by decide +kernel))) rfl
theorem q1_86 : (Jvm.Cond.lays "HintedStems$Font" "HintedStems$Font" "glyphs" "I") ∈ hWall := hWall_of (tb1 (List.mem_of_getElem? (i := 86) (by decide +kernel))) (by decide +kernel)
theorem q1_87 : (Jvm.Cond.soleField "HintedStems$Font" "glyphs") ∈ hWall := hWall_of (tb1 (List.mem_of_getElem? (i := 87) (by decide +kernel))) (by decide +kernel)
theorem q1_88 : (Jvm.Cond.lays "HintedStems$Font" "HintedStems$Font" "standards" "I") ∈ hWall := hWall_of (tb1 (List.mem_of_getElem? (i := 88) (by decide +kernel))) (by decide +kernel)
theorem q1_89 : (Jvm.Cond.soleField "HintedStems$Font" "standards") ∈ hWall := hWall_of (tb1 (List.mem_of_getElem? (i := 89) (by decide +kernel))) (by decide +kernel)
theorem q1_90 : (Jvm.Cond.lays "HintedStems$Font" "HintedStems$Font" "cutoff" "I") ∈ hWall := hWall_of (tb1 (List.mem_of_getElem? (i := 90) (by decide +kernel))) (by decide +kernel)
theorem q1_91 : (Jvm.Cond.soleField "HintedStems$Font" "cutoff") ∈ hWall := hWall_of (tb1 (List.mem_of_getElem? (i := 91) (by decide +kernel))) (by decide +kernel)
theorem q1_92 : (Jvm.Cond.lays "HintedStems$Font" "HintedStems$Font" "leastGap" "I") ∈ hWall := hWall_of (tb1 (List.mem_of_getElem? (i := 92) (by decide +kernel))) (by decide +kernel)
theorem q1_93 : (Jvm.Cond.soleField "HintedStems$Font" "leastGap") ∈ hWall := hWall_of (tb1 (List.mem_of_getElem? (i := 93) (by decide +kernel))) (by decide +kernel)
theorem q1_94 : (Jvm.Cond.laysFinal "HintedStems$Font" "HintedStems$Font" "advances" "[I") ∈ hWall := hWall_of (tb1 (List.mem_of_getElem? (i := 94) (by decide +kernel))) (by decide +kernel)
theorem q1_95 : (Jvm.Cond.soleField "HintedStems$Font" "advances") ∈ hWall := hWall_of (tb1 (List.mem_of_getElem? (i := 95) (by decide +kernel))) (by decide +kernel)
theorem q1_96 : (Jvm.Cond.laysFinal "HintedStems$Font" "HintedStems$Font" "stems" "[I") ∈ hWall := hWall_of (tb1 (List.mem_of_getElem? (i := 96) (by decide +kernel))) (by decide +kernel)
theorem q1_97 : (Jvm.Cond.soleField "HintedStems$Font" "stems") ∈ hWall := hWall_of (tb1 (List.mem_of_getElem? (i := 97) (by decide +kernel))) (by decide +kernel)
theorem q1_98 : (Jvm.Cond.laysFinal "HintedStems$Font" "HintedStems$Font" "places" "[I") ∈ hWall := hWall_of (tb1 (List.mem_of_getElem? (i := 98) (by decide +kernel))) (by decide +kernel)
theorem q1_99 : (Jvm.Cond.soleField "HintedStems$Font" "places") ∈ hWall := hWall_of (tb1 (List.mem_of_getElem? (i := 99) (by decide +kernel))) (by decide +kernel)
theorem q1_100 : (Jvm.Cond.laysFinal "HintedStems$Font" "HintedStems$Font" "widths" "[I") ∈ hWall := hWall_of (tb1 (List.mem_of_getElem? (i := 100) (by decide +kernel))) (by decide +kernel)
theorem q1_101 : (Jvm.Cond.soleField "HintedStems$Font" "widths") ∈ hWall := hWall_of (tb1 (List.mem_of_getElem? (i := 101) (by decide +kernel))) (by decide +kernel)
theorem q1_102 : (Jvm.Cond.laysFinal "HintedStems$Font" "HintedStems$Font" "hints" "[I") ∈ hWall := hWall_of (tb1 (List.mem_of_getElem? (i := 102) (by decide +kernel))) (by decide +kernel)
theorem q1_103 : (Jvm.Cond.soleField "HintedStems$Font" "hints") ∈ hWall := hWall_of (tb1 (List.mem_of_getElem? (i := 103) (by decide +kernel))) (by decide +kernel)
theorem q1_104 : (Jvm.Cond.laysFinal "HintedStems$Font" "HintedStems$Font" "standard" "[I") ∈ hWall := hWall_of (tb1 (List.mem_of_getElem? (i := 104) (by decide +kernel))) (by decide +kernel)
theorem q1_105 : (Jvm.Cond.soleField "HintedStems$Font" "standard") ∈ hWall := hWall_of (tb1 (List.mem_of_getElem? (i := 105) (by decide +kernel))) (by decide +kernel)
theorem q1_106 : (Jvm.Cond.laysFinal "HintedStems$Font" "HintedStems$Font" "sheets" "LHintedStems$Sheets;") ∈ hWall := hWall_of (tb1 (List.mem_of_getElem? (i := 106) (by decide +kernel))) (by decide +kernel)
theorem q1_107 : (Jvm.Cond.soleField "HintedStems$Font" "sheets") ∈ hWall := hWall_of (tb1 (List.mem_of_getElem? (i := 107) (by decide +kernel))) (by decide +kernel)
theorem q1_108 : (Jvm.Cond.superclass "HintedStems$Font" "java/lang/Object") ∈ hWall := hWall_of (tb1 (List.mem_of_getElem? (i := 108) (by decide +kernel))) (by decide +kernel)
theorem q1_109 : (Jvm.Cond.classLink "HintedStems" (19 : Nat) "HintedStems$Fit") ∈ hWall := hWall_of (tb1 (List.mem_of_getElem? (i := 109) (by decide +kernel))) (by decide +kernel)
theorem q1_110 : (Jvm.Cond.instantiable "HintedStems$Fit" (7 : Nat)) ∈ hWall := hWall_of (tb1 (List.mem_of_getElem? (i := 110) (by decide +kernel))) (by decide +kernel)
theorem q1_111 : (Jvm.Cond.methodLinkNest "HintedStems" (21 : Nat) ({ cls := "HintedStems$Fit", name := "<init>", desc := "()V" } : Jvm.MethodName) "HintedStems") ∈ hNestL := hNest_of (tb1 (List.mem_of_getElem? (i := 111) (by decide +kernel))) rfl
theorem q1_112 : (Jvm.Cond.instanceMethod ({ cls := "HintedStems$Fit", name := "<init>", desc := "()V" } : Jvm.MethodName)) ∈ hWall := hWall_of (tb1 (List.mem_of_getElem? (i := 112) (by decide +kernel))) (by decide +kernel)
theorem q1_113 : (Jvm.Cond.code ({ cls := "HintedStems$Fit", name := "<init>", desc := "()V" } : Jvm.MethodName) prog_2_method_1_code (1 : Nat) (Option.none : Option Jvm.ClassFile.FieldType)) ∈ hWall := hWall_of (tb1 (List.mem_of_getElem? (i := 113) (by decide +kernel))) (by decide +kernel)
theorem q1_114 : (Jvm.Cond.methodLink "HintedStems$Fit" (3 : Nat) ({ cls := "java/lang/Object", name := "<init>", desc := "()V" } : Jvm.MethodName)) ∈ hWall := hWall_of (tb1 (List.mem_of_getElem? (i := 114) (by decide +kernel))) (by decide +kernel)
theorem q1_115 : (Jvm.Cond.fieldLink "HintedStems$Fit" (37 : Nat) "HintedStems$Fit" "columns" "I") ∈ hWall := hWall_of (tb1 (List.mem_of_getElem? (i := 115) (by decide +kernel))) (by decide +kernel)
theorem q1_116 : (Jvm.Cond.fieldLinkNest "HintedStems" (135 : Nat) "HintedStems$Fit" "columns" "I" "HintedStems") ∈ hNestL := hNest_of (tb1 (List.mem_of_getElem? (i := 116) (by decide +kernel))) rfl
theorem q1_117 : (Jvm.Cond.fieldLinkNest "HintedStems$Font" (115 : Nat) "HintedStems$Fit" "columns" "I" "HintedStems") ∈ hNestL := hNest_of (tb1 (List.mem_of_getElem? (i := 117) (by decide +kernel))) rfl
theorem q1_118 : (Jvm.Cond.fieldLink "HintedStems$Fit" (41 : Nat) "HintedStems$Fit" "pushed" "I") ∈ hWall := hWall_of (tb1 (List.mem_of_getElem? (i := 118) (by decide +kernel))) (by decide +kernel)
theorem q1_119 : (Jvm.Cond.fieldLinkNest "HintedStems" (125 : Nat) "HintedStems$Fit" "pushed" "I" "HintedStems") ∈ hNestL := hNest_of (tb1 (List.mem_of_getElem? (i := 119) (by decide +kernel))) rfl
theorem q1_120 : (Jvm.Cond.fieldLink "HintedStems$Fit" (44 : Nat) "HintedStems$Fit" "clipped" "I") ∈ hWall := hWall_of (tb1 (List.mem_of_getElem? (i := 120) (by decide +kernel))) (by decide +kernel)
theorem q1_121 : (Jvm.Cond.fieldLinkNest "HintedStems" (129 : Nat) "HintedStems$Fit" "clipped" "I" "HintedStems") ∈ hNestL := hNest_of (tb1 (List.mem_of_getElem? (i := 121) (by decide +kernel))) rfl
theorem q1_122 : (Jvm.Cond.fieldLink "HintedStems$Fit" (47 : Nat) "HintedStems$Fit" "lit" "J") ∈ hWall := hWall_of (tb1 (List.mem_of_getElem? (i := 122) (by decide +kernel))) (by decide +kernel)
theorem q1_123 : (Jvm.Cond.fieldLinkNest "HintedStems" (138 : Nat) "HintedStems$Fit" "lit" "J" "HintedStems") ∈ hNestL := hNest_of (tb1 (List.mem_of_getElem? (i := 123) (by decide +kernel))) rfl
theorem q1_124 : (Jvm.Cond.fieldLinkNest "HintedStems$Font" (118 : Nat) "HintedStems$Fit" "lit" "J" "HintedStems") ∈ hNestL := hNest_of (tb1 (List.mem_of_getElem? (i := 124) (by decide +kernel))) rfl
theorem q1_125 : (Jvm.Cond.fieldLink "HintedStems$Fit" (9 : Nat) "HintedStems$Fit" "lefts" "[I") ∈ hWall := hWall_of (tb1 (List.mem_of_getElem? (i := 125) (by decide +kernel))) (by decide +kernel)
theorem q1_126 : (Jvm.Cond.fieldLinkNest "HintedStems" (119 : Nat) "HintedStems$Fit" "lefts" "[I" "HintedStems") ∈ hNestL := hNest_of (tb1 (List.mem_of_getElem? (i := 126) (by decide +kernel))) rfl
theorem q1_127 : (Jvm.Cond.fieldLink "HintedStems$Fit" (15 : Nat) "HintedStems$Fit" "wides" "[I") ∈ hWall := hWall_of (tb1 (List.mem_of_getElem? (i := 127) (by decide +kernel))) (by decide +kernel)
theorem q1_128 : (Jvm.Cond.fieldLinkNest "HintedStems" (122 : Nat) "HintedStems$Fit" "wides" "[I" "HintedStems") ∈ hNestL := hNest_of (tb1 (List.mem_of_getElem? (i := 128) (by decide +kernel))) rfl
theorem q1_129 : (Jvm.Cond.fieldLink "HintedStems$Fit" (18 : Nat) "HintedStems$Fit" "allWides" "[I") ∈ hWall := hWall_of (tb1 (List.mem_of_getElem? (i := 129) (by decide +kernel))) (by decide +kernel)
theorem q1_130 : (Jvm.Cond.lays "HintedStems$Fit" "HintedStems$Fit" "columns" "I") ∈ hWall := hWall_of (tb1 (List.mem_of_getElem? (i := 130) (by decide +kernel))) (by decide +kernel)
theorem q1_131 : (Jvm.Cond.soleField "HintedStems$Fit" "columns") ∈ hWall := hWall_of (tb1 (List.mem_of_getElem? (i := 131) (by decide +kernel))) (by decide +kernel)
theorem q1_132 : (Jvm.Cond.lays "HintedStems$Fit" "HintedStems$Fit" "pushed" "I") ∈ hWall := hWall_of (tb1 (List.mem_of_getElem? (i := 132) (by decide +kernel))) (by decide +kernel)
theorem q1_133 : (Jvm.Cond.soleField "HintedStems$Fit" "pushed") ∈ hWall := hWall_of (tb1 (List.mem_of_getElem? (i := 133) (by decide +kernel))) (by decide +kernel)
theorem q1_134 : (Jvm.Cond.lays "HintedStems$Fit" "HintedStems$Fit" "clipped" "I") ∈ hWall := hWall_of (tb1 (List.mem_of_getElem? (i := 134) (by decide +kernel))) (by decide +kernel)
theorem q1_135 : (Jvm.Cond.soleField "HintedStems$Fit" "clipped") ∈ hWall := hWall_of (tb1 (List.mem_of_getElem? (i := 135) (by decide +kernel))) (by decide +kernel)
theorem q1_136 : (Jvm.Cond.lays "HintedStems$Fit" "HintedStems$Fit" "lit" "J") ∈ hWall := hWall_of (tb1 (List.mem_of_getElem? (i := 136) (by decide +kernel))) (by decide +kernel)
theorem q1_137 : (Jvm.Cond.soleField "HintedStems$Fit" "lit") ∈ hWall := hWall_of (tb1 (List.mem_of_getElem? (i := 137) (by decide +kernel))) (by decide +kernel)
theorem q1_138 : (Jvm.Cond.laysFinal "HintedStems$Fit" "HintedStems$Fit" "lefts" "[I") ∈ hWall := hWall_of (tb1 (List.mem_of_getElem? (i := 138) (by decide +kernel))) (by decide +kernel)
theorem q1_139 : (Jvm.Cond.soleField "HintedStems$Fit" "lefts") ∈ hWall := hWall_of (tb1 (List.mem_of_getElem? (i := 139) (by decide +kernel))) (by decide +kernel)
theorem q1_140 : (Jvm.Cond.laysFinal "HintedStems$Fit" "HintedStems$Fit" "wides" "[I") ∈ hWall := hWall_of (tb1 (List.mem_of_getElem? (i := 140) (by decide +kernel))) (by decide +kernel)
theorem q1_141 : (Jvm.Cond.soleField "HintedStems$Fit" "wides") ∈ hWall := hWall_of (tb1 (List.mem_of_getElem? (i := 141) (by decide +kernel))) (by decide +kernel)
theorem q1_142 : (Jvm.Cond.laysFinal "HintedStems$Fit" "HintedStems$Fit" "allWides" "[I") ∈ hWall := hWall_of (tb1 (List.mem_of_getElem? (i := 142) (by decide +kernel))) (by decide +kernel)
theorem q1_143 : (Jvm.Cond.soleField "HintedStems$Fit" "allWides") ∈ hWall := hWall_of (tb1 (List.mem_of_getElem? (i := 143) (by decide +kernel))) (by decide +kernel)
theorem q1_144 : (Jvm.Cond.superclass "HintedStems$Fit" "java/lang/Object") ∈ hWall := hWall_of (tb1 (List.mem_of_getElem? (i := 144) (by decide +kernel))) (by decide +kernel)
theorem q1_145 : (Jvm.Cond.classLink "HintedStems" (26 : Nat) "HintedStems$Orders") ∈ hWall := hWall_of (tb1 (List.mem_of_getElem? (i := 145) (by decide +kernel))) (by decide +kernel)
theorem q1_146 : (Jvm.Cond.instantiable "HintedStems$Orders" (8 : Nat)) ∈ hWall := hWall_of (tb1 (List.mem_of_getElem? (i := 146) (by decide +kernel))) (by decide +kernel)
theorem q1_147 : (Jvm.Cond.methodLinkNest "HintedStems" (28 : Nat) ({ cls := "HintedStems$Orders", name := "<init>", desc := "()V" } : Jvm.MethodName) "HintedStems") ∈ hNestL := hNest_of (tb1 (List.mem_of_getElem? (i := 147) (by decide +kernel))) rfl
theorem q1_148 : (Jvm.Cond.instanceMethod ({ cls := "HintedStems$Orders", name := "<init>", desc := "()V" } : Jvm.MethodName)) ∈ hWall := hWall_of (tb1 (List.mem_of_getElem? (i := 148) (by decide +kernel))) (by decide +kernel)
theorem q1_149 : (Jvm.Cond.code ({ cls := "HintedStems$Orders", name := "<init>", desc := "()V" } : Jvm.MethodName) prog_5_method_1_code (1 : Nat) (Option.none : Option Jvm.ClassFile.FieldType)) ∈ hWall := hWall_of (tb1 (List.mem_of_getElem? (i := 149) (by decide +kernel))) (by decide +kernel)
theorem q1_150 : (Jvm.Cond.methodLink "HintedStems$Orders" (3 : Nat) ({ cls := "java/lang/Object", name := "<init>", desc := "()V" } : Jvm.MethodName)) ∈ hWall := hWall_of (tb1 (List.mem_of_getElem? (i := 150) (by decide +kernel))) (by decide +kernel)
theorem q1_151 : (Jvm.Cond.fieldLink "HintedStems$Orders" (9 : Nat) "HintedStems$Orders" "signs" "[I") ∈ hWall := hWall_of (tb1 (List.mem_of_getElem? (i := 151) (by decide +kernel))) (by decide +kernel)
theorem q1_152 : (Jvm.Cond.fieldLink "HintedStems$Orders" (18 : Nat) "HintedStems$Orders" "length" "I") ∈ hWall := hWall_of (tb1 (List.mem_of_getElem? (i := 152) (by decide +kernel))) (by decide +kernel)
theorem q1_153 : (Jvm.Cond.fieldLinkNest "HintedStems" (236 : Nat) "HintedStems$Orders" "length" "I" "HintedStems") ∈ hNestL := hNest_of (tb1 (List.mem_of_getElem? (i := 153) (by decide +kernel))) rfl
theorem q1_154 : (Jvm.Cond.fieldLink "HintedStems$Orders" (15 : Nat) "HintedStems$Orders" "numbers" "[I") ∈ hWall := hWall_of (tb1 (List.mem_of_getElem? (i := 154) (by decide +kernel))) (by decide +kernel)
theorem q1_155 : (Jvm.Cond.fieldLink "HintedStems$Orders" (36 : Nat) "HintedStems$Orders" "reached" "I") ∈ hWall := hWall_of (tb1 (List.mem_of_getElem? (i := 155) (by decide +kernel))) (by decide +kernel)
theorem q1_156 : (Jvm.Cond.fieldLink "HintedStems$Orders" (26 : Nat) "HintedStems$Orders" "done" "I") ∈ hWall := hWall_of (tb1 (List.mem_of_getElem? (i := 156) (by decide +kernel))) (by decide +kernel)
theorem q1_157 : (Jvm.Cond.fieldLinkNest "HintedStems" (270 : Nat) "HintedStems$Orders" "done" "I" "HintedStems") ∈ hNestL := hNest_of (tb1 (List.mem_of_getElem? (i := 157) (by decide +kernel))) rfl
theorem q1_158 : (Jvm.Cond.fieldLink "HintedStems$Orders" (51 : Nat) "HintedStems$Orders" "position" "I") ∈ hWall := hWall_of (tb1 (List.mem_of_getElem? (i := 158) (by decide +kernel))) (by decide +kernel)
theorem q1_159 : (Jvm.Cond.fieldLinkNest "HintedStems" (264 : Nat) "HintedStems$Orders" "position" "I" "HintedStems") ∈ hNestL := hNest_of (tb1 (List.mem_of_getElem? (i := 159) (by decide +kernel))) rfl
theorem q1_160 : (Jvm.Cond.fieldLink "HintedStems$Orders" (29 : Nat) "HintedStems$Orders" "reason" "I") ∈ hWall := hWall_of (tb1 (List.mem_of_getElem? (i := 160) (by decide +kernel))) (by decide +kernel)
theorem q1_161 : (Jvm.Cond.fieldLinkNest "HintedStems" (261 : Nat) "HintedStems$Orders" "reason" "I" "HintedStems") ∈ hNestL := hNest_of (tb1 (List.mem_of_getElem? (i := 161) (by decide +kernel))) rfl
theorem q1_162 : (Jvm.Cond.fieldLink "HintedStems$Orders" (54 : Nat) "HintedStems$Orders" "cause" "I") ∈ hWall := hWall_of (tb1 (List.mem_of_getElem? (i := 162) (by decide +kernel))) (by decide +kernel)
theorem q1_163 : (Jvm.Cond.fieldLinkNest "HintedStems" (267 : Nat) "HintedStems$Orders" "cause" "I" "HintedStems") ∈ hNestL := hNest_of (tb1 (List.mem_of_getElem? (i := 163) (by decide +kernel))) rfl
theorem q1_164 : (Jvm.Cond.laysFinal "HintedStems$Orders" "HintedStems$Orders" "signs" "[I") ∈ hWall := hWall_of (tb1 (List.mem_of_getElem? (i := 164) (by decide +kernel))) (by decide +kernel)
theorem q1_165 : (Jvm.Cond.soleField "HintedStems$Orders" "signs") ∈ hWall := hWall_of (tb1 (List.mem_of_getElem? (i := 165) (by decide +kernel))) (by decide +kernel)
theorem q1_166 : (Jvm.Cond.lays "HintedStems$Orders" "HintedStems$Orders" "length" "I") ∈ hWall := hWall_of (tb1 (List.mem_of_getElem? (i := 166) (by decide +kernel))) (by decide +kernel)
theorem q1_167 : (Jvm.Cond.soleField "HintedStems$Orders" "length") ∈ hWall := hWall_of (tb1 (List.mem_of_getElem? (i := 167) (by decide +kernel))) (by decide +kernel)
theorem q1_168 : (Jvm.Cond.laysFinal "HintedStems$Orders" "HintedStems$Orders" "numbers" "[I") ∈ hWall := hWall_of (tb1 (List.mem_of_getElem? (i := 168) (by decide +kernel))) (by decide +kernel)
theorem q1_169 : (Jvm.Cond.soleField "HintedStems$Orders" "numbers") ∈ hWall := hWall_of (tb1 (List.mem_of_getElem? (i := 169) (by decide +kernel))) (by decide +kernel)
theorem q1_170 : (Jvm.Cond.lays "HintedStems$Orders" "HintedStems$Orders" "reached" "I") ∈ hWall := hWall_of (tb1 (List.mem_of_getElem? (i := 170) (by decide +kernel))) (by decide +kernel)
theorem q1_171 : (Jvm.Cond.soleField "HintedStems$Orders" "reached") ∈ hWall := hWall_of (tb1 (List.mem_of_getElem? (i := 171) (by decide +kernel))) (by decide +kernel)
theorem q1_172 : (Jvm.Cond.lays "HintedStems$Orders" "HintedStems$Orders" "done" "I") ∈ hWall := hWall_of (tb1 (List.mem_of_getElem? (i := 172) (by decide +kernel))) (by decide +kernel)
theorem q1_173 : (Jvm.Cond.soleField "HintedStems$Orders" "done") ∈ hWall := hWall_of (tb1 (List.mem_of_getElem? (i := 173) (by decide +kernel))) (by decide +kernel)
theorem q1_174 : (Jvm.Cond.lays "HintedStems$Orders" "HintedStems$Orders" "position" "I") ∈ hWall := hWall_of (tb1 (List.mem_of_getElem? (i := 174) (by decide +kernel))) (by decide +kernel)
theorem q1_175 : (Jvm.Cond.soleField "HintedStems$Orders" "position") ∈ hWall := hWall_of (tb1 (List.mem_of_getElem? (i := 175) (by decide +kernel))) (by decide +kernel)
theorem q1_176 : (Jvm.Cond.lays "HintedStems$Orders" "HintedStems$Orders" "reason" "I") ∈ hWall := hWall_of (tb1 (List.mem_of_getElem? (i := 176) (by decide +kernel))) (by decide +kernel)
theorem q1_177 : (Jvm.Cond.soleField "HintedStems$Orders" "reason") ∈ hWall := hWall_of (tb1 (List.mem_of_getElem? (i := 177) (by decide +kernel))) (by decide +kernel)
theorem q1_178 : (Jvm.Cond.lays "HintedStems$Orders" "HintedStems$Orders" "cause" "I") ∈ hWall := hWall_of (tb1 (List.mem_of_getElem? (i := 178) (by decide +kernel))) (by decide +kernel)
theorem q1_179 : (Jvm.Cond.soleField "HintedStems$Orders" "cause") ∈ hWall := hWall_of (tb1 (List.mem_of_getElem? (i := 179) (by decide +kernel))) (by decide +kernel)
theorem q1_180 : (Jvm.Cond.superclass "HintedStems$Orders" "java/lang/Object") ∈ hWall := hWall_of (tb1 (List.mem_of_getElem? (i := 180) (by decide +kernel))) (by decide +kernel)
theorem q1_181 : (Jvm.Cond.classLink "HintedStems" (33 : Nat) "HintedStems$History") ∈ hWall := hWall_of (tb1 (List.mem_of_getElem? (i := 181) (by decide +kernel))) (by decide +kernel)
theorem q1_182 : (Jvm.Cond.instantiable "HintedStems$History" (3 : Nat)) ∈ hWall := hWall_of (tb1 (List.mem_of_getElem? (i := 182) (by decide +kernel))) (by decide +kernel)
theorem q1_183 : (Jvm.Cond.methodLink "HintedStems" (35 : Nat) ({ cls := "HintedStems$History", name := "<init>", desc := "()V" } : Jvm.MethodName)) ∈ hWall := hWall_of (tb1 (List.mem_of_getElem? (i := 183) (by decide +kernel))) (by decide +kernel)
theorem q1_184 : (Jvm.Cond.instanceMethod ({ cls := "HintedStems$History", name := "<init>", desc := "()V" } : Jvm.MethodName)) ∈ hWall := hWall_of (tb1 (List.mem_of_getElem? (i := 184) (by decide +kernel))) (by decide +kernel)
theorem q1_185 : (Jvm.Cond.code ({ cls := "HintedStems$History", name := "<init>", desc := "()V" } : Jvm.MethodName) prog_4_method_1_code (2 : Nat) (Option.none : Option Jvm.ClassFile.FieldType)) ∈ hWall := hWall_of (tb1 (List.mem_of_getElem? (i := 185) (by decide +kernel))) (by decide +kernel)
theorem q1_186 : (Jvm.Cond.methodLink "HintedStems$History" (3 : Nat) ({ cls := "java/lang/Object", name := "<init>", desc := "()V" } : Jvm.MethodName)) ∈ hWall := hWall_of (tb1 (List.mem_of_getElem? (i := 186) (by decide +kernel))) (by decide +kernel)
theorem q1_187 : (Jvm.Cond.classLink "HintedStems$History" (9 : Nat) "HintedStems$Font") ∈ hWall := hWall_of (tb1 (List.mem_of_getElem? (i := 187) (by decide +kernel))) (by decide +kernel)
theorem q1_188 : (Jvm.Cond.arrayOver (Jvm.ClassFile.FieldType.object "HintedStems$Font")) ∈ lw_tbl := tb1 (List.mem_of_getElem? (i := 188) (by decide +kernel))
theorem q1_189 : (Jvm.Cond.methodLinkNest "HintedStems$History" (17 : Nat) ({ cls := "HintedStems$Font", name := "<init>", desc := "()V" } : Jvm.MethodName) "HintedStems") ∈ hNestL := hNest_of (tb1 (List.mem_of_getElem? (i := 189) (by decide +kernel))) rfl
theorem q1_190 : (Jvm.Cond.fieldLink "HintedStems$History" (11 : Nat) "HintedStems$History" "slots" "[LHintedStems$Font;") ∈ hWall := hWall_of (tb1 (List.mem_of_getElem? (i := 190) (by decide +kernel))) (by decide +kernel)
theorem q1_191 : (Jvm.Cond.fieldLink "HintedStems$History" (30 : Nat) "HintedStems$History" "oldest" "I") ∈ hWall := hWall_of (tb1 (List.mem_of_getElem? (i := 191) (by decide +kernel))) (by decide +kernel)
theorem q1_192 : (Jvm.Cond.fieldLink "HintedStems$History" (18 : Nat) "HintedStems$History" "kept" "I") ∈ hWall := hWall_of (tb1 (List.mem_of_getElem? (i := 192) (by decide +kernel))) (by decide +kernel)
theorem q1_193 : (Jvm.Cond.fieldLinkNest "HintedStems" (233 : Nat) "HintedStems$History" "kept" "I" "HintedStems") ∈ hNestL := hNest_of (tb1 (List.mem_of_getElem? (i := 193) (by decide +kernel))) rfl
theorem q1_194 : (Jvm.Cond.laysFinal "HintedStems$History" "HintedStems$History" "slots" "[LHintedStems$Font;") ∈ hWall := hWall_of (tb1 (List.mem_of_getElem? (i := 194) (by decide +kernel))) (by decide +kernel)
theorem q1_195 : (Jvm.Cond.soleField "HintedStems$History" "slots") ∈ hWall := hWall_of (tb1 (List.mem_of_getElem? (i := 195) (by decide +kernel))) (by decide +kernel)
theorem q1_196 : (Jvm.Cond.lays "HintedStems$History" "HintedStems$History" "oldest" "I") ∈ hWall := hWall_of (tb1 (List.mem_of_getElem? (i := 196) (by decide +kernel))) (by decide +kernel)
theorem q1_197 : (Jvm.Cond.soleField "HintedStems$History" "oldest") ∈ hWall := hWall_of (tb1 (List.mem_of_getElem? (i := 197) (by decide +kernel))) (by decide +kernel)
theorem q1_198 : (Jvm.Cond.lays "HintedStems$History" "HintedStems$History" "kept" "I") ∈ hWall := hWall_of (tb1 (List.mem_of_getElem? (i := 198) (by decide +kernel))) (by decide +kernel)
theorem q1_199 : (Jvm.Cond.soleField "HintedStems$History" "kept") ∈ hWall := hWall_of (tb1 (List.mem_of_getElem? (i := 199) (by decide +kernel))) (by decide +kernel)
theorem q1_200 : (Jvm.Cond.superclass "HintedStems$History" "java/lang/Object") ∈ hWall := hWall_of (tb1 (List.mem_of_getElem? (i := 200) (by decide +kernel))) (by decide +kernel)
theorem q1_201 : (Jvm.Cond.fieldLink "HintedStems" (10 : Nat) "HintedStems" "font" "LHintedStems$Font;") ∈ hWall := hWall_of (tb1 (List.mem_of_getElem? (i := 201) (by decide +kernel))) (by decide +kernel)
theorem q1_202 : (Jvm.Cond.fieldLink "HintedStems" (16 : Nat) "HintedStems" "trial" "LHintedStems$Font;") ∈ hWall := hWall_of (tb1 (List.mem_of_getElem? (i := 202) (by decide +kernel))) (by decide +kernel)
theorem q1_203 : (Jvm.Cond.fieldLink "HintedStems" (22 : Nat) "HintedStems" "fit" "LHintedStems$Fit;") ∈ hWall := hWall_of (tb1 (List.mem_of_getElem? (i := 203) (by decide +kernel))) (by decide +kernel)
theorem q1_204 : (Jvm.Cond.fieldLink "HintedStems" (29 : Nat) "HintedStems" "orders" "LHintedStems$Orders;") ∈ hWall := hWall_of (tb1 (List.mem_of_getElem? (i := 204) (by decide +kernel))) (by decide +kernel)
theorem q1_205 : (Jvm.Cond.fieldLink "HintedStems" (36 : Nat) "HintedStems" "history" "LHintedStems$History;") ∈ hWall := hWall_of (tb1 (List.mem_of_getElem? (i := 205) (by decide +kernel))) (by decide +kernel)
theorem q1_206 : (Jvm.Cond.laysFinal "HintedStems" "HintedStems" "font" "LHintedStems$Font;") ∈ hWall := hWall_of (tb1 (List.mem_of_getElem? (i := 206) (by decide +kernel))) (by decide +kernel)
theorem q1_207 : (Jvm.Cond.soleField "HintedStems" "font") ∈ hWall := hWall_of (tb1 (List.mem_of_getElem? (i := 207) (by decide +kernel))) (by decide +kernel)
theorem q1_208 : (Jvm.Cond.laysFinal "HintedStems" "HintedStems" "trial" "LHintedStems$Font;") ∈ hWall := hWall_of (tb1 (List.mem_of_getElem? (i := 208) (by decide +kernel))) (by decide +kernel)
theorem q1_209 : (Jvm.Cond.soleField "HintedStems" "trial") ∈ hWall := hWall_of (tb1 (List.mem_of_getElem? (i := 209) (by decide +kernel))) (by decide +kernel)
theorem q1_210 : (Jvm.Cond.laysFinal "HintedStems" "HintedStems" "fit" "LHintedStems$Fit;") ∈ hWall := hWall_of (tb1 (List.mem_of_getElem? (i := 210) (by decide +kernel))) (by decide +kernel)
theorem q1_211 : (Jvm.Cond.soleField "HintedStems" "fit") ∈ hWall := hWall_of (tb1 (List.mem_of_getElem? (i := 211) (by decide +kernel))) (by decide +kernel)
theorem q1_212 : (Jvm.Cond.laysFinal "HintedStems" "HintedStems" "orders" "LHintedStems$Orders;") ∈ hWall := hWall_of (tb1 (List.mem_of_getElem? (i := 212) (by decide +kernel))) (by decide +kernel)
theorem q1_213 : (Jvm.Cond.soleField "HintedStems" "orders") ∈ hWall := hWall_of (tb1 (List.mem_of_getElem? (i := 213) (by decide +kernel))) (by decide +kernel)
theorem q1_214 : (Jvm.Cond.laysFinal "HintedStems" "HintedStems" "history" "LHintedStems$History;") ∈ hWall := hWall_of (tb1 (List.mem_of_getElem? (i := 214) (by decide +kernel))) (by decide +kernel)
theorem q1_215 : (Jvm.Cond.soleField "HintedStems" "history") ∈ hWall := hWall_of (tb1 (List.mem_of_getElem? (i := 215) (by decide +kernel))) (by decide +kernel)
theorem q1_216 : (Jvm.Cond.superclass "HintedStems" "java/lang/Object") ∈ hWall := hWall_of (tb1 (List.mem_of_getElem? (i := 216) (by decide +kernel))) (by decide +kernel)
theorem q1_217 : (Jvm.Cond.methodLink "HintedStemsLaw" (13 : Nat) ({ cls := "HintedStems", name := "glyph", desc := "(I)I" } : Jvm.MethodName)) ∈ hWall := hWall_of (tb1 (List.mem_of_getElem? (i := 217) (by decide +kernel))) (by decide +kernel)
theorem q1_218 : (Jvm.Cond.instanceMethod ({ cls := "HintedStems", name := "glyph", desc := "(I)I" } : Jvm.MethodName)) ∈ hWall := hWall_of (tb1 (List.mem_of_getElem? (i := 218) (by decide +kernel))) (by decide +kernel)
theorem q1_219 : (Jvm.Cond.selects "HintedStems" ({ cls := "HintedStems", name := "glyph", desc := "(I)I" } : Jvm.MethodName) ({ cls := "HintedStems", name := "glyph", desc := "(I)I" } : Jvm.MethodName)) ∈ hWall := hWall_of (tb1 (List.mem_of_getElem? (i := 219) (by decide +kernel))) (by decide +kernel)
theorem q1_220 : (Jvm.Cond.code ({ cls := "HintedStems", name := "glyph", desc := "(I)I" } : Jvm.MethodName) prog_1_method_2_code (2 : Nat) (Option.some Jvm.ClassFile.FieldType.int)) ∈ hWall := hWall_of (tb1 (List.mem_of_getElem? (i := 220) (by decide +kernel))) (by decide +kernel)
theorem q1_221 : (Jvm.Cond.methodLink "HintedStems" (40 : Nat) ({ cls := "HintedStems$History", name := "note", desc := "(LHintedStems$Font;)V" } : Jvm.MethodName)) ∈ hWall := hWall_of (tb1 (List.mem_of_getElem? (i := 221) (by decide +kernel))) (by decide +kernel)
theorem q1_222 : (Jvm.Cond.instanceMethod ({ cls := "HintedStems$History", name := "note", desc := "(LHintedStems$Font;)V" } : Jvm.MethodName)) ∈ hWall := hWall_of (tb1 (List.mem_of_getElem? (i := 222) (by decide +kernel))) (by decide +kernel)
theorem q1_223 : (Jvm.Cond.selects "HintedStems$History" ({ cls := "HintedStems$History", name := "note", desc := "(LHintedStems$Font;)V" } : Jvm.MethodName) ({ cls := "HintedStems$History", name := "note", desc := "(LHintedStems$Font;)V" } : Jvm.MethodName)) ∈ hWall := hWall_of (tb1 (List.mem_of_getElem? (i := 223) (by decide +kernel))) (by decide +kernel)
theorem q1_224 : (Jvm.Cond.code ({ cls := "HintedStems$History", name := "note", desc := "(LHintedStems$Font;)V" } : Jvm.MethodName) prog_4_method_2_code (3 : Nat) (Option.none : Option Jvm.ClassFile.FieldType)) ∈ hWall := hWall_of (tb1 (List.mem_of_getElem? (i := 224) (by decide +kernel))) (by decide +kernel)
theorem q1_225 : (Jvm.Cond.methodLink "HintedStems$History" (22 : Nat) ({ cls := "HintedStems$History", name := "slotAt", desc := "(I)LHintedStems$Font;" } : Jvm.MethodName)) ∈ hWall := hWall_of (tb1 (List.mem_of_getElem? (i := 225) (by decide +kernel))) (by decide +kernel)
theorem q1_226 : (Jvm.Cond.privateMethod ({ cls := "HintedStems$History", name := "slotAt", desc := "(I)LHintedStems$Font;" } : Jvm.MethodName)) ∈ lw_tbl := tb1 (List.mem_of_getElem? (i := 226) (by decide +kernel))
theorem q1_227 : (Jvm.Cond.instanceMethod ({ cls := "HintedStems$History", name := "slotAt", desc := "(I)LHintedStems$Font;" } : Jvm.MethodName)) ∈ hWall := hWall_of (tb1 (List.mem_of_getElem? (i := 227) (by decide +kernel))) (by decide +kernel)
theorem q1_228 : (Jvm.Cond.code ({ cls := "HintedStems$History", name := "slotAt", desc := "(I)LHintedStems$Font;" } : Jvm.MethodName) prog_4_method_5_code (3 : Nat) (Option.some (Jvm.ClassFile.FieldType.object "HintedStems$Font"))) ∈ hWall := hWall_of (tb1 (List.mem_of_getElem? (i := 228) (by decide +kernel))) (by decide +kernel)
theorem q1_229 : (Jvm.Cond.methodLink "HintedStems$History" (33 : Nat) ({ cls := "java/lang/Math", name := "floorMod", desc := "(II)I" } : Jvm.MethodName)) ∈ hWall := hWall_of (tb1 (List.mem_of_getElem? (i := 229) (by decide +kernel))) (by decide +kernel)
theorem q1_230 : (Jvm.Cond.static ({ cls := "java/lang/Math", name := "floorMod", desc := "(II)I" } : Jvm.MethodName)) ∈ hWall := hWall_of (tb1 (List.mem_of_getElem? (i := 230) (by decide +kernel))) (by decide +kernel)
theorem q1_231 : (Jvm.Cond.code ({ cls := "java/lang/Math", name := "floorMod", desc := "(II)I" } : Jvm.MethodName) prog_11_method_50_code (3 : Nat) (Option.some Jvm.ClassFile.FieldType.int)) ∈ hWall := hWall_of (tb1 (List.mem_of_getElem? (i := 231) (by decide +kernel))) (by decide +kernel)
theorem q1_232 : (Jvm.Cond.methodLink "HintedStems$History" (26 : Nat) ({ cls := "HintedStems$Font", name := "copy", desc := "(LHintedStems$Font;)V" } : Jvm.MethodName)) ∈ hWall := hWall_of (tb1 (List.mem_of_getElem? (i := 232) (by decide +kernel))) (by decide +kernel)
theorem q1_233 : (Jvm.Cond.instanceMethod ({ cls := "HintedStems$Font", name := "copy", desc := "(LHintedStems$Font;)V" } : Jvm.MethodName)) ∈ hWall := hWall_of (tb1 (List.mem_of_getElem? (i := 233) (by decide +kernel))) (by decide +kernel)
theorem q1_234 : (Jvm.Cond.selects "HintedStems$Font" ({ cls := "HintedStems$Font", name := "copy", desc := "(LHintedStems$Font;)V" } : Jvm.MethodName) ({ cls := "HintedStems$Font", name := "copy", desc := "(LHintedStems$Font;)V" } : Jvm.MethodName)) ∈ hWall := hWall_of (tb1 (List.mem_of_getElem? (i := 234) (by decide +kernel))) (by decide +kernel)
theorem q1_235 : (Jvm.Cond.code ({ cls := "HintedStems$Font", name := "copy", desc := "(LHintedStems$Font;)V" } : Jvm.MethodName) prog_3_method_2_code (2 : Nat) (Option.none : Option Jvm.ClassFile.FieldType)) ∈ hWall := hWall_of (tb1 (List.mem_of_getElem? (i := 235) (by decide +kernel))) (by decide +kernel)
theorem q1_236 : (Jvm.Cond.methodLinkNest "HintedStems$Font" (50 : Nat) ({ cls := "HintedStems", name := "copyRow", desc := "([I[I)V" } : Jvm.MethodName) "HintedStems") ∈ hNestL := hNest_of (tb1 (List.mem_of_getElem? (i := 236) (by decide +kernel))) rfl
theorem q1_237 : (Jvm.Cond.static ({ cls := "HintedStems", name := "copyRow", desc := "([I[I)V" } : Jvm.MethodName)) ∈ hWall := hWall_of (tb1 (List.mem_of_getElem? (i := 237) (by decide +kernel))) (by decide +kernel)
theorem q1_238 : (Jvm.Cond.code ({ cls := "HintedStems", name := "copyRow", desc := "([I[I)V" } : Jvm.MethodName) prog_1_method_34_code (3 : Nat) (Option.none : Option Jvm.ClassFile.FieldType)) ∈ hWall := hWall_of (tb1 (List.mem_of_getElem? (i := 238) (by decide +kernel))) (by decide +kernel)
theorem q1_239 : (Jvm.Cond.methodLink "HintedStems$Font" (54 : Nat) ({ cls := "HintedStems$Sheets", name := "copy", desc := "(LHintedStems$Sheets;)V" } : Jvm.MethodName)) ∈ hWall := hWall_of (tb1 (List.mem_of_getElem? (i := 239) (by decide +kernel))) (by decide +kernel)
theorem q2_0 : (Jvm.Cond.instanceMethod ({ cls := "HintedStems$Sheets", name := "copy", desc := "(LHintedStems$Sheets;)V" } : Jvm.MethodName)) ∈ hWall := hWall_of (tb2 (List.mem_of_getElem? (i := 0) (by decide +kernel))) (by decide +kernel)
theorem q2_1 : (Jvm.Cond.selects "HintedStems$Sheets" ({ cls := "HintedStems$Sheets", name := "copy", desc := "(LHintedStems$Sheets;)V" } : Jvm.MethodName) ({ cls := "HintedStems$Sheets", name := "copy", desc := "(LHintedStems$Sheets;)V" } : Jvm.MethodName)) ∈ hWall := hWall_of (tb2 (List.mem_of_getElem? (i := 1) (by decide +kernel))) (by decide +kernel)
theorem q2_2 : (Jvm.Cond.code ({ cls := "HintedStems$Sheets", name := "copy", desc := "(LHintedStems$Sheets;)V" } : Jvm.MethodName) prog_6_method_2_code (3 : Nat) (Option.none : Option Jvm.ClassFile.FieldType)) ∈ hWall := hWall_of (tb2 (List.mem_of_getElem? (i := 2) (by decide +kernel))) (by decide +kernel)
theorem q2_3 : (Jvm.Cond.methodLinkNest "HintedStems$Sheets" (32 : Nat) ({ cls := "HintedStems", name := "copyRow", desc := "([I[I)V" } : Jvm.MethodName) "HintedStems") ∈ hNestL := hNest_of (tb2 (List.mem_of_getElem? (i := 3) (by decide +kernel))) rfl
theorem q2_4 : (Jvm.Cond.methodLink "HintedStems" (44 : Nat) ({ cls := "HintedStems$Font", name := "addGlyph", desc := "(I)I" } : Jvm.MethodName)) ∈ hWall := hWall_of (tb2 (List.mem_of_getElem? (i := 4) (by decide +kernel))) (by decide +kernel)
theorem q2_5 : (Jvm.Cond.instanceMethod ({ cls := "HintedStems$Font", name := "addGlyph", desc := "(I)I" } : Jvm.MethodName)) ∈ hWall := hWall_of (tb2 (List.mem_of_getElem? (i := 5) (by decide +kernel))) (by decide +kernel)
theorem q2_6 : (Jvm.Cond.selects "HintedStems$Font" ({ cls := "HintedStems$Font", name := "addGlyph", desc := "(I)I" } : Jvm.MethodName) ({ cls := "HintedStems$Font", name := "addGlyph", desc := "(I)I" } : Jvm.MethodName)) ∈ hWall := hWall_of (tb2 (List.mem_of_getElem? (i := 6) (by decide +kernel))) (by decide +kernel)
theorem q2_7 : (Jvm.Cond.code ({ cls := "HintedStems$Font", name := "addGlyph", desc := "(I)I" } : Jvm.MethodName) prog_3_method_6_code (3 : Nat) (Option.some Jvm.ClassFile.FieldType.int)) ∈ hWall := hWall_of (tb2 (List.mem_of_getElem? (i := 7) (by decide +kernel))) (by decide +kernel)
theorem q2_8 : (Jvm.Cond.methodLinkNest "HintedStems$Font" (58 : Nat) ({ cls := "HintedStems", name := "within", desc := "(III)Z" } : Jvm.MethodName) "HintedStems") ∈ hNestL := hNest_of (tb2 (List.mem_of_getElem? (i := 8) (by decide +kernel))) rfl
theorem q2_9 : (Jvm.Cond.static ({ cls := "HintedStems", name := "within", desc := "(III)Z" } : Jvm.MethodName)) ∈ hWall := hWall_of (tb2 (List.mem_of_getElem? (i := 9) (by decide +kernel))) (by decide +kernel)
theorem q2_10 : (Jvm.Cond.code ({ cls := "HintedStems", name := "within", desc := "(III)Z" } : Jvm.MethodName) prog_1_method_29_code (3 : Nat) (Option.some Jvm.ClassFile.FieldType.boolean)) ∈ hWall := hWall_of (tb2 (List.mem_of_getElem? (i := 10) (by decide +kernel))) (by decide +kernel)
theorem q2_11 : (Jvm.Cond.constant "HintedStems$Font" (70 : Nat) (-1000001 : Int32)) ∈ hWall := hWall_of (tb2 (List.mem_of_getElem? (i := 11) (by decide +kernel))) (by decide +kernel)
theorem q2_12 : (Jvm.Cond.constant "HintedStems$Font" (71 : Nat) (-1000003 : Int32)) ∈ hWall := hWall_of (tb2 (List.mem_of_getElem? (i := 12) (by decide +kernel))) (by decide +kernel)
theorem q2_13 : (Jvm.Cond.methodLinkNest "HintedStems$Font" (72 : Nat) ({ cls := "HintedStems", name := "put", desc := "([III)V" } : Jvm.MethodName) "HintedStems") ∈ hNestL := hNest_of (tb2 (List.mem_of_getElem? (i := 13) (by decide +kernel))) rfl
theorem q2_14 : (Jvm.Cond.static ({ cls := "HintedStems", name := "put", desc := "([III)V" } : Jvm.MethodName)) ∈ hWall := hWall_of (tb2 (List.mem_of_getElem? (i := 14) (by decide +kernel))) (by decide +kernel)
theorem q2_15 : (Jvm.Cond.code ({ cls := "HintedStems", name := "put", desc := "([III)V" } : Jvm.MethodName) prog_1_method_33_code (3 : Nat) (Option.none : Option Jvm.ClassFile.FieldType)) ∈ hWall := hWall_of (tb2 (List.mem_of_getElem? (i := 15) (by decide +kernel))) (by decide +kernel)
theorem q2_16 : (Jvm.Cond.methodLink "HintedStems" (48 : Nat) ({ cls := "HintedStems", name := "settled", desc := "(I)I" } : Jvm.MethodName)) ∈ hWall := hWall_of (tb2 (List.mem_of_getElem? (i := 16) (by decide +kernel))) (by decide +kernel)
theorem q2_17 : (Jvm.Cond.privateMethod ({ cls := "HintedStems", name := "settled", desc := "(I)I" } : Jvm.MethodName)) ∈ lw_tbl := tb2 (List.mem_of_getElem? (i := 17) (by decide +kernel))
theorem q2_18 : (Jvm.Cond.instanceMethod ({ cls := "HintedStems", name := "settled", desc := "(I)I" } : Jvm.MethodName)) ∈ hWall := hWall_of (tb2 (List.mem_of_getElem? (i := 18) (by decide +kernel))) (by decide +kernel)
theorem q2_19 : (Jvm.Cond.code ({ cls := "HintedStems", name := "settled", desc := "(I)I" } : Jvm.MethodName) prog_1_method_26_code (2 : Nat) (Option.some Jvm.ClassFile.FieldType.int)) ∈ hWall := hWall_of (tb2 (List.mem_of_getElem? (i := 19) (by decide +kernel))) (by decide +kernel)
theorem q2_20 : (Jvm.Cond.methodLink "HintedStems" (273 : Nat) ({ cls := "HintedStems$History", name := "keep", desc := "()V" } : Jvm.MethodName)) ∈ hWall := hWall_of (tb2 (List.mem_of_getElem? (i := 20) (by decide +kernel))) (by decide +kernel)
theorem q2_21 : (Jvm.Cond.instanceMethod ({ cls := "HintedStems$History", name := "keep", desc := "()V" } : Jvm.MethodName)) ∈ hWall := hWall_of (tb2 (List.mem_of_getElem? (i := 21) (by decide +kernel))) (by decide +kernel)
theorem q2_22 : (Jvm.Cond.selects "HintedStems$History" ({ cls := "HintedStems$History", name := "keep", desc := "()V" } : Jvm.MethodName) ({ cls := "HintedStems$History", name := "keep", desc := "()V" } : Jvm.MethodName)) ∈ hWall := hWall_of (tb2 (List.mem_of_getElem? (i := 22) (by decide +kernel))) (by decide +kernel)
theorem q2_23 : (Jvm.Cond.code ({ cls := "HintedStems$History", name := "keep", desc := "()V" } : Jvm.MethodName) prog_4_method_3_code (1 : Nat) (Option.none : Option Jvm.ClassFile.FieldType)) ∈ hWall := hWall_of (tb2 (List.mem_of_getElem? (i := 23) (by decide +kernel))) (by decide +kernel)
theorem q2_24 : (Jvm.Cond.methodLink "HintedStemsLaw" (18 : Nat) ({ cls := "HintedStems", name := "stem", desc := "(III)I" } : Jvm.MethodName)) ∈ hWall := hWall_of (tb2 (List.mem_of_getElem? (i := 24) (by decide +kernel))) (by decide +kernel)
theorem q2_25 : (Jvm.Cond.instanceMethod ({ cls := "HintedStems", name := "stem", desc := "(III)I" } : Jvm.MethodName)) ∈ hWall := hWall_of (tb2 (List.mem_of_getElem? (i := 25) (by decide +kernel))) (by decide +kernel)
theorem q2_26 : (Jvm.Cond.selects "HintedStems" ({ cls := "HintedStems", name := "stem", desc := "(III)I" } : Jvm.MethodName) ({ cls := "HintedStems", name := "stem", desc := "(III)I" } : Jvm.MethodName)) ∈ hWall := hWall_of (tb2 (List.mem_of_getElem? (i := 26) (by decide +kernel))) (by decide +kernel)
theorem q2_27 : (Jvm.Cond.code ({ cls := "HintedStems", name := "stem", desc := "(III)I" } : Jvm.MethodName) prog_1_method_3_code (4 : Nat) (Option.some Jvm.ClassFile.FieldType.int)) ∈ hWall := hWall_of (tb2 (List.mem_of_getElem? (i := 27) (by decide +kernel))) (by decide +kernel)
theorem q2_28 : (Jvm.Cond.methodLink "HintedStems" (51 : Nat) ({ cls := "HintedStems$Font", name := "addStem", desc := "(III)I" } : Jvm.MethodName)) ∈ hWall := hWall_of (tb2 (List.mem_of_getElem? (i := 28) (by decide +kernel))) (by decide +kernel)
theorem q2_29 : (Jvm.Cond.instanceMethod ({ cls := "HintedStems$Font", name := "addStem", desc := "(III)I" } : Jvm.MethodName)) ∈ hWall := hWall_of (tb2 (List.mem_of_getElem? (i := 29) (by decide +kernel))) (by decide +kernel)
theorem q2_30 : (Jvm.Cond.selects "HintedStems$Font" ({ cls := "HintedStems$Font", name := "addStem", desc := "(III)I" } : Jvm.MethodName) ({ cls := "HintedStems$Font", name := "addStem", desc := "(III)I" } : Jvm.MethodName)) ∈ hWall := hWall_of (tb2 (List.mem_of_getElem? (i := 30) (by decide +kernel))) (by decide +kernel)
theorem q2_31 : (Jvm.Cond.code ({ cls := "HintedStems$Font", name := "addStem", desc := "(III)I" } : Jvm.MethodName) prog_3_method_7_code (9 : Nat) (Option.some Jvm.ClassFile.FieldType.int)) ∈ hWall := hWall_of (tb2 (List.mem_of_getElem? (i := 31) (by decide +kernel))) (by decide +kernel)
theorem q2_32 : (Jvm.Cond.methodLink "HintedStems$Font" (62 : Nat) ({ cls := "HintedStems$Font", name := "hasGlyph", desc := "(I)Z" } : Jvm.MethodName)) ∈ hWall := hWall_of (tb2 (List.mem_of_getElem? (i := 32) (by decide +kernel))) (by decide +kernel)
theorem q2_33 : (Jvm.Cond.instanceMethod ({ cls := "HintedStems$Font", name := "hasGlyph", desc := "(I)Z" } : Jvm.MethodName)) ∈ hWall := hWall_of (tb2 (List.mem_of_getElem? (i := 33) (by decide +kernel))) (by decide +kernel)
theorem q2_34 : (Jvm.Cond.selects "HintedStems$Font" ({ cls := "HintedStems$Font", name := "hasGlyph", desc := "(I)Z" } : Jvm.MethodName) ({ cls := "HintedStems$Font", name := "hasGlyph", desc := "(I)Z" } : Jvm.MethodName)) ∈ hWall := hWall_of (tb2 (List.mem_of_getElem? (i := 34) (by decide +kernel))) (by decide +kernel)
theorem q2_35 : (Jvm.Cond.code ({ cls := "HintedStems$Font", name := "hasGlyph", desc := "(I)Z" } : Jvm.MethodName) prog_3_method_3_code (2 : Nat) (Option.some Jvm.ClassFile.FieldType.boolean)) ∈ hWall := hWall_of (tb2 (List.mem_of_getElem? (i := 35) (by decide +kernel))) (by decide +kernel)
theorem q2_36 : (Jvm.Cond.methodLinkNest "HintedStems$Font" (66 : Nat) ({ cls := "HintedStems", name := "cell", desc := "([II)I" } : Jvm.MethodName) "HintedStems") ∈ hNestL := hNest_of (tb2 (List.mem_of_getElem? (i := 36) (by decide +kernel))) rfl
theorem q2_37 : (Jvm.Cond.static ({ cls := "HintedStems", name := "cell", desc := "([II)I" } : Jvm.MethodName)) ∈ hWall := hWall_of (tb2 (List.mem_of_getElem? (i := 37) (by decide +kernel))) (by decide +kernel)
theorem q2_38 : (Jvm.Cond.code ({ cls := "HintedStems", name := "cell", desc := "([II)I" } : Jvm.MethodName) prog_1_method_32_code (2 : Nat) (Option.some Jvm.ClassFile.FieldType.int)) ∈ hWall := hWall_of (tb2 (List.mem_of_getElem? (i := 38) (by decide +kernel))) (by decide +kernel)
theorem q2_39 : (Jvm.Cond.methodLink "HintedStems$Font" (76 : Nat) ({ cls := "HintedStems$Font", name := "endOf", desc := "(I)I" } : Jvm.MethodName)) ∈ hWall := hWall_of (tb2 (List.mem_of_getElem? (i := 39) (by decide +kernel))) (by decide +kernel)
theorem q2_40 : (Jvm.Cond.instanceMethod ({ cls := "HintedStems$Font", name := "endOf", desc := "(I)I" } : Jvm.MethodName)) ∈ hWall := hWall_of (tb2 (List.mem_of_getElem? (i := 40) (by decide +kernel))) (by decide +kernel)
theorem q2_41 : (Jvm.Cond.selects "HintedStems$Font" ({ cls := "HintedStems$Font", name := "endOf", desc := "(I)I" } : Jvm.MethodName) ({ cls := "HintedStems$Font", name := "endOf", desc := "(I)I" } : Jvm.MethodName)) ∈ hWall := hWall_of (tb2 (List.mem_of_getElem? (i := 41) (by decide +kernel))) (by decide +kernel)
theorem q2_42 : (Jvm.Cond.code ({ cls := "HintedStems$Font", name := "endOf", desc := "(I)I" } : Jvm.MethodName) prog_3_method_5_code (2 : Nat) (Option.some Jvm.ClassFile.FieldType.int)) ∈ hWall := hWall_of (tb2 (List.mem_of_getElem? (i := 42) (by decide +kernel))) (by decide +kernel)
theorem q2_43 : (Jvm.Cond.constant "HintedStems$Font" (80 : Nat) (-1000002 : Int32)) ∈ hWall := hWall_of (tb2 (List.mem_of_getElem? (i := 43) (by decide +kernel))) (by decide +kernel)
theorem q2_44 : (Jvm.Cond.methodLink "HintedStems$Font" (81 : Nat) ({ cls := "HintedStems$Font", name := "moveStem", desc := "(II)V" } : Jvm.MethodName)) ∈ hWall := hWall_of (tb2 (List.mem_of_getElem? (i := 44) (by decide +kernel))) (by decide +kernel)
theorem q2_45 : (Jvm.Cond.privateMethod ({ cls := "HintedStems$Font", name := "moveStem", desc := "(II)V" } : Jvm.MethodName)) ∈ lw_tbl := tb2 (List.mem_of_getElem? (i := 45) (by decide +kernel))
theorem q2_46 : (Jvm.Cond.instanceMethod ({ cls := "HintedStems$Font", name := "moveStem", desc := "(II)V" } : Jvm.MethodName)) ∈ hWall := hWall_of (tb2 (List.mem_of_getElem? (i := 46) (by decide +kernel))) (by decide +kernel)
theorem q2_47 : (Jvm.Cond.code ({ cls := "HintedStems$Font", name := "moveStem", desc := "(II)V" } : Jvm.MethodName) prog_3_method_9_code (3 : Nat) (Option.none : Option Jvm.ClassFile.FieldType)) ∈ hWall := hWall_of (tb2 (List.mem_of_getElem? (i := 47) (by decide +kernel))) (by decide +kernel)
theorem q2_48 : (Jvm.Cond.methodLink "HintedStems$Font" (85 : Nat) ({ cls := "HintedStems$Font", name := "putStem", desc := "(IIII)V" } : Jvm.MethodName)) ∈ hWall := hWall_of (tb2 (List.mem_of_getElem? (i := 48) (by decide +kernel))) (by decide +kernel)
theorem q2_49 : (Jvm.Cond.privateMethod ({ cls := "HintedStems$Font", name := "putStem", desc := "(IIII)V" } : Jvm.MethodName)) ∈ lw_tbl := tb2 (List.mem_of_getElem? (i := 49) (by decide +kernel))
theorem q2_50 : (Jvm.Cond.instanceMethod ({ cls := "HintedStems$Font", name := "putStem", desc := "(IIII)V" } : Jvm.MethodName)) ∈ hWall := hWall_of (tb2 (List.mem_of_getElem? (i := 50) (by decide +kernel))) (by decide +kernel)
theorem q2_51 : (Jvm.Cond.code ({ cls := "HintedStems$Font", name := "putStem", desc := "(IIII)V" } : Jvm.MethodName) prog_3_method_10_code (5 : Nat) (Option.none : Option Jvm.ClassFile.FieldType)) ∈ hWall := hWall_of (tb2 (List.mem_of_getElem? (i := 51) (by decide +kernel))) (by decide +kernel)
theorem q2_52 : (Jvm.Cond.methodLink "HintedStemsLaw" (23 : Nat) ({ cls := "HintedStems", name := "cut", desc := "(II)I" } : Jvm.MethodName)) ∈ hWall := hWall_of (tb2 (List.mem_of_getElem? (i := 52) (by decide +kernel))) (by decide +kernel)
theorem q2_53 : (Jvm.Cond.instanceMethod ({ cls := "HintedStems", name := "cut", desc := "(II)I" } : Jvm.MethodName)) ∈ hWall := hWall_of (tb2 (List.mem_of_getElem? (i := 53) (by decide +kernel))) (by decide +kernel)
theorem q2_54 : (Jvm.Cond.selects "HintedStems" ({ cls := "HintedStems", name := "cut", desc := "(II)I" } : Jvm.MethodName) ({ cls := "HintedStems", name := "cut", desc := "(II)I" } : Jvm.MethodName)) ∈ hWall := hWall_of (tb2 (List.mem_of_getElem? (i := 54) (by decide +kernel))) (by decide +kernel)
theorem q2_55 : (Jvm.Cond.code ({ cls := "HintedStems", name := "cut", desc := "(II)I" } : Jvm.MethodName) prog_1_method_4_code (3 : Nat) (Option.some Jvm.ClassFile.FieldType.int)) ∈ hWall := hWall_of (tb2 (List.mem_of_getElem? (i := 55) (by decide +kernel))) (by decide +kernel)
theorem q2_56 : (Jvm.Cond.methodLink "HintedStems" (55 : Nat) ({ cls := "HintedStems$Font", name := "cutStem", desc := "(II)I" } : Jvm.MethodName)) ∈ hWall := hWall_of (tb2 (List.mem_of_getElem? (i := 56) (by decide +kernel))) (by decide +kernel)
theorem q2_57 : (Jvm.Cond.instanceMethod ({ cls := "HintedStems$Font", name := "cutStem", desc := "(II)I" } : Jvm.MethodName)) ∈ hWall := hWall_of (tb2 (List.mem_of_getElem? (i := 57) (by decide +kernel))) (by decide +kernel)
theorem q2_58 : (Jvm.Cond.selects "HintedStems$Font" ({ cls := "HintedStems$Font", name := "cutStem", desc := "(II)I" } : Jvm.MethodName) ({ cls := "HintedStems$Font", name := "cutStem", desc := "(II)I" } : Jvm.MethodName)) ∈ hWall := hWall_of (tb2 (List.mem_of_getElem? (i := 58) (by decide +kernel))) (by decide +kernel)
theorem q2_59 : (Jvm.Cond.code ({ cls := "HintedStems$Font", name := "cutStem", desc := "(II)I" } : Jvm.MethodName) prog_3_method_8_code (6 : Nat) (Option.some Jvm.ClassFile.FieldType.int)) ∈ hWall := hWall_of (tb2 (List.mem_of_getElem? (i := 59) (by decide +kernel))) (by decide +kernel)
theorem q2_60 : (Jvm.Cond.methodLink "HintedStems$Font" (89 : Nat) ({ cls := "HintedStems$Font", name := "hasStem", desc := "(II)Z" } : Jvm.MethodName)) ∈ hWall := hWall_of (tb2 (List.mem_of_getElem? (i := 60) (by decide +kernel))) (by decide +kernel)
theorem q2_61 : (Jvm.Cond.instanceMethod ({ cls := "HintedStems$Font", name := "hasStem", desc := "(II)Z" } : Jvm.MethodName)) ∈ hWall := hWall_of (tb2 (List.mem_of_getElem? (i := 61) (by decide +kernel))) (by decide +kernel)
theorem q2_62 : (Jvm.Cond.selects "HintedStems$Font" ({ cls := "HintedStems$Font", name := "hasStem", desc := "(II)Z" } : Jvm.MethodName) ({ cls := "HintedStems$Font", name := "hasStem", desc := "(II)Z" } : Jvm.MethodName)) ∈ hWall := hWall_of (tb2 (List.mem_of_getElem? (i := 62) (by decide +kernel))) (by decide +kernel)
theorem q2_63 : (Jvm.Cond.code ({ cls := "HintedStems$Font", name := "hasStem", desc := "(II)Z" } : Jvm.MethodName) prog_3_method_4_code (3 : Nat) (Option.some Jvm.ClassFile.FieldType.boolean)) ∈ hWall := hWall_of (tb2 (List.mem_of_getElem? (i := 63) (by decide +kernel))) (by decide +kernel)
theorem q2_64 : (Jvm.Cond.methodLink "HintedStemsLaw" (28 : Nat) ({ cls := "HintedStems", name := "hint", desc := "(III)I" } : Jvm.MethodName)) ∈ hWall := hWall_of (tb2 (List.mem_of_getElem? (i := 64) (by decide +kernel))) (by decide +kernel)
theorem q2_65 : (Jvm.Cond.instanceMethod ({ cls := "HintedStems", name := "hint", desc := "(III)I" } : Jvm.MethodName)) ∈ hWall := hWall_of (tb2 (List.mem_of_getElem? (i := 65) (by decide +kernel))) (by decide +kernel)
theorem q2_66 : (Jvm.Cond.selects "HintedStems" ({ cls := "HintedStems", name := "hint", desc := "(III)I" } : Jvm.MethodName) ({ cls := "HintedStems", name := "hint", desc := "(III)I" } : Jvm.MethodName)) ∈ hWall := hWall_of (tb2 (List.mem_of_getElem? (i := 66) (by decide +kernel))) (by decide +kernel)
theorem q2_67 : (Jvm.Cond.code ({ cls := "HintedStems", name := "hint", desc := "(III)I" } : Jvm.MethodName) prog_1_method_5_code (4 : Nat) (Option.some Jvm.ClassFile.FieldType.int)) ∈ hWall := hWall_of (tb2 (List.mem_of_getElem? (i := 67) (by decide +kernel))) (by decide +kernel)
theorem q2_68 : (Jvm.Cond.methodLink "HintedStems" (59 : Nat) ({ cls := "HintedStems$Font", name := "hintStem", desc := "(III)I" } : Jvm.MethodName)) ∈ hWall := hWall_of (tb2 (List.mem_of_getElem? (i := 68) (by decide +kernel))) (by decide +kernel)
theorem q2_69 : (Jvm.Cond.instanceMethod ({ cls := "HintedStems$Font", name := "hintStem", desc := "(III)I" } : Jvm.MethodName)) ∈ hWall := hWall_of (tb2 (List.mem_of_getElem? (i := 69) (by decide +kernel))) (by decide +kernel)
theorem q2_70 : (Jvm.Cond.selects "HintedStems$Font" ({ cls := "HintedStems$Font", name := "hintStem", desc := "(III)I" } : Jvm.MethodName) ({ cls := "HintedStems$Font", name := "hintStem", desc := "(III)I" } : Jvm.MethodName)) ∈ hWall := hWall_of (tb2 (List.mem_of_getElem? (i := 70) (by decide +kernel))) (by decide +kernel)
theorem q2_71 : (Jvm.Cond.code ({ cls := "HintedStems$Font", name := "hintStem", desc := "(III)I" } : Jvm.MethodName) prog_3_method_11_code (6 : Nat) (Option.some Jvm.ClassFile.FieldType.int)) ∈ hWall := hWall_of (tb2 (List.mem_of_getElem? (i := 71) (by decide +kernel))) (by decide +kernel)
theorem q2_72 : (Jvm.Cond.methodLink "HintedStemsLaw" (32 : Nat) ({ cls := "HintedStems", name := "standard", desc := "(I)I" } : Jvm.MethodName)) ∈ hWall := hWall_of (tb2 (List.mem_of_getElem? (i := 72) (by decide +kernel))) (by decide +kernel)
theorem q2_73 : (Jvm.Cond.instanceMethod ({ cls := "HintedStems", name := "standard", desc := "(I)I" } : Jvm.MethodName)) ∈ hWall := hWall_of (tb2 (List.mem_of_getElem? (i := 73) (by decide +kernel))) (by decide +kernel)
theorem q2_74 : (Jvm.Cond.selects "HintedStems" ({ cls := "HintedStems", name := "standard", desc := "(I)I" } : Jvm.MethodName) ({ cls := "HintedStems", name := "standard", desc := "(I)I" } : Jvm.MethodName)) ∈ hWall := hWall_of (tb2 (List.mem_of_getElem? (i := 74) (by decide +kernel))) (by decide +kernel)
theorem q2_75 : (Jvm.Cond.code ({ cls := "HintedStems", name := "standard", desc := "(I)I" } : Jvm.MethodName) prog_1_method_6_code (2 : Nat) (Option.some Jvm.ClassFile.FieldType.int)) ∈ hWall := hWall_of (tb2 (List.mem_of_getElem? (i := 75) (by decide +kernel))) (by decide +kernel)
theorem q2_76 : (Jvm.Cond.methodLink "HintedStems" (62 : Nat) ({ cls := "HintedStems$Font", name := "addStandard", desc := "(I)I" } : Jvm.MethodName)) ∈ hWall := hWall_of (tb2 (List.mem_of_getElem? (i := 76) (by decide +kernel))) (by decide +kernel)
theorem q2_77 : (Jvm.Cond.instanceMethod ({ cls := "HintedStems$Font", name := "addStandard", desc := "(I)I" } : Jvm.MethodName)) ∈ hWall := hWall_of (tb2 (List.mem_of_getElem? (i := 77) (by decide +kernel))) (by decide +kernel)
theorem q2_78 : (Jvm.Cond.selects "HintedStems$Font" ({ cls := "HintedStems$Font", name := "addStandard", desc := "(I)I" } : Jvm.MethodName) ({ cls := "HintedStems$Font", name := "addStandard", desc := "(I)I" } : Jvm.MethodName)) ∈ hWall := hWall_of (tb2 (List.mem_of_getElem? (i := 78) (by decide +kernel))) (by decide +kernel)
theorem q2_79 : (Jvm.Cond.code ({ cls := "HintedStems$Font", name := "addStandard", desc := "(I)I" } : Jvm.MethodName) prog_3_method_12_code (3 : Nat) (Option.some Jvm.ClassFile.FieldType.int)) ∈ hWall := hWall_of (tb2 (List.mem_of_getElem? (i := 79) (by decide +kernel))) (by decide +kernel)
theorem q2_80 : (Jvm.Cond.methodLink "HintedStems$Font" (93 : Nat) ({ cls := "HintedStems$Font", name := "standardAt", desc := "(I)I" } : Jvm.MethodName)) ∈ hWall := hWall_of (tb2 (List.mem_of_getElem? (i := 80) (by decide +kernel))) (by decide +kernel)
theorem q2_81 : (Jvm.Cond.privateMethod ({ cls := "HintedStems$Font", name := "standardAt", desc := "(I)I" } : Jvm.MethodName)) ∈ lw_tbl := tb2 (List.mem_of_getElem? (i := 81) (by decide +kernel))
theorem q2_82 : (Jvm.Cond.instanceMethod ({ cls := "HintedStems$Font", name := "standardAt", desc := "(I)I" } : Jvm.MethodName)) ∈ hWall := hWall_of (tb2 (List.mem_of_getElem? (i := 82) (by decide +kernel))) (by decide +kernel)
theorem q2_83 : (Jvm.Cond.code ({ cls := "HintedStems$Font", name := "standardAt", desc := "(I)I" } : Jvm.MethodName) prog_3_method_14_code (3 : Nat) (Option.some Jvm.ClassFile.FieldType.int)) ∈ hWall := hWall_of (tb2 (List.mem_of_getElem? (i := 83) (by decide +kernel))) (by decide +kernel)
theorem q2_84 : (Jvm.Cond.methodLink "HintedStems$Font" (96 : Nat) ({ cls := "HintedStems$Font", name := "snappingTo", desc := "(I)I" } : Jvm.MethodName)) ∈ hWall := hWall_of (tb2 (List.mem_of_getElem? (i := 84) (by decide +kernel))) (by decide +kernel)
theorem q2_85 : (Jvm.Cond.privateMethod ({ cls := "HintedStems$Font", name := "snappingTo", desc := "(I)I" } : Jvm.MethodName)) ∈ lw_tbl := tb2 (List.mem_of_getElem? (i := 85) (by decide +kernel))
theorem q2_86 : (Jvm.Cond.instanceMethod ({ cls := "HintedStems$Font", name := "snappingTo", desc := "(I)I" } : Jvm.MethodName)) ∈ hWall := hWall_of (tb2 (List.mem_of_getElem? (i := 86) (by decide +kernel))) (by decide +kernel)
theorem q2_87 : (Jvm.Cond.code ({ cls := "HintedStems$Font", name := "snappingTo", desc := "(I)I" } : Jvm.MethodName) prog_3_method_22_code (4 : Nat) (Option.some Jvm.ClassFile.FieldType.int)) ∈ hWall := hWall_of (tb2 (List.mem_of_getElem? (i := 87) (by decide +kernel))) (by decide +kernel)
theorem q2_88 : (Jvm.Cond.methodLink "HintedStems$Font" (146 : Nat) ({ cls := "HintedStems$Font", name := "snapOf", desc := "(I)I" } : Jvm.MethodName)) ∈ hWall := hWall_of (tb2 (List.mem_of_getElem? (i := 88) (by decide +kernel))) (by decide +kernel)
theorem q2_89 : (Jvm.Cond.instanceMethod ({ cls := "HintedStems$Font", name := "snapOf", desc := "(I)I" } : Jvm.MethodName)) ∈ hWall := hWall_of (tb2 (List.mem_of_getElem? (i := 89) (by decide +kernel))) (by decide +kernel)
theorem q2_90 : (Jvm.Cond.selects "HintedStems$Font" ({ cls := "HintedStems$Font", name := "snapOf", desc := "(I)I" } : Jvm.MethodName) ({ cls := "HintedStems$Font", name := "snapOf", desc := "(I)I" } : Jvm.MethodName)) ∈ hWall := hWall_of (tb2 (List.mem_of_getElem? (i := 90) (by decide +kernel))) (by decide +kernel)
theorem q2_91 : (Jvm.Cond.code ({ cls := "HintedStems$Font", name := "snapOf", desc := "(I)I" } : Jvm.MethodName) prog_3_method_18_code (6 : Nat) (Option.some Jvm.ClassFile.FieldType.int)) ∈ hWall := hWall_of (tb2 (List.mem_of_getElem? (i := 91) (by decide +kernel))) (by decide +kernel)
theorem q2_92 : (Jvm.Cond.methodLink "HintedStems$Font" (141 : Nat) ({ cls := "java/lang/Math", name := "abs", desc := "(I)I" } : Jvm.MethodName)) ∈ hWall := hWall_of (tb2 (List.mem_of_getElem? (i := 92) (by decide +kernel))) (by decide +kernel)
theorem q2_93 : (Jvm.Cond.static ({ cls := "java/lang/Math", name := "abs", desc := "(I)I" } : Jvm.MethodName)) ∈ hWall := hWall_of (tb2 (List.mem_of_getElem? (i := 93) (by decide +kernel))) (by decide +kernel)
theorem q2_94 : (Jvm.Cond.code ({ cls := "java/lang/Math", name := "abs", desc := "(I)I" } : Jvm.MethodName) prog_11_method_59_code (1 : Nat) (Option.some Jvm.ClassFile.FieldType.int)) ∈ hWall := hWall_of (tb2 (List.mem_of_getElem? (i := 94) (by decide +kernel))) (by decide +kernel)
theorem q2_95 : (Jvm.Cond.methodLink "HintedStemsLaw" (36 : Nat) ({ cls := "HintedStems", name := "drop", desc := "(I)I" } : Jvm.MethodName)) ∈ hWall := hWall_of (tb2 (List.mem_of_getElem? (i := 95) (by decide +kernel))) (by decide +kernel)
theorem q2_96 : (Jvm.Cond.instanceMethod ({ cls := "HintedStems", name := "drop", desc := "(I)I" } : Jvm.MethodName)) ∈ hWall := hWall_of (tb2 (List.mem_of_getElem? (i := 96) (by decide +kernel))) (by decide +kernel)
theorem q2_97 : (Jvm.Cond.selects "HintedStems" ({ cls := "HintedStems", name := "drop", desc := "(I)I" } : Jvm.MethodName) ({ cls := "HintedStems", name := "drop", desc := "(I)I" } : Jvm.MethodName)) ∈ hWall := hWall_of (tb2 (List.mem_of_getElem? (i := 97) (by decide +kernel))) (by decide +kernel)
theorem q2_98 : (Jvm.Cond.code ({ cls := "HintedStems", name := "drop", desc := "(I)I" } : Jvm.MethodName) prog_1_method_7_code (2 : Nat) (Option.some Jvm.ClassFile.FieldType.int)) ∈ hWall := hWall_of (tb2 (List.mem_of_getElem? (i := 98) (by decide +kernel))) (by decide +kernel)
theorem q2_99 : (Jvm.Cond.methodLink "HintedStems" (65 : Nat) ({ cls := "HintedStems$Font", name := "dropStandard", desc := "(I)I" } : Jvm.MethodName)) ∈ hWall := hWall_of (tb2 (List.mem_of_getElem? (i := 99) (by decide +kernel))) (by decide +kernel)
theorem q2_100 : (Jvm.Cond.instanceMethod ({ cls := "HintedStems$Font", name := "dropStandard", desc := "(I)I" } : Jvm.MethodName)) ∈ hWall := hWall_of (tb2 (List.mem_of_getElem? (i := 100) (by decide +kernel))) (by decide +kernel)
theorem q2_101 : (Jvm.Cond.selects "HintedStems$Font" ({ cls := "HintedStems$Font", name := "dropStandard", desc := "(I)I" } : Jvm.MethodName) ({ cls := "HintedStems$Font", name := "dropStandard", desc := "(I)I" } : Jvm.MethodName)) ∈ hWall := hWall_of (tb2 (List.mem_of_getElem? (i := 101) (by decide +kernel))) (by decide +kernel)
theorem q2_102 : (Jvm.Cond.code ({ cls := "HintedStems$Font", name := "dropStandard", desc := "(I)I" } : Jvm.MethodName) prog_3_method_13_code (4 : Nat) (Option.some Jvm.ClassFile.FieldType.int)) ∈ hWall := hWall_of (tb2 (List.mem_of_getElem? (i := 102) (by decide +kernel))) (by decide +kernel)
theorem q2_103 : (Jvm.Cond.methodLink "HintedStemsLaw" (40 : Nat) ({ cls := "HintedStems", name := "make", desc := "(I)I" } : Jvm.MethodName)) ∈ hWall := hWall_of (tb2 (List.mem_of_getElem? (i := 103) (by decide +kernel))) (by decide +kernel)
theorem q2_104 : (Jvm.Cond.instanceMethod ({ cls := "HintedStems", name := "make", desc := "(I)I" } : Jvm.MethodName)) ∈ hWall := hWall_of (tb2 (List.mem_of_getElem? (i := 104) (by decide +kernel))) (by decide +kernel)
theorem q2_105 : (Jvm.Cond.selects "HintedStems" ({ cls := "HintedStems", name := "make", desc := "(I)I" } : Jvm.MethodName) ({ cls := "HintedStems", name := "make", desc := "(I)I" } : Jvm.MethodName)) ∈ hWall := hWall_of (tb2 (List.mem_of_getElem? (i := 105) (by decide +kernel))) (by decide +kernel)
theorem q2_106 : (Jvm.Cond.code ({ cls := "HintedStems", name := "make", desc := "(I)I" } : Jvm.MethodName) prog_1_method_8_code (2 : Nat) (Option.some Jvm.ClassFile.FieldType.int)) ∈ hWall := hWall_of (tb2 (List.mem_of_getElem? (i := 106) (by decide +kernel))) (by decide +kernel)
theorem q2_107 : (Jvm.Cond.methodLink "HintedStems" (68 : Nat) ({ cls := "HintedStems$Font", name := "makeSheet", desc := "(ILHintedStems$Fit;)I" } : Jvm.MethodName)) ∈ hWall := hWall_of (tb2 (List.mem_of_getElem? (i := 107) (by decide +kernel))) (by decide +kernel)
theorem q2_108 : (Jvm.Cond.instanceMethod ({ cls := "HintedStems$Font", name := "makeSheet", desc := "(ILHintedStems$Fit;)I" } : Jvm.MethodName)) ∈ hWall := hWall_of (tb2 (List.mem_of_getElem? (i := 108) (by decide +kernel))) (by decide +kernel)
theorem q2_109 : (Jvm.Cond.selects "HintedStems$Font" ({ cls := "HintedStems$Font", name := "makeSheet", desc := "(ILHintedStems$Fit;)I" } : Jvm.MethodName) ({ cls := "HintedStems$Font", name := "makeSheet", desc := "(ILHintedStems$Fit;)I" } : Jvm.MethodName)) ∈ hWall := hWall_of (tb2 (List.mem_of_getElem? (i := 109) (by decide +kernel))) (by decide +kernel)
theorem q2_110 : (Jvm.Cond.code ({ cls := "HintedStems$Font", name := "makeSheet", desc := "(ILHintedStems$Fit;)I" } : Jvm.MethodName) prog_3_method_16_code (5 : Nat) (Option.some Jvm.ClassFile.FieldType.int)) ∈ hWall := hWall_of (tb2 (List.mem_of_getElem? (i := 110) (by decide +kernel))) (by decide +kernel)
theorem q2_111 : (Jvm.Cond.methodLinkNest "HintedStems$Font" (99 : Nat) ({ cls := "HintedStems", name := "isSize", desc := "(I)Z" } : Jvm.MethodName) "HintedStems") ∈ hNestL := hNest_of (tb2 (List.mem_of_getElem? (i := 111) (by decide +kernel))) rfl
theorem q2_112 : (Jvm.Cond.static ({ cls := "HintedStems", name := "isSize", desc := "(I)Z" } : Jvm.MethodName)) ∈ hWall := hWall_of (tb2 (List.mem_of_getElem? (i := 112) (by decide +kernel))) (by decide +kernel)
theorem q2_113 : (Jvm.Cond.code ({ cls := "HintedStems", name := "isSize", desc := "(I)Z" } : Jvm.MethodName) prog_1_method_30_code (1 : Nat) (Option.some Jvm.ClassFile.FieldType.boolean)) ∈ hWall := hWall_of (tb2 (List.mem_of_getElem? (i := 113) (by decide +kernel))) (by decide +kernel)
theorem q2_114 : (Jvm.Cond.methodLink "HintedStems" (79 : Nat) ({ cls := "HintedStems", name := "within", desc := "(III)Z" } : Jvm.MethodName)) ∈ hWall := hWall_of (tb2 (List.mem_of_getElem? (i := 114) (by decide +kernel))) (by decide +kernel)
theorem q2_115 : (Jvm.Cond.methodLink "HintedStems$Font" (102 : Nat) ({ cls := "HintedStems$Sheets", name := "slotToMake", desc := "(I)I" } : Jvm.MethodName)) ∈ hWall := hWall_of (tb2 (List.mem_of_getElem? (i := 115) (by decide +kernel))) (by decide +kernel)
theorem q2_116 : (Jvm.Cond.instanceMethod ({ cls := "HintedStems$Sheets", name := "slotToMake", desc := "(I)I" } : Jvm.MethodName)) ∈ hWall := hWall_of (tb2 (List.mem_of_getElem? (i := 116) (by decide +kernel))) (by decide +kernel)
theorem q2_117 : (Jvm.Cond.selects "HintedStems$Sheets" ({ cls := "HintedStems$Sheets", name := "slotToMake", desc := "(I)I" } : Jvm.MethodName) ({ cls := "HintedStems$Sheets", name := "slotToMake", desc := "(I)I" } : Jvm.MethodName)) ∈ hWall := hWall_of (tb2 (List.mem_of_getElem? (i := 117) (by decide +kernel))) (by decide +kernel)
theorem q2_118 : (Jvm.Cond.code ({ cls := "HintedStems$Sheets", name := "slotToMake", desc := "(I)I" } : Jvm.MethodName) prog_6_method_8_code (5 : Nat) (Option.some Jvm.ClassFile.FieldType.int)) ∈ hWall := hWall_of (tb2 (List.mem_of_getElem? (i := 118) (by decide +kernel))) (by decide +kernel)
theorem q2_119 : (Jvm.Cond.methodLink "HintedStems$Sheets" (48 : Nat) ({ cls := "HintedStems$Sheets", name := "slotOf", desc := "(I)I" } : Jvm.MethodName)) ∈ hWall := hWall_of (tb2 (List.mem_of_getElem? (i := 119) (by decide +kernel))) (by decide +kernel)
theorem q2_120 : (Jvm.Cond.instanceMethod ({ cls := "HintedStems$Sheets", name := "slotOf", desc := "(I)I" } : Jvm.MethodName)) ∈ hWall := hWall_of (tb2 (List.mem_of_getElem? (i := 120) (by decide +kernel))) (by decide +kernel)
theorem q2_121 : (Jvm.Cond.selects "HintedStems$Sheets" ({ cls := "HintedStems$Sheets", name := "slotOf", desc := "(I)I" } : Jvm.MethodName) ({ cls := "HintedStems$Sheets", name := "slotOf", desc := "(I)I" } : Jvm.MethodName)) ∈ hWall := hWall_of (tb2 (List.mem_of_getElem? (i := 121) (by decide +kernel))) (by decide +kernel)
theorem q2_122 : (Jvm.Cond.code ({ cls := "HintedStems$Sheets", name := "slotOf", desc := "(I)I" } : Jvm.MethodName) prog_6_method_5_code (3 : Nat) (Option.some Jvm.ClassFile.FieldType.int)) ∈ hWall := hWall_of (tb2 (List.mem_of_getElem? (i := 122) (by decide +kernel))) (by decide +kernel)
theorem q2_123 : (Jvm.Cond.methodLink "HintedStems$Sheets" (40 : Nat) ({ cls := "HintedStems$Sheets", name := "isMade", desc := "(I)Z" } : Jvm.MethodName)) ∈ hWall := hWall_of (tb2 (List.mem_of_getElem? (i := 123) (by decide +kernel))) (by decide +kernel)
theorem q2_124 : (Jvm.Cond.instanceMethod ({ cls := "HintedStems$Sheets", name := "isMade", desc := "(I)Z" } : Jvm.MethodName)) ∈ hWall := hWall_of (tb2 (List.mem_of_getElem? (i := 124) (by decide +kernel))) (by decide +kernel)
theorem q2_125 : (Jvm.Cond.selects "HintedStems$Sheets" ({ cls := "HintedStems$Sheets", name := "isMade", desc := "(I)Z" } : Jvm.MethodName) ({ cls := "HintedStems$Sheets", name := "isMade", desc := "(I)Z" } : Jvm.MethodName)) ∈ hWall := hWall_of (tb2 (List.mem_of_getElem? (i := 125) (by decide +kernel))) (by decide +kernel)
theorem q2_126 : (Jvm.Cond.code ({ cls := "HintedStems$Sheets", name := "isMade", desc := "(I)Z" } : Jvm.MethodName) prog_6_method_3_code (2 : Nat) (Option.some Jvm.ClassFile.FieldType.boolean)) ∈ hWall := hWall_of (tb2 (List.mem_of_getElem? (i := 126) (by decide +kernel))) (by decide +kernel)
theorem q2_127 : (Jvm.Cond.methodLinkNest "HintedStems$Sheets" (36 : Nat) ({ cls := "HintedStems", name := "cell", desc := "([II)I" } : Jvm.MethodName) "HintedStems") ∈ hNestL := hNest_of (tb2 (List.mem_of_getElem? (i := 127) (by decide +kernel))) rfl
theorem q2_128 : (Jvm.Cond.methodLink "HintedStems$Font" (105 : Nat) ({ cls := "HintedStems$Sheets", name := "begin", desc := "(III)V" } : Jvm.MethodName)) ∈ hWall := hWall_of (tb2 (List.mem_of_getElem? (i := 128) (by decide +kernel))) (by decide +kernel)
theorem q2_129 : (Jvm.Cond.instanceMethod ({ cls := "HintedStems$Sheets", name := "begin", desc := "(III)V" } : Jvm.MethodName)) ∈ hWall := hWall_of (tb2 (List.mem_of_getElem? (i := 129) (by decide +kernel))) (by decide +kernel)
theorem q2_130 : (Jvm.Cond.selects "HintedStems$Sheets" ({ cls := "HintedStems$Sheets", name := "begin", desc := "(III)V" } : Jvm.MethodName) ({ cls := "HintedStems$Sheets", name := "begin", desc := "(III)V" } : Jvm.MethodName)) ∈ hWall := hWall_of (tb2 (List.mem_of_getElem? (i := 130) (by decide +kernel))) (by decide +kernel)
theorem q2_131 : (Jvm.Cond.code ({ cls := "HintedStems$Sheets", name := "begin", desc := "(III)V" } : Jvm.MethodName) prog_6_method_9_code (4 : Nat) (Option.none : Option Jvm.ClassFile.FieldType)) ∈ hWall := hWall_of (tb2 (List.mem_of_getElem? (i := 131) (by decide +kernel))) (by decide +kernel)
theorem q2_132 : (Jvm.Cond.methodLinkNest "HintedStems$Sheets" (51 : Nat) ({ cls := "HintedStems", name := "put", desc := "([III)V" } : Jvm.MethodName) "HintedStems") ∈ hNestL := hNest_of (tb2 (List.mem_of_getElem? (i := 132) (by decide +kernel))) rfl
theorem q2_133 : (Jvm.Cond.methodLink "HintedStems$Font" (109 : Nat) ({ cls := "HintedStems$Fit", name := "lay", desc := "(LHintedStems$Font;II)V" } : Jvm.MethodName)) ∈ hWall := hWall_of (tb2 (List.mem_of_getElem? (i := 133) (by decide +kernel))) (by decide +kernel)
theorem q2_134 : (Jvm.Cond.instanceMethod ({ cls := "HintedStems$Fit", name := "lay", desc := "(LHintedStems$Font;II)V" } : Jvm.MethodName)) ∈ hWall := hWall_of (tb2 (List.mem_of_getElem? (i := 134) (by decide +kernel))) (by decide +kernel)
theorem q2_135 : (Jvm.Cond.selects "HintedStems$Fit" ({ cls := "HintedStems$Fit", name := "lay", desc := "(LHintedStems$Font;II)V" } : Jvm.MethodName) ({ cls := "HintedStems$Fit", name := "lay", desc := "(LHintedStems$Font;II)V" } : Jvm.MethodName)) ∈ hWall := hWall_of (tb2 (List.mem_of_getElem? (i := 135) (by decide +kernel))) (by decide +kernel)
theorem q2_136 : (Jvm.Cond.code ({ cls := "HintedStems$Fit", name := "lay", desc := "(LHintedStems$Font;II)V" } : Jvm.MethodName) prog_2_method_2_code (13 : Nat) (Option.none : Option Jvm.ClassFile.FieldType)) ∈ hWall := hWall_of (tb2 (List.mem_of_getElem? (i := 136) (by decide +kernel))) (by decide +kernel)
theorem q2_137 : (Jvm.Cond.methodLinkNest "HintedStems$Fit" (26 : Nat) ({ cls := "HintedStems", name := "cell", desc := "([II)I" } : Jvm.MethodName) "HintedStems") ∈ hNestL := hNest_of (tb2 (List.mem_of_getElem? (i := 137) (by decide +kernel))) rfl
theorem q2_138 : (Jvm.Cond.methodLink "HintedStems$Fit" (33 : Nat) ({ cls := "HintedStems$Fit", name := "columnsOf", desc := "(II)I" } : Jvm.MethodName)) ∈ hWall := hWall_of (tb2 (List.mem_of_getElem? (i := 138) (by decide +kernel))) (by decide +kernel)
theorem q2_139 : (Jvm.Cond.static ({ cls := "HintedStems$Fit", name := "columnsOf", desc := "(II)I" } : Jvm.MethodName)) ∈ hWall := hWall_of (tb2 (List.mem_of_getElem? (i := 139) (by decide +kernel))) (by decide +kernel)
theorem q2_140 : (Jvm.Cond.code ({ cls := "HintedStems$Fit", name := "columnsOf", desc := "(II)I" } : Jvm.MethodName) prog_2_method_7_code (2 : Nat) (Option.some Jvm.ClassFile.FieldType.int)) ∈ hWall := hWall_of (tb2 (List.mem_of_getElem? (i := 140) (by decide +kernel))) (by decide +kernel)
theorem q2_141 : (Jvm.Cond.methodLinkNest "HintedStems$Fit" (63 : Nat) ({ cls := "HintedStems", name := "inPixels", desc := "(II)I" } : Jvm.MethodName) "HintedStems") ∈ hNestL := hNest_of (tb2 (List.mem_of_getElem? (i := 141) (by decide +kernel))) rfl
theorem q2_142 : (Jvm.Cond.static ({ cls := "HintedStems", name := "inPixels", desc := "(II)I" } : Jvm.MethodName)) ∈ hWall := hWall_of (tb2 (List.mem_of_getElem? (i := 142) (by decide +kernel))) (by decide +kernel)
theorem q2_143 : (Jvm.Cond.code ({ cls := "HintedStems", name := "inPixels", desc := "(II)I" } : Jvm.MethodName) prog_1_method_31_code (2 : Nat) (Option.some Jvm.ClassFile.FieldType.int)) ∈ hWall := hWall_of (tb2 (List.mem_of_getElem? (i := 143) (by decide +kernel))) (by decide +kernel)
theorem q2_144 : (Jvm.Cond.methodLink "HintedStems" (279 : Nat) ({ cls := "java/lang/Math", name := "floorDiv", desc := "(II)I" } : Jvm.MethodName)) ∈ hWall := hWall_of (tb2 (List.mem_of_getElem? (i := 144) (by decide +kernel))) (by decide +kernel)
theorem q2_145 : (Jvm.Cond.static ({ cls := "java/lang/Math", name := "floorDiv", desc := "(II)I" } : Jvm.MethodName)) ∈ hWall := hWall_of (tb2 (List.mem_of_getElem? (i := 145) (by decide +kernel))) (by decide +kernel)
theorem q2_146 : (Jvm.Cond.code ({ cls := "java/lang/Math", name := "floorDiv", desc := "(II)I" } : Jvm.MethodName) prog_11_method_47_code (3 : Nat) (Option.some Jvm.ClassFile.FieldType.int)) ∈ hWall := hWall_of (tb2 (List.mem_of_getElem? (i := 146) (by decide +kernel))) (by decide +kernel)
theorem q2_147 : (Jvm.Cond.methodLink "HintedStems$Fit" (90 : Nat) ({ cls := "java/lang/Math", name := "min", desc := "(II)I" } : Jvm.MethodName)) ∈ hWall := hWall_of (tb2 (List.mem_of_getElem? (i := 147) (by decide +kernel))) (by decide +kernel)
theorem q2_148 : (Jvm.Cond.static ({ cls := "java/lang/Math", name := "min", desc := "(II)I" } : Jvm.MethodName)) ∈ hWall := hWall_of (tb2 (List.mem_of_getElem? (i := 148) (by decide +kernel))) (by decide +kernel)
theorem q2_149 : (Jvm.Cond.code ({ cls := "java/lang/Math", name := "min", desc := "(II)I" } : Jvm.MethodName) prog_11_method_69_code (2 : Nat) (Option.some Jvm.ClassFile.FieldType.int)) ∈ hWall := hWall_of (tb2 (List.mem_of_getElem? (i := 149) (by decide +kernel))) (by decide +kernel)
theorem q2_150 : (Jvm.Cond.methodLink "HintedStems$Fit" (69 : Nat) ({ cls := "java/lang/Math", name := "max", desc := "(II)I" } : Jvm.MethodName)) ∈ hWall := hWall_of (tb2 (List.mem_of_getElem? (i := 150) (by decide +kernel))) (by decide +kernel)
theorem q2_151 : (Jvm.Cond.static ({ cls := "java/lang/Math", name := "max", desc := "(II)I" } : Jvm.MethodName)) ∈ hWall := hWall_of (tb2 (List.mem_of_getElem? (i := 151) (by decide +kernel))) (by decide +kernel)
theorem q2_152 : (Jvm.Cond.code ({ cls := "java/lang/Math", name := "max", desc := "(II)I" } : Jvm.MethodName) prog_11_method_65_code (2 : Nat) (Option.some Jvm.ClassFile.FieldType.int)) ∈ hWall := hWall_of (tb2 (List.mem_of_getElem? (i := 152) (by decide +kernel))) (by decide +kernel)
theorem q2_153 : (Jvm.Cond.methodLink "HintedStems$Fit" (57 : Nat) ({ cls := "HintedStems$Font", name := "wideOf", desc := "(II)I" } : Jvm.MethodName)) ∈ hWall := hWall_of (tb2 (List.mem_of_getElem? (i := 153) (by decide +kernel))) (by decide +kernel)
theorem q2_154 : (Jvm.Cond.instanceMethod ({ cls := "HintedStems$Font", name := "wideOf", desc := "(II)I" } : Jvm.MethodName)) ∈ hWall := hWall_of (tb2 (List.mem_of_getElem? (i := 154) (by decide +kernel))) (by decide +kernel)
theorem q2_155 : (Jvm.Cond.selects "HintedStems$Font" ({ cls := "HintedStems$Font", name := "wideOf", desc := "(II)I" } : Jvm.MethodName) ({ cls := "HintedStems$Font", name := "wideOf", desc := "(II)I" } : Jvm.MethodName)) ∈ hWall := hWall_of (tb2 (List.mem_of_getElem? (i := 155) (by decide +kernel))) (by decide +kernel)
theorem q2_156 : (Jvm.Cond.code ({ cls := "HintedStems$Font", name := "wideOf", desc := "(II)I" } : Jvm.MethodName) prog_3_method_20_code (4 : Nat) (Option.some Jvm.ClassFile.FieldType.int)) ∈ hWall := hWall_of (tb2 (List.mem_of_getElem? (i := 156) (by decide +kernel))) (by decide +kernel)
theorem q2_157 : (Jvm.Cond.methodLinkNest "HintedStems$Font" (149 : Nat) ({ cls := "HintedStems", name := "inPixels", desc := "(II)I" } : Jvm.MethodName) "HintedStems") ∈ hNestL := hNest_of (tb2 (List.mem_of_getElem? (i := 157) (by decide +kernel))) rfl
theorem q2_158 : (Jvm.Cond.methodLink "HintedStems$Font" (153 : Nat) ({ cls := "java/lang/Math", name := "max", desc := "(II)I" } : Jvm.MethodName)) ∈ hWall := hWall_of (tb2 (List.mem_of_getElem? (i := 158) (by decide +kernel))) (by decide +kernel)
theorem q2_159 : (Jvm.Cond.methodLink "HintedStems$Fit" (74 : Nat) ({ cls := "HintedStems$Fit", name := "rounded", desc := "(LHintedStems$Font;III)I" } : Jvm.MethodName)) ∈ hWall := hWall_of (tb2 (List.mem_of_getElem? (i := 159) (by decide +kernel))) (by decide +kernel)
theorem q2_160 : (Jvm.Cond.static ({ cls := "HintedStems$Fit", name := "rounded", desc := "(LHintedStems$Font;III)I" } : Jvm.MethodName)) ∈ hWall := hWall_of (tb2 (List.mem_of_getElem? (i := 160) (by decide +kernel))) (by decide +kernel)
theorem q2_161 : (Jvm.Cond.code ({ cls := "HintedStems$Fit", name := "rounded", desc := "(LHintedStems$Font;III)I" } : Jvm.MethodName) prog_2_method_8_code (6 : Nat) (Option.some Jvm.ClassFile.FieldType.int)) ∈ hWall := hWall_of (tb2 (List.mem_of_getElem? (i := 161) (by decide +kernel))) (by decide +kernel)
theorem q2_162 : (Jvm.Cond.methodLink "HintedStems$Fit" (103 : Nat) ({ cls := "java/lang/Math", name := "floorDiv", desc := "(II)I" } : Jvm.MethodName)) ∈ hWall := hWall_of (tb2 (List.mem_of_getElem? (i := 162) (by decide +kernel))) (by decide +kernel)
theorem q2_163 : (Jvm.Cond.methodLink "HintedStems$Fit" (78 : Nat) ({ cls := "HintedStems$Fit", name := "light", desc := "(III)V" } : Jvm.MethodName)) ∈ hWall := hWall_of (tb2 (List.mem_of_getElem? (i := 163) (by decide +kernel))) (by decide +kernel)
theorem q2_164 : (Jvm.Cond.privateMethod ({ cls := "HintedStems$Fit", name := "light", desc := "(III)V" } : Jvm.MethodName)) ∈ lw_tbl := tb2 (List.mem_of_getElem? (i := 164) (by decide +kernel))
theorem q2_165 : (Jvm.Cond.instanceMethod ({ cls := "HintedStems$Fit", name := "light", desc := "(III)V" } : Jvm.MethodName)) ∈ hWall := hWall_of (tb2 (List.mem_of_getElem? (i := 165) (by decide +kernel))) (by decide +kernel)
theorem q2_166 : (Jvm.Cond.code ({ cls := "HintedStems$Fit", name := "light", desc := "(III)V" } : Jvm.MethodName) prog_2_method_3_code (6 : Nat) (Option.none : Option Jvm.ClassFile.FieldType)) ∈ hWall := hWall_of (tb2 (List.mem_of_getElem? (i := 166) (by decide +kernel))) (by decide +kernel)
theorem q2_167 : (Jvm.Cond.methodLinkNest "HintedStems$Fit" (86 : Nat) ({ cls := "HintedStems", name := "put", desc := "([III)V" } : Jvm.MethodName) "HintedStems") ∈ hNestL := hNest_of (tb2 (List.mem_of_getElem? (i := 167) (by decide +kernel))) rfl
theorem q2_168 : (Jvm.Cond.methodLink "HintedStems$Fit" (82 : Nat) ({ cls := "HintedStems$Font", name := "endOf", desc := "(I)I" } : Jvm.MethodName)) ∈ hWall := hWall_of (tb2 (List.mem_of_getElem? (i := 168) (by decide +kernel))) (by decide +kernel)
theorem q2_169 : (Jvm.Cond.methodLink "HintedStems$Font" (122 : Nat) ({ cls := "HintedStems$Sheets", name := "keep", desc := "(IIJ)V" } : Jvm.MethodName)) ∈ hWall := hWall_of (tb2 (List.mem_of_getElem? (i := 169) (by decide +kernel))) (by decide +kernel)
theorem q2_170 : (Jvm.Cond.instanceMethod ({ cls := "HintedStems$Sheets", name := "keep", desc := "(IIJ)V" } : Jvm.MethodName)) ∈ hWall := hWall_of (tb2 (List.mem_of_getElem? (i := 170) (by decide +kernel))) (by decide +kernel)
theorem q2_171 : (Jvm.Cond.selects "HintedStems$Sheets" ({ cls := "HintedStems$Sheets", name := "keep", desc := "(IIJ)V" } : Jvm.MethodName) ({ cls := "HintedStems$Sheets", name := "keep", desc := "(IIJ)V" } : Jvm.MethodName)) ∈ hWall := hWall_of (tb2 (List.mem_of_getElem? (i := 171) (by decide +kernel))) (by decide +kernel)
theorem q2_172 : (Jvm.Cond.code ({ cls := "HintedStems$Sheets", name := "keep", desc := "(IIJ)V" } : Jvm.MethodName) prog_6_method_10_code (5 : Nat) (Option.none : Option Jvm.ClassFile.FieldType)) ∈ hWall := hWall_of (tb2 (List.mem_of_getElem? (i := 172) (by decide +kernel))) (by decide +kernel)
theorem q2_173 : (Jvm.Cond.methodLink "HintedStems$Font" (126 : Nat) ({ cls := "HintedStems$Sheets", name := "held", desc := "()I" } : Jvm.MethodName)) ∈ hWall := hWall_of (tb2 (List.mem_of_getElem? (i := 173) (by decide +kernel))) (by decide +kernel)
theorem q2_174 : (Jvm.Cond.instanceMethod ({ cls := "HintedStems$Sheets", name := "held", desc := "()I" } : Jvm.MethodName)) ∈ hWall := hWall_of (tb2 (List.mem_of_getElem? (i := 174) (by decide +kernel))) (by decide +kernel)
theorem q2_175 : (Jvm.Cond.selects "HintedStems$Sheets" ({ cls := "HintedStems$Sheets", name := "held", desc := "()I" } : Jvm.MethodName) ({ cls := "HintedStems$Sheets", name := "held", desc := "()I" } : Jvm.MethodName)) ∈ hWall := hWall_of (tb2 (List.mem_of_getElem? (i := 175) (by decide +kernel))) (by decide +kernel)
theorem q2_176 : (Jvm.Cond.code ({ cls := "HintedStems$Sheets", name := "held", desc := "()I" } : Jvm.MethodName) prog_6_method_4_code (3 : Nat) (Option.some Jvm.ClassFile.FieldType.int)) ∈ hWall := hWall_of (tb2 (List.mem_of_getElem? (i := 176) (by decide +kernel))) (by decide +kernel)
theorem q2_177 : (Jvm.Cond.methodLink "HintedStemsLaw" (44 : Nat) ({ cls := "HintedStems", name := "set", desc := "(II)I" } : Jvm.MethodName)) ∈ hWall := hWall_of (tb2 (List.mem_of_getElem? (i := 177) (by decide +kernel))) (by decide +kernel)
theorem q2_178 : (Jvm.Cond.instanceMethod ({ cls := "HintedStems", name := "set", desc := "(II)I" } : Jvm.MethodName)) ∈ hWall := hWall_of (tb2 (List.mem_of_getElem? (i := 178) (by decide +kernel))) (by decide +kernel)
theorem q2_179 : (Jvm.Cond.selects "HintedStems" ({ cls := "HintedStems", name := "set", desc := "(II)I" } : Jvm.MethodName) ({ cls := "HintedStems", name := "set", desc := "(II)I" } : Jvm.MethodName)) ∈ hWall := hWall_of (tb2 (List.mem_of_getElem? (i := 179) (by decide +kernel))) (by decide +kernel)
theorem q2_180 : (Jvm.Cond.code ({ cls := "HintedStems", name := "set", desc := "(II)I" } : Jvm.MethodName) prog_1_method_9_code (3 : Nat) (Option.some Jvm.ClassFile.FieldType.int)) ∈ hWall := hWall_of (tb2 (List.mem_of_getElem? (i := 180) (by decide +kernel))) (by decide +kernel)
theorem q2_181 : (Jvm.Cond.methodLink "HintedStems" (72 : Nat) ({ cls := "HintedStems$Font", name := "changeSetting", desc := "(II)I" } : Jvm.MethodName)) ∈ hWall := hWall_of (tb2 (List.mem_of_getElem? (i := 181) (by decide +kernel))) (by decide +kernel)
theorem q2_182 : (Jvm.Cond.instanceMethod ({ cls := "HintedStems$Font", name := "changeSetting", desc := "(II)I" } : Jvm.MethodName)) ∈ hWall := hWall_of (tb2 (List.mem_of_getElem? (i := 182) (by decide +kernel))) (by decide +kernel)
theorem q2_183 : (Jvm.Cond.selects "HintedStems$Font" ({ cls := "HintedStems$Font", name := "changeSetting", desc := "(II)I" } : Jvm.MethodName) ({ cls := "HintedStems$Font", name := "changeSetting", desc := "(II)I" } : Jvm.MethodName)) ∈ hWall := hWall_of (tb2 (List.mem_of_getElem? (i := 183) (by decide +kernel))) (by decide +kernel)
theorem q2_184 : (Jvm.Cond.code ({ cls := "HintedStems$Font", name := "changeSetting", desc := "(II)I" } : Jvm.MethodName) prog_3_method_15_code (4 : Nat) (Option.some Jvm.ClassFile.FieldType.int)) ∈ hWall := hWall_of (tb2 (List.mem_of_getElem? (i := 184) (by decide +kernel))) (by decide +kernel)
theorem q2_185 : (Jvm.Cond.methodLink "HintedStemsLaw" (48 : Nat) ({ cls := "HintedStems", name := "stemOf", desc := "(III)I" } : Jvm.MethodName)) ∈ hWall := hWall_of (tb2 (List.mem_of_getElem? (i := 185) (by decide +kernel))) (by decide +kernel)
theorem q2_186 : (Jvm.Cond.instanceMethod ({ cls := "HintedStems", name := "stemOf", desc := "(III)I" } : Jvm.MethodName)) ∈ hWall := hWall_of (tb2 (List.mem_of_getElem? (i := 186) (by decide +kernel))) (by decide +kernel)
theorem q2_187 : (Jvm.Cond.selects "HintedStems" ({ cls := "HintedStems", name := "stemOf", desc := "(III)I" } : Jvm.MethodName) ({ cls := "HintedStems", name := "stemOf", desc := "(III)I" } : Jvm.MethodName)) ∈ hWall := hWall_of (tb2 (List.mem_of_getElem? (i := 187) (by decide +kernel))) (by decide +kernel)
theorem q2_188 : (Jvm.Cond.code ({ cls := "HintedStems", name := "stemOf", desc := "(III)I" } : Jvm.MethodName) prog_1_method_10_code (7 : Nat) (Option.some Jvm.ClassFile.FieldType.int)) ∈ hWall := hWall_of (tb2 (List.mem_of_getElem? (i := 188) (by decide +kernel))) (by decide +kernel)
theorem q2_189 : (Jvm.Cond.methodLink "HintedStems" (75 : Nat) ({ cls := "HintedStems$Font", name := "hasStem", desc := "(II)Z" } : Jvm.MethodName)) ∈ hWall := hWall_of (tb2 (List.mem_of_getElem? (i := 189) (by decide +kernel))) (by decide +kernel)
theorem q2_190 : (Jvm.Cond.constant "HintedStems" (83 : Nat) (-1000001 : Int32)) ∈ hWall := hWall_of (tb2 (List.mem_of_getElem? (i := 190) (by decide +kernel))) (by decide +kernel)
theorem q2_191 : (Jvm.Cond.methodLink "HintedStems" (88 : Nat) ({ cls := "HintedStems", name := "cell", desc := "([II)I" } : Jvm.MethodName)) ∈ hWall := hWall_of (tb2 (List.mem_of_getElem? (i := 191) (by decide +kernel))) (by decide +kernel)
theorem q2_192 : (Jvm.Cond.methodLink "HintedStems" (98 : Nat) ({ cls := "HintedStems$Font", name := "hintedWidth", desc := "(I)I" } : Jvm.MethodName)) ∈ hWall := hWall_of (tb2 (List.mem_of_getElem? (i := 192) (by decide +kernel))) (by decide +kernel)
theorem q2_193 : (Jvm.Cond.instanceMethod ({ cls := "HintedStems$Font", name := "hintedWidth", desc := "(I)I" } : Jvm.MethodName)) ∈ hWall := hWall_of (tb2 (List.mem_of_getElem? (i := 193) (by decide +kernel))) (by decide +kernel)
theorem q2_194 : (Jvm.Cond.selects "HintedStems$Font" ({ cls := "HintedStems$Font", name := "hintedWidth", desc := "(I)I" } : Jvm.MethodName) ({ cls := "HintedStems$Font", name := "hintedWidth", desc := "(I)I" } : Jvm.MethodName)) ∈ hWall := hWall_of (tb2 (List.mem_of_getElem? (i := 194) (by decide +kernel))) (by decide +kernel)
theorem q2_195 : (Jvm.Cond.code ({ cls := "HintedStems$Font", name := "hintedWidth", desc := "(I)I" } : Jvm.MethodName) prog_3_method_19_code (3 : Nat) (Option.some Jvm.ClassFile.FieldType.int)) ∈ hWall := hWall_of (tb2 (List.mem_of_getElem? (i := 195) (by decide +kernel))) (by decide +kernel)
theorem q2_196 : (Jvm.Cond.methodLink "HintedStems" (101 : Nat) ({ cls := "HintedStems$Font", name := "snapOf", desc := "(I)I" } : Jvm.MethodName)) ∈ hWall := hWall_of (tb2 (List.mem_of_getElem? (i := 196) (by decide +kernel))) (by decide +kernel)
theorem q2_197 : (Jvm.Cond.constant "HintedStems" (104 : Nat) (-1000004 : Int32)) ∈ hWall := hWall_of (tb2 (List.mem_of_getElem? (i := 197) (by decide +kernel))) (by decide +kernel)
theorem q2_198 : (Jvm.Cond.methodLink "HintedStems" (105 : Nat) ({ cls := "HintedStems$Font", name := "alikeWith", desc := "(I)I" } : Jvm.MethodName)) ∈ hWall := hWall_of (tb2 (List.mem_of_getElem? (i := 198) (by decide +kernel))) (by decide +kernel)
theorem q2_199 : (Jvm.Cond.instanceMethod ({ cls := "HintedStems$Font", name := "alikeWith", desc := "(I)I" } : Jvm.MethodName)) ∈ hWall := hWall_of (tb2 (List.mem_of_getElem? (i := 199) (by decide +kernel))) (by decide +kernel)
theorem q2_200 : (Jvm.Cond.selects "HintedStems$Font" ({ cls := "HintedStems$Font", name := "alikeWith", desc := "(I)I" } : Jvm.MethodName) ({ cls := "HintedStems$Font", name := "alikeWith", desc := "(I)I" } : Jvm.MethodName)) ∈ hWall := hWall_of (tb2 (List.mem_of_getElem? (i := 200) (by decide +kernel))) (by decide +kernel)
theorem q2_201 : (Jvm.Cond.code ({ cls := "HintedStems$Font", name := "alikeWith", desc := "(I)I" } : Jvm.MethodName) prog_3_method_21_code (5 : Nat) (Option.some Jvm.ClassFile.FieldType.int)) ∈ hWall := hWall_of (tb2 (List.mem_of_getElem? (i := 201) (by decide +kernel))) (by decide +kernel)
theorem q2_202 : (Jvm.Cond.methodLink "HintedStems$Font" (156 : Nat) ({ cls := "HintedStems$Font", name := "hintedWidth", desc := "(I)I" } : Jvm.MethodName)) ∈ hWall := hWall_of (tb2 (List.mem_of_getElem? (i := 202) (by decide +kernel))) (by decide +kernel)
theorem q2_203 : (Jvm.Cond.methodLink "HintedStems" (108 : Nat) ({ cls := "HintedStems$Font", name := "endOf", desc := "(I)I" } : Jvm.MethodName)) ∈ hWall := hWall_of (tb2 (List.mem_of_getElem? (i := 203) (by decide +kernel))) (by decide +kernel)
theorem q2_204 : (Jvm.Cond.methodLink "HintedStemsLaw" (52 : Nat) ({ cls := "HintedStems", name := "pixels", desc := "(IIII)I" } : Jvm.MethodName)) ∈ hWall := hWall_of (tb2 (List.mem_of_getElem? (i := 204) (by decide +kernel))) (by decide +kernel)
theorem q2_205 : (Jvm.Cond.instanceMethod ({ cls := "HintedStems", name := "pixels", desc := "(IIII)I" } : Jvm.MethodName)) ∈ hWall := hWall_of (tb2 (List.mem_of_getElem? (i := 205) (by decide +kernel))) (by decide +kernel)
theorem q2_206 : (Jvm.Cond.selects "HintedStems" ({ cls := "HintedStems", name := "pixels", desc := "(IIII)I" } : Jvm.MethodName) ({ cls := "HintedStems", name := "pixels", desc := "(IIII)I" } : Jvm.MethodName)) ∈ hWall := hWall_of (tb2 (List.mem_of_getElem? (i := 206) (by decide +kernel))) (by decide +kernel)
theorem q2_207 : (Jvm.Cond.code ({ cls := "HintedStems", name := "pixels", desc := "(IIII)I" } : Jvm.MethodName) prog_1_method_11_code (5 : Nat) (Option.some Jvm.ClassFile.FieldType.int)) ∈ hWall := hWall_of (tb2 (List.mem_of_getElem? (i := 207) (by decide +kernel))) (by decide +kernel)
theorem q2_208 : (Jvm.Cond.methodLink "HintedStems" (111 : Nat) ({ cls := "HintedStems", name := "isSize", desc := "(I)Z" } : Jvm.MethodName)) ∈ hWall := hWall_of (tb2 (List.mem_of_getElem? (i := 208) (by decide +kernel))) (by decide +kernel)
theorem q2_209 : (Jvm.Cond.methodLink "HintedStems" (115 : Nat) ({ cls := "HintedStems$Fit", name := "lay", desc := "(LHintedStems$Font;II)V" } : Jvm.MethodName)) ∈ hWall := hWall_of (tb2 (List.mem_of_getElem? (i := 209) (by decide +kernel))) (by decide +kernel)
theorem q2_210 : (Jvm.Cond.methodLink "HintedStemsLaw" (57 : Nat) ({ cls := "HintedStems", name := "glyphOf", desc := "(III)I" } : Jvm.MethodName)) ∈ hWall := hWall_of (tb2 (List.mem_of_getElem? (i := 210) (by decide +kernel))) (by decide +kernel)
theorem q2_211 : (Jvm.Cond.instanceMethod ({ cls := "HintedStems", name := "glyphOf", desc := "(III)I" } : Jvm.MethodName)) ∈ hWall := hWall_of (tb2 (List.mem_of_getElem? (i := 211) (by decide +kernel))) (by decide +kernel)
theorem q2_212 : (Jvm.Cond.selects "HintedStems" ({ cls := "HintedStems", name := "glyphOf", desc := "(III)I" } : Jvm.MethodName) ({ cls := "HintedStems", name := "glyphOf", desc := "(III)I" } : Jvm.MethodName)) ∈ hWall := hWall_of (tb2 (List.mem_of_getElem? (i := 212) (by decide +kernel))) (by decide +kernel)
theorem q2_213 : (Jvm.Cond.code ({ cls := "HintedStems", name := "glyphOf", desc := "(III)I" } : Jvm.MethodName) prog_1_method_12_code (4 : Nat) (Option.some Jvm.ClassFile.FieldType.int)) ∈ hWall := hWall_of (tb2 (List.mem_of_getElem? (i := 213) (by decide +kernel))) (by decide +kernel)
theorem q2_214 : (Jvm.Cond.methodLink "HintedStems" (132 : Nat) ({ cls := "HintedStems$Font", name := "hasGlyph", desc := "(I)Z" } : Jvm.MethodName)) ∈ hWall := hWall_of (tb2 (List.mem_of_getElem? (i := 214) (by decide +kernel))) (by decide +kernel)
theorem q2_215 : (Jvm.Cond.methodLink "HintedStems" (142 : Nat) ({ cls := "java/lang/Long", name := "bitCount", desc := "(J)I" } : Jvm.MethodName)) ∈ hWall := hWall_of (tb2 (List.mem_of_getElem? (i := 215) (by decide +kernel))) (by decide +kernel)
theorem q2_216 : (Jvm.Cond.static ({ cls := "java/lang/Long", name := "bitCount", desc := "(J)I" } : Jvm.MethodName)) ∈ hWall := hWall_of (tb2 (List.mem_of_getElem? (i := 216) (by decide +kernel))) (by decide +kernel)
theorem q2_217 : (Jvm.Cond.code ({ cls := "java/lang/Long", name := "bitCount", desc := "(J)I" } : Jvm.MethodName) prog_10_method_50_code (2 : Nat) (Option.some Jvm.ClassFile.FieldType.int)) ∈ hWall := hWall_of (tb2 (List.mem_of_getElem? (i := 217) (by decide +kernel))) (by decide +kernel)
theorem q2_218 : (Jvm.Cond.constantLong "java/lang/Long" (314 : Nat) (6148914691236517205 : Int64)) ∈ hWall := hWall_of (tb2 (List.mem_of_getElem? (i := 218) (by decide +kernel))) (by decide +kernel)
theorem q2_219 : (Jvm.Cond.constantLong "java/lang/Long" (316 : Nat) (3689348814741910323 : Int64)) ∈ hWall := hWall_of (tb2 (List.mem_of_getElem? (i := 219) (by decide +kernel))) (by decide +kernel)
theorem q2_220 : (Jvm.Cond.constantLong "java/lang/Long" (318 : Nat) (1085102592571150095 : Int64)) ∈ hWall := hWall_of (tb2 (List.mem_of_getElem? (i := 220) (by decide +kernel))) (by decide +kernel)
theorem q2_221 : (Jvm.Cond.methodLink "HintedStems" (148 : Nat) ({ cls := "HintedStems$Fit", name := "isClear", desc := "()Z" } : Jvm.MethodName)) ∈ hWall := hWall_of (tb2 (List.mem_of_getElem? (i := 221) (by decide +kernel))) (by decide +kernel)
theorem q2_222 : (Jvm.Cond.instanceMethod ({ cls := "HintedStems$Fit", name := "isClear", desc := "()Z" } : Jvm.MethodName)) ∈ hWall := hWall_of (tb2 (List.mem_of_getElem? (i := 222) (by decide +kernel))) (by decide +kernel)
theorem q2_223 : (Jvm.Cond.selects "HintedStems$Fit" ({ cls := "HintedStems$Fit", name := "isClear", desc := "()Z" } : Jvm.MethodName) ({ cls := "HintedStems$Fit", name := "isClear", desc := "()Z" } : Jvm.MethodName)) ∈ hWall := hWall_of (tb2 (List.mem_of_getElem? (i := 223) (by decide +kernel))) (by decide +kernel)
theorem q2_224 : (Jvm.Cond.code ({ cls := "HintedStems$Fit", name := "isClear", desc := "()Z" } : Jvm.MethodName) prog_2_method_4_code (1 : Nat) (Option.some Jvm.ClassFile.FieldType.boolean)) ∈ hWall := hWall_of (tb2 (List.mem_of_getElem? (i := 224) (by decide +kernel))) (by decide +kernel)
theorem q2_225 : (Jvm.Cond.methodLink "HintedStems" (152 : Nat) ({ cls := "HintedStems", name := "runsOf", desc := "(J)I" } : Jvm.MethodName)) ∈ hWall := hWall_of (tb2 (List.mem_of_getElem? (i := 225) (by decide +kernel))) (by decide +kernel)
theorem q2_226 : (Jvm.Cond.static ({ cls := "HintedStems", name := "runsOf", desc := "(J)I" } : Jvm.MethodName)) ∈ hWall := hWall_of (tb2 (List.mem_of_getElem? (i := 226) (by decide +kernel))) (by decide +kernel)
theorem q2_227 : (Jvm.Cond.code ({ cls := "HintedStems", name := "runsOf", desc := "(J)I" } : Jvm.MethodName) prog_1_method_36_code (2 : Nat) (Option.some Jvm.ClassFile.FieldType.int)) ∈ hWall := hWall_of (tb2 (List.mem_of_getElem? (i := 227) (by decide +kernel))) (by decide +kernel)
theorem q2_228 : (Jvm.Cond.constantLong "HintedStems" (284 : Nat) (-1 : Int64)) ∈ hWall := hWall_of (tb2 (List.mem_of_getElem? (i := 228) (by decide +kernel))) (by decide +kernel)
theorem q2_229 : (Jvm.Cond.methodLink "HintedStemsLaw" (61 : Nat) ({ cls := "HintedStems", name := "lit", desc := "(III)I" } : Jvm.MethodName)) ∈ hWall := hWall_of (tb2 (List.mem_of_getElem? (i := 229) (by decide +kernel))) (by decide +kernel)
theorem q2_230 : (Jvm.Cond.instanceMethod ({ cls := "HintedStems", name := "lit", desc := "(III)I" } : Jvm.MethodName)) ∈ hWall := hWall_of (tb2 (List.mem_of_getElem? (i := 230) (by decide +kernel))) (by decide +kernel)
theorem q2_231 : (Jvm.Cond.selects "HintedStems" ({ cls := "HintedStems", name := "lit", desc := "(III)I" } : Jvm.MethodName) ({ cls := "HintedStems", name := "lit", desc := "(III)I" } : Jvm.MethodName)) ∈ hWall := hWall_of (tb2 (List.mem_of_getElem? (i := 231) (by decide +kernel))) (by decide +kernel)
theorem q2_232 : (Jvm.Cond.code ({ cls := "HintedStems", name := "lit", desc := "(III)I" } : Jvm.MethodName) prog_1_method_13_code (4 : Nat) (Option.some Jvm.ClassFile.FieldType.int)) ∈ hWall := hWall_of (tb2 (List.mem_of_getElem? (i := 232) (by decide +kernel))) (by decide +kernel)
theorem q2_233 : (Jvm.Cond.methodLink "HintedStems" (155 : Nat) ({ cls := "HintedStems", name := "bitOf", desc := "(JI)I" } : Jvm.MethodName)) ∈ hWall := hWall_of (tb2 (List.mem_of_getElem? (i := 233) (by decide +kernel))) (by decide +kernel)
theorem q2_234 : (Jvm.Cond.static ({ cls := "HintedStems", name := "bitOf", desc := "(JI)I" } : Jvm.MethodName)) ∈ hWall := hWall_of (tb2 (List.mem_of_getElem? (i := 234) (by decide +kernel))) (by decide +kernel)
theorem q2_235 : (Jvm.Cond.code ({ cls := "HintedStems", name := "bitOf", desc := "(JI)I" } : Jvm.MethodName) prog_1_method_35_code (3 : Nat) (Option.some Jvm.ClassFile.FieldType.int)) ∈ hWall := hWall_of (tb2 (List.mem_of_getElem? (i := 235) (by decide +kernel))) (by decide +kernel)
theorem q2_236 : (Jvm.Cond.methodLink "HintedStemsLaw" (65 : Nat) ({ cls := "HintedStems", name := "inSheet", desc := "(III)I" } : Jvm.MethodName)) ∈ hWall := hWall_of (tb2 (List.mem_of_getElem? (i := 236) (by decide +kernel))) (by decide +kernel)
theorem q2_237 : (Jvm.Cond.instanceMethod ({ cls := "HintedStems", name := "inSheet", desc := "(III)I" } : Jvm.MethodName)) ∈ hWall := hWall_of (tb2 (List.mem_of_getElem? (i := 237) (by decide +kernel))) (by decide +kernel)
theorem q2_238 : (Jvm.Cond.selects "HintedStems" ({ cls := "HintedStems", name := "inSheet", desc := "(III)I" } : Jvm.MethodName) ({ cls := "HintedStems", name := "inSheet", desc := "(III)I" } : Jvm.MethodName)) ∈ hWall := hWall_of (tb2 (List.mem_of_getElem? (i := 238) (by decide +kernel))) (by decide +kernel)
theorem q2_239 : (Jvm.Cond.code ({ cls := "HintedStems", name := "inSheet", desc := "(III)I" } : Jvm.MethodName) prog_1_method_14_code (7 : Nat) (Option.some Jvm.ClassFile.FieldType.int)) ∈ hWall := hWall_of (tb2 (List.mem_of_getElem? (i := 239) (by decide +kernel))) (by decide +kernel)
theorem q3_0 : (Jvm.Cond.methodLink "HintedStems" (163 : Nat) ({ cls := "HintedStems$Sheets", name := "slotOf", desc := "(I)I" } : Jvm.MethodName)) ∈ hWall := hWall_of (tb3 (List.mem_of_getElem? (i := 0) (by decide +kernel))) (by decide +kernel)
theorem q3_1 : (Jvm.Cond.methodLink "HintedStems" (173 : Nat) ({ cls := "HintedStems$Sheets", name := "litAt", desc := "(I)J" } : Jvm.MethodName)) ∈ hWall := hWall_of (tb3 (List.mem_of_getElem? (i := 1) (by decide +kernel))) (by decide +kernel)
theorem q3_2 : (Jvm.Cond.instanceMethod ({ cls := "HintedStems$Sheets", name := "litAt", desc := "(I)J" } : Jvm.MethodName)) ∈ hWall := hWall_of (tb3 (List.mem_of_getElem? (i := 2) (by decide +kernel))) (by decide +kernel)
theorem q3_3 : (Jvm.Cond.selects "HintedStems$Sheets" ({ cls := "HintedStems$Sheets", name := "litAt", desc := "(I)J" } : Jvm.MethodName) ({ cls := "HintedStems$Sheets", name := "litAt", desc := "(I)J" } : Jvm.MethodName)) ∈ hWall := hWall_of (tb3 (List.mem_of_getElem? (i := 3) (by decide +kernel))) (by decide +kernel)
theorem q3_4 : (Jvm.Cond.code ({ cls := "HintedStems$Sheets", name := "litAt", desc := "(I)J" } : Jvm.MethodName) prog_6_method_11_code (2 : Nat) (Option.some Jvm.ClassFile.FieldType.long)) ∈ hWall := hWall_of (tb3 (List.mem_of_getElem? (i := 4) (by decide +kernel))) (by decide +kernel)
theorem q3_5 : (Jvm.Cond.methodLink "HintedStemsLaw" (69 : Nat) ({ cls := "HintedStems", name := "sheetOf", desc := "(II)I" } : Jvm.MethodName)) ∈ hWall := hWall_of (tb3 (List.mem_of_getElem? (i := 5) (by decide +kernel))) (by decide +kernel)
theorem q3_6 : (Jvm.Cond.instanceMethod ({ cls := "HintedStems", name := "sheetOf", desc := "(II)I" } : Jvm.MethodName)) ∈ hWall := hWall_of (tb3 (List.mem_of_getElem? (i := 6) (by decide +kernel))) (by decide +kernel)
theorem q3_7 : (Jvm.Cond.selects "HintedStems" ({ cls := "HintedStems", name := "sheetOf", desc := "(II)I" } : Jvm.MethodName) ({ cls := "HintedStems", name := "sheetOf", desc := "(II)I" } : Jvm.MethodName)) ∈ hWall := hWall_of (tb3 (List.mem_of_getElem? (i := 7) (by decide +kernel))) (by decide +kernel)
theorem q3_8 : (Jvm.Cond.code ({ cls := "HintedStems", name := "sheetOf", desc := "(II)I" } : Jvm.MethodName) prog_1_method_15_code (4 : Nat) (Option.some Jvm.ClassFile.FieldType.int)) ∈ hWall := hWall_of (tb3 (List.mem_of_getElem? (i := 8) (by decide +kernel))) (by decide +kernel)
theorem q3_9 : (Jvm.Cond.methodLink "HintedStems" (177 : Nat) ({ cls := "HintedStems$Sheets", name := "slotAt", desc := "(I)I" } : Jvm.MethodName)) ∈ hWall := hWall_of (tb3 (List.mem_of_getElem? (i := 9) (by decide +kernel))) (by decide +kernel)
theorem q3_10 : (Jvm.Cond.instanceMethod ({ cls := "HintedStems$Sheets", name := "slotAt", desc := "(I)I" } : Jvm.MethodName)) ∈ hWall := hWall_of (tb3 (List.mem_of_getElem? (i := 10) (by decide +kernel))) (by decide +kernel)
theorem q3_11 : (Jvm.Cond.selects "HintedStems$Sheets" ({ cls := "HintedStems$Sheets", name := "slotAt", desc := "(I)I" } : Jvm.MethodName) ({ cls := "HintedStems$Sheets", name := "slotAt", desc := "(I)I" } : Jvm.MethodName)) ∈ hWall := hWall_of (tb3 (List.mem_of_getElem? (i := 11) (by decide +kernel))) (by decide +kernel)
theorem q3_12 : (Jvm.Cond.code ({ cls := "HintedStems$Sheets", name := "slotAt", desc := "(I)I" } : Jvm.MethodName) prog_6_method_6_code (3 : Nat) (Option.some Jvm.ClassFile.FieldType.int)) ∈ hWall := hWall_of (tb3 (List.mem_of_getElem? (i := 12) (by decide +kernel))) (by decide +kernel)
theorem q3_13 : (Jvm.Cond.methodLink "HintedStems$Sheets" (44 : Nat) ({ cls := "HintedStems$Sheets", name := "olderThan", desc := "(I)I" } : Jvm.MethodName)) ∈ hWall := hWall_of (tb3 (List.mem_of_getElem? (i := 13) (by decide +kernel))) (by decide +kernel)
theorem q3_14 : (Jvm.Cond.privateMethod ({ cls := "HintedStems$Sheets", name := "olderThan", desc := "(I)I" } : Jvm.MethodName)) ∈ lw_tbl := tb3 (List.mem_of_getElem? (i := 14) (by decide +kernel))
theorem q3_15 : (Jvm.Cond.instanceMethod ({ cls := "HintedStems$Sheets", name := "olderThan", desc := "(I)I" } : Jvm.MethodName)) ∈ hWall := hWall_of (tb3 (List.mem_of_getElem? (i := 15) (by decide +kernel))) (by decide +kernel)
theorem q3_16 : (Jvm.Cond.code ({ cls := "HintedStems$Sheets", name := "olderThan", desc := "(I)I" } : Jvm.MethodName) prog_6_method_7_code (4 : Nat) (Option.some Jvm.ClassFile.FieldType.int)) ∈ hWall := hWall_of (tb3 (List.mem_of_getElem? (i := 16) (by decide +kernel))) (by decide +kernel)
theorem q3_17 : (Jvm.Cond.methodLink "HintedStems" (183 : Nat) ({ cls := "HintedStems$Font", name := "isStale", desc := "(ILHintedStems$Fit;)Z" } : Jvm.MethodName)) ∈ hWall := hWall_of (tb3 (List.mem_of_getElem? (i := 17) (by decide +kernel))) (by decide +kernel)
theorem q3_18 : (Jvm.Cond.instanceMethod ({ cls := "HintedStems$Font", name := "isStale", desc := "(ILHintedStems$Fit;)Z" } : Jvm.MethodName)) ∈ hWall := hWall_of (tb3 (List.mem_of_getElem? (i := 18) (by decide +kernel))) (by decide +kernel)
theorem q3_19 : (Jvm.Cond.selects "HintedStems$Font" ({ cls := "HintedStems$Font", name := "isStale", desc := "(ILHintedStems$Fit;)Z" } : Jvm.MethodName) ({ cls := "HintedStems$Font", name := "isStale", desc := "(ILHintedStems$Fit;)Z" } : Jvm.MethodName)) ∈ hWall := hWall_of (tb3 (List.mem_of_getElem? (i := 19) (by decide +kernel))) (by decide +kernel)
theorem q3_20 : (Jvm.Cond.code ({ cls := "HintedStems$Font", name := "isStale", desc := "(ILHintedStems$Fit;)Z" } : Jvm.MethodName) prog_3_method_17_code (6 : Nat) (Option.some Jvm.ClassFile.FieldType.boolean)) ∈ hWall := hWall_of (tb3 (List.mem_of_getElem? (i := 20) (by decide +kernel))) (by decide +kernel)
theorem q3_21 : (Jvm.Cond.methodLink "HintedStems$Font" (137 : Nat) ({ cls := "HintedStems$Sheets", name := "litAt", desc := "(I)J" } : Jvm.MethodName)) ∈ hWall := hWall_of (tb3 (List.mem_of_getElem? (i := 21) (by decide +kernel))) (by decide +kernel)
theorem q3_22 : (Jvm.Cond.methodLink "HintedStems" (187 : Nat) ({ cls := "HintedStems$Sheets", name := "litTogether", desc := "(I)I" } : Jvm.MethodName)) ∈ hWall := hWall_of (tb3 (List.mem_of_getElem? (i := 22) (by decide +kernel))) (by decide +kernel)
theorem q3_23 : (Jvm.Cond.instanceMethod ({ cls := "HintedStems$Sheets", name := "litTogether", desc := "(I)I" } : Jvm.MethodName)) ∈ hWall := hWall_of (tb3 (List.mem_of_getElem? (i := 23) (by decide +kernel))) (by decide +kernel)
theorem q3_24 : (Jvm.Cond.selects "HintedStems$Sheets" ({ cls := "HintedStems$Sheets", name := "litTogether", desc := "(I)I" } : Jvm.MethodName) ({ cls := "HintedStems$Sheets", name := "litTogether", desc := "(I)I" } : Jvm.MethodName)) ∈ hWall := hWall_of (tb3 (List.mem_of_getElem? (i := 24) (by decide +kernel))) (by decide +kernel)
theorem q3_25 : (Jvm.Cond.code ({ cls := "HintedStems$Sheets", name := "litTogether", desc := "(I)I" } : Jvm.MethodName) prog_6_method_12_code (4 : Nat) (Option.some Jvm.ClassFile.FieldType.int)) ∈ hWall := hWall_of (tb3 (List.mem_of_getElem? (i := 25) (by decide +kernel))) (by decide +kernel)
theorem q3_26 : (Jvm.Cond.methodLink "HintedStems$Sheets" (55 : Nat) ({ cls := "HintedStems$Sheets", name := "litAt", desc := "(I)J" } : Jvm.MethodName)) ∈ hWall := hWall_of (tb3 (List.mem_of_getElem? (i := 26) (by decide +kernel))) (by decide +kernel)
theorem q3_27 : (Jvm.Cond.methodLink "HintedStems$Sheets" (59 : Nat) ({ cls := "java/lang/Long", name := "bitCount", desc := "(J)I" } : Jvm.MethodName)) ∈ hWall := hWall_of (tb3 (List.mem_of_getElem? (i := 27) (by decide +kernel))) (by decide +kernel)
theorem q3_28 : (Jvm.Cond.methodLink "HintedStemsLaw" (73 : Nat) ({ cls := "HintedStems", name := "even", desc := "(I)I" } : Jvm.MethodName)) ∈ hWall := hWall_of (tb3 (List.mem_of_getElem? (i := 28) (by decide +kernel))) (by decide +kernel)
theorem q3_29 : (Jvm.Cond.instanceMethod ({ cls := "HintedStems", name := "even", desc := "(I)I" } : Jvm.MethodName)) ∈ hWall := hWall_of (tb3 (List.mem_of_getElem? (i := 29) (by decide +kernel))) (by decide +kernel)
theorem q3_30 : (Jvm.Cond.selects "HintedStems" ({ cls := "HintedStems", name := "even", desc := "(I)I" } : Jvm.MethodName) ({ cls := "HintedStems", name := "even", desc := "(I)I" } : Jvm.MethodName)) ∈ hWall := hWall_of (tb3 (List.mem_of_getElem? (i := 30) (by decide +kernel))) (by decide +kernel)
theorem q3_31 : (Jvm.Cond.code ({ cls := "HintedStems", name := "even", desc := "(I)I" } : Jvm.MethodName) prog_1_method_16_code (2 : Nat) (Option.some Jvm.ClassFile.FieldType.int)) ∈ hWall := hWall_of (tb3 (List.mem_of_getElem? (i := 31) (by decide +kernel))) (by decide +kernel)
theorem q3_32 : (Jvm.Cond.methodLink "HintedStems" (190 : Nat) ({ cls := "HintedStems$Fit", name := "isEven", desc := "(LHintedStems$Font;I)Z" } : Jvm.MethodName)) ∈ hWall := hWall_of (tb3 (List.mem_of_getElem? (i := 32) (by decide +kernel))) (by decide +kernel)
theorem q3_33 : (Jvm.Cond.instanceMethod ({ cls := "HintedStems$Fit", name := "isEven", desc := "(LHintedStems$Font;I)Z" } : Jvm.MethodName)) ∈ hWall := hWall_of (tb3 (List.mem_of_getElem? (i := 33) (by decide +kernel))) (by decide +kernel)
theorem q3_34 : (Jvm.Cond.selects "HintedStems$Fit" ({ cls := "HintedStems$Fit", name := "isEven", desc := "(LHintedStems$Font;I)Z" } : Jvm.MethodName) ({ cls := "HintedStems$Fit", name := "isEven", desc := "(LHintedStems$Font;I)Z" } : Jvm.MethodName)) ∈ hWall := hWall_of (tb3 (List.mem_of_getElem? (i := 34) (by decide +kernel))) (by decide +kernel)
theorem q3_35 : (Jvm.Cond.code ({ cls := "HintedStems$Fit", name := "isEven", desc := "(LHintedStems$Font;I)Z" } : Jvm.MethodName) prog_2_method_5_code (4 : Nat) (Option.some Jvm.ClassFile.FieldType.boolean)) ∈ hWall := hWall_of (tb3 (List.mem_of_getElem? (i := 35) (by decide +kernel))) (by decide +kernel)
theorem q3_36 : (Jvm.Cond.methodLink "HintedStems$Fit" (93 : Nat) ({ cls := "HintedStems$Fit", name := "isEvenAhead", desc := "(LHintedStems$Font;I)Z" } : Jvm.MethodName)) ∈ hWall := hWall_of (tb3 (List.mem_of_getElem? (i := 36) (by decide +kernel))) (by decide +kernel)
theorem q3_37 : (Jvm.Cond.privateMethod ({ cls := "HintedStems$Fit", name := "isEvenAhead", desc := "(LHintedStems$Font;I)Z" } : Jvm.MethodName)) ∈ lw_tbl := tb3 (List.mem_of_getElem? (i := 37) (by decide +kernel))
theorem q3_38 : (Jvm.Cond.instanceMethod ({ cls := "HintedStems$Fit", name := "isEvenAhead", desc := "(LHintedStems$Font;I)Z" } : Jvm.MethodName)) ∈ hWall := hWall_of (tb3 (List.mem_of_getElem? (i := 38) (by decide +kernel))) (by decide +kernel)
theorem q3_39 : (Jvm.Cond.code ({ cls := "HintedStems$Fit", name := "isEvenAhead", desc := "(LHintedStems$Font;I)Z" } : Jvm.MethodName) prog_2_method_6_code (6 : Nat) (Option.some Jvm.ClassFile.FieldType.boolean)) ∈ hWall := hWall_of (tb3 (List.mem_of_getElem? (i := 39) (by decide +kernel))) (by decide +kernel)
theorem q3_40 : (Jvm.Cond.methodLink "HintedStems$Fit" (97 : Nat) ({ cls := "java/lang/Math", name := "abs", desc := "(I)I" } : Jvm.MethodName)) ∈ hWall := hWall_of (tb3 (List.mem_of_getElem? (i := 40) (by decide +kernel))) (by decide +kernel)
theorem q3_41 : (Jvm.Cond.methodLink "HintedStemsLaw" (77 : Nat) ({ cls := "HintedStems", name := "clear", desc := "(I)I" } : Jvm.MethodName)) ∈ hWall := hWall_of (tb3 (List.mem_of_getElem? (i := 41) (by decide +kernel))) (by decide +kernel)
theorem q3_42 : (Jvm.Cond.instanceMethod ({ cls := "HintedStems", name := "clear", desc := "(I)I" } : Jvm.MethodName)) ∈ hWall := hWall_of (tb3 (List.mem_of_getElem? (i := 42) (by decide +kernel))) (by decide +kernel)
theorem q3_43 : (Jvm.Cond.selects "HintedStems" ({ cls := "HintedStems", name := "clear", desc := "(I)I" } : Jvm.MethodName) ({ cls := "HintedStems", name := "clear", desc := "(I)I" } : Jvm.MethodName)) ∈ hWall := hWall_of (tb3 (List.mem_of_getElem? (i := 43) (by decide +kernel))) (by decide +kernel)
theorem q3_44 : (Jvm.Cond.code ({ cls := "HintedStems", name := "clear", desc := "(I)I" } : Jvm.MethodName) prog_1_method_17_code (3 : Nat) (Option.some Jvm.ClassFile.FieldType.int)) ∈ hWall := hWall_of (tb3 (List.mem_of_getElem? (i := 44) (by decide +kernel))) (by decide +kernel)
theorem q3_45 : (Jvm.Cond.methodLink "HintedStemsLaw" (81 : Nat) ({ cls := "HintedStems", name := "best", desc := "(III)I" } : Jvm.MethodName)) ∈ hWall := hWall_of (tb3 (List.mem_of_getElem? (i := 45) (by decide +kernel))) (by decide +kernel)
theorem q3_46 : (Jvm.Cond.instanceMethod ({ cls := "HintedStems", name := "best", desc := "(III)I" } : Jvm.MethodName)) ∈ hWall := hWall_of (tb3 (List.mem_of_getElem? (i := 46) (by decide +kernel))) (by decide +kernel)
theorem q3_47 : (Jvm.Cond.selects "HintedStems" ({ cls := "HintedStems", name := "best", desc := "(III)I" } : Jvm.MethodName) ({ cls := "HintedStems", name := "best", desc := "(III)I" } : Jvm.MethodName)) ∈ hWall := hWall_of (tb3 (List.mem_of_getElem? (i := 47) (by decide +kernel))) (by decide +kernel)
theorem q3_48 : (Jvm.Cond.code ({ cls := "HintedStems", name := "best", desc := "(III)I" } : Jvm.MethodName) prog_1_method_18_code (8 : Nat) (Option.some Jvm.ClassFile.FieldType.int)) ∈ hWall := hWall_of (tb3 (List.mem_of_getElem? (i := 48) (by decide +kernel))) (by decide +kernel)
theorem q3_49 : (Jvm.Cond.methodLink "HintedStems" (194 : Nat) ({ cls := "HintedStems$Font", name := "copy", desc := "(LHintedStems$Font;)V" } : Jvm.MethodName)) ∈ hWall := hWall_of (tb3 (List.mem_of_getElem? (i := 49) (by decide +kernel))) (by decide +kernel)
theorem q3_50 : (Jvm.Cond.methodLink "HintedStems" (197 : Nat) ({ cls := "HintedStems", name := "put", desc := "([III)V" } : Jvm.MethodName)) ∈ hWall := hWall_of (tb3 (List.mem_of_getElem? (i := 50) (by decide +kernel))) (by decide +kernel)
theorem q3_51 : (Jvm.Cond.methodLink "HintedStems" (201 : Nat) ({ cls := "HintedStems", name := "clearSizes", desc := "(LHintedStems$Font;I)I" } : Jvm.MethodName)) ∈ hWall := hWall_of (tb3 (List.mem_of_getElem? (i := 51) (by decide +kernel))) (by decide +kernel)
theorem q3_52 : (Jvm.Cond.privateMethod ({ cls := "HintedStems", name := "clearSizes", desc := "(LHintedStems$Font;I)I" } : Jvm.MethodName)) ∈ lw_tbl := tb3 (List.mem_of_getElem? (i := 52) (by decide +kernel))
theorem q3_53 : (Jvm.Cond.instanceMethod ({ cls := "HintedStems", name := "clearSizes", desc := "(LHintedStems$Font;I)I" } : Jvm.MethodName)) ∈ hWall := hWall_of (tb3 (List.mem_of_getElem? (i := 53) (by decide +kernel))) (by decide +kernel)
theorem q3_54 : (Jvm.Cond.code ({ cls := "HintedStems", name := "clearSizes", desc := "(LHintedStems$Font;I)I" } : Jvm.MethodName) prog_1_method_27_code (5 : Nat) (Option.some Jvm.ClassFile.FieldType.int)) ∈ hWall := hWall_of (tb3 (List.mem_of_getElem? (i := 54) (by decide +kernel))) (by decide +kernel)
theorem q3_55 : (Jvm.Cond.methodLink "HintedStemsLaw" (85 : Nat) ({ cls := "HintedStems", name := "mean", desc := "()I" } : Jvm.MethodName)) ∈ hWall := hWall_of (tb3 (List.mem_of_getElem? (i := 55) (by decide +kernel))) (by decide +kernel)
theorem q3_56 : (Jvm.Cond.instanceMethod ({ cls := "HintedStems", name := "mean", desc := "()I" } : Jvm.MethodName)) ∈ hWall := hWall_of (tb3 (List.mem_of_getElem? (i := 56) (by decide +kernel))) (by decide +kernel)
theorem q3_57 : (Jvm.Cond.selects "HintedStems" ({ cls := "HintedStems", name := "mean", desc := "()I" } : Jvm.MethodName) ({ cls := "HintedStems", name := "mean", desc := "()I" } : Jvm.MethodName)) ∈ hWall := hWall_of (tb3 (List.mem_of_getElem? (i := 57) (by decide +kernel))) (by decide +kernel)
theorem q3_58 : (Jvm.Cond.code ({ cls := "HintedStems", name := "mean", desc := "()I" } : Jvm.MethodName) prog_1_method_19_code (2 : Nat) (Option.some Jvm.ClassFile.FieldType.int)) ∈ hWall := hWall_of (tb3 (List.mem_of_getElem? (i := 58) (by decide +kernel))) (by decide +kernel)
theorem q3_59 : (Jvm.Cond.methodLink "HintedStems" (205 : Nat) ({ cls := "HintedStems$Font", name := "stemsTogether", desc := "()I" } : Jvm.MethodName)) ∈ hWall := hWall_of (tb3 (List.mem_of_getElem? (i := 59) (by decide +kernel))) (by decide +kernel)
theorem q3_60 : (Jvm.Cond.instanceMethod ({ cls := "HintedStems$Font", name := "stemsTogether", desc := "()I" } : Jvm.MethodName)) ∈ hWall := hWall_of (tb3 (List.mem_of_getElem? (i := 60) (by decide +kernel))) (by decide +kernel)
theorem q3_61 : (Jvm.Cond.selects "HintedStems$Font" ({ cls := "HintedStems$Font", name := "stemsTogether", desc := "()I" } : Jvm.MethodName) ({ cls := "HintedStems$Font", name := "stemsTogether", desc := "()I" } : Jvm.MethodName)) ∈ hWall := hWall_of (tb3 (List.mem_of_getElem? (i := 61) (by decide +kernel))) (by decide +kernel)
theorem q3_62 : (Jvm.Cond.code ({ cls := "HintedStems$Font", name := "stemsTogether", desc := "()I" } : Jvm.MethodName) prog_3_method_25_code (3 : Nat) (Option.some Jvm.ClassFile.FieldType.int)) ∈ hWall := hWall_of (tb3 (List.mem_of_getElem? (i := 62) (by decide +kernel))) (by decide +kernel)
theorem q3_63 : (Jvm.Cond.methodLink "HintedStems" (209 : Nat) ({ cls := "HintedStems$Font", name := "widthsTogether", desc := "()I" } : Jvm.MethodName)) ∈ hWall := hWall_of (tb3 (List.mem_of_getElem? (i := 63) (by decide +kernel))) (by decide +kernel)
theorem q3_64 : (Jvm.Cond.instanceMethod ({ cls := "HintedStems$Font", name := "widthsTogether", desc := "()I" } : Jvm.MethodName)) ∈ hWall := hWall_of (tb3 (List.mem_of_getElem? (i := 64) (by decide +kernel))) (by decide +kernel)
theorem q3_65 : (Jvm.Cond.selects "HintedStems$Font" ({ cls := "HintedStems$Font", name := "widthsTogether", desc := "()I" } : Jvm.MethodName) ({ cls := "HintedStems$Font", name := "widthsTogether", desc := "()I" } : Jvm.MethodName)) ∈ hWall := hWall_of (tb3 (List.mem_of_getElem? (i := 65) (by decide +kernel))) (by decide +kernel)
theorem q3_66 : (Jvm.Cond.code ({ cls := "HintedStems$Font", name := "widthsTogether", desc := "()I" } : Jvm.MethodName) prog_3_method_26_code (3 : Nat) (Option.some Jvm.ClassFile.FieldType.int)) ∈ hWall := hWall_of (tb3 (List.mem_of_getElem? (i := 66) (by decide +kernel))) (by decide +kernel)
theorem q3_67 : (Jvm.Cond.methodLink "HintedStems" (212 : Nat) ({ cls := "HintedStems", name := "bitsOf", desc := "(F)I" } : Jvm.MethodName)) ∈ hWall := hWall_of (tb3 (List.mem_of_getElem? (i := 67) (by decide +kernel))) (by decide +kernel)
theorem q3_68 : (Jvm.Cond.static ({ cls := "HintedStems", name := "bitsOf", desc := "(F)I" } : Jvm.MethodName)) ∈ hWall := hWall_of (tb3 (List.mem_of_getElem? (i := 68) (by decide +kernel))) (by decide +kernel)
theorem q3_69 : (Jvm.Cond.code ({ cls := "HintedStems", name := "bitsOf", desc := "(F)I" } : Jvm.MethodName) prog_1_method_37_code (3 : Nat) (Option.some Jvm.ClassFile.FieldType.int)) ∈ hWall := hWall_of (tb3 (List.mem_of_getElem? (i := 69) (by decide +kernel))) (by decide +kernel)
theorem q3_70 : (Jvm.Cond.constantFloat "HintedStems" (286 : Nat) (1258291200 : UInt32)) ∈ hWall := hWall_of (tb3 (List.mem_of_getElem? (i := 70) (by decide +kernel))) (by decide +kernel)
theorem q3_71 : (Jvm.Cond.methodLink "HintedStemsLaw" (90 : Nat) ({ cls := "HintedStems", name := "count", desc := "(I)I" } : Jvm.MethodName)) ∈ hWall := hWall_of (tb3 (List.mem_of_getElem? (i := 71) (by decide +kernel))) (by decide +kernel)
theorem q3_72 : (Jvm.Cond.instanceMethod ({ cls := "HintedStems", name := "count", desc := "(I)I" } : Jvm.MethodName)) ∈ hWall := hWall_of (tb3 (List.mem_of_getElem? (i := 72) (by decide +kernel))) (by decide +kernel)
theorem q3_73 : (Jvm.Cond.selects "HintedStems" ({ cls := "HintedStems", name := "count", desc := "(I)I" } : Jvm.MethodName) ({ cls := "HintedStems", name := "count", desc := "(I)I" } : Jvm.MethodName)) ∈ hWall := hWall_of (tb3 (List.mem_of_getElem? (i := 73) (by decide +kernel))) (by decide +kernel)
theorem q3_74 : (Jvm.Cond.code ({ cls := "HintedStems", name := "count", desc := "(I)I" } : Jvm.MethodName) prog_1_method_20_code (2 : Nat) (Option.some Jvm.ClassFile.FieldType.int)) ∈ hWall := hWall_of (tb3 (List.mem_of_getElem? (i := 74) (by decide +kernel))) (by decide +kernel)
theorem q3_75 : (Jvm.Cond.methodLink "HintedStems" (221 : Nat) ({ cls := "HintedStems$Sheets", name := "held", desc := "()I" } : Jvm.MethodName)) ∈ hWall := hWall_of (tb3 (List.mem_of_getElem? (i := 75) (by decide +kernel))) (by decide +kernel)
theorem q3_76 : (Jvm.Cond.methodLink "HintedStems" (224 : Nat) ({ cls := "HintedStems", name := "staleSheets", desc := "()I" } : Jvm.MethodName)) ∈ hWall := hWall_of (tb3 (List.mem_of_getElem? (i := 76) (by decide +kernel))) (by decide +kernel)
theorem q3_77 : (Jvm.Cond.privateMethod ({ cls := "HintedStems", name := "staleSheets", desc := "()I" } : Jvm.MethodName)) ∈ lw_tbl := tb3 (List.mem_of_getElem? (i := 77) (by decide +kernel))
theorem q3_78 : (Jvm.Cond.instanceMethod ({ cls := "HintedStems", name := "staleSheets", desc := "()I" } : Jvm.MethodName)) ∈ hWall := hWall_of (tb3 (List.mem_of_getElem? (i := 78) (by decide +kernel))) (by decide +kernel)
theorem q3_79 : (Jvm.Cond.code ({ cls := "HintedStems", name := "staleSheets", desc := "()I" } : Jvm.MethodName) prog_1_method_28_code (3 : Nat) (Option.some Jvm.ClassFile.FieldType.int)) ∈ hWall := hWall_of (tb3 (List.mem_of_getElem? (i := 79) (by decide +kernel))) (by decide +kernel)
theorem q3_80 : (Jvm.Cond.methodLink "HintedStems" (276 : Nat) ({ cls := "HintedStems$Sheets", name := "isMade", desc := "(I)Z" } : Jvm.MethodName)) ∈ hWall := hWall_of (tb3 (List.mem_of_getElem? (i := 80) (by decide +kernel))) (by decide +kernel)
theorem q3_81 : (Jvm.Cond.methodLink "HintedStems" (227 : Nat) ({ cls := "HintedStems$Font", name := "unlikeWidths", desc := "()I" } : Jvm.MethodName)) ∈ hWall := hWall_of (tb3 (List.mem_of_getElem? (i := 81) (by decide +kernel))) (by decide +kernel)
theorem q3_82 : (Jvm.Cond.instanceMethod ({ cls := "HintedStems$Font", name := "unlikeWidths", desc := "()I" } : Jvm.MethodName)) ∈ hWall := hWall_of (tb3 (List.mem_of_getElem? (i := 82) (by decide +kernel))) (by decide +kernel)
theorem q3_83 : (Jvm.Cond.selects "HintedStems$Font" ({ cls := "HintedStems$Font", name := "unlikeWidths", desc := "()I" } : Jvm.MethodName) ({ cls := "HintedStems$Font", name := "unlikeWidths", desc := "()I" } : Jvm.MethodName)) ∈ hWall := hWall_of (tb3 (List.mem_of_getElem? (i := 83) (by decide +kernel))) (by decide +kernel)
theorem q3_84 : (Jvm.Cond.code ({ cls := "HintedStems$Font", name := "unlikeWidths", desc := "()I" } : Jvm.MethodName) prog_3_method_23_code (3 : Nat) (Option.some Jvm.ClassFile.FieldType.int)) ∈ hWall := hWall_of (tb3 (List.mem_of_getElem? (i := 84) (by decide +kernel))) (by decide +kernel)
theorem q3_85 : (Jvm.Cond.methodLink "HintedStems$Font" (159 : Nat) ({ cls := "HintedStems$Font", name := "isAlikeAhead", desc := "(I)Z" } : Jvm.MethodName)) ∈ hWall := hWall_of (tb3 (List.mem_of_getElem? (i := 85) (by decide +kernel))) (by decide +kernel)
theorem q3_86 : (Jvm.Cond.privateMethod ({ cls := "HintedStems$Font", name := "isAlikeAhead", desc := "(I)Z" } : Jvm.MethodName)) ∈ lw_tbl := tb3 (List.mem_of_getElem? (i := 86) (by decide +kernel))
theorem q3_87 : (Jvm.Cond.instanceMethod ({ cls := "HintedStems$Font", name := "isAlikeAhead", desc := "(I)Z" } : Jvm.MethodName)) ∈ hWall := hWall_of (tb3 (List.mem_of_getElem? (i := 87) (by decide +kernel))) (by decide +kernel)
theorem q3_88 : (Jvm.Cond.code ({ cls := "HintedStems$Font", name := "isAlikeAhead", desc := "(I)Z" } : Jvm.MethodName) prog_3_method_24_code (4 : Nat) (Option.some Jvm.ClassFile.FieldType.boolean)) ∈ hWall := hWall_of (tb3 (List.mem_of_getElem? (i := 88) (by decide +kernel))) (by decide +kernel)
theorem q3_89 : (Jvm.Cond.methodLink "HintedStemsLaw" (94 : Nat) ({ cls := "HintedStems", name := "undo", desc := "()I" } : Jvm.MethodName)) ∈ hWall := hWall_of (tb3 (List.mem_of_getElem? (i := 89) (by decide +kernel))) (by decide +kernel)
theorem q3_90 : (Jvm.Cond.instanceMethod ({ cls := "HintedStems", name := "undo", desc := "()I" } : Jvm.MethodName)) ∈ hWall := hWall_of (tb3 (List.mem_of_getElem? (i := 90) (by decide +kernel))) (by decide +kernel)
theorem q3_91 : (Jvm.Cond.selects "HintedStems" ({ cls := "HintedStems", name := "undo", desc := "()I" } : Jvm.MethodName) ({ cls := "HintedStems", name := "undo", desc := "()I" } : Jvm.MethodName)) ∈ hWall := hWall_of (tb3 (List.mem_of_getElem? (i := 91) (by decide +kernel))) (by decide +kernel)
theorem q3_92 : (Jvm.Cond.code ({ cls := "HintedStems", name := "undo", desc := "()I" } : Jvm.MethodName) prog_1_method_21_code (1 : Nat) (Option.some Jvm.ClassFile.FieldType.int)) ∈ hWall := hWall_of (tb3 (List.mem_of_getElem? (i := 92) (by decide +kernel))) (by decide +kernel)
theorem q3_93 : (Jvm.Cond.methodLink "HintedStems" (248 : Nat) ({ cls := "HintedStems$History", name := "giveBack", desc := "(LHintedStems$Font;)Z" } : Jvm.MethodName)) ∈ hWall := hWall_of (tb3 (List.mem_of_getElem? (i := 93) (by decide +kernel))) (by decide +kernel)
theorem q3_94 : (Jvm.Cond.instanceMethod ({ cls := "HintedStems$History", name := "giveBack", desc := "(LHintedStems$Font;)Z" } : Jvm.MethodName)) ∈ hWall := hWall_of (tb3 (List.mem_of_getElem? (i := 94) (by decide +kernel))) (by decide +kernel)
theorem q3_95 : (Jvm.Cond.selects "HintedStems$History" ({ cls := "HintedStems$History", name := "giveBack", desc := "(LHintedStems$Font;)Z" } : Jvm.MethodName) ({ cls := "HintedStems$History", name := "giveBack", desc := "(LHintedStems$Font;)Z" } : Jvm.MethodName)) ∈ hWall := hWall_of (tb3 (List.mem_of_getElem? (i := 95) (by decide +kernel))) (by decide +kernel)
theorem q3_96 : (Jvm.Cond.code ({ cls := "HintedStems$History", name := "giveBack", desc := "(LHintedStems$Font;)Z" } : Jvm.MethodName) prog_4_method_4_code (3 : Nat) (Option.some Jvm.ClassFile.FieldType.boolean)) ∈ hWall := hWall_of (tb3 (List.mem_of_getElem? (i := 96) (by decide +kernel))) (by decide +kernel)
theorem q3_97 : (Jvm.Cond.constant "HintedStems" (252 : Nat) (-1000002 : Int32)) ∈ hWall := hWall_of (tb3 (List.mem_of_getElem? (i := 97) (by decide +kernel))) (by decide +kernel)
theorem q3_98 : (Jvm.Cond.methodLink "HintedStemsLaw" (98 : Nat) ({ cls := "HintedStems", name := "type", desc := "(I)I" } : Jvm.MethodName)) ∈ hWall := hWall_of (tb3 (List.mem_of_getElem? (i := 98) (by decide +kernel))) (by decide +kernel)
theorem q3_99 : (Jvm.Cond.instanceMethod ({ cls := "HintedStems", name := "type", desc := "(I)I" } : Jvm.MethodName)) ∈ hWall := hWall_of (tb3 (List.mem_of_getElem? (i := 99) (by decide +kernel))) (by decide +kernel)
theorem q3_100 : (Jvm.Cond.selects "HintedStems" ({ cls := "HintedStems", name := "type", desc := "(I)I" } : Jvm.MethodName) ({ cls := "HintedStems", name := "type", desc := "(I)I" } : Jvm.MethodName)) ∈ hWall := hWall_of (tb3 (List.mem_of_getElem? (i := 100) (by decide +kernel))) (by decide +kernel)
theorem q3_101 : (Jvm.Cond.code ({ cls := "HintedStems", name := "type", desc := "(I)I" } : Jvm.MethodName) prog_1_method_22_code (2 : Nat) (Option.some Jvm.ClassFile.FieldType.int)) ∈ hWall := hWall_of (tb3 (List.mem_of_getElem? (i := 101) (by decide +kernel))) (by decide +kernel)
theorem q3_102 : (Jvm.Cond.methodLink "HintedStems" (253 : Nat) ({ cls := "HintedStems$Orders", name := "append", desc := "(I)Z" } : Jvm.MethodName)) ∈ hWall := hWall_of (tb3 (List.mem_of_getElem? (i := 102) (by decide +kernel))) (by decide +kernel)
theorem q3_103 : (Jvm.Cond.instanceMethod ({ cls := "HintedStems$Orders", name := "append", desc := "(I)Z" } : Jvm.MethodName)) ∈ hWall := hWall_of (tb3 (List.mem_of_getElem? (i := 103) (by decide +kernel))) (by decide +kernel)
theorem q3_104 : (Jvm.Cond.selects "HintedStems$Orders" ({ cls := "HintedStems$Orders", name := "append", desc := "(I)Z" } : Jvm.MethodName) ({ cls := "HintedStems$Orders", name := "append", desc := "(I)Z" } : Jvm.MethodName)) ∈ hWall := hWall_of (tb3 (List.mem_of_getElem? (i := 104) (by decide +kernel))) (by decide +kernel)
theorem q3_105 : (Jvm.Cond.code ({ cls := "HintedStems$Orders", name := "append", desc := "(I)Z" } : Jvm.MethodName) prog_5_method_2_code (2 : Nat) (Option.some Jvm.ClassFile.FieldType.boolean)) ∈ hWall := hWall_of (tb3 (List.mem_of_getElem? (i := 105) (by decide +kernel))) (by decide +kernel)
theorem q3_106 : (Jvm.Cond.methodLinkNest "HintedStems$Orders" (22 : Nat) ({ cls := "HintedStems", name := "put", desc := "([III)V" } : Jvm.MethodName) "HintedStems") ∈ hNestL := hNest_of (tb3 (List.mem_of_getElem? (i := 106) (by decide +kernel))) rfl
theorem q3_107 : (Jvm.Cond.constant "HintedStems" (256 : Nat) (-1000003 : Int32)) ∈ hWall := hWall_of (tb3 (List.mem_of_getElem? (i := 107) (by decide +kernel))) (by decide +kernel)
theorem q3_108 : (Jvm.Cond.methodLink "HintedStemsLaw" (102 : Nat) ({ cls := "HintedStems", name := "clearText", desc := "()I" } : Jvm.MethodName)) ∈ hWall := hWall_of (tb3 (List.mem_of_getElem? (i := 108) (by decide +kernel))) (by decide +kernel)
theorem q3_109 : (Jvm.Cond.instanceMethod ({ cls := "HintedStems", name := "clearText", desc := "()I" } : Jvm.MethodName)) ∈ hWall := hWall_of (tb3 (List.mem_of_getElem? (i := 109) (by decide +kernel))) (by decide +kernel)
theorem q3_110 : (Jvm.Cond.selects "HintedStems" ({ cls := "HintedStems", name := "clearText", desc := "()I" } : Jvm.MethodName) ({ cls := "HintedStems", name := "clearText", desc := "()I" } : Jvm.MethodName)) ∈ hWall := hWall_of (tb3 (List.mem_of_getElem? (i := 110) (by decide +kernel))) (by decide +kernel)
theorem q3_111 : (Jvm.Cond.code ({ cls := "HintedStems", name := "clearText", desc := "()I" } : Jvm.MethodName) prog_1_method_23_code (2 : Nat) (Option.some Jvm.ClassFile.FieldType.int)) ∈ hWall := hWall_of (tb3 (List.mem_of_getElem? (i := 111) (by decide +kernel))) (by decide +kernel)
theorem q3_112 : (Jvm.Cond.methodLink "HintedStemsLaw" (106 : Nat) ({ cls := "HintedStems", name := "fault", desc := "(I)I" } : Jvm.MethodName)) ∈ hWall := hWall_of (tb3 (List.mem_of_getElem? (i := 112) (by decide +kernel))) (by decide +kernel)
theorem q3_113 : (Jvm.Cond.instanceMethod ({ cls := "HintedStems", name := "fault", desc := "(I)I" } : Jvm.MethodName)) ∈ hWall := hWall_of (tb3 (List.mem_of_getElem? (i := 113) (by decide +kernel))) (by decide +kernel)
theorem q3_114 : (Jvm.Cond.selects "HintedStems" ({ cls := "HintedStems", name := "fault", desc := "(I)I" } : Jvm.MethodName) ({ cls := "HintedStems", name := "fault", desc := "(I)I" } : Jvm.MethodName)) ∈ hWall := hWall_of (tb3 (List.mem_of_getElem? (i := 114) (by decide +kernel))) (by decide +kernel)
theorem q3_115 : (Jvm.Cond.code ({ cls := "HintedStems", name := "fault", desc := "(I)I" } : Jvm.MethodName) prog_1_method_24_code (2 : Nat) (Option.some Jvm.ClassFile.FieldType.int)) ∈ hWall := hWall_of (tb3 (List.mem_of_getElem? (i := 115) (by decide +kernel))) (by decide +kernel)
theorem q3_116 : (Jvm.Cond.methodLink "HintedStems" (257 : Nat) ({ cls := "HintedStems$Orders", name := "run", desc := "(LHintedStems$Font;LHintedStems$Fit;)V" } : Jvm.MethodName)) ∈ hWall := hWall_of (tb3 (List.mem_of_getElem? (i := 116) (by decide +kernel))) (by decide +kernel)
theorem q3_117 : (Jvm.Cond.instanceMethod ({ cls := "HintedStems$Orders", name := "run", desc := "(LHintedStems$Font;LHintedStems$Fit;)V" } : Jvm.MethodName)) ∈ hWall := hWall_of (tb3 (List.mem_of_getElem? (i := 117) (by decide +kernel))) (by decide +kernel)
theorem q3_118 : (Jvm.Cond.selects "HintedStems$Orders" ({ cls := "HintedStems$Orders", name := "run", desc := "(LHintedStems$Font;LHintedStems$Fit;)V" } : Jvm.MethodName) ({ cls := "HintedStems$Orders", name := "run", desc := "(LHintedStems$Font;LHintedStems$Fit;)V" } : Jvm.MethodName)) ∈ hWall := hWall_of (tb3 (List.mem_of_getElem? (i := 118) (by decide +kernel))) (by decide +kernel)
theorem q3_119 : (Jvm.Cond.code ({ cls := "HintedStems$Orders", name := "run", desc := "(LHintedStems$Font;LHintedStems$Fit;)V" } : Jvm.MethodName) prog_5_method_3_code (6 : Nat) (Option.none : Option Jvm.ClassFile.FieldType)) ∈ hWall := hWall_of (tb3 (List.mem_of_getElem? (i := 119) (by decide +kernel))) (by decide +kernel)
theorem q3_120 : (Jvm.Cond.methodLink "HintedStems$Orders" (32 : Nat) ({ cls := "HintedStems$Orders", name := "isOrder", desc := "(I)Z" } : Jvm.MethodName)) ∈ hWall := hWall_of (tb3 (List.mem_of_getElem? (i := 120) (by decide +kernel))) (by decide +kernel)
theorem q3_121 : (Jvm.Cond.privateMethod ({ cls := "HintedStems$Orders", name := "isOrder", desc := "(I)Z" } : Jvm.MethodName)) ∈ lw_tbl := tb3 (List.mem_of_getElem? (i := 121) (by decide +kernel))
theorem q3_122 : (Jvm.Cond.instanceMethod ({ cls := "HintedStems$Orders", name := "isOrder", desc := "(I)Z" } : Jvm.MethodName)) ∈ hWall := hWall_of (tb3 (List.mem_of_getElem? (i := 122) (by decide +kernel))) (by decide +kernel)
theorem q3_123 : (Jvm.Cond.code ({ cls := "HintedStems$Orders", name := "isOrder", desc := "(I)Z" } : Jvm.MethodName) prog_5_method_6_code (4 : Nat) (Option.some Jvm.ClassFile.FieldType.boolean)) ∈ hWall := hWall_of (tb3 (List.mem_of_getElem? (i := 123) (by decide +kernel))) (by decide +kernel)
theorem q3_124 : (Jvm.Cond.methodLink "HintedStems$Orders" (43 : Nat) ({ cls := "HintedStems$Orders", name := "signAt", desc := "(I)I" } : Jvm.MethodName)) ∈ hWall := hWall_of (tb3 (List.mem_of_getElem? (i := 124) (by decide +kernel))) (by decide +kernel)
theorem q3_125 : (Jvm.Cond.privateMethod ({ cls := "HintedStems$Orders", name := "signAt", desc := "(I)I" } : Jvm.MethodName)) ∈ lw_tbl := tb3 (List.mem_of_getElem? (i := 125) (by decide +kernel))
theorem q3_126 : (Jvm.Cond.instanceMethod ({ cls := "HintedStems$Orders", name := "signAt", desc := "(I)I" } : Jvm.MethodName)) ∈ hWall := hWall_of (tb3 (List.mem_of_getElem? (i := 126) (by decide +kernel))) (by decide +kernel)
theorem q3_127 : (Jvm.Cond.code ({ cls := "HintedStems$Orders", name := "signAt", desc := "(I)I" } : Jvm.MethodName) prog_5_method_5_code (2 : Nat) (Option.some Jvm.ClassFile.FieldType.int)) ∈ hWall := hWall_of (tb3 (List.mem_of_getElem? (i := 127) (by decide +kernel))) (by decide +kernel)
theorem q3_128 : (Jvm.Cond.methodLinkNest "HintedStems$Orders" (57 : Nat) ({ cls := "HintedStems", name := "cell", desc := "([II)I" } : Jvm.MethodName) "HintedStems") ∈ hNestL := hNest_of (tb3 (List.mem_of_getElem? (i := 128) (by decide +kernel))) rfl
theorem q3_129 : (Jvm.Cond.methodLink "HintedStems$Orders" (61 : Nat) ({ cls := "HintedStems$Orders", name := "numbersOf", desc := "(I)I" } : Jvm.MethodName)) ∈ hWall := hWall_of (tb3 (List.mem_of_getElem? (i := 129) (by decide +kernel))) (by decide +kernel)
theorem q3_130 : (Jvm.Cond.static ({ cls := "HintedStems$Orders", name := "numbersOf", desc := "(I)I" } : Jvm.MethodName)) ∈ hWall := hWall_of (tb3 (List.mem_of_getElem? (i := 130) (by decide +kernel))) (by decide +kernel)
theorem q3_131 : (Jvm.Cond.code ({ cls := "HintedStems$Orders", name := "numbersOf", desc := "(I)I" } : Jvm.MethodName) prog_5_method_7_code (1 : Nat) (Option.some Jvm.ClassFile.FieldType.int)) ∈ hWall := hWall_of (tb3 (List.mem_of_getElem? (i := 131) (by decide +kernel))) (by decide +kernel)
theorem q3_132 : (Jvm.Cond.methodLink "HintedStems$Orders" (64 : Nat) ({ cls := "HintedStems$Orders", name := "isNumber", desc := "(I)Z" } : Jvm.MethodName)) ∈ hWall := hWall_of (tb3 (List.mem_of_getElem? (i := 132) (by decide +kernel))) (by decide +kernel)
theorem q3_133 : (Jvm.Cond.privateMethod ({ cls := "HintedStems$Orders", name := "isNumber", desc := "(I)Z" } : Jvm.MethodName)) ∈ lw_tbl := tb3 (List.mem_of_getElem? (i := 133) (by decide +kernel))
theorem q3_134 : (Jvm.Cond.instanceMethod ({ cls := "HintedStems$Orders", name := "isNumber", desc := "(I)Z" } : Jvm.MethodName)) ∈ hWall := hWall_of (tb3 (List.mem_of_getElem? (i := 134) (by decide +kernel))) (by decide +kernel)
theorem q3_135 : (Jvm.Cond.code ({ cls := "HintedStems$Orders", name := "isNumber", desc := "(I)Z" } : Jvm.MethodName) prog_5_method_8_code (4 : Nat) (Option.some Jvm.ClassFile.FieldType.boolean)) ∈ hWall := hWall_of (tb3 (List.mem_of_getElem? (i := 135) (by decide +kernel))) (by decide +kernel)
theorem q3_136 : (Jvm.Cond.methodLinkNest "HintedStems$Orders" (67 : Nat) ({ cls := "HintedStems", name := "within", desc := "(III)Z" } : Jvm.MethodName) "HintedStems") ∈ hNestL := hNest_of (tb3 (List.mem_of_getElem? (i := 136) (by decide +kernel))) rfl
theorem q3_137 : (Jvm.Cond.methodLink "HintedStems$Orders" (39 : Nat) ({ cls := "HintedStems$Orders", name := "tell", desc := "(III)V" } : Jvm.MethodName)) ∈ hWall := hWall_of (tb3 (List.mem_of_getElem? (i := 137) (by decide +kernel))) (by decide +kernel)
theorem q3_138 : (Jvm.Cond.privateMethod ({ cls := "HintedStems$Orders", name := "tell", desc := "(III)V" } : Jvm.MethodName)) ∈ lw_tbl := tb3 (List.mem_of_getElem? (i := 138) (by decide +kernel))
theorem q3_139 : (Jvm.Cond.instanceMethod ({ cls := "HintedStems$Orders", name := "tell", desc := "(III)V" } : Jvm.MethodName)) ∈ hWall := hWall_of (tb3 (List.mem_of_getElem? (i := 139) (by decide +kernel))) (by decide +kernel)
theorem q3_140 : (Jvm.Cond.code ({ cls := "HintedStems$Orders", name := "tell", desc := "(III)V" } : Jvm.MethodName) prog_5_method_4_code (4 : Nat) (Option.none : Option Jvm.ClassFile.FieldType)) ∈ hWall := hWall_of (tb3 (List.mem_of_getElem? (i := 140) (by decide +kernel))) (by decide +kernel)
theorem q3_141 : (Jvm.Cond.methodLink "HintedStems$Orders" (47 : Nat) ({ cls := "HintedStems$Orders", name := "carryOut", desc := "(ILHintedStems$Font;LHintedStems$Fit;)I" } : Jvm.MethodName)) ∈ hWall := hWall_of (tb3 (List.mem_of_getElem? (i := 141) (by decide +kernel))) (by decide +kernel)
theorem q3_142 : (Jvm.Cond.privateMethod ({ cls := "HintedStems$Orders", name := "carryOut", desc := "(ILHintedStems$Font;LHintedStems$Fit;)I" } : Jvm.MethodName)) ∈ lw_tbl := tb3 (List.mem_of_getElem? (i := 142) (by decide +kernel))
theorem q3_143 : (Jvm.Cond.instanceMethod ({ cls := "HintedStems$Orders", name := "carryOut", desc := "(ILHintedStems$Font;LHintedStems$Fit;)I" } : Jvm.MethodName)) ∈ hWall := hWall_of (tb3 (List.mem_of_getElem? (i := 143) (by decide +kernel))) (by decide +kernel)
theorem q3_144 : (Jvm.Cond.code ({ cls := "HintedStems$Orders", name := "carryOut", desc := "(ILHintedStems$Font;LHintedStems$Fit;)I" } : Jvm.MethodName) prog_5_method_9_code (5 : Nat) (Option.some Jvm.ClassFile.FieldType.int)) ∈ hWall := hWall_of (tb3 (List.mem_of_getElem? (i := 144) (by decide +kernel))) (by decide +kernel)
theorem q3_145 : (Jvm.Cond.methodLink "HintedStems$Orders" (71 : Nat) ({ cls := "HintedStems$Font", name := "addGlyph", desc := "(I)I" } : Jvm.MethodName)) ∈ hWall := hWall_of (tb3 (List.mem_of_getElem? (i := 145) (by decide +kernel))) (by decide +kernel)
theorem q3_146 : (Jvm.Cond.methodLink "HintedStems$Orders" (76 : Nat) ({ cls := "HintedStems$Font", name := "addStem", desc := "(III)I" } : Jvm.MethodName)) ∈ hWall := hWall_of (tb3 (List.mem_of_getElem? (i := 146) (by decide +kernel))) (by decide +kernel)
theorem q3_147 : (Jvm.Cond.methodLink "HintedStems$Orders" (80 : Nat) ({ cls := "HintedStems$Font", name := "hintStem", desc := "(III)I" } : Jvm.MethodName)) ∈ hWall := hWall_of (tb3 (List.mem_of_getElem? (i := 147) (by decide +kernel))) (by decide +kernel)
theorem q3_148 : (Jvm.Cond.methodLink "HintedStems$Orders" (83 : Nat) ({ cls := "HintedStems$Font", name := "addStandard", desc := "(I)I" } : Jvm.MethodName)) ∈ hWall := hWall_of (tb3 (List.mem_of_getElem? (i := 148) (by decide +kernel))) (by decide +kernel)
theorem q3_149 : (Jvm.Cond.methodLink "HintedStems$Orders" (86 : Nat) ({ cls := "HintedStems$Font", name := "makeSheet", desc := "(ILHintedStems$Fit;)I" } : Jvm.MethodName)) ∈ hWall := hWall_of (tb3 (List.mem_of_getElem? (i := 149) (by decide +kernel))) (by decide +kernel)
theorem q3_150 : (Jvm.Cond.methodLink "HintedStemsLaw" (110 : Nat) ({ cls := "HintedStems", name := "play", desc := "()I" } : Jvm.MethodName)) ∈ hWall := hWall_of (tb3 (List.mem_of_getElem? (i := 150) (by decide +kernel))) (by decide +kernel)
theorem q3_151 : (Jvm.Cond.instanceMethod ({ cls := "HintedStems", name := "play", desc := "()I" } : Jvm.MethodName)) ∈ hWall := hWall_of (tb3 (List.mem_of_getElem? (i := 151) (by decide +kernel))) (by decide +kernel)
theorem q3_152 : (Jvm.Cond.selects "HintedStems" ({ cls := "HintedStems", name := "play", desc := "()I" } : Jvm.MethodName) ({ cls := "HintedStems", name := "play", desc := "()I" } : Jvm.MethodName)) ∈ hWall := hWall_of (tb3 (List.mem_of_getElem? (i := 152) (by decide +kernel))) (by decide +kernel)
theorem q3_153 : (Jvm.Cond.code ({ cls := "HintedStems", name := "play", desc := "()I" } : Jvm.MethodName) prog_1_method_25_code (1 : Nat) (Option.some Jvm.ClassFile.FieldType.int)) ∈ hWall := hWall_of (tb3 (List.mem_of_getElem? (i := 153) (by decide +kernel))) (by decide +kernel)
theorem q3_154 : (Jvm.Cond.classLink "HintedStemsLaw" (10 : Nat) "HintedStemsModel") ∈ hWall := hWall_of (tb3 (List.mem_of_getElem? (i := 154) (by decide +kernel))) (by decide +kernel)
theorem q3_155 : (Jvm.Cond.instantiable "HintedStemsModel" (17 : Nat)) ∈ hWall := hWall_of (tb3 (List.mem_of_getElem? (i := 155) (by decide +kernel))) (by decide +kernel)
theorem q3_156 : (Jvm.Cond.methodLink "HintedStemsLaw" (12 : Nat) ({ cls := "HintedStemsModel", name := "<init>", desc := "()V" } : Jvm.MethodName)) ∈ hWall := hWall_of (tb3 (List.mem_of_getElem? (i := 156) (by decide +kernel))) (by decide +kernel)
theorem q3_157 : (Jvm.Cond.instanceMethod ({ cls := "HintedStemsModel", name := "<init>", desc := "()V" } : Jvm.MethodName)) ∈ hWall := hWall_of (tb3 (List.mem_of_getElem? (i := 157) (by decide +kernel))) (by decide +kernel)
theorem q3_158 : (Jvm.Cond.code ({ cls := "HintedStemsModel", name := "<init>", desc := "()V" } : Jvm.MethodName) prog_8_method_1_code (1 : Nat) (Option.none : Option Jvm.ClassFile.FieldType)) ∈ hWall := hWall_of (tb3 (List.mem_of_getElem? (i := 158) (by decide +kernel))) (by decide +kernel)
theorem q3_159 : (Jvm.Cond.methodLink "HintedStemsModel" (1 : Nat) ({ cls := "java/lang/Object", name := "<init>", desc := "()V" } : Jvm.MethodName)) ∈ hWall := hWall_of (tb3 (List.mem_of_getElem? (i := 159) (by decide +kernel))) (by decide +kernel)
theorem q3_160 : (Jvm.Cond.fieldLink "HintedStemsModel" (7 : Nat) "HintedStemsModel" "s" "[I") ∈ hWall := hWall_of (tb3 (List.mem_of_getElem? (i := 160) (by decide +kernel))) (by decide +kernel)
theorem q3_161 : (Jvm.Cond.fieldLink "HintedStemsModel" (13 : Nat) "HintedStemsModel" "past" "[I") ∈ hWall := hWall_of (tb3 (List.mem_of_getElem? (i := 161) (by decide +kernel))) (by decide +kernel)
theorem q3_162 : (Jvm.Cond.fieldLink "HintedStemsModel" (16 : Nat) "HintedStemsModel" "held" "[I") ∈ hWall := hWall_of (tb3 (List.mem_of_getElem? (i := 162) (by decide +kernel))) (by decide +kernel)
theorem q3_163 : (Jvm.Cond.fieldLink "HintedStemsModel" (35 : Nat) "HintedStemsModel" "pasts" "I") ∈ hWall := hWall_of (tb3 (List.mem_of_getElem? (i := 163) (by decide +kernel))) (by decide +kernel)
theorem q3_164 : (Jvm.Cond.fieldLink "HintedStemsModel" (31 : Nat) "HintedStemsModel" "runs" "Z") ∈ hWall := hWall_of (tb3 (List.mem_of_getElem? (i := 164) (by decide +kernel))) (by decide +kernel)
theorem q3_165 : (Jvm.Cond.fieldLink "HintedStemsModel" (19 : Nat) "HintedStemsModel" "text" "[I") ∈ hWall := hWall_of (tb3 (List.mem_of_getElem? (i := 165) (by decide +kernel))) (by decide +kernel)
theorem q3_166 : (Jvm.Cond.fieldLink "HintedStemsModel" (172 : Nat) "HintedStemsModel" "typed" "I") ∈ hWall := hWall_of (tb3 (List.mem_of_getElem? (i := 166) (by decide +kernel))) (by decide +kernel)
theorem q3_167 : (Jvm.Cond.fieldLink "HintedStemsModel" (22 : Nat) "HintedStemsModel" "left" "[I") ∈ hWall := hWall_of (tb3 (List.mem_of_getElem? (i := 167) (by decide +kernel))) (by decide +kernel)
theorem q3_168 : (Jvm.Cond.fieldLink "HintedStemsModel" (25 : Nat) "HintedStemsModel" "wide" "[I") ∈ hWall := hWall_of (tb3 (List.mem_of_getElem? (i := 168) (by decide +kernel))) (by decide +kernel)
theorem q3_169 : (Jvm.Cond.fieldLink "HintedStemsModel" (94 : Nat) "HintedStemsModel" "pushed" "I") ∈ hWall := hWall_of (tb3 (List.mem_of_getElem? (i := 169) (by decide +kernel))) (by decide +kernel)
theorem q3_170 : (Jvm.Cond.fieldLink "HintedStemsModel" (175 : Nat) "HintedStemsModel" "spot" "I") ∈ hWall := hWall_of (tb3 (List.mem_of_getElem? (i := 170) (by decide +kernel))) (by decide +kernel)
theorem q3_171 : (Jvm.Cond.fieldLink "HintedStemsModel" (208 : Nat) "HintedStemsModel" "from" "I") ∈ hWall := hWall_of (tb3 (List.mem_of_getElem? (i := 171) (by decide +kernel))) (by decide +kernel)
theorem q3_172 : (Jvm.Cond.fieldLink "HintedStemsModel" (221 : Nat) "HintedStemsModel" "reason" "I") ∈ hWall := hWall_of (tb3 (List.mem_of_getElem? (i := 172) (by decide +kernel))) (by decide +kernel)
theorem q3_173 : (Jvm.Cond.fieldLink "HintedStemsModel" (224 : Nat) "HintedStemsModel" "cause" "I") ∈ hWall := hWall_of (tb3 (List.mem_of_getElem? (i := 173) (by decide +kernel))) (by decide +kernel)
theorem q3_174 : (Jvm.Cond.fieldLink "HintedStemsModel" (211 : Nat) "HintedStemsModel" "orders" "I") ∈ hWall := hWall_of (tb3 (List.mem_of_getElem? (i := 174) (by decide +kernel))) (by decide +kernel)
theorem q3_175 : (Jvm.Cond.fieldLink "HintedStemsModel" (181 : Nat) "HintedStemsModel" "order" "I") ∈ hWall := hWall_of (tb3 (List.mem_of_getElem? (i := 175) (by decide +kernel))) (by decide +kernel)
theorem q3_176 : (Jvm.Cond.fieldLink "HintedStemsModel" (28 : Nat) "HintedStemsModel" "numbers" "[I") ∈ hWall := hWall_of (tb3 (List.mem_of_getElem? (i := 176) (by decide +kernel))) (by decide +kernel)
theorem q3_177 : (Jvm.Cond.laysFinal "HintedStemsModel" "HintedStemsModel" "s" "[I") ∈ hWall := hWall_of (tb3 (List.mem_of_getElem? (i := 177) (by decide +kernel))) (by decide +kernel)
theorem q3_178 : (Jvm.Cond.soleField "HintedStemsModel" "s") ∈ hWall := hWall_of (tb3 (List.mem_of_getElem? (i := 178) (by decide +kernel))) (by decide +kernel)
theorem q3_179 : (Jvm.Cond.laysFinal "HintedStemsModel" "HintedStemsModel" "past" "[I") ∈ hWall := hWall_of (tb3 (List.mem_of_getElem? (i := 179) (by decide +kernel))) (by decide +kernel)
theorem q3_180 : (Jvm.Cond.soleField "HintedStemsModel" "past") ∈ hWall := hWall_of (tb3 (List.mem_of_getElem? (i := 180) (by decide +kernel))) (by decide +kernel)
theorem q3_181 : (Jvm.Cond.laysFinal "HintedStemsModel" "HintedStemsModel" "held" "[I") ∈ hWall := hWall_of (tb3 (List.mem_of_getElem? (i := 181) (by decide +kernel))) (by decide +kernel)
theorem q3_182 : (Jvm.Cond.soleField "HintedStemsModel" "held") ∈ hWall := hWall_of (tb3 (List.mem_of_getElem? (i := 182) (by decide +kernel))) (by decide +kernel)
theorem q3_183 : (Jvm.Cond.lays "HintedStemsModel" "HintedStemsModel" "pasts" "I") ∈ hWall := hWall_of (tb3 (List.mem_of_getElem? (i := 183) (by decide +kernel))) (by decide +kernel)
theorem q3_184 : (Jvm.Cond.soleField "HintedStemsModel" "pasts") ∈ hWall := hWall_of (tb3 (List.mem_of_getElem? (i := 184) (by decide +kernel))) (by decide +kernel)
theorem q3_185 : (Jvm.Cond.lays "HintedStemsModel" "HintedStemsModel" "runs" "Z") ∈ hWall := hWall_of (tb3 (List.mem_of_getElem? (i := 185) (by decide +kernel))) (by decide +kernel)
theorem q3_186 : (Jvm.Cond.soleField "HintedStemsModel" "runs") ∈ hWall := hWall_of (tb3 (List.mem_of_getElem? (i := 186) (by decide +kernel))) (by decide +kernel)
theorem q3_187 : (Jvm.Cond.laysFinal "HintedStemsModel" "HintedStemsModel" "text" "[I") ∈ hWall := hWall_of (tb3 (List.mem_of_getElem? (i := 187) (by decide +kernel))) (by decide +kernel)
theorem q3_188 : (Jvm.Cond.soleField "HintedStemsModel" "text") ∈ hWall := hWall_of (tb3 (List.mem_of_getElem? (i := 188) (by decide +kernel))) (by decide +kernel)
theorem q3_189 : (Jvm.Cond.lays "HintedStemsModel" "HintedStemsModel" "typed" "I") ∈ hWall := hWall_of (tb3 (List.mem_of_getElem? (i := 189) (by decide +kernel))) (by decide +kernel)
theorem q3_190 : (Jvm.Cond.soleField "HintedStemsModel" "typed") ∈ hWall := hWall_of (tb3 (List.mem_of_getElem? (i := 190) (by decide +kernel))) (by decide +kernel)
theorem q3_191 : (Jvm.Cond.laysFinal "HintedStemsModel" "HintedStemsModel" "left" "[I") ∈ hWall := hWall_of (tb3 (List.mem_of_getElem? (i := 191) (by decide +kernel))) (by decide +kernel)
theorem q3_192 : (Jvm.Cond.soleField "HintedStemsModel" "left") ∈ hWall := hWall_of (tb3 (List.mem_of_getElem? (i := 192) (by decide +kernel))) (by decide +kernel)
theorem q3_193 : (Jvm.Cond.laysFinal "HintedStemsModel" "HintedStemsModel" "wide" "[I") ∈ hWall := hWall_of (tb3 (List.mem_of_getElem? (i := 193) (by decide +kernel))) (by decide +kernel)
theorem q3_194 : (Jvm.Cond.soleField "HintedStemsModel" "wide") ∈ hWall := hWall_of (tb3 (List.mem_of_getElem? (i := 194) (by decide +kernel))) (by decide +kernel)
theorem q3_195 : (Jvm.Cond.lays "HintedStemsModel" "HintedStemsModel" "pushed" "I") ∈ hWall := hWall_of (tb3 (List.mem_of_getElem? (i := 195) (by decide +kernel))) (by decide +kernel)
theorem q3_196 : (Jvm.Cond.soleField "HintedStemsModel" "pushed") ∈ hWall := hWall_of (tb3 (List.mem_of_getElem? (i := 196) (by decide +kernel))) (by decide +kernel)
theorem q3_197 : (Jvm.Cond.lays "HintedStemsModel" "HintedStemsModel" "spot" "I") ∈ hWall := hWall_of (tb3 (List.mem_of_getElem? (i := 197) (by decide +kernel))) (by decide +kernel)
theorem q3_198 : (Jvm.Cond.soleField "HintedStemsModel" "spot") ∈ hWall := hWall_of (tb3 (List.mem_of_getElem? (i := 198) (by decide +kernel))) (by decide +kernel)
theorem q3_199 : (Jvm.Cond.lays "HintedStemsModel" "HintedStemsModel" "from" "I") ∈ hWall := hWall_of (tb3 (List.mem_of_getElem? (i := 199) (by decide +kernel))) (by decide +kernel)
theorem q3_200 : (Jvm.Cond.soleField "HintedStemsModel" "from") ∈ hWall := hWall_of (tb3 (List.mem_of_getElem? (i := 200) (by decide +kernel))) (by decide +kernel)
theorem q3_201 : (Jvm.Cond.lays "HintedStemsModel" "HintedStemsModel" "reason" "I") ∈ hWall := hWall_of (tb3 (List.mem_of_getElem? (i := 201) (by decide +kernel))) (by decide +kernel)
theorem q3_202 : (Jvm.Cond.soleField "HintedStemsModel" "reason") ∈ hWall := hWall_of (tb3 (List.mem_of_getElem? (i := 202) (by decide +kernel))) (by decide +kernel)
theorem q3_203 : (Jvm.Cond.lays "HintedStemsModel" "HintedStemsModel" "cause" "I") ∈ hWall := hWall_of (tb3 (List.mem_of_getElem? (i := 203) (by decide +kernel))) (by decide +kernel)
theorem q3_204 : (Jvm.Cond.soleField "HintedStemsModel" "cause") ∈ hWall := hWall_of (tb3 (List.mem_of_getElem? (i := 204) (by decide +kernel))) (by decide +kernel)
theorem q3_205 : (Jvm.Cond.lays "HintedStemsModel" "HintedStemsModel" "orders" "I") ∈ hWall := hWall_of (tb3 (List.mem_of_getElem? (i := 205) (by decide +kernel))) (by decide +kernel)
theorem q3_206 : (Jvm.Cond.soleField "HintedStemsModel" "orders") ∈ hWall := hWall_of (tb3 (List.mem_of_getElem? (i := 206) (by decide +kernel))) (by decide +kernel)
theorem q3_207 : (Jvm.Cond.lays "HintedStemsModel" "HintedStemsModel" "order" "I") ∈ hWall := hWall_of (tb3 (List.mem_of_getElem? (i := 207) (by decide +kernel))) (by decide +kernel)
theorem q3_208 : (Jvm.Cond.soleField "HintedStemsModel" "order") ∈ hWall := hWall_of (tb3 (List.mem_of_getElem? (i := 208) (by decide +kernel))) (by decide +kernel)
theorem q3_209 : (Jvm.Cond.laysFinal "HintedStemsModel" "HintedStemsModel" "numbers" "[I") ∈ hWall := hWall_of (tb3 (List.mem_of_getElem? (i := 209) (by decide +kernel))) (by decide +kernel)
theorem q3_210 : (Jvm.Cond.soleField "HintedStemsModel" "numbers") ∈ hWall := hWall_of (tb3 (List.mem_of_getElem? (i := 210) (by decide +kernel))) (by decide +kernel)
theorem q3_211 : (Jvm.Cond.superclass "HintedStemsModel" "java/lang/Object") ∈ hWall := hWall_of (tb3 (List.mem_of_getElem? (i := 211) (by decide +kernel))) (by decide +kernel)
theorem q3_212 : (Jvm.Cond.methodLink "HintedStemsLaw" (17 : Nat) ({ cls := "HintedStemsModel", name := "glyph", desc := "(I)I" } : Jvm.MethodName)) ∈ hWall := hWall_of (tb3 (List.mem_of_getElem? (i := 212) (by decide +kernel))) (by decide +kernel)
theorem q3_213 : (Jvm.Cond.instanceMethod ({ cls := "HintedStemsModel", name := "glyph", desc := "(I)I" } : Jvm.MethodName)) ∈ hWall := hWall_of (tb3 (List.mem_of_getElem? (i := 213) (by decide +kernel))) (by decide +kernel)
theorem q3_214 : (Jvm.Cond.selects "HintedStemsModel" ({ cls := "HintedStemsModel", name := "glyph", desc := "(I)I" } : Jvm.MethodName) ({ cls := "HintedStemsModel", name := "glyph", desc := "(I)I" } : Jvm.MethodName)) ∈ hWall := hWall_of (tb3 (List.mem_of_getElem? (i := 214) (by decide +kernel))) (by decide +kernel)
theorem q3_215 : (Jvm.Cond.code ({ cls := "HintedStemsModel", name := "glyph", desc := "(I)I" } : Jvm.MethodName) prog_8_method_14_code (3 : Nat) (Option.some Jvm.ClassFile.FieldType.int)) ∈ hWall := hWall_of (tb3 (List.mem_of_getElem? (i := 215) (by decide +kernel))) (by decide +kernel)
theorem q3_216 : (Jvm.Cond.methodLink "HintedStemsModel" (39 : Nat) ({ cls := "HintedStemsModel", name := "in", desc := "(III)Z" } : Jvm.MethodName)) ∈ hWall := hWall_of (tb3 (List.mem_of_getElem? (i := 216) (by decide +kernel))) (by decide +kernel)
theorem q3_217 : (Jvm.Cond.static ({ cls := "HintedStemsModel", name := "in", desc := "(III)Z" } : Jvm.MethodName)) ∈ hWall := hWall_of (tb3 (List.mem_of_getElem? (i := 217) (by decide +kernel))) (by decide +kernel)
theorem q3_218 : (Jvm.Cond.code ({ cls := "HintedStemsModel", name := "in", desc := "(III)Z" } : Jvm.MethodName) prog_8_method_3_code (3 : Nat) (Option.some Jvm.ClassFile.FieldType.boolean)) ∈ hWall := hWall_of (tb3 (List.mem_of_getElem? (i := 218) (by decide +kernel))) (by decide +kernel)
theorem q3_219 : (Jvm.Cond.constant "HintedStemsModel" (58 : Nat) (-1000001 : Int32)) ∈ hWall := hWall_of (tb3 (List.mem_of_getElem? (i := 219) (by decide +kernel))) (by decide +kernel)
theorem q3_220 : (Jvm.Cond.constant "HintedStemsModel" (59 : Nat) (-1000003 : Int32)) ∈ hWall := hWall_of (tb3 (List.mem_of_getElem? (i := 220) (by decide +kernel))) (by decide +kernel)
theorem q3_221 : (Jvm.Cond.methodLink "HintedStemsModel" (60 : Nat) ({ cls := "HintedStemsModel", name := "changes", desc := "()V" } : Jvm.MethodName)) ∈ hWall := hWall_of (tb3 (List.mem_of_getElem? (i := 221) (by decide +kernel))) (by decide +kernel)
theorem q3_222 : (Jvm.Cond.privateMethod ({ cls := "HintedStemsModel", name := "changes", desc := "()V" } : Jvm.MethodName)) ∈ lw_tbl := tb3 (List.mem_of_getElem? (i := 222) (by decide +kernel))
theorem q3_223 : (Jvm.Cond.instanceMethod ({ cls := "HintedStemsModel", name := "changes", desc := "()V" } : Jvm.MethodName)) ∈ hWall := hWall_of (tb3 (List.mem_of_getElem? (i := 223) (by decide +kernel))) (by decide +kernel)
theorem q3_224 : (Jvm.Cond.code ({ cls := "HintedStemsModel", name := "changes", desc := "()V" } : Jvm.MethodName) prog_8_method_6_code (2 : Nat) (Option.none : Option Jvm.ClassFile.FieldType)) ∈ hWall := hWall_of (tb3 (List.mem_of_getElem? (i := 224) (by decide +kernel))) (by decide +kernel)
theorem q3_225 : (Jvm.Cond.methodLink "HintedStemsLaw" (22 : Nat) ({ cls := "HintedStemsModel", name := "stem", desc := "(III)I" } : Jvm.MethodName)) ∈ hWall := hWall_of (tb3 (List.mem_of_getElem? (i := 225) (by decide +kernel))) (by decide +kernel)
theorem q3_226 : (Jvm.Cond.instanceMethod ({ cls := "HintedStemsModel", name := "stem", desc := "(III)I" } : Jvm.MethodName)) ∈ hWall := hWall_of (tb3 (List.mem_of_getElem? (i := 226) (by decide +kernel))) (by decide +kernel)
theorem q3_227 : (Jvm.Cond.selects "HintedStemsModel" ({ cls := "HintedStemsModel", name := "stem", desc := "(III)I" } : Jvm.MethodName) ({ cls := "HintedStemsModel", name := "stem", desc := "(III)I" } : Jvm.MethodName)) ∈ hWall := hWall_of (tb3 (List.mem_of_getElem? (i := 227) (by decide +kernel))) (by decide +kernel)
theorem q3_228 : (Jvm.Cond.code ({ cls := "HintedStemsModel", name := "stem", desc := "(III)I" } : Jvm.MethodName) prog_8_method_16_code (8 : Nat) (Option.some Jvm.ClassFile.FieldType.int)) ∈ hWall := hWall_of (tb3 (List.mem_of_getElem? (i := 228) (by decide +kernel))) (by decide +kernel)
theorem q3_229 : (Jvm.Cond.methodLink "HintedStemsModel" (43 : Nat) ({ cls := "HintedStemsModel", name := "isGlyph", desc := "(I)Z" } : Jvm.MethodName)) ∈ hWall := hWall_of (tb3 (List.mem_of_getElem? (i := 229) (by decide +kernel))) (by decide +kernel)
theorem q3_230 : (Jvm.Cond.privateMethod ({ cls := "HintedStemsModel", name := "isGlyph", desc := "(I)Z" } : Jvm.MethodName)) ∈ lw_tbl := tb3 (List.mem_of_getElem? (i := 230) (by decide +kernel))
theorem q3_231 : (Jvm.Cond.instanceMethod ({ cls := "HintedStemsModel", name := "isGlyph", desc := "(I)Z" } : Jvm.MethodName)) ∈ hWall := hWall_of (tb3 (List.mem_of_getElem? (i := 231) (by decide +kernel))) (by decide +kernel)
theorem q3_232 : (Jvm.Cond.code ({ cls := "HintedStemsModel", name := "isGlyph", desc := "(I)Z" } : Jvm.MethodName) prog_8_method_8_code (2 : Nat) (Option.some Jvm.ClassFile.FieldType.boolean)) ∈ hWall := hWall_of (tb3 (List.mem_of_getElem? (i := 232) (by decide +kernel))) (by decide +kernel)
theorem q3_233 : (Jvm.Cond.methodLink "HintedStemsModel" (63 : Nat) ({ cls := "HintedStemsModel", name := "ahead", desc := "(II)I" } : Jvm.MethodName)) ∈ hWall := hWall_of (tb3 (List.mem_of_getElem? (i := 233) (by decide +kernel))) (by decide +kernel)
theorem q3_234 : (Jvm.Cond.privateMethod ({ cls := "HintedStemsModel", name := "ahead", desc := "(II)I" } : Jvm.MethodName)) ∈ lw_tbl := tb3 (List.mem_of_getElem? (i := 234) (by decide +kernel))
theorem q3_235 : (Jvm.Cond.instanceMethod ({ cls := "HintedStemsModel", name := "ahead", desc := "(II)I" } : Jvm.MethodName)) ∈ hWall := hWall_of (tb3 (List.mem_of_getElem? (i := 235) (by decide +kernel))) (by decide +kernel)
theorem q3_236 : (Jvm.Cond.code ({ cls := "HintedStemsModel", name := "ahead", desc := "(II)I" } : Jvm.MethodName) prog_8_method_15_code (4 : Nat) (Option.some Jvm.ClassFile.FieldType.int)) ∈ hWall := hWall_of (tb3 (List.mem_of_getElem? (i := 236) (by decide +kernel))) (by decide +kernel)
theorem q3_237 : (Jvm.Cond.methodLink "HintedStemsModel" (47 : Nat) ({ cls := "HintedStemsModel", name := "of", desc := "(II)I" } : Jvm.MethodName)) ∈ hWall := hWall_of (tb3 (List.mem_of_getElem? (i := 237) (by decide +kernel))) (by decide +kernel)
theorem q3_238 : (Jvm.Cond.privateMethod ({ cls := "HintedStemsModel", name := "of", desc := "(II)I" } : Jvm.MethodName)) ∈ lw_tbl := tb3 (List.mem_of_getElem? (i := 238) (by decide +kernel))
theorem q3_239 : (Jvm.Cond.instanceMethod ({ cls := "HintedStemsModel", name := "of", desc := "(II)I" } : Jvm.MethodName)) ∈ hWall := hWall_of (tb3 (List.mem_of_getElem? (i := 239) (by decide +kernel))) (by decide +kernel)
theorem q4_0 : (Jvm.Cond.code ({ cls := "HintedStemsModel", name := "of", desc := "(II)I" } : Jvm.MethodName) prog_8_method_9_code (3 : Nat) (Option.some Jvm.ClassFile.FieldType.int)) ∈ hWall := hWall_of (tb4 (List.mem_of_getElem? (i := 0) (by decide +kernel))) (by decide +kernel)
theorem q4_1 : (Jvm.Cond.methodLink "HintedStemsModel" (55 : Nat) ({ cls := "HintedStemsModel", name := "ofStem", desc := "(III)I" } : Jvm.MethodName)) ∈ hWall := hWall_of (tb4 (List.mem_of_getElem? (i := 1) (by decide +kernel))) (by decide +kernel)
theorem q4_2 : (Jvm.Cond.privateMethod ({ cls := "HintedStemsModel", name := "ofStem", desc := "(III)I" } : Jvm.MethodName)) ∈ lw_tbl := tb4 (List.mem_of_getElem? (i := 2) (by decide +kernel))
theorem q4_3 : (Jvm.Cond.instanceMethod ({ cls := "HintedStemsModel", name := "ofStem", desc := "(III)I" } : Jvm.MethodName)) ∈ hWall := hWall_of (tb4 (List.mem_of_getElem? (i := 3) (by decide +kernel))) (by decide +kernel)
theorem q4_4 : (Jvm.Cond.code ({ cls := "HintedStemsModel", name := "ofStem", desc := "(III)I" } : Jvm.MethodName) prog_8_method_12_code (4 : Nat) (Option.some Jvm.ClassFile.FieldType.int)) ∈ hWall := hWall_of (tb4 (List.mem_of_getElem? (i := 4) (by decide +kernel))) (by decide +kernel)
theorem q4_5 : (Jvm.Cond.methodLink "HintedStemsModel" (51 : Nat) ({ cls := "HintedStemsModel", name := "at", desc := "(III)I" } : Jvm.MethodName)) ∈ hWall := hWall_of (tb4 (List.mem_of_getElem? (i := 5) (by decide +kernel))) (by decide +kernel)
theorem q4_6 : (Jvm.Cond.static ({ cls := "HintedStemsModel", name := "at", desc := "(III)I" } : Jvm.MethodName)) ∈ hWall := hWall_of (tb4 (List.mem_of_getElem? (i := 6) (by decide +kernel))) (by decide +kernel)
theorem q4_7 : (Jvm.Cond.code ({ cls := "HintedStemsModel", name := "at", desc := "(III)I" } : Jvm.MethodName) prog_8_method_11_code (3 : Nat) (Option.some Jvm.ClassFile.FieldType.int)) ∈ hWall := hWall_of (tb4 (List.mem_of_getElem? (i := 7) (by decide +kernel))) (by decide +kernel)
theorem q4_8 : (Jvm.Cond.methodLink "HintedStemsModel" (66 : Nat) ({ cls := "HintedStemsModel", name := "endOf", desc := "(II)I" } : Jvm.MethodName)) ∈ hWall := hWall_of (tb4 (List.mem_of_getElem? (i := 8) (by decide +kernel))) (by decide +kernel)
theorem q4_9 : (Jvm.Cond.privateMethod ({ cls := "HintedStemsModel", name := "endOf", desc := "(II)I" } : Jvm.MethodName)) ∈ lw_tbl := tb4 (List.mem_of_getElem? (i := 9) (by decide +kernel))
theorem q4_10 : (Jvm.Cond.instanceMethod ({ cls := "HintedStemsModel", name := "endOf", desc := "(II)I" } : Jvm.MethodName)) ∈ hWall := hWall_of (tb4 (List.mem_of_getElem? (i := 10) (by decide +kernel))) (by decide +kernel)
theorem q4_11 : (Jvm.Cond.code ({ cls := "HintedStemsModel", name := "endOf", desc := "(II)I" } : Jvm.MethodName) prog_8_method_13_code (3 : Nat) (Option.some Jvm.ClassFile.FieldType.int)) ∈ hWall := hWall_of (tb4 (List.mem_of_getElem? (i := 11) (by decide +kernel))) (by decide +kernel)
theorem q4_12 : (Jvm.Cond.constant "HintedStemsModel" (69 : Nat) (-1000002 : Int32)) ∈ hWall := hWall_of (tb4 (List.mem_of_getElem? (i := 12) (by decide +kernel))) (by decide +kernel)
theorem q4_13 : (Jvm.Cond.methodLink "HintedStemsLaw" (27 : Nat) ({ cls := "HintedStemsModel", name := "cut", desc := "(II)I" } : Jvm.MethodName)) ∈ hWall := hWall_of (tb4 (List.mem_of_getElem? (i := 13) (by decide +kernel))) (by decide +kernel)
theorem q4_14 : (Jvm.Cond.instanceMethod ({ cls := "HintedStemsModel", name := "cut", desc := "(II)I" } : Jvm.MethodName)) ∈ hWall := hWall_of (tb4 (List.mem_of_getElem? (i := 14) (by decide +kernel))) (by decide +kernel)
theorem q4_15 : (Jvm.Cond.selects "HintedStemsModel" ({ cls := "HintedStemsModel", name := "cut", desc := "(II)I" } : Jvm.MethodName) ({ cls := "HintedStemsModel", name := "cut", desc := "(II)I" } : Jvm.MethodName)) ∈ hWall := hWall_of (tb4 (List.mem_of_getElem? (i := 15) (by decide +kernel))) (by decide +kernel)
theorem q4_16 : (Jvm.Cond.code ({ cls := "HintedStemsModel", name := "cut", desc := "(II)I" } : Jvm.MethodName) prog_8_method_17_code (4 : Nat) (Option.some Jvm.ClassFile.FieldType.int)) ∈ hWall := hWall_of (tb4 (List.mem_of_getElem? (i := 16) (by decide +kernel))) (by decide +kernel)
theorem q4_17 : (Jvm.Cond.methodLink "HintedStemsModel" (70 : Nat) ({ cls := "HintedStemsModel", name := "isStem", desc := "(II)Z" } : Jvm.MethodName)) ∈ hWall := hWall_of (tb4 (List.mem_of_getElem? (i := 17) (by decide +kernel))) (by decide +kernel)
theorem q4_18 : (Jvm.Cond.privateMethod ({ cls := "HintedStemsModel", name := "isStem", desc := "(II)Z" } : Jvm.MethodName)) ∈ lw_tbl := tb4 (List.mem_of_getElem? (i := 18) (by decide +kernel))
theorem q4_19 : (Jvm.Cond.instanceMethod ({ cls := "HintedStemsModel", name := "isStem", desc := "(II)Z" } : Jvm.MethodName)) ∈ hWall := hWall_of (tb4 (List.mem_of_getElem? (i := 19) (by decide +kernel))) (by decide +kernel)
theorem q4_20 : (Jvm.Cond.code ({ cls := "HintedStemsModel", name := "isStem", desc := "(II)Z" } : Jvm.MethodName) prog_8_method_10_code (3 : Nat) (Option.some Jvm.ClassFile.FieldType.boolean)) ∈ hWall := hWall_of (tb4 (List.mem_of_getElem? (i := 20) (by decide +kernel))) (by decide +kernel)
theorem q4_21 : (Jvm.Cond.methodLink "HintedStemsLaw" (31 : Nat) ({ cls := "HintedStemsModel", name := "hint", desc := "(III)I" } : Jvm.MethodName)) ∈ hWall := hWall_of (tb4 (List.mem_of_getElem? (i := 21) (by decide +kernel))) (by decide +kernel)
theorem q4_22 : (Jvm.Cond.instanceMethod ({ cls := "HintedStemsModel", name := "hint", desc := "(III)I" } : Jvm.MethodName)) ∈ hWall := hWall_of (tb4 (List.mem_of_getElem? (i := 22) (by decide +kernel))) (by decide +kernel)
theorem q4_23 : (Jvm.Cond.selects "HintedStemsModel" ({ cls := "HintedStemsModel", name := "hint", desc := "(III)I" } : Jvm.MethodName) ({ cls := "HintedStemsModel", name := "hint", desc := "(III)I" } : Jvm.MethodName)) ∈ hWall := hWall_of (tb4 (List.mem_of_getElem? (i := 23) (by decide +kernel))) (by decide +kernel)
theorem q4_24 : (Jvm.Cond.code ({ cls := "HintedStemsModel", name := "hint", desc := "(III)I" } : Jvm.MethodName) prog_8_method_18_code (5 : Nat) (Option.some Jvm.ClassFile.FieldType.int)) ∈ hWall := hWall_of (tb4 (List.mem_of_getElem? (i := 24) (by decide +kernel))) (by decide +kernel)
theorem q4_25 : (Jvm.Cond.methodLink "HintedStemsLaw" (35 : Nat) ({ cls := "HintedStemsModel", name := "standard", desc := "(I)I" } : Jvm.MethodName)) ∈ hWall := hWall_of (tb4 (List.mem_of_getElem? (i := 25) (by decide +kernel))) (by decide +kernel)
theorem q4_26 : (Jvm.Cond.instanceMethod ({ cls := "HintedStemsModel", name := "standard", desc := "(I)I" } : Jvm.MethodName)) ∈ hWall := hWall_of (tb4 (List.mem_of_getElem? (i := 26) (by decide +kernel))) (by decide +kernel)
theorem q4_27 : (Jvm.Cond.selects "HintedStemsModel" ({ cls := "HintedStemsModel", name := "standard", desc := "(I)I" } : Jvm.MethodName) ({ cls := "HintedStemsModel", name := "standard", desc := "(I)I" } : Jvm.MethodName)) ∈ hWall := hWall_of (tb4 (List.mem_of_getElem? (i := 27) (by decide +kernel))) (by decide +kernel)
theorem q4_28 : (Jvm.Cond.code ({ cls := "HintedStemsModel", name := "standard", desc := "(I)I" } : Jvm.MethodName) prog_8_method_23_code (6 : Nat) (Option.some Jvm.ClassFile.FieldType.int)) ∈ hWall := hWall_of (tb4 (List.mem_of_getElem? (i := 28) (by decide +kernel))) (by decide +kernel)
theorem q4_29 : (Jvm.Cond.methodLink "HintedStemsModel" (82 : Nat) ({ cls := "HintedStemsModel", name := "wideAt", desc := "(I)I" } : Jvm.MethodName)) ∈ hWall := hWall_of (tb4 (List.mem_of_getElem? (i := 29) (by decide +kernel))) (by decide +kernel)
theorem q4_30 : (Jvm.Cond.privateMethod ({ cls := "HintedStemsModel", name := "wideAt", desc := "(I)I" } : Jvm.MethodName)) ∈ lw_tbl := tb4 (List.mem_of_getElem? (i := 30) (by decide +kernel))
theorem q4_31 : (Jvm.Cond.instanceMethod ({ cls := "HintedStemsModel", name := "wideAt", desc := "(I)I" } : Jvm.MethodName)) ∈ hWall := hWall_of (tb4 (List.mem_of_getElem? (i := 31) (by decide +kernel))) (by decide +kernel)
theorem q4_32 : (Jvm.Cond.code ({ cls := "HintedStemsModel", name := "wideAt", desc := "(I)I" } : Jvm.MethodName) prog_8_method_19_code (3 : Nat) (Option.some Jvm.ClassFile.FieldType.int)) ∈ hWall := hWall_of (tb4 (List.mem_of_getElem? (i := 32) (by decide +kernel))) (by decide +kernel)
theorem q4_33 : (Jvm.Cond.constant "HintedStemsModel" (74 : Nat) (-1000004 : Int32)) ∈ hWall := hWall_of (tb4 (List.mem_of_getElem? (i := 33) (by decide +kernel))) (by decide +kernel)
theorem q4_34 : (Jvm.Cond.methodLink "HintedStemsModel" (79 : Nat) ({ cls := "HintedStemsModel", name := "snaps", desc := "(I)I" } : Jvm.MethodName)) ∈ hWall := hWall_of (tb4 (List.mem_of_getElem? (i := 34) (by decide +kernel))) (by decide +kernel)
theorem q4_35 : (Jvm.Cond.privateMethod ({ cls := "HintedStemsModel", name := "snaps", desc := "(I)I" } : Jvm.MethodName)) ∈ lw_tbl := tb4 (List.mem_of_getElem? (i := 35) (by decide +kernel))
theorem q4_36 : (Jvm.Cond.instanceMethod ({ cls := "HintedStemsModel", name := "snaps", desc := "(I)I" } : Jvm.MethodName)) ∈ hWall := hWall_of (tb4 (List.mem_of_getElem? (i := 36) (by decide +kernel))) (by decide +kernel)
theorem q4_37 : (Jvm.Cond.code ({ cls := "HintedStemsModel", name := "snaps", desc := "(I)I" } : Jvm.MethodName) prog_8_method_21_code (7 : Nat) (Option.some Jvm.ClassFile.FieldType.int)) ∈ hWall := hWall_of (tb4 (List.mem_of_getElem? (i := 37) (by decide +kernel))) (by decide +kernel)
theorem q4_38 : (Jvm.Cond.methodLink "HintedStemsModel" (75 : Nat) ({ cls := "HintedStemsModel", name := "size", desc := "(I)I" } : Jvm.MethodName)) ∈ hWall := hWall_of (tb4 (List.mem_of_getElem? (i := 38) (by decide +kernel))) (by decide +kernel)
theorem q4_39 : (Jvm.Cond.static ({ cls := "HintedStemsModel", name := "size", desc := "(I)I" } : Jvm.MethodName)) ∈ hWall := hWall_of (tb4 (List.mem_of_getElem? (i := 39) (by decide +kernel))) (by decide +kernel)
theorem q4_40 : (Jvm.Cond.code ({ cls := "HintedStemsModel", name := "size", desc := "(I)I" } : Jvm.MethodName) prog_8_method_20_code (1 : Nat) (Option.some Jvm.ClassFile.FieldType.int)) ∈ hWall := hWall_of (tb4 (List.mem_of_getElem? (i := 40) (by decide +kernel))) (by decide +kernel)
theorem q4_41 : (Jvm.Cond.methodLink "HintedStemsLaw" (39 : Nat) ({ cls := "HintedStemsModel", name := "drop", desc := "(I)I" } : Jvm.MethodName)) ∈ hWall := hWall_of (tb4 (List.mem_of_getElem? (i := 41) (by decide +kernel))) (by decide +kernel)
theorem q4_42 : (Jvm.Cond.instanceMethod ({ cls := "HintedStemsModel", name := "drop", desc := "(I)I" } : Jvm.MethodName)) ∈ hWall := hWall_of (tb4 (List.mem_of_getElem? (i := 42) (by decide +kernel))) (by decide +kernel)
theorem q4_43 : (Jvm.Cond.selects "HintedStemsModel" ({ cls := "HintedStemsModel", name := "drop", desc := "(I)I" } : Jvm.MethodName) ({ cls := "HintedStemsModel", name := "drop", desc := "(I)I" } : Jvm.MethodName)) ∈ hWall := hWall_of (tb4 (List.mem_of_getElem? (i := 43) (by decide +kernel))) (by decide +kernel)
theorem q4_44 : (Jvm.Cond.code ({ cls := "HintedStemsModel", name := "drop", desc := "(I)I" } : Jvm.MethodName) prog_8_method_24_code (4 : Nat) (Option.some Jvm.ClassFile.FieldType.int)) ∈ hWall := hWall_of (tb4 (List.mem_of_getElem? (i := 44) (by decide +kernel))) (by decide +kernel)
theorem q4_45 : (Jvm.Cond.methodLink "HintedStemsLaw" (43 : Nat) ({ cls := "HintedStemsModel", name := "make", desc := "(I)I" } : Jvm.MethodName)) ∈ hWall := hWall_of (tb4 (List.mem_of_getElem? (i := 45) (by decide +kernel))) (by decide +kernel)
theorem q4_46 : (Jvm.Cond.instanceMethod ({ cls := "HintedStemsModel", name := "make", desc := "(I)I" } : Jvm.MethodName)) ∈ hWall := hWall_of (tb4 (List.mem_of_getElem? (i := 46) (by decide +kernel))) (by decide +kernel)
theorem q4_47 : (Jvm.Cond.selects "HintedStemsModel" ({ cls := "HintedStemsModel", name := "make", desc := "(I)I" } : Jvm.MethodName) ({ cls := "HintedStemsModel", name := "make", desc := "(I)I" } : Jvm.MethodName)) ∈ hWall := hWall_of (tb4 (List.mem_of_getElem? (i := 47) (by decide +kernel))) (by decide +kernel)
theorem q4_48 : (Jvm.Cond.code ({ cls := "HintedStemsModel", name := "make", desc := "(I)I" } : Jvm.MethodName) prog_8_method_37_code (6 : Nat) (Option.some Jvm.ClassFile.FieldType.int)) ∈ hWall := hWall_of (tb4 (List.mem_of_getElem? (i := 48) (by decide +kernel))) (by decide +kernel)
theorem q4_49 : (Jvm.Cond.methodLink "HintedStemsModel" (119 : Nat) ({ cls := "HintedStemsModel", name := "isSize", desc := "(I)Z" } : Jvm.MethodName)) ∈ hWall := hWall_of (tb4 (List.mem_of_getElem? (i := 49) (by decide +kernel))) (by decide +kernel)
theorem q4_50 : (Jvm.Cond.static ({ cls := "HintedStemsModel", name := "isSize", desc := "(I)Z" } : Jvm.MethodName)) ∈ hWall := hWall_of (tb4 (List.mem_of_getElem? (i := 50) (by decide +kernel))) (by decide +kernel)
theorem q4_51 : (Jvm.Cond.code ({ cls := "HintedStemsModel", name := "isSize", desc := "(I)Z" } : Jvm.MethodName) prog_8_method_7_code (1 : Nat) (Option.some Jvm.ClassFile.FieldType.boolean)) ∈ hWall := hWall_of (tb4 (List.mem_of_getElem? (i := 51) (by decide +kernel))) (by decide +kernel)
theorem q4_52 : (Jvm.Cond.methodLink "HintedStemsModel" (122 : Nat) ({ cls := "HintedStemsModel", name := "sheetAt", desc := "(I)I" } : Jvm.MethodName)) ∈ hWall := hWall_of (tb4 (List.mem_of_getElem? (i := 52) (by decide +kernel))) (by decide +kernel)
theorem q4_53 : (Jvm.Cond.privateMethod ({ cls := "HintedStemsModel", name := "sheetAt", desc := "(I)I" } : Jvm.MethodName)) ∈ lw_tbl := tb4 (List.mem_of_getElem? (i := 53) (by decide +kernel))
theorem q4_54 : (Jvm.Cond.instanceMethod ({ cls := "HintedStemsModel", name := "sheetAt", desc := "(I)I" } : Jvm.MethodName)) ∈ hWall := hWall_of (tb4 (List.mem_of_getElem? (i := 54) (by decide +kernel))) (by decide +kernel)
theorem q4_55 : (Jvm.Cond.code ({ cls := "HintedStemsModel", name := "sheetAt", desc := "(I)I" } : Jvm.MethodName) prog_8_method_35_code (3 : Nat) (Option.some Jvm.ClassFile.FieldType.int)) ∈ hWall := hWall_of (tb4 (List.mem_of_getElem? (i := 55) (by decide +kernel))) (by decide +kernel)
theorem q4_56 : (Jvm.Cond.methodLink "HintedStemsModel" (116 : Nat) ({ cls := "HintedStemsModel", name := "ofSheet", desc := "(II)I" } : Jvm.MethodName)) ∈ hWall := hWall_of (tb4 (List.mem_of_getElem? (i := 56) (by decide +kernel))) (by decide +kernel)
theorem q4_57 : (Jvm.Cond.privateMethod ({ cls := "HintedStemsModel", name := "ofSheet", desc := "(II)I" } : Jvm.MethodName)) ∈ lw_tbl := tb4 (List.mem_of_getElem? (i := 57) (by decide +kernel))
theorem q4_58 : (Jvm.Cond.instanceMethod ({ cls := "HintedStemsModel", name := "ofSheet", desc := "(II)I" } : Jvm.MethodName)) ∈ hWall := hWall_of (tb4 (List.mem_of_getElem? (i := 58) (by decide +kernel))) (by decide +kernel)
theorem q4_59 : (Jvm.Cond.code ({ cls := "HintedStemsModel", name := "ofSheet", desc := "(II)I" } : Jvm.MethodName) prog_8_method_34_code (3 : Nat) (Option.some Jvm.ClassFile.FieldType.int)) ∈ hWall := hWall_of (tb4 (List.mem_of_getElem? (i := 59) (by decide +kernel))) (by decide +kernel)
theorem q4_60 : (Jvm.Cond.methodLink "HintedStemsModel" (125 : Nat) ({ cls := "HintedStemsModel", name := "takesSheet", desc := "(I)V" } : Jvm.MethodName)) ∈ hWall := hWall_of (tb4 (List.mem_of_getElem? (i := 60) (by decide +kernel))) (by decide +kernel)
theorem q4_61 : (Jvm.Cond.privateMethod ({ cls := "HintedStemsModel", name := "takesSheet", desc := "(I)V" } : Jvm.MethodName)) ∈ lw_tbl := tb4 (List.mem_of_getElem? (i := 61) (by decide +kernel))
theorem q4_62 : (Jvm.Cond.instanceMethod ({ cls := "HintedStemsModel", name := "takesSheet", desc := "(I)V" } : Jvm.MethodName)) ∈ hWall := hWall_of (tb4 (List.mem_of_getElem? (i := 62) (by decide +kernel))) (by decide +kernel)
theorem q4_63 : (Jvm.Cond.code ({ cls := "HintedStemsModel", name := "takesSheet", desc := "(I)V" } : Jvm.MethodName) prog_8_method_36_code (3 : Nat) (Option.none : Option Jvm.ClassFile.FieldType)) ∈ hWall := hWall_of (tb4 (List.mem_of_getElem? (i := 63) (by decide +kernel))) (by decide +kernel)
theorem q4_64 : (Jvm.Cond.methodLink "HintedStemsModel" (106 : Nat) ({ cls := "HintedStemsModel", name := "lays", desc := "(II)V" } : Jvm.MethodName)) ∈ hWall := hWall_of (tb4 (List.mem_of_getElem? (i := 64) (by decide +kernel))) (by decide +kernel)
theorem q4_65 : (Jvm.Cond.privateMethod ({ cls := "HintedStemsModel", name := "lays", desc := "(II)V" } : Jvm.MethodName)) ∈ lw_tbl := tb4 (List.mem_of_getElem? (i := 65) (by decide +kernel))
theorem q4_66 : (Jvm.Cond.instanceMethod ({ cls := "HintedStemsModel", name := "lays", desc := "(II)V" } : Jvm.MethodName)) ∈ hWall := hWall_of (tb4 (List.mem_of_getElem? (i := 66) (by decide +kernel))) (by decide +kernel)
theorem q4_67 : (Jvm.Cond.code ({ cls := "HintedStemsModel", name := "lays", desc := "(II)V" } : Jvm.MethodName) prog_8_method_29_code (6 : Nat) (Option.none : Option Jvm.ClassFile.FieldType)) ∈ hWall := hWall_of (tb4 (List.mem_of_getElem? (i := 67) (by decide +kernel))) (by decide +kernel)
theorem q4_68 : (Jvm.Cond.methodLink "HintedStemsModel" (97 : Nat) ({ cls := "HintedStemsModel", name := "pixelsOf", desc := "(III)I" } : Jvm.MethodName)) ∈ hWall := hWall_of (tb4 (List.mem_of_getElem? (i := 68) (by decide +kernel))) (by decide +kernel)
theorem q4_69 : (Jvm.Cond.privateMethod ({ cls := "HintedStemsModel", name := "pixelsOf", desc := "(III)I" } : Jvm.MethodName)) ∈ lw_tbl := tb4 (List.mem_of_getElem? (i := 69) (by decide +kernel))
theorem q4_70 : (Jvm.Cond.instanceMethod ({ cls := "HintedStemsModel", name := "pixelsOf", desc := "(III)I" } : Jvm.MethodName)) ∈ hWall := hWall_of (tb4 (List.mem_of_getElem? (i := 70) (by decide +kernel))) (by decide +kernel)
theorem q4_71 : (Jvm.Cond.code ({ cls := "HintedStemsModel", name := "pixelsOf", desc := "(III)I" } : Jvm.MethodName) prog_8_method_26_code (5 : Nat) (Option.some Jvm.ClassFile.FieldType.int)) ∈ hWall := hWall_of (tb4 (List.mem_of_getElem? (i := 71) (by decide +kernel))) (by decide +kernel)
theorem q4_72 : (Jvm.Cond.methodLink "HintedStemsModel" (85 : Nat) ({ cls := "HintedStemsModel", name := "hinted", desc := "(II)I" } : Jvm.MethodName)) ∈ hWall := hWall_of (tb4 (List.mem_of_getElem? (i := 72) (by decide +kernel))) (by decide +kernel)
theorem q4_73 : (Jvm.Cond.privateMethod ({ cls := "HintedStemsModel", name := "hinted", desc := "(II)I" } : Jvm.MethodName)) ∈ lw_tbl := tb4 (List.mem_of_getElem? (i := 73) (by decide +kernel))
theorem q4_74 : (Jvm.Cond.instanceMethod ({ cls := "HintedStemsModel", name := "hinted", desc := "(II)I" } : Jvm.MethodName)) ∈ hWall := hWall_of (tb4 (List.mem_of_getElem? (i := 74) (by decide +kernel))) (by decide +kernel)
theorem q4_75 : (Jvm.Cond.code ({ cls := "HintedStemsModel", name := "hinted", desc := "(II)I" } : Jvm.MethodName) prog_8_method_22_code (4 : Nat) (Option.some Jvm.ClassFile.FieldType.int)) ∈ hWall := hWall_of (tb4 (List.mem_of_getElem? (i := 75) (by decide +kernel))) (by decide +kernel)
theorem q4_76 : (Jvm.Cond.methodLink "HintedStemsModel" (88 : Nat) ({ cls := "HintedStemsModel", name := "inPixels", desc := "(II)I" } : Jvm.MethodName)) ∈ hWall := hWall_of (tb4 (List.mem_of_getElem? (i := 76) (by decide +kernel))) (by decide +kernel)
theorem q4_77 : (Jvm.Cond.static ({ cls := "HintedStemsModel", name := "inPixels", desc := "(II)I" } : Jvm.MethodName)) ∈ hWall := hWall_of (tb4 (List.mem_of_getElem? (i := 77) (by decide +kernel))) (by decide +kernel)
theorem q4_78 : (Jvm.Cond.code ({ cls := "HintedStemsModel", name := "inPixels", desc := "(II)I" } : Jvm.MethodName) prog_8_method_25_code (2 : Nat) (Option.some Jvm.ClassFile.FieldType.int)) ∈ hWall := hWall_of (tb4 (List.mem_of_getElem? (i := 78) (by decide +kernel))) (by decide +kernel)
theorem q4_79 : (Jvm.Cond.methodLink "HintedStemsModel" (100 : Nat) ({ cls := "HintedStemsModel", name := "rounded", desc := "(III)I" } : Jvm.MethodName)) ∈ hWall := hWall_of (tb4 (List.mem_of_getElem? (i := 79) (by decide +kernel))) (by decide +kernel)
theorem q4_80 : (Jvm.Cond.privateMethod ({ cls := "HintedStemsModel", name := "rounded", desc := "(III)I" } : Jvm.MethodName)) ∈ lw_tbl := tb4 (List.mem_of_getElem? (i := 80) (by decide +kernel))
theorem q4_81 : (Jvm.Cond.instanceMethod ({ cls := "HintedStemsModel", name := "rounded", desc := "(III)I" } : Jvm.MethodName)) ∈ hWall := hWall_of (tb4 (List.mem_of_getElem? (i := 81) (by decide +kernel))) (by decide +kernel)
theorem q4_82 : (Jvm.Cond.code ({ cls := "HintedStemsModel", name := "rounded", desc := "(III)I" } : Jvm.MethodName) prog_8_method_28_code (8 : Nat) (Option.some Jvm.ClassFile.FieldType.int)) ∈ hWall := hWall_of (tb4 (List.mem_of_getElem? (i := 82) (by decide +kernel))) (by decide +kernel)
theorem q4_83 : (Jvm.Cond.methodLink "HintedStemsModel" (91 : Nat) ({ cls := "HintedStemsModel", name := "floor", desc := "(II)I" } : Jvm.MethodName)) ∈ hWall := hWall_of (tb4 (List.mem_of_getElem? (i := 83) (by decide +kernel))) (by decide +kernel)
theorem q4_84 : (Jvm.Cond.static ({ cls := "HintedStemsModel", name := "floor", desc := "(II)I" } : Jvm.MethodName)) ∈ hWall := hWall_of (tb4 (List.mem_of_getElem? (i := 84) (by decide +kernel))) (by decide +kernel)
theorem q4_85 : (Jvm.Cond.code ({ cls := "HintedStemsModel", name := "floor", desc := "(II)I" } : Jvm.MethodName) prog_8_method_4_code (2 : Nat) (Option.some Jvm.ClassFile.FieldType.int)) ∈ hWall := hWall_of (tb4 (List.mem_of_getElem? (i := 85) (by decide +kernel))) (by decide +kernel)
theorem q4_86 : (Jvm.Cond.methodLink "HintedStemsModel" (103 : Nat) ({ cls := "HintedStemsModel", name := "columns", desc := "(II)I" } : Jvm.MethodName)) ∈ hWall := hWall_of (tb4 (List.mem_of_getElem? (i := 86) (by decide +kernel))) (by decide +kernel)
theorem q4_87 : (Jvm.Cond.privateMethod ({ cls := "HintedStemsModel", name := "columns", desc := "(II)I" } : Jvm.MethodName)) ∈ lw_tbl := tb4 (List.mem_of_getElem? (i := 87) (by decide +kernel))
theorem q4_88 : (Jvm.Cond.instanceMethod ({ cls := "HintedStemsModel", name := "columns", desc := "(II)I" } : Jvm.MethodName)) ∈ hWall := hWall_of (tb4 (List.mem_of_getElem? (i := 88) (by decide +kernel))) (by decide +kernel)
theorem q4_89 : (Jvm.Cond.code ({ cls := "HintedStemsModel", name := "columns", desc := "(II)I" } : Jvm.MethodName) prog_8_method_27_code (4 : Nat) (Option.some Jvm.ClassFile.FieldType.int)) ∈ hWall := hWall_of (tb4 (List.mem_of_getElem? (i := 89) (by decide +kernel))) (by decide +kernel)
theorem q4_90 : (Jvm.Cond.methodLink "HintedStemsModel" (129 : Nat) ({ cls := "HintedStemsModel", name := "litHalf", desc := "(III)I" } : Jvm.MethodName)) ∈ hWall := hWall_of (tb4 (List.mem_of_getElem? (i := 90) (by decide +kernel))) (by decide +kernel)
theorem q4_91 : (Jvm.Cond.privateMethod ({ cls := "HintedStemsModel", name := "litHalf", desc := "(III)I" } : Jvm.MethodName)) ∈ lw_tbl := tb4 (List.mem_of_getElem? (i := 91) (by decide +kernel))
theorem q4_92 : (Jvm.Cond.instanceMethod ({ cls := "HintedStemsModel", name := "litHalf", desc := "(III)I" } : Jvm.MethodName)) ∈ hWall := hWall_of (tb4 (List.mem_of_getElem? (i := 92) (by decide +kernel))) (by decide +kernel)
theorem q4_93 : (Jvm.Cond.code ({ cls := "HintedStemsModel", name := "litHalf", desc := "(III)I" } : Jvm.MethodName) prog_8_method_33_code (6 : Nat) (Option.some Jvm.ClassFile.FieldType.int)) ∈ hWall := hWall_of (tb4 (List.mem_of_getElem? (i := 93) (by decide +kernel))) (by decide +kernel)
theorem q4_94 : (Jvm.Cond.methodLink "HintedStemsModel" (113 : Nat) ({ cls := "HintedStemsModel", name := "isLit", desc := "(II)Z" } : Jvm.MethodName)) ∈ hWall := hWall_of (tb4 (List.mem_of_getElem? (i := 94) (by decide +kernel))) (by decide +kernel)
theorem q4_95 : (Jvm.Cond.privateMethod ({ cls := "HintedStemsModel", name := "isLit", desc := "(II)Z" } : Jvm.MethodName)) ∈ lw_tbl := tb4 (List.mem_of_getElem? (i := 95) (by decide +kernel))
theorem q4_96 : (Jvm.Cond.instanceMethod ({ cls := "HintedStemsModel", name := "isLit", desc := "(II)Z" } : Jvm.MethodName)) ∈ hWall := hWall_of (tb4 (List.mem_of_getElem? (i := 96) (by decide +kernel))) (by decide +kernel)
theorem q4_97 : (Jvm.Cond.code ({ cls := "HintedStemsModel", name := "isLit", desc := "(II)Z" } : Jvm.MethodName) prog_8_method_32_code (5 : Nat) (Option.some Jvm.ClassFile.FieldType.boolean)) ∈ hWall := hWall_of (tb4 (List.mem_of_getElem? (i := 97) (by decide +kernel))) (by decide +kernel)
theorem q4_98 : (Jvm.Cond.methodLink "HintedStemsLaw" (47 : Nat) ({ cls := "HintedStemsModel", name := "set", desc := "(II)I" } : Jvm.MethodName)) ∈ hWall := hWall_of (tb4 (List.mem_of_getElem? (i := 98) (by decide +kernel))) (by decide +kernel)
theorem q4_99 : (Jvm.Cond.instanceMethod ({ cls := "HintedStemsModel", name := "set", desc := "(II)I" } : Jvm.MethodName)) ∈ hWall := hWall_of (tb4 (List.mem_of_getElem? (i := 99) (by decide +kernel))) (by decide +kernel)
theorem q4_100 : (Jvm.Cond.selects "HintedStemsModel" ({ cls := "HintedStemsModel", name := "set", desc := "(II)I" } : Jvm.MethodName) ({ cls := "HintedStemsModel", name := "set", desc := "(II)I" } : Jvm.MethodName)) ∈ hWall := hWall_of (tb4 (List.mem_of_getElem? (i := 100) (by decide +kernel))) (by decide +kernel)
theorem q4_101 : (Jvm.Cond.code ({ cls := "HintedStemsModel", name := "set", desc := "(II)I" } : Jvm.MethodName) prog_8_method_41_code (4 : Nat) (Option.some Jvm.ClassFile.FieldType.int)) ∈ hWall := hWall_of (tb4 (List.mem_of_getElem? (i := 101) (by decide +kernel))) (by decide +kernel)
theorem q4_102 : (Jvm.Cond.methodLink "HintedStemsLaw" (51 : Nat) ({ cls := "HintedStemsModel", name := "stemOf", desc := "(III)I" } : Jvm.MethodName)) ∈ hWall := hWall_of (tb4 (List.mem_of_getElem? (i := 102) (by decide +kernel))) (by decide +kernel)
theorem q4_103 : (Jvm.Cond.instanceMethod ({ cls := "HintedStemsModel", name := "stemOf", desc := "(III)I" } : Jvm.MethodName)) ∈ hWall := hWall_of (tb4 (List.mem_of_getElem? (i := 103) (by decide +kernel))) (by decide +kernel)
theorem q4_104 : (Jvm.Cond.selects "HintedStemsModel" ({ cls := "HintedStemsModel", name := "stemOf", desc := "(III)I" } : Jvm.MethodName) ({ cls := "HintedStemsModel", name := "stemOf", desc := "(III)I" } : Jvm.MethodName)) ∈ hWall := hWall_of (tb4 (List.mem_of_getElem? (i := 104) (by decide +kernel))) (by decide +kernel)
theorem q4_105 : (Jvm.Cond.code ({ cls := "HintedStemsModel", name := "stemOf", desc := "(III)I" } : Jvm.MethodName) prog_8_method_43_code (4 : Nat) (Option.some Jvm.ClassFile.FieldType.int)) ∈ hWall := hWall_of (tb4 (List.mem_of_getElem? (i := 105) (by decide +kernel))) (by decide +kernel)
theorem q4_106 : (Jvm.Cond.methodLink "HintedStemsModel" (135 : Nat) ({ cls := "HintedStemsModel", name := "alike", desc := "(I)I" } : Jvm.MethodName)) ∈ hWall := hWall_of (tb4 (List.mem_of_getElem? (i := 106) (by decide +kernel))) (by decide +kernel)
theorem q4_107 : (Jvm.Cond.privateMethod ({ cls := "HintedStemsModel", name := "alike", desc := "(I)I" } : Jvm.MethodName)) ∈ lw_tbl := tb4 (List.mem_of_getElem? (i := 107) (by decide +kernel))
theorem q4_108 : (Jvm.Cond.instanceMethod ({ cls := "HintedStemsModel", name := "alike", desc := "(I)I" } : Jvm.MethodName)) ∈ hWall := hWall_of (tb4 (List.mem_of_getElem? (i := 108) (by decide +kernel))) (by decide +kernel)
theorem q4_109 : (Jvm.Cond.code ({ cls := "HintedStemsModel", name := "alike", desc := "(I)I" } : Jvm.MethodName) prog_8_method_42_code (5 : Nat) (Option.some Jvm.ClassFile.FieldType.int)) ∈ hWall := hWall_of (tb4 (List.mem_of_getElem? (i := 109) (by decide +kernel))) (by decide +kernel)
theorem q4_110 : (Jvm.Cond.methodLink "HintedStemsLaw" (56 : Nat) ({ cls := "HintedStemsModel", name := "pixels", desc := "(IIII)I" } : Jvm.MethodName)) ∈ hWall := hWall_of (tb4 (List.mem_of_getElem? (i := 110) (by decide +kernel))) (by decide +kernel)
theorem q4_111 : (Jvm.Cond.instanceMethod ({ cls := "HintedStemsModel", name := "pixels", desc := "(IIII)I" } : Jvm.MethodName)) ∈ hWall := hWall_of (tb4 (List.mem_of_getElem? (i := 111) (by decide +kernel))) (by decide +kernel)
theorem q4_112 : (Jvm.Cond.selects "HintedStemsModel" ({ cls := "HintedStemsModel", name := "pixels", desc := "(IIII)I" } : Jvm.MethodName) ({ cls := "HintedStemsModel", name := "pixels", desc := "(IIII)I" } : Jvm.MethodName)) ∈ hWall := hWall_of (tb4 (List.mem_of_getElem? (i := 112) (by decide +kernel))) (by decide +kernel)
theorem q4_113 : (Jvm.Cond.code ({ cls := "HintedStemsModel", name := "pixels", desc := "(IIII)I" } : Jvm.MethodName) prog_8_method_44_code (5 : Nat) (Option.some Jvm.ClassFile.FieldType.int)) ∈ hWall := hWall_of (tb4 (List.mem_of_getElem? (i := 113) (by decide +kernel))) (by decide +kernel)
theorem q4_114 : (Jvm.Cond.methodLink "HintedStemsModel" (110 : Nat) ({ cls := "HintedStemsModel", name := "cuts", desc := "(II)I" } : Jvm.MethodName)) ∈ hWall := hWall_of (tb4 (List.mem_of_getElem? (i := 114) (by decide +kernel))) (by decide +kernel)
theorem q4_115 : (Jvm.Cond.privateMethod ({ cls := "HintedStemsModel", name := "cuts", desc := "(II)I" } : Jvm.MethodName)) ∈ lw_tbl := tb4 (List.mem_of_getElem? (i := 115) (by decide +kernel))
theorem q4_116 : (Jvm.Cond.instanceMethod ({ cls := "HintedStemsModel", name := "cuts", desc := "(II)I" } : Jvm.MethodName)) ∈ hWall := hWall_of (tb4 (List.mem_of_getElem? (i := 116) (by decide +kernel))) (by decide +kernel)
theorem q4_117 : (Jvm.Cond.code ({ cls := "HintedStemsModel", name := "cuts", desc := "(II)I" } : Jvm.MethodName) prog_8_method_30_code (5 : Nat) (Option.some Jvm.ClassFile.FieldType.int)) ∈ hWall := hWall_of (tb4 (List.mem_of_getElem? (i := 117) (by decide +kernel))) (by decide +kernel)
theorem q4_118 : (Jvm.Cond.methodLink "HintedStemsLaw" (60 : Nat) ({ cls := "HintedStemsModel", name := "glyphOf", desc := "(III)I" } : Jvm.MethodName)) ∈ hWall := hWall_of (tb4 (List.mem_of_getElem? (i := 118) (by decide +kernel))) (by decide +kernel)
theorem q4_119 : (Jvm.Cond.instanceMethod ({ cls := "HintedStemsModel", name := "glyphOf", desc := "(III)I" } : Jvm.MethodName)) ∈ hWall := hWall_of (tb4 (List.mem_of_getElem? (i := 119) (by decide +kernel))) (by decide +kernel)
theorem q4_120 : (Jvm.Cond.selects "HintedStemsModel" ({ cls := "HintedStemsModel", name := "glyphOf", desc := "(III)I" } : Jvm.MethodName) ({ cls := "HintedStemsModel", name := "glyphOf", desc := "(III)I" } : Jvm.MethodName)) ∈ hWall := hWall_of (tb4 (List.mem_of_getElem? (i := 120) (by decide +kernel))) (by decide +kernel)
theorem q4_121 : (Jvm.Cond.code ({ cls := "HintedStemsModel", name := "glyphOf", desc := "(III)I" } : Jvm.MethodName) prog_8_method_46_code (4 : Nat) (Option.some Jvm.ClassFile.FieldType.int)) ∈ hWall := hWall_of (tb4 (List.mem_of_getElem? (i := 121) (by decide +kernel))) (by decide +kernel)
theorem q4_122 : (Jvm.Cond.methodLink "HintedStemsModel" (132 : Nat) ({ cls := "HintedStemsModel", name := "ones", desc := "(I)I" } : Jvm.MethodName)) ∈ hWall := hWall_of (tb4 (List.mem_of_getElem? (i := 122) (by decide +kernel))) (by decide +kernel)
theorem q4_123 : (Jvm.Cond.static ({ cls := "HintedStemsModel", name := "ones", desc := "(I)I" } : Jvm.MethodName)) ∈ hWall := hWall_of (tb4 (List.mem_of_getElem? (i := 123) (by decide +kernel))) (by decide +kernel)
theorem q4_124 : (Jvm.Cond.code ({ cls := "HintedStemsModel", name := "ones", desc := "(I)I" } : Jvm.MethodName) prog_8_method_39_code (3 : Nat) (Option.some Jvm.ClassFile.FieldType.int)) ∈ hWall := hWall_of (tb4 (List.mem_of_getElem? (i := 124) (by decide +kernel))) (by decide +kernel)
theorem q4_125 : (Jvm.Cond.methodLink "HintedStemsModel" (138 : Nat) ({ cls := "HintedStemsModel", name := "isClear", desc := "(II)Z" } : Jvm.MethodName)) ∈ hWall := hWall_of (tb4 (List.mem_of_getElem? (i := 125) (by decide +kernel))) (by decide +kernel)
theorem q4_126 : (Jvm.Cond.privateMethod ({ cls := "HintedStemsModel", name := "isClear", desc := "(II)Z" } : Jvm.MethodName)) ∈ lw_tbl := tb4 (List.mem_of_getElem? (i := 126) (by decide +kernel))
theorem q4_127 : (Jvm.Cond.instanceMethod ({ cls := "HintedStemsModel", name := "isClear", desc := "(II)Z" } : Jvm.MethodName)) ∈ hWall := hWall_of (tb4 (List.mem_of_getElem? (i := 127) (by decide +kernel))) (by decide +kernel)
theorem q4_128 : (Jvm.Cond.code ({ cls := "HintedStemsModel", name := "isClear", desc := "(II)Z" } : Jvm.MethodName) prog_8_method_31_code (3 : Nat) (Option.some Jvm.ClassFile.FieldType.boolean)) ∈ hWall := hWall_of (tb4 (List.mem_of_getElem? (i := 128) (by decide +kernel))) (by decide +kernel)
theorem q4_129 : (Jvm.Cond.methodLink "HintedStemsModel" (141 : Nat) ({ cls := "HintedStemsModel", name := "runsOf", desc := "(II)I" } : Jvm.MethodName)) ∈ hWall := hWall_of (tb4 (List.mem_of_getElem? (i := 129) (by decide +kernel))) (by decide +kernel)
theorem q4_130 : (Jvm.Cond.privateMethod ({ cls := "HintedStemsModel", name := "runsOf", desc := "(II)I" } : Jvm.MethodName)) ∈ lw_tbl := tb4 (List.mem_of_getElem? (i := 130) (by decide +kernel))
theorem q4_131 : (Jvm.Cond.instanceMethod ({ cls := "HintedStemsModel", name := "runsOf", desc := "(II)I" } : Jvm.MethodName)) ∈ hWall := hWall_of (tb4 (List.mem_of_getElem? (i := 131) (by decide +kernel))) (by decide +kernel)
theorem q4_132 : (Jvm.Cond.code ({ cls := "HintedStemsModel", name := "runsOf", desc := "(II)I" } : Jvm.MethodName) prog_8_method_45_code (5 : Nat) (Option.some Jvm.ClassFile.FieldType.int)) ∈ hWall := hWall_of (tb4 (List.mem_of_getElem? (i := 132) (by decide +kernel))) (by decide +kernel)
theorem q4_133 : (Jvm.Cond.methodLink "HintedStemsLaw" (64 : Nat) ({ cls := "HintedStemsModel", name := "lit", desc := "(III)I" } : Jvm.MethodName)) ∈ hWall := hWall_of (tb4 (List.mem_of_getElem? (i := 133) (by decide +kernel))) (by decide +kernel)
theorem q4_134 : (Jvm.Cond.instanceMethod ({ cls := "HintedStemsModel", name := "lit", desc := "(III)I" } : Jvm.MethodName)) ∈ hWall := hWall_of (tb4 (List.mem_of_getElem? (i := 134) (by decide +kernel))) (by decide +kernel)
theorem q4_135 : (Jvm.Cond.selects "HintedStemsModel" ({ cls := "HintedStemsModel", name := "lit", desc := "(III)I" } : Jvm.MethodName) ({ cls := "HintedStemsModel", name := "lit", desc := "(III)I" } : Jvm.MethodName)) ∈ hWall := hWall_of (tb4 (List.mem_of_getElem? (i := 135) (by decide +kernel))) (by decide +kernel)
theorem q4_136 : (Jvm.Cond.code ({ cls := "HintedStemsModel", name := "lit", desc := "(III)I" } : Jvm.MethodName) prog_8_method_47_code (4 : Nat) (Option.some Jvm.ClassFile.FieldType.int)) ∈ hWall := hWall_of (tb4 (List.mem_of_getElem? (i := 136) (by decide +kernel))) (by decide +kernel)
theorem q4_137 : (Jvm.Cond.methodLink "HintedStemsLaw" (68 : Nat) ({ cls := "HintedStemsModel", name := "inSheet", desc := "(III)I" } : Jvm.MethodName)) ∈ hWall := hWall_of (tb4 (List.mem_of_getElem? (i := 137) (by decide +kernel))) (by decide +kernel)
theorem q4_138 : (Jvm.Cond.instanceMethod ({ cls := "HintedStemsModel", name := "inSheet", desc := "(III)I" } : Jvm.MethodName)) ∈ hWall := hWall_of (tb4 (List.mem_of_getElem? (i := 138) (by decide +kernel))) (by decide +kernel)
theorem q4_139 : (Jvm.Cond.selects "HintedStemsModel" ({ cls := "HintedStemsModel", name := "inSheet", desc := "(III)I" } : Jvm.MethodName) ({ cls := "HintedStemsModel", name := "inSheet", desc := "(III)I" } : Jvm.MethodName)) ∈ hWall := hWall_of (tb4 (List.mem_of_getElem? (i := 139) (by decide +kernel))) (by decide +kernel)
theorem q4_140 : (Jvm.Cond.code ({ cls := "HintedStemsModel", name := "inSheet", desc := "(III)I" } : Jvm.MethodName) prog_8_method_48_code (5 : Nat) (Option.some Jvm.ClassFile.FieldType.int)) ∈ hWall := hWall_of (tb4 (List.mem_of_getElem? (i := 140) (by decide +kernel))) (by decide +kernel)
theorem q4_141 : (Jvm.Cond.methodLink "HintedStemsLaw" (72 : Nat) ({ cls := "HintedStemsModel", name := "sheetOf", desc := "(II)I" } : Jvm.MethodName)) ∈ hWall := hWall_of (tb4 (List.mem_of_getElem? (i := 141) (by decide +kernel))) (by decide +kernel)
theorem q4_142 : (Jvm.Cond.instanceMethod ({ cls := "HintedStemsModel", name := "sheetOf", desc := "(II)I" } : Jvm.MethodName)) ∈ hWall := hWall_of (tb4 (List.mem_of_getElem? (i := 142) (by decide +kernel))) (by decide +kernel)
theorem q4_143 : (Jvm.Cond.selects "HintedStemsModel" ({ cls := "HintedStemsModel", name := "sheetOf", desc := "(II)I" } : Jvm.MethodName) ({ cls := "HintedStemsModel", name := "sheetOf", desc := "(II)I" } : Jvm.MethodName)) ∈ hWall := hWall_of (tb4 (List.mem_of_getElem? (i := 143) (by decide +kernel))) (by decide +kernel)
theorem q4_144 : (Jvm.Cond.code ({ cls := "HintedStemsModel", name := "sheetOf", desc := "(II)I" } : Jvm.MethodName) prog_8_method_49_code (3 : Nat) (Option.some Jvm.ClassFile.FieldType.int)) ∈ hWall := hWall_of (tb4 (List.mem_of_getElem? (i := 144) (by decide +kernel))) (by decide +kernel)
theorem q4_145 : (Jvm.Cond.methodLink "HintedStemsModel" (144 : Nat) ({ cls := "HintedStemsModel", name := "isStale", desc := "(I)Z" } : Jvm.MethodName)) ∈ hWall := hWall_of (tb4 (List.mem_of_getElem? (i := 145) (by decide +kernel))) (by decide +kernel)
theorem q4_146 : (Jvm.Cond.privateMethod ({ cls := "HintedStemsModel", name := "isStale", desc := "(I)Z" } : Jvm.MethodName)) ∈ lw_tbl := tb4 (List.mem_of_getElem? (i := 146) (by decide +kernel))
theorem q4_147 : (Jvm.Cond.instanceMethod ({ cls := "HintedStemsModel", name := "isStale", desc := "(I)Z" } : Jvm.MethodName)) ∈ hWall := hWall_of (tb4 (List.mem_of_getElem? (i := 147) (by decide +kernel))) (by decide +kernel)
theorem q4_148 : (Jvm.Cond.code ({ cls := "HintedStemsModel", name := "isStale", desc := "(I)Z" } : Jvm.MethodName) prog_8_method_38_code (6 : Nat) (Option.some Jvm.ClassFile.FieldType.boolean)) ∈ hWall := hWall_of (tb4 (List.mem_of_getElem? (i := 148) (by decide +kernel))) (by decide +kernel)
theorem q4_149 : (Jvm.Cond.methodLink "HintedStemsModel" (147 : Nat) ({ cls := "HintedStemsModel", name := "litIn", desc := "(I)I" } : Jvm.MethodName)) ∈ hWall := hWall_of (tb4 (List.mem_of_getElem? (i := 149) (by decide +kernel))) (by decide +kernel)
theorem q4_150 : (Jvm.Cond.privateMethod ({ cls := "HintedStemsModel", name := "litIn", desc := "(I)I" } : Jvm.MethodName)) ∈ lw_tbl := tb4 (List.mem_of_getElem? (i := 150) (by decide +kernel))
theorem q4_151 : (Jvm.Cond.instanceMethod ({ cls := "HintedStemsModel", name := "litIn", desc := "(I)I" } : Jvm.MethodName)) ∈ hWall := hWall_of (tb4 (List.mem_of_getElem? (i := 151) (by decide +kernel))) (by decide +kernel)
theorem q4_152 : (Jvm.Cond.code ({ cls := "HintedStemsModel", name := "litIn", desc := "(I)I" } : Jvm.MethodName) prog_8_method_40_code (4 : Nat) (Option.some Jvm.ClassFile.FieldType.int)) ∈ hWall := hWall_of (tb4 (List.mem_of_getElem? (i := 152) (by decide +kernel))) (by decide +kernel)
theorem q4_153 : (Jvm.Cond.methodLink "HintedStemsLaw" (76 : Nat) ({ cls := "HintedStemsModel", name := "even", desc := "(I)I" } : Jvm.MethodName)) ∈ hWall := hWall_of (tb4 (List.mem_of_getElem? (i := 153) (by decide +kernel))) (by decide +kernel)
theorem q4_154 : (Jvm.Cond.instanceMethod ({ cls := "HintedStemsModel", name := "even", desc := "(I)I" } : Jvm.MethodName)) ∈ hWall := hWall_of (tb4 (List.mem_of_getElem? (i := 154) (by decide +kernel))) (by decide +kernel)
theorem q4_155 : (Jvm.Cond.selects "HintedStemsModel" ({ cls := "HintedStemsModel", name := "even", desc := "(I)I" } : Jvm.MethodName) ({ cls := "HintedStemsModel", name := "even", desc := "(I)I" } : Jvm.MethodName)) ∈ hWall := hWall_of (tb4 (List.mem_of_getElem? (i := 155) (by decide +kernel))) (by decide +kernel)
theorem q4_156 : (Jvm.Cond.code ({ cls := "HintedStemsModel", name := "even", desc := "(I)I" } : Jvm.MethodName) prog_8_method_51_code (5 : Nat) (Option.some Jvm.ClassFile.FieldType.int)) ∈ hWall := hWall_of (tb4 (List.mem_of_getElem? (i := 156) (by decide +kernel))) (by decide +kernel)
theorem q4_157 : (Jvm.Cond.methodLink "HintedStemsModel" (150 : Nat) ({ cls := "HintedStemsModel", name := "isEven", desc := "(III)Z" } : Jvm.MethodName)) ∈ hWall := hWall_of (tb4 (List.mem_of_getElem? (i := 157) (by decide +kernel))) (by decide +kernel)
theorem q4_158 : (Jvm.Cond.privateMethod ({ cls := "HintedStemsModel", name := "isEven", desc := "(III)Z" } : Jvm.MethodName)) ∈ lw_tbl := tb4 (List.mem_of_getElem? (i := 158) (by decide +kernel))
theorem q4_159 : (Jvm.Cond.instanceMethod ({ cls := "HintedStemsModel", name := "isEven", desc := "(III)Z" } : Jvm.MethodName)) ∈ hWall := hWall_of (tb4 (List.mem_of_getElem? (i := 159) (by decide +kernel))) (by decide +kernel)
theorem q4_160 : (Jvm.Cond.code ({ cls := "HintedStemsModel", name := "isEven", desc := "(III)Z" } : Jvm.MethodName) prog_8_method_50_code (8 : Nat) (Option.some Jvm.ClassFile.FieldType.boolean)) ∈ hWall := hWall_of (tb4 (List.mem_of_getElem? (i := 160) (by decide +kernel))) (by decide +kernel)
theorem q4_161 : (Jvm.Cond.methodLink "HintedStemsLaw" (80 : Nat) ({ cls := "HintedStemsModel", name := "clear", desc := "(I)I" } : Jvm.MethodName)) ∈ hWall := hWall_of (tb4 (List.mem_of_getElem? (i := 161) (by decide +kernel))) (by decide +kernel)
theorem q4_162 : (Jvm.Cond.instanceMethod ({ cls := "HintedStemsModel", name := "clear", desc := "(I)I" } : Jvm.MethodName)) ∈ hWall := hWall_of (tb4 (List.mem_of_getElem? (i := 162) (by decide +kernel))) (by decide +kernel)
theorem q4_163 : (Jvm.Cond.selects "HintedStemsModel" ({ cls := "HintedStemsModel", name := "clear", desc := "(I)I" } : Jvm.MethodName) ({ cls := "HintedStemsModel", name := "clear", desc := "(I)I" } : Jvm.MethodName)) ∈ hWall := hWall_of (tb4 (List.mem_of_getElem? (i := 163) (by decide +kernel))) (by decide +kernel)
theorem q4_164 : (Jvm.Cond.code ({ cls := "HintedStemsModel", name := "clear", desc := "(I)I" } : Jvm.MethodName) prog_8_method_52_code (3 : Nat) (Option.some Jvm.ClassFile.FieldType.int)) ∈ hWall := hWall_of (tb4 (List.mem_of_getElem? (i := 164) (by decide +kernel))) (by decide +kernel)
theorem q4_165 : (Jvm.Cond.methodLink "HintedStemsLaw" (84 : Nat) ({ cls := "HintedStemsModel", name := "best", desc := "(III)I" } : Jvm.MethodName)) ∈ hWall := hWall_of (tb4 (List.mem_of_getElem? (i := 165) (by decide +kernel))) (by decide +kernel)
theorem q4_166 : (Jvm.Cond.instanceMethod ({ cls := "HintedStemsModel", name := "best", desc := "(III)I" } : Jvm.MethodName)) ∈ hWall := hWall_of (tb4 (List.mem_of_getElem? (i := 166) (by decide +kernel))) (by decide +kernel)
theorem q4_167 : (Jvm.Cond.selects "HintedStemsModel" ({ cls := "HintedStemsModel", name := "best", desc := "(III)I" } : Jvm.MethodName) ({ cls := "HintedStemsModel", name := "best", desc := "(III)I" } : Jvm.MethodName)) ∈ hWall := hWall_of (tb4 (List.mem_of_getElem? (i := 167) (by decide +kernel))) (by decide +kernel)
theorem q4_168 : (Jvm.Cond.code ({ cls := "HintedStemsModel", name := "best", desc := "(III)I" } : Jvm.MethodName) prog_8_method_54_code (9 : Nat) (Option.some Jvm.ClassFile.FieldType.int)) ∈ hWall := hWall_of (tb4 (List.mem_of_getElem? (i := 168) (by decide +kernel))) (by decide +kernel)
theorem q4_169 : (Jvm.Cond.methodLink "HintedStemsModel" (153 : Nat) ({ cls := "HintedStemsModel", name := "clearSizes", desc := "(I)I" } : Jvm.MethodName)) ∈ hWall := hWall_of (tb4 (List.mem_of_getElem? (i := 169) (by decide +kernel))) (by decide +kernel)
theorem q4_170 : (Jvm.Cond.privateMethod ({ cls := "HintedStemsModel", name := "clearSizes", desc := "(I)I" } : Jvm.MethodName)) ∈ lw_tbl := tb4 (List.mem_of_getElem? (i := 170) (by decide +kernel))
theorem q4_171 : (Jvm.Cond.instanceMethod ({ cls := "HintedStemsModel", name := "clearSizes", desc := "(I)I" } : Jvm.MethodName)) ∈ hWall := hWall_of (tb4 (List.mem_of_getElem? (i := 171) (by decide +kernel))) (by decide +kernel)
theorem q4_172 : (Jvm.Cond.code ({ cls := "HintedStemsModel", name := "clearSizes", desc := "(I)I" } : Jvm.MethodName) prog_8_method_53_code (4 : Nat) (Option.some Jvm.ClassFile.FieldType.int)) ∈ hWall := hWall_of (tb4 (List.mem_of_getElem? (i := 172) (by decide +kernel))) (by decide +kernel)
theorem q4_173 : (Jvm.Cond.methodLink "HintedStemsLaw" (89 : Nat) ({ cls := "HintedStemsModel", name := "mean", desc := "()I" } : Jvm.MethodName)) ∈ hWall := hWall_of (tb4 (List.mem_of_getElem? (i := 173) (by decide +kernel))) (by decide +kernel)
theorem q4_174 : (Jvm.Cond.instanceMethod ({ cls := "HintedStemsModel", name := "mean", desc := "()I" } : Jvm.MethodName)) ∈ hWall := hWall_of (tb4 (List.mem_of_getElem? (i := 174) (by decide +kernel))) (by decide +kernel)
theorem q4_175 : (Jvm.Cond.selects "HintedStemsModel" ({ cls := "HintedStemsModel", name := "mean", desc := "()I" } : Jvm.MethodName) ({ cls := "HintedStemsModel", name := "mean", desc := "()I" } : Jvm.MethodName)) ∈ hWall := hWall_of (tb4 (List.mem_of_getElem? (i := 175) (by decide +kernel))) (by decide +kernel)
theorem q4_176 : (Jvm.Cond.code ({ cls := "HintedStemsModel", name := "mean", desc := "()I" } : Jvm.MethodName) prog_8_method_56_code (4 : Nat) (Option.some Jvm.ClassFile.FieldType.int)) ∈ hWall := hWall_of (tb4 (List.mem_of_getElem? (i := 176) (by decide +kernel))) (by decide +kernel)
theorem q4_177 : (Jvm.Cond.methodLink "HintedStemsModel" (156 : Nat) ({ cls := "HintedStemsModel", name := "stems", desc := "()I" } : Jvm.MethodName)) ∈ hWall := hWall_of (tb4 (List.mem_of_getElem? (i := 177) (by decide +kernel))) (by decide +kernel)
theorem q4_178 : (Jvm.Cond.privateMethod ({ cls := "HintedStemsModel", name := "stems", desc := "()I" } : Jvm.MethodName)) ∈ lw_tbl := tb4 (List.mem_of_getElem? (i := 178) (by decide +kernel))
theorem q4_179 : (Jvm.Cond.instanceMethod ({ cls := "HintedStemsModel", name := "stems", desc := "()I" } : Jvm.MethodName)) ∈ hWall := hWall_of (tb4 (List.mem_of_getElem? (i := 179) (by decide +kernel))) (by decide +kernel)
theorem q4_180 : (Jvm.Cond.code ({ cls := "HintedStemsModel", name := "stems", desc := "()I" } : Jvm.MethodName) prog_8_method_55_code (3 : Nat) (Option.some Jvm.ClassFile.FieldType.int)) ∈ hWall := hWall_of (tb4 (List.mem_of_getElem? (i := 180) (by decide +kernel))) (by decide +kernel)
theorem q4_181 : (Jvm.Cond.methodLink "HintedStemsModel" (160 : Nat) ({ cls := "java/lang/Float", name := "floatToIntBits", desc := "(F)I" } : Jvm.MethodName)) ∈ hWall := hWall_of (tb4 (List.mem_of_getElem? (i := 181) (by decide +kernel))) (by decide +kernel)
theorem q4_182 : (Jvm.Cond.static ({ cls := "java/lang/Float", name := "floatToIntBits", desc := "(F)I" } : Jvm.MethodName)) ∈ hWall := hWall_of (tb4 (List.mem_of_getElem? (i := 182) (by decide +kernel))) (by decide +kernel)
theorem q4_183 : (Jvm.Cond.code ({ cls := "java/lang/Float", name := "floatToIntBits", desc := "(F)I" } : Jvm.MethodName) prog_9_method_24_code (1 : Nat) (Option.some Jvm.ClassFile.FieldType.int)) ∈ hWall := hWall_of (tb4 (List.mem_of_getElem? (i := 183) (by decide +kernel))) (by decide +kernel)
theorem q4_184 : (Jvm.Cond.methodLink "java/lang/Float" (59 : Nat) ({ cls := "java/lang/Float", name := "isNaN", desc := "(F)Z" } : Jvm.MethodName)) ∈ hWall := hWall_of (tb4 (List.mem_of_getElem? (i := 184) (by decide +kernel))) (by decide +kernel)
theorem q4_185 : (Jvm.Cond.static ({ cls := "java/lang/Float", name := "isNaN", desc := "(F)Z" } : Jvm.MethodName)) ∈ hWall := hWall_of (tb4 (List.mem_of_getElem? (i := 185) (by decide +kernel))) (by decide +kernel)
theorem q4_186 : (Jvm.Cond.code ({ cls := "java/lang/Float", name := "isNaN", desc := "(F)Z" } : Jvm.MethodName) prog_9_method_6_code (1 : Nat) (Option.some Jvm.ClassFile.FieldType.boolean)) ∈ hWall := hWall_of (tb4 (List.mem_of_getElem? (i := 186) (by decide +kernel))) (by decide +kernel)
theorem q4_187 : (Jvm.Cond.methodLink "java/lang/Float" (74 : Nat) ({ cls := "java/lang/Float", name := "floatToRawIntBits", desc := "(F)I" } : Jvm.MethodName)) ∈ hWall := hWall_of (tb4 (List.mem_of_getElem? (i := 187) (by decide +kernel))) (by decide +kernel)
theorem q4_188 : (Jvm.Cond.static ({ cls := "java/lang/Float", name := "floatToRawIntBits", desc := "(F)I" } : Jvm.MethodName)) ∈ hWall := hWall_of (tb4 (List.mem_of_getElem? (i := 188) (by decide +kernel))) (by decide +kernel)
theorem q4_189 : (Jvm.Cond.native ({ cls := "java/lang/Float", name := "floatToRawIntBits", desc := "(F)I" } : Jvm.MethodName)) ∈ hWall := hWall_of (tb4 (List.mem_of_getElem? (i := 189) (by decide +kernel))) (by decide +kernel)
theorem q4_190 : (Jvm.Cond.constant "java/lang/Float" (77 : Nat) (2143289344 : Int32)) ∈ hWall := hWall_of (tb4 (List.mem_of_getElem? (i := 190) (by decide +kernel))) (by decide +kernel)
theorem q4_191 : (Jvm.Cond.methodLink "HintedStemsLaw" (93 : Nat) ({ cls := "HintedStemsModel", name := "count", desc := "(I)I" } : Jvm.MethodName)) ∈ hWall := hWall_of (tb4 (List.mem_of_getElem? (i := 191) (by decide +kernel))) (by decide +kernel)
theorem q4_192 : (Jvm.Cond.instanceMethod ({ cls := "HintedStemsModel", name := "count", desc := "(I)I" } : Jvm.MethodName)) ∈ hWall := hWall_of (tb4 (List.mem_of_getElem? (i := 192) (by decide +kernel))) (by decide +kernel)
theorem q4_193 : (Jvm.Cond.selects "HintedStemsModel" ({ cls := "HintedStemsModel", name := "count", desc := "(I)I" } : Jvm.MethodName) ({ cls := "HintedStemsModel", name := "count", desc := "(I)I" } : Jvm.MethodName)) ∈ hWall := hWall_of (tb4 (List.mem_of_getElem? (i := 193) (by decide +kernel))) (by decide +kernel)
theorem q4_194 : (Jvm.Cond.code ({ cls := "HintedStemsModel", name := "count", desc := "(I)I" } : Jvm.MethodName) prog_8_method_59_code (2 : Nat) (Option.some Jvm.ClassFile.FieldType.int)) ∈ hWall := hWall_of (tb4 (List.mem_of_getElem? (i := 194) (by decide +kernel))) (by decide +kernel)
theorem q4_195 : (Jvm.Cond.methodLink "HintedStemsModel" (166 : Nat) ({ cls := "HintedStemsModel", name := "stales", desc := "()I" } : Jvm.MethodName)) ∈ hWall := hWall_of (tb4 (List.mem_of_getElem? (i := 195) (by decide +kernel))) (by decide +kernel)
theorem q4_196 : (Jvm.Cond.privateMethod ({ cls := "HintedStemsModel", name := "stales", desc := "()I" } : Jvm.MethodName)) ∈ lw_tbl := tb4 (List.mem_of_getElem? (i := 196) (by decide +kernel))
theorem q4_197 : (Jvm.Cond.instanceMethod ({ cls := "HintedStemsModel", name := "stales", desc := "()I" } : Jvm.MethodName)) ∈ hWall := hWall_of (tb4 (List.mem_of_getElem? (i := 197) (by decide +kernel))) (by decide +kernel)
theorem q4_198 : (Jvm.Cond.code ({ cls := "HintedStemsModel", name := "stales", desc := "()I" } : Jvm.MethodName) prog_8_method_57_code (3 : Nat) (Option.some Jvm.ClassFile.FieldType.int)) ∈ hWall := hWall_of (tb4 (List.mem_of_getElem? (i := 198) (by decide +kernel))) (by decide +kernel)
theorem q4_199 : (Jvm.Cond.methodLink "HintedStemsModel" (169 : Nat) ({ cls := "HintedStemsModel", name := "unlikeWidths", desc := "()I" } : Jvm.MethodName)) ∈ hWall := hWall_of (tb4 (List.mem_of_getElem? (i := 199) (by decide +kernel))) (by decide +kernel)
theorem q4_200 : (Jvm.Cond.privateMethod ({ cls := "HintedStemsModel", name := "unlikeWidths", desc := "()I" } : Jvm.MethodName)) ∈ lw_tbl := tb4 (List.mem_of_getElem? (i := 200) (by decide +kernel))
theorem q4_201 : (Jvm.Cond.instanceMethod ({ cls := "HintedStemsModel", name := "unlikeWidths", desc := "()I" } : Jvm.MethodName)) ∈ hWall := hWall_of (tb4 (List.mem_of_getElem? (i := 201) (by decide +kernel))) (by decide +kernel)
theorem q4_202 : (Jvm.Cond.code ({ cls := "HintedStemsModel", name := "unlikeWidths", desc := "()I" } : Jvm.MethodName) prog_8_method_58_code (3 : Nat) (Option.some Jvm.ClassFile.FieldType.int)) ∈ hWall := hWall_of (tb4 (List.mem_of_getElem? (i := 202) (by decide +kernel))) (by decide +kernel)
theorem q4_203 : (Jvm.Cond.methodLink "HintedStemsLaw" (97 : Nat) ({ cls := "HintedStemsModel", name := "undo", desc := "()I" } : Jvm.MethodName)) ∈ hWall := hWall_of (tb4 (List.mem_of_getElem? (i := 203) (by decide +kernel))) (by decide +kernel)
theorem q4_204 : (Jvm.Cond.instanceMethod ({ cls := "HintedStemsModel", name := "undo", desc := "()I" } : Jvm.MethodName)) ∈ hWall := hWall_of (tb4 (List.mem_of_getElem? (i := 204) (by decide +kernel))) (by decide +kernel)
theorem q4_205 : (Jvm.Cond.selects "HintedStemsModel" ({ cls := "HintedStemsModel", name := "undo", desc := "()I" } : Jvm.MethodName) ({ cls := "HintedStemsModel", name := "undo", desc := "()I" } : Jvm.MethodName)) ∈ hWall := hWall_of (tb4 (List.mem_of_getElem? (i := 205) (by decide +kernel))) (by decide +kernel)
theorem q4_206 : (Jvm.Cond.code ({ cls := "HintedStemsModel", name := "undo", desc := "()I" } : Jvm.MethodName) prog_8_method_60_code (2 : Nat) (Option.some Jvm.ClassFile.FieldType.int)) ∈ hWall := hWall_of (tb4 (List.mem_of_getElem? (i := 206) (by decide +kernel))) (by decide +kernel)
theorem q4_207 : (Jvm.Cond.methodLink "HintedStemsLaw" (101 : Nat) ({ cls := "HintedStemsModel", name := "type", desc := "(I)I" } : Jvm.MethodName)) ∈ hWall := hWall_of (tb4 (List.mem_of_getElem? (i := 207) (by decide +kernel))) (by decide +kernel)
theorem q4_208 : (Jvm.Cond.instanceMethod ({ cls := "HintedStemsModel", name := "type", desc := "(I)I" } : Jvm.MethodName)) ∈ hWall := hWall_of (tb4 (List.mem_of_getElem? (i := 208) (by decide +kernel))) (by decide +kernel)
theorem q4_209 : (Jvm.Cond.selects "HintedStemsModel" ({ cls := "HintedStemsModel", name := "type", desc := "(I)I" } : Jvm.MethodName) ({ cls := "HintedStemsModel", name := "type", desc := "(I)I" } : Jvm.MethodName)) ∈ hWall := hWall_of (tb4 (List.mem_of_getElem? (i := 209) (by decide +kernel))) (by decide +kernel)
theorem q4_210 : (Jvm.Cond.code ({ cls := "HintedStemsModel", name := "type", desc := "(I)I" } : Jvm.MethodName) prog_8_method_61_code (2 : Nat) (Option.some Jvm.ClassFile.FieldType.int)) ∈ hWall := hWall_of (tb4 (List.mem_of_getElem? (i := 210) (by decide +kernel))) (by decide +kernel)
theorem q4_211 : (Jvm.Cond.methodLink "HintedStemsLaw" (105 : Nat) ({ cls := "HintedStemsModel", name := "clearText", desc := "()I" } : Jvm.MethodName)) ∈ hWall := hWall_of (tb4 (List.mem_of_getElem? (i := 211) (by decide +kernel))) (by decide +kernel)
theorem q4_212 : (Jvm.Cond.instanceMethod ({ cls := "HintedStemsModel", name := "clearText", desc := "()I" } : Jvm.MethodName)) ∈ hWall := hWall_of (tb4 (List.mem_of_getElem? (i := 212) (by decide +kernel))) (by decide +kernel)
theorem q4_213 : (Jvm.Cond.selects "HintedStemsModel" ({ cls := "HintedStemsModel", name := "clearText", desc := "()I" } : Jvm.MethodName) ({ cls := "HintedStemsModel", name := "clearText", desc := "()I" } : Jvm.MethodName)) ∈ hWall := hWall_of (tb4 (List.mem_of_getElem? (i := 213) (by decide +kernel))) (by decide +kernel)
theorem q4_214 : (Jvm.Cond.code ({ cls := "HintedStemsModel", name := "clearText", desc := "()I" } : Jvm.MethodName) prog_8_method_62_code (2 : Nat) (Option.some Jvm.ClassFile.FieldType.int)) ∈ hWall := hWall_of (tb4 (List.mem_of_getElem? (i := 214) (by decide +kernel))) (by decide +kernel)
theorem q4_215 : (Jvm.Cond.methodLink "HintedStemsLaw" (109 : Nat) ({ cls := "HintedStemsModel", name := "fault", desc := "(I)I" } : Jvm.MethodName)) ∈ hWall := hWall_of (tb4 (List.mem_of_getElem? (i := 215) (by decide +kernel))) (by decide +kernel)
theorem q4_216 : (Jvm.Cond.instanceMethod ({ cls := "HintedStemsModel", name := "fault", desc := "(I)I" } : Jvm.MethodName)) ∈ hWall := hWall_of (tb4 (List.mem_of_getElem? (i := 216) (by decide +kernel))) (by decide +kernel)
theorem q4_217 : (Jvm.Cond.selects "HintedStemsModel" ({ cls := "HintedStemsModel", name := "fault", desc := "(I)I" } : Jvm.MethodName) ({ cls := "HintedStemsModel", name := "fault", desc := "(I)I" } : Jvm.MethodName)) ∈ hWall := hWall_of (tb4 (List.mem_of_getElem? (i := 217) (by decide +kernel))) (by decide +kernel)
theorem q4_218 : (Jvm.Cond.code ({ cls := "HintedStemsModel", name := "fault", desc := "(I)I" } : Jvm.MethodName) prog_8_method_70_code (3 : Nat) (Option.some Jvm.ClassFile.FieldType.int)) ∈ hWall := hWall_of (tb4 (List.mem_of_getElem? (i := 218) (by decide +kernel))) (by decide +kernel)
theorem q4_219 : (Jvm.Cond.methodLink "HintedStemsModel" (227 : Nat) ({ cls := "HintedStemsModel", name := "copies", desc := "([I[I)V" } : Jvm.MethodName)) ∈ hWall := hWall_of (tb4 (List.mem_of_getElem? (i := 219) (by decide +kernel))) (by decide +kernel)
theorem q4_220 : (Jvm.Cond.static ({ cls := "HintedStemsModel", name := "copies", desc := "([I[I)V" } : Jvm.MethodName)) ∈ hWall := hWall_of (tb4 (List.mem_of_getElem? (i := 220) (by decide +kernel))) (by decide +kernel)
theorem q4_221 : (Jvm.Cond.code ({ cls := "HintedStemsModel", name := "copies", desc := "([I[I)V" } : Jvm.MethodName) prog_8_method_5_code (3 : Nat) (Option.none : Option Jvm.ClassFile.FieldType)) ∈ hWall := hWall_of (tb4 (List.mem_of_getElem? (i := 221) (by decide +kernel))) (by decide +kernel)
theorem q4_222 : (Jvm.Cond.methodLink "HintedStemsModel" (231 : Nat) ({ cls := "HintedStemsModel", name := "plays", desc := "()Z" } : Jvm.MethodName)) ∈ hWall := hWall_of (tb4 (List.mem_of_getElem? (i := 222) (by decide +kernel))) (by decide +kernel)
theorem q4_223 : (Jvm.Cond.privateMethod ({ cls := "HintedStemsModel", name := "plays", desc := "()Z" } : Jvm.MethodName)) ∈ lw_tbl := tb4 (List.mem_of_getElem? (i := 223) (by decide +kernel))
theorem q4_224 : (Jvm.Cond.instanceMethod ({ cls := "HintedStemsModel", name := "plays", desc := "()Z" } : Jvm.MethodName)) ∈ hWall := hWall_of (tb4 (List.mem_of_getElem? (i := 224) (by decide +kernel))) (by decide +kernel)
theorem q4_225 : (Jvm.Cond.code ({ cls := "HintedStemsModel", name := "plays", desc := "()Z" } : Jvm.MethodName) prog_8_method_69_code (4 : Nat) (Option.some Jvm.ClassFile.FieldType.boolean)) ∈ hWall := hWall_of (tb4 (List.mem_of_getElem? (i := 225) (by decide +kernel))) (by decide +kernel)
theorem q4_226 : (Jvm.Cond.methodLink "HintedStemsModel" (214 : Nat) ({ cls := "HintedStemsModel", name := "reads", desc := "()Z" } : Jvm.MethodName)) ∈ hWall := hWall_of (tb4 (List.mem_of_getElem? (i := 226) (by decide +kernel))) (by decide +kernel)
theorem q4_227 : (Jvm.Cond.privateMethod ({ cls := "HintedStemsModel", name := "reads", desc := "()Z" } : Jvm.MethodName)) ∈ lw_tbl := tb4 (List.mem_of_getElem? (i := 227) (by decide +kernel))
theorem q4_228 : (Jvm.Cond.instanceMethod ({ cls := "HintedStemsModel", name := "reads", desc := "()Z" } : Jvm.MethodName)) ∈ hWall := hWall_of (tb4 (List.mem_of_getElem? (i := 228) (by decide +kernel))) (by decide +kernel)
theorem q4_229 : (Jvm.Cond.code ({ cls := "HintedStemsModel", name := "reads", desc := "()Z" } : Jvm.MethodName) prog_8_method_67_code (4 : Nat) (Option.some Jvm.ClassFile.FieldType.boolean)) ∈ hWall := hWall_of (tb4 (List.mem_of_getElem? (i := 229) (by decide +kernel))) (by decide +kernel)
theorem q4_230 : (Jvm.Cond.methodLink "HintedStemsModel" (178 : Nat) ({ cls := "HintedStemsModel", name := "isAt", desc := "(II)Z" } : Jvm.MethodName)) ∈ hWall := hWall_of (tb4 (List.mem_of_getElem? (i := 230) (by decide +kernel))) (by decide +kernel)
theorem q4_231 : (Jvm.Cond.privateMethod ({ cls := "HintedStemsModel", name := "isAt", desc := "(II)Z" } : Jvm.MethodName)) ∈ lw_tbl := tb4 (List.mem_of_getElem? (i := 231) (by decide +kernel))
theorem q4_232 : (Jvm.Cond.instanceMethod ({ cls := "HintedStemsModel", name := "isAt", desc := "(II)Z" } : Jvm.MethodName)) ∈ hWall := hWall_of (tb4 (List.mem_of_getElem? (i := 232) (by decide +kernel))) (by decide +kernel)
theorem q4_233 : (Jvm.Cond.code ({ cls := "HintedStemsModel", name := "isAt", desc := "(II)Z" } : Jvm.MethodName) prog_8_method_63_code (3 : Nat) (Option.some Jvm.ClassFile.FieldType.boolean)) ∈ hWall := hWall_of (tb4 (List.mem_of_getElem? (i := 233) (by decide +kernel))) (by decide +kernel)
theorem q4_234 : (Jvm.Cond.methodLink "HintedStemsModel" (184 : Nat) ({ cls := "HintedStemsModel", name := "numbersOf", desc := "(I)I" } : Jvm.MethodName)) ∈ hWall := hWall_of (tb4 (List.mem_of_getElem? (i := 234) (by decide +kernel))) (by decide +kernel)
theorem q4_235 : (Jvm.Cond.static ({ cls := "HintedStemsModel", name := "numbersOf", desc := "(I)I" } : Jvm.MethodName)) ∈ hWall := hWall_of (tb4 (List.mem_of_getElem? (i := 235) (by decide +kernel))) (by decide +kernel)
theorem q4_236 : (Jvm.Cond.code ({ cls := "HintedStemsModel", name := "numbersOf", desc := "(I)I" } : Jvm.MethodName) prog_8_method_66_code (1 : Nat) (Option.some Jvm.ClassFile.FieldType.int)) ∈ hWall := hWall_of (tb4 (List.mem_of_getElem? (i := 236) (by decide +kernel))) (by decide +kernel)
theorem q4_237 : (Jvm.Cond.methodLink "HintedStemsModel" (187 : Nat) ({ cls := "HintedStemsModel", name := "numbered", desc := "(I)Z" } : Jvm.MethodName)) ∈ hWall := hWall_of (tb4 (List.mem_of_getElem? (i := 237) (by decide +kernel))) (by decide +kernel)
theorem q4_238 : (Jvm.Cond.privateMethod ({ cls := "HintedStemsModel", name := "numbered", desc := "(I)Z" } : Jvm.MethodName)) ∈ lw_tbl := tb4 (List.mem_of_getElem? (i := 238) (by decide +kernel))
theorem q4_239 : (Jvm.Cond.instanceMethod ({ cls := "HintedStemsModel", name := "numbered", desc := "(I)Z" } : Jvm.MethodName)) ∈ hWall := hWall_of (tb4 (List.mem_of_getElem? (i := 239) (by decide +kernel))) (by decide +kernel)
theorem q5_0 : (Jvm.Cond.code ({ cls := "HintedStemsModel", name := "numbered", desc := "(I)Z" } : Jvm.MethodName) prog_8_method_65_code (3 : Nat) (Option.some Jvm.ClassFile.FieldType.boolean)) ∈ hWall := hWall_of (tb5 (List.mem_of_getElem? (i := 0) (by decide +kernel))) (by decide +kernel)
theorem q5_1 : (Jvm.Cond.methodLink "HintedStemsModel" (190 : Nat) ({ cls := "HintedStemsModel", name := "sign", desc := "(I)Z" } : Jvm.MethodName)) ∈ hWall := hWall_of (tb5 (List.mem_of_getElem? (i := 1) (by decide +kernel))) (by decide +kernel)
theorem q5_2 : (Jvm.Cond.privateMethod ({ cls := "HintedStemsModel", name := "sign", desc := "(I)Z" } : Jvm.MethodName)) ∈ lw_tbl := tb5 (List.mem_of_getElem? (i := 2) (by decide +kernel))
theorem q5_3 : (Jvm.Cond.instanceMethod ({ cls := "HintedStemsModel", name := "sign", desc := "(I)Z" } : Jvm.MethodName)) ∈ hWall := hWall_of (tb5 (List.mem_of_getElem? (i := 3) (by decide +kernel))) (by decide +kernel)
theorem q5_4 : (Jvm.Cond.code ({ cls := "HintedStemsModel", name := "sign", desc := "(I)Z" } : Jvm.MethodName) prog_8_method_64_code (3 : Nat) (Option.some Jvm.ClassFile.FieldType.boolean)) ∈ hWall := hWall_of (tb5 (List.mem_of_getElem? (i := 4) (by decide +kernel))) (by decide +kernel)
theorem q5_5 : (Jvm.Cond.methodLink "HintedStemsModel" (218 : Nat) ({ cls := "HintedStemsModel", name := "calls", desc := "()I" } : Jvm.MethodName)) ∈ hWall := hWall_of (tb5 (List.mem_of_getElem? (i := 5) (by decide +kernel))) (by decide +kernel)
theorem q5_6 : (Jvm.Cond.privateMethod ({ cls := "HintedStemsModel", name := "calls", desc := "()I" } : Jvm.MethodName)) ∈ lw_tbl := tb5 (List.mem_of_getElem? (i := 6) (by decide +kernel))
theorem q5_7 : (Jvm.Cond.instanceMethod ({ cls := "HintedStemsModel", name := "calls", desc := "()I" } : Jvm.MethodName)) ∈ hWall := hWall_of (tb5 (List.mem_of_getElem? (i := 7) (by decide +kernel))) (by decide +kernel)
theorem q5_8 : (Jvm.Cond.code ({ cls := "HintedStemsModel", name := "calls", desc := "()I" } : Jvm.MethodName) prog_8_method_68_code (1 : Nat) (Option.some Jvm.ClassFile.FieldType.int)) ∈ hWall := hWall_of (tb5 (List.mem_of_getElem? (i := 8) (by decide +kernel))) (by decide +kernel)
theorem q5_9 : (Jvm.Cond.methodLink "HintedStemsModel" (193 : Nat) ({ cls := "HintedStemsModel", name := "glyph", desc := "(I)I" } : Jvm.MethodName)) ∈ hWall := hWall_of (tb5 (List.mem_of_getElem? (i := 9) (by decide +kernel))) (by decide +kernel)
theorem q5_10 : (Jvm.Cond.methodLink "HintedStemsModel" (196 : Nat) ({ cls := "HintedStemsModel", name := "stem", desc := "(III)I" } : Jvm.MethodName)) ∈ hWall := hWall_of (tb5 (List.mem_of_getElem? (i := 10) (by decide +kernel))) (by decide +kernel)
theorem q5_11 : (Jvm.Cond.methodLink "HintedStemsModel" (199 : Nat) ({ cls := "HintedStemsModel", name := "hint", desc := "(III)I" } : Jvm.MethodName)) ∈ hWall := hWall_of (tb5 (List.mem_of_getElem? (i := 11) (by decide +kernel))) (by decide +kernel)
theorem q5_12 : (Jvm.Cond.methodLink "HintedStemsModel" (202 : Nat) ({ cls := "HintedStemsModel", name := "standard", desc := "(I)I" } : Jvm.MethodName)) ∈ hWall := hWall_of (tb5 (List.mem_of_getElem? (i := 12) (by decide +kernel))) (by decide +kernel)
theorem q5_13 : (Jvm.Cond.methodLink "HintedStemsModel" (205 : Nat) ({ cls := "HintedStemsModel", name := "make", desc := "(I)I" } : Jvm.MethodName)) ∈ hWall := hWall_of (tb5 (List.mem_of_getElem? (i := 13) (by decide +kernel))) (by decide +kernel)
theorem q5_14 : (Jvm.Cond.methodLink "HintedStemsLaw" (113 : Nat) ({ cls := "HintedStemsModel", name := "play", desc := "()I" } : Jvm.MethodName)) ∈ hWall := hWall_of (tb5 (List.mem_of_getElem? (i := 14) (by decide +kernel))) (by decide +kernel)
theorem q5_15 : (Jvm.Cond.instanceMethod ({ cls := "HintedStemsModel", name := "play", desc := "()I" } : Jvm.MethodName)) ∈ hWall := hWall_of (tb5 (List.mem_of_getElem? (i := 15) (by decide +kernel))) (by decide +kernel)
theorem q5_16 : (Jvm.Cond.selects "HintedStemsModel" ({ cls := "HintedStemsModel", name := "play", desc := "()I" } : Jvm.MethodName) ({ cls := "HintedStemsModel", name := "play", desc := "()I" } : Jvm.MethodName)) ∈ hWall := hWall_of (tb5 (List.mem_of_getElem? (i := 16) (by decide +kernel))) (by decide +kernel)
theorem q5_17 : (Jvm.Cond.code ({ cls := "HintedStemsModel", name := "play", desc := "()I" } : Jvm.MethodName) prog_8_method_71_code (2 : Nat) (Option.some Jvm.ClassFile.FieldType.int)) ∈ hWall := hWall_of (tb5 (List.mem_of_getElem? (i := 17) (by decide +kernel))) (by decide +kernel)
theorem qs_0 : (Jvm.Cond.selects "HintedStems$History" (⟨"HintedStems$History", "slotAt", "(I)LHintedStems$Font;"⟩ : MethodName) ⟨"HintedStems$History", "slotAt", "(I)LHintedStems$Font;"⟩) ∈ hWall := hWall_of (List.mem_append_left _ (List.mem_of_getElem? (i := 0) (by decide +kernel))) (by decide +kernel)
theorem qs_1 : (Jvm.Cond.selects "HintedStems" (⟨"HintedStems", "settled", "(I)I"⟩ : MethodName) ⟨"HintedStems", "settled", "(I)I"⟩) ∈ hWall := hWall_of (List.mem_append_left _ (List.mem_of_getElem? (i := 1) (by decide +kernel))) (by decide +kernel)
theorem qs_2 : (Jvm.Cond.selects "HintedStems$Font" (⟨"HintedStems$Font", "moveStem", "(II)V"⟩ : MethodName) ⟨"HintedStems$Font", "moveStem", "(II)V"⟩) ∈ hWall := hWall_of (List.mem_append_left _ (List.mem_of_getElem? (i := 2) (by decide +kernel))) (by decide +kernel)
theorem qs_3 : (Jvm.Cond.selects "HintedStems$Font" (⟨"HintedStems$Font", "putStem", "(IIII)V"⟩ : MethodName) ⟨"HintedStems$Font", "putStem", "(IIII)V"⟩) ∈ hWall := hWall_of (List.mem_append_left _ (List.mem_of_getElem? (i := 3) (by decide +kernel))) (by decide +kernel)
theorem qs_4 : (Jvm.Cond.selects "HintedStems$Font" (⟨"HintedStems$Font", "standardAt", "(I)I"⟩ : MethodName) ⟨"HintedStems$Font", "standardAt", "(I)I"⟩) ∈ hWall := hWall_of (List.mem_append_left _ (List.mem_of_getElem? (i := 4) (by decide +kernel))) (by decide +kernel)
theorem qs_5 : (Jvm.Cond.selects "HintedStems$Font" (⟨"HintedStems$Font", "snappingTo", "(I)I"⟩ : MethodName) ⟨"HintedStems$Font", "snappingTo", "(I)I"⟩) ∈ hWall := hWall_of (List.mem_append_left _ (List.mem_of_getElem? (i := 5) (by decide +kernel))) (by decide +kernel)
theorem qs_6 : (Jvm.Cond.selects "HintedStems$Fit" (⟨"HintedStems$Fit", "light", "(III)V"⟩ : MethodName) ⟨"HintedStems$Fit", "light", "(III)V"⟩) ∈ hWall := hWall_of (List.mem_append_left _ (List.mem_of_getElem? (i := 6) (by decide +kernel))) (by decide +kernel)
theorem qs_7 : (Jvm.Cond.selects "HintedStems$Sheets" (⟨"HintedStems$Sheets", "olderThan", "(I)I"⟩ : MethodName) ⟨"HintedStems$Sheets", "olderThan", "(I)I"⟩) ∈ hWall := hWall_of (List.mem_append_left _ (List.mem_of_getElem? (i := 7) (by decide +kernel))) (by decide +kernel)
theorem qs_8 : (Jvm.Cond.selects "HintedStems$Fit" (⟨"HintedStems$Fit", "isEvenAhead", "(LHintedStems$Font;I)Z"⟩ : MethodName) ⟨"HintedStems$Fit", "isEvenAhead", "(LHintedStems$Font;I)Z"⟩) ∈ hWall := hWall_of (List.mem_append_left _ (List.mem_of_getElem? (i := 8) (by decide +kernel))) (by decide +kernel)
theorem qs_9 : (Jvm.Cond.selects "HintedStems" (⟨"HintedStems", "clearSizes", "(LHintedStems$Font;I)I"⟩ : MethodName) ⟨"HintedStems", "clearSizes", "(LHintedStems$Font;I)I"⟩) ∈ hWall := hWall_of (List.mem_append_left _ (List.mem_of_getElem? (i := 9) (by decide +kernel))) (by decide +kernel)
theorem qs_10 : (Jvm.Cond.selects "HintedStems" (⟨"HintedStems", "staleSheets", "()I"⟩ : MethodName) ⟨"HintedStems", "staleSheets", "()I"⟩) ∈ hWall := hWall_of (List.mem_append_left _ (List.mem_of_getElem? (i := 10) (by decide +kernel))) (by decide +kernel)
theorem qs_11 : (Jvm.Cond.selects "HintedStems$Font" (⟨"HintedStems$Font", "isAlikeAhead", "(I)Z"⟩ : MethodName) ⟨"HintedStems$Font", "isAlikeAhead", "(I)Z"⟩) ∈ hWall := hWall_of (List.mem_append_left _ (List.mem_of_getElem? (i := 11) (by decide +kernel))) (by decide +kernel)
theorem qs_12 : (Jvm.Cond.selects "HintedStems$Orders" (⟨"HintedStems$Orders", "isOrder", "(I)Z"⟩ : MethodName) ⟨"HintedStems$Orders", "isOrder", "(I)Z"⟩) ∈ hWall := hWall_of (List.mem_append_left _ (List.mem_of_getElem? (i := 12) (by decide +kernel))) (by decide +kernel)
theorem qs_13 : (Jvm.Cond.selects "HintedStems$Orders" (⟨"HintedStems$Orders", "signAt", "(I)I"⟩ : MethodName) ⟨"HintedStems$Orders", "signAt", "(I)I"⟩) ∈ hWall := hWall_of (List.mem_append_left _ (List.mem_of_getElem? (i := 13) (by decide +kernel))) (by decide +kernel)
theorem qs_14 : (Jvm.Cond.selects "HintedStems$Orders" (⟨"HintedStems$Orders", "isNumber", "(I)Z"⟩ : MethodName) ⟨"HintedStems$Orders", "isNumber", "(I)Z"⟩) ∈ hWall := hWall_of (List.mem_append_left _ (List.mem_of_getElem? (i := 14) (by decide +kernel))) (by decide +kernel)
theorem qs_15 : (Jvm.Cond.selects "HintedStems$Orders" (⟨"HintedStems$Orders", "tell", "(III)V"⟩ : MethodName) ⟨"HintedStems$Orders", "tell", "(III)V"⟩) ∈ hWall := hWall_of (List.mem_append_left _ (List.mem_of_getElem? (i := 15) (by decide +kernel))) (by decide +kernel)
theorem qs_16 : (Jvm.Cond.selects "HintedStems$Orders" (⟨"HintedStems$Orders", "carryOut", "(ILHintedStems$Font;LHintedStems$Fit;)I"⟩ : MethodName) ⟨"HintedStems$Orders", "carryOut", "(ILHintedStems$Font;LHintedStems$Fit;)I"⟩) ∈ hWall := hWall_of (List.mem_append_left _ (List.mem_of_getElem? (i := 16) (by decide +kernel))) (by decide +kernel)
theorem qs_17 : (Jvm.Cond.selects "HintedStemsModel" (⟨"HintedStemsModel", "changes", "()V"⟩ : MethodName) ⟨"HintedStemsModel", "changes", "()V"⟩) ∈ hWall := hWall_of (List.mem_append_left _ (List.mem_of_getElem? (i := 17) (by decide +kernel))) (by decide +kernel)
theorem qs_18 : (Jvm.Cond.selects "HintedStemsModel" (⟨"HintedStemsModel", "isGlyph", "(I)Z"⟩ : MethodName) ⟨"HintedStemsModel", "isGlyph", "(I)Z"⟩) ∈ hWall := hWall_of (List.mem_append_left _ (List.mem_of_getElem? (i := 18) (by decide +kernel))) (by decide +kernel)
theorem qs_19 : (Jvm.Cond.selects "HintedStemsModel" (⟨"HintedStemsModel", "ahead", "(II)I"⟩ : MethodName) ⟨"HintedStemsModel", "ahead", "(II)I"⟩) ∈ hWall := hWall_of (List.mem_append_left _ (List.mem_of_getElem? (i := 19) (by decide +kernel))) (by decide +kernel)
theorem qs_20 : (Jvm.Cond.selects "HintedStemsModel" (⟨"HintedStemsModel", "of", "(II)I"⟩ : MethodName) ⟨"HintedStemsModel", "of", "(II)I"⟩) ∈ hWall := hWall_of (List.mem_append_left _ (List.mem_of_getElem? (i := 20) (by decide +kernel))) (by decide +kernel)
theorem qs_21 : (Jvm.Cond.selects "HintedStemsModel" (⟨"HintedStemsModel", "ofStem", "(III)I"⟩ : MethodName) ⟨"HintedStemsModel", "ofStem", "(III)I"⟩) ∈ hWall := hWall_of (List.mem_append_left _ (List.mem_of_getElem? (i := 21) (by decide +kernel))) (by decide +kernel)
theorem qs_22 : (Jvm.Cond.selects "HintedStemsModel" (⟨"HintedStemsModel", "endOf", "(II)I"⟩ : MethodName) ⟨"HintedStemsModel", "endOf", "(II)I"⟩) ∈ hWall := hWall_of (List.mem_append_left _ (List.mem_of_getElem? (i := 22) (by decide +kernel))) (by decide +kernel)
theorem qs_23 : (Jvm.Cond.selects "HintedStemsModel" (⟨"HintedStemsModel", "isStem", "(II)Z"⟩ : MethodName) ⟨"HintedStemsModel", "isStem", "(II)Z"⟩) ∈ hWall := hWall_of (List.mem_append_left _ (List.mem_of_getElem? (i := 23) (by decide +kernel))) (by decide +kernel)
theorem qs_24 : (Jvm.Cond.selects "HintedStemsModel" (⟨"HintedStemsModel", "wideAt", "(I)I"⟩ : MethodName) ⟨"HintedStemsModel", "wideAt", "(I)I"⟩) ∈ hWall := hWall_of (List.mem_append_left _ (List.mem_of_getElem? (i := 24) (by decide +kernel))) (by decide +kernel)
theorem qs_25 : (Jvm.Cond.selects "HintedStemsModel" (⟨"HintedStemsModel", "snaps", "(I)I"⟩ : MethodName) ⟨"HintedStemsModel", "snaps", "(I)I"⟩) ∈ hWall := hWall_of (List.mem_append_left _ (List.mem_of_getElem? (i := 25) (by decide +kernel))) (by decide +kernel)
theorem qs_26 : (Jvm.Cond.selects "HintedStemsModel" (⟨"HintedStemsModel", "sheetAt", "(I)I"⟩ : MethodName) ⟨"HintedStemsModel", "sheetAt", "(I)I"⟩) ∈ hWall := hWall_of (List.mem_append_left _ (List.mem_of_getElem? (i := 26) (by decide +kernel))) (by decide +kernel)
theorem qs_27 : (Jvm.Cond.selects "HintedStemsModel" (⟨"HintedStemsModel", "ofSheet", "(II)I"⟩ : MethodName) ⟨"HintedStemsModel", "ofSheet", "(II)I"⟩) ∈ hWall := hWall_of (List.mem_append_left _ (List.mem_of_getElem? (i := 27) (by decide +kernel))) (by decide +kernel)
theorem qs_28 : (Jvm.Cond.selects "HintedStemsModel" (⟨"HintedStemsModel", "takesSheet", "(I)V"⟩ : MethodName) ⟨"HintedStemsModel", "takesSheet", "(I)V"⟩) ∈ hWall := hWall_of (List.mem_append_left _ (List.mem_of_getElem? (i := 28) (by decide +kernel))) (by decide +kernel)
theorem qs_29 : (Jvm.Cond.selects "HintedStemsModel" (⟨"HintedStemsModel", "lays", "(II)V"⟩ : MethodName) ⟨"HintedStemsModel", "lays", "(II)V"⟩) ∈ hWall := hWall_of (List.mem_append_left _ (List.mem_of_getElem? (i := 29) (by decide +kernel))) (by decide +kernel)
theorem qs_30 : (Jvm.Cond.selects "HintedStemsModel" (⟨"HintedStemsModel", "pixelsOf", "(III)I"⟩ : MethodName) ⟨"HintedStemsModel", "pixelsOf", "(III)I"⟩) ∈ hWall := hWall_of (List.mem_append_left _ (List.mem_of_getElem? (i := 30) (by decide +kernel))) (by decide +kernel)
theorem qs_31 : (Jvm.Cond.selects "HintedStemsModel" (⟨"HintedStemsModel", "hinted", "(II)I"⟩ : MethodName) ⟨"HintedStemsModel", "hinted", "(II)I"⟩) ∈ hWall := hWall_of (List.mem_append_left _ (List.mem_of_getElem? (i := 31) (by decide +kernel))) (by decide +kernel)
theorem qs_32 : (Jvm.Cond.selects "HintedStemsModel" (⟨"HintedStemsModel", "rounded", "(III)I"⟩ : MethodName) ⟨"HintedStemsModel", "rounded", "(III)I"⟩) ∈ hWall := hWall_of (List.mem_append_left _ (List.mem_of_getElem? (i := 32) (by decide +kernel))) (by decide +kernel)
theorem qs_33 : (Jvm.Cond.selects "HintedStemsModel" (⟨"HintedStemsModel", "columns", "(II)I"⟩ : MethodName) ⟨"HintedStemsModel", "columns", "(II)I"⟩) ∈ hWall := hWall_of (List.mem_append_left _ (List.mem_of_getElem? (i := 33) (by decide +kernel))) (by decide +kernel)
theorem qs_34 : (Jvm.Cond.selects "HintedStemsModel" (⟨"HintedStemsModel", "litHalf", "(III)I"⟩ : MethodName) ⟨"HintedStemsModel", "litHalf", "(III)I"⟩) ∈ hWall := hWall_of (List.mem_append_left _ (List.mem_of_getElem? (i := 34) (by decide +kernel))) (by decide +kernel)
theorem qs_35 : (Jvm.Cond.selects "HintedStemsModel" (⟨"HintedStemsModel", "isLit", "(II)Z"⟩ : MethodName) ⟨"HintedStemsModel", "isLit", "(II)Z"⟩) ∈ hWall := hWall_of (List.mem_append_left _ (List.mem_of_getElem? (i := 35) (by decide +kernel))) (by decide +kernel)
theorem qs_36 : (Jvm.Cond.selects "HintedStemsModel" (⟨"HintedStemsModel", "alike", "(I)I"⟩ : MethodName) ⟨"HintedStemsModel", "alike", "(I)I"⟩) ∈ hWall := hWall_of (List.mem_append_left _ (List.mem_of_getElem? (i := 36) (by decide +kernel))) (by decide +kernel)
theorem qs_37 : (Jvm.Cond.selects "HintedStemsModel" (⟨"HintedStemsModel", "cuts", "(II)I"⟩ : MethodName) ⟨"HintedStemsModel", "cuts", "(II)I"⟩) ∈ hWall := hWall_of (List.mem_append_left _ (List.mem_of_getElem? (i := 37) (by decide +kernel))) (by decide +kernel)
theorem qs_38 : (Jvm.Cond.selects "HintedStemsModel" (⟨"HintedStemsModel", "isClear", "(II)Z"⟩ : MethodName) ⟨"HintedStemsModel", "isClear", "(II)Z"⟩) ∈ hWall := hWall_of (List.mem_append_left _ (List.mem_of_getElem? (i := 38) (by decide +kernel))) (by decide +kernel)
theorem qs_39 : (Jvm.Cond.selects "HintedStemsModel" (⟨"HintedStemsModel", "runsOf", "(II)I"⟩ : MethodName) ⟨"HintedStemsModel", "runsOf", "(II)I"⟩) ∈ hWall := hWall_of (List.mem_append_left _ (List.mem_of_getElem? (i := 39) (by decide +kernel))) (by decide +kernel)
theorem qs_40 : (Jvm.Cond.selects "HintedStemsModel" (⟨"HintedStemsModel", "isStale", "(I)Z"⟩ : MethodName) ⟨"HintedStemsModel", "isStale", "(I)Z"⟩) ∈ hWall := hWall_of (List.mem_append_left _ (List.mem_of_getElem? (i := 40) (by decide +kernel))) (by decide +kernel)
theorem qs_41 : (Jvm.Cond.selects "HintedStemsModel" (⟨"HintedStemsModel", "litIn", "(I)I"⟩ : MethodName) ⟨"HintedStemsModel", "litIn", "(I)I"⟩) ∈ hWall := hWall_of (List.mem_append_left _ (List.mem_of_getElem? (i := 41) (by decide +kernel))) (by decide +kernel)
theorem qs_42 : (Jvm.Cond.selects "HintedStemsModel" (⟨"HintedStemsModel", "isEven", "(III)Z"⟩ : MethodName) ⟨"HintedStemsModel", "isEven", "(III)Z"⟩) ∈ hWall := hWall_of (List.mem_append_left _ (List.mem_of_getElem? (i := 42) (by decide +kernel))) (by decide +kernel)
theorem qs_43 : (Jvm.Cond.selects "HintedStemsModel" (⟨"HintedStemsModel", "clearSizes", "(I)I"⟩ : MethodName) ⟨"HintedStemsModel", "clearSizes", "(I)I"⟩) ∈ hWall := hWall_of (List.mem_append_left _ (List.mem_of_getElem? (i := 43) (by decide +kernel))) (by decide +kernel)
theorem qs_44 : (Jvm.Cond.selects "HintedStemsModel" (⟨"HintedStemsModel", "stems", "()I"⟩ : MethodName) ⟨"HintedStemsModel", "stems", "()I"⟩) ∈ hWall := hWall_of (List.mem_append_left _ (List.mem_of_getElem? (i := 44) (by decide +kernel))) (by decide +kernel)
theorem qs_45 : (Jvm.Cond.selects "HintedStemsModel" (⟨"HintedStemsModel", "stales", "()I"⟩ : MethodName) ⟨"HintedStemsModel", "stales", "()I"⟩) ∈ hWall := hWall_of (List.mem_append_left _ (List.mem_of_getElem? (i := 45) (by decide +kernel))) (by decide +kernel)
theorem qs_46 : (Jvm.Cond.selects "HintedStemsModel" (⟨"HintedStemsModel", "unlikeWidths", "()I"⟩ : MethodName) ⟨"HintedStemsModel", "unlikeWidths", "()I"⟩) ∈ hWall := hWall_of (List.mem_append_left _ (List.mem_of_getElem? (i := 46) (by decide +kernel))) (by decide +kernel)
theorem qs_47 : (Jvm.Cond.selects "HintedStemsModel" (⟨"HintedStemsModel", "plays", "()Z"⟩ : MethodName) ⟨"HintedStemsModel", "plays", "()Z"⟩) ∈ hWall := hWall_of (List.mem_append_left _ (List.mem_of_getElem? (i := 47) (by decide +kernel))) (by decide +kernel)
theorem qs_48 : (Jvm.Cond.selects "HintedStemsModel" (⟨"HintedStemsModel", "reads", "()Z"⟩ : MethodName) ⟨"HintedStemsModel", "reads", "()Z"⟩) ∈ hWall := hWall_of (List.mem_append_left _ (List.mem_of_getElem? (i := 48) (by decide +kernel))) (by decide +kernel)
theorem qs_49 : (Jvm.Cond.selects "HintedStemsModel" (⟨"HintedStemsModel", "isAt", "(II)Z"⟩ : MethodName) ⟨"HintedStemsModel", "isAt", "(II)Z"⟩) ∈ hWall := hWall_of (List.mem_append_left _ (List.mem_of_getElem? (i := 49) (by decide +kernel))) (by decide +kernel)
theorem qs_50 : (Jvm.Cond.selects "HintedStemsModel" (⟨"HintedStemsModel", "numbered", "(I)Z"⟩ : MethodName) ⟨"HintedStemsModel", "numbered", "(I)Z"⟩) ∈ hWall := hWall_of (List.mem_append_left _ (List.mem_of_getElem? (i := 50) (by decide +kernel))) (by decide +kernel)
theorem qs_51 : (Jvm.Cond.selects "HintedStemsModel" (⟨"HintedStemsModel", "sign", "(I)Z"⟩ : MethodName) ⟨"HintedStemsModel", "sign", "(I)Z"⟩) ∈ hWall := hWall_of (List.mem_append_left _ (List.mem_of_getElem? (i := 51) (by decide +kernel))) (by decide +kernel)
theorem qs_52 : (Jvm.Cond.selects "HintedStemsModel" (⟨"HintedStemsModel", "calls", "()I"⟩ : MethodName) ⟨"HintedStemsModel", "calls", "()I"⟩) ∈ hWall := hWall_of (List.mem_append_left _ (List.mem_of_getElem? (i := 52) (by decide +kernel))) (by decide +kernel)
theorem inX0 : ∀ w ∈ u_ws RX0 TX0 7, w ∈ hWall := by decide +kernel
theorem inX1 : ∀ w ∈ u_ws RX1 TX1 11, w ∈ hWall := by decide +kernel
theorem inX2 : ∀ w ∈ u_ws RX2 TX2 3, w ∈ hWall := by decide +kernel
theorem inX3 : ∀ w ∈ u_ws RX3 TX3 8, w ∈ hWall := by decide +kernel
theorem inX4 : ∀ w ∈ u_ws RX4 TX4 6, w ∈ hWall := by decide +kernel
theorem inX5 : ∀ w ∈ u_ws RX5 TX5 5, w ∈ hWall := by decide +kernel
theorem inX6 : ∀ w ∈ u_ws RX6 TX6 17, w ∈ hWall := by decide +kernel
end
section
theorem dX0_init_0 : decode cX0_init 0 = .ok (.aload_n 0, 1) := by decide +kernel
theorem dX0_init_1 : decode cX0_init 1 = .ok (.invokespecial 3, 3) := by decide +kernel
theorem dX0_init_4 : decode cX0_init 4 = .ok (.aload_n 0, 1) := by decide +kernel
theorem dX0_init_5 : decode cX0_init 5 = .ok (.bipush 6, 2) := by decide +kernel
theorem dX0_init_7 : decode cX0_init 7 = .ok (.newarray .int, 2) := by decide +kernel
theorem dX0_init_9 : decode cX0_init 9 = .ok (.putfield 9, 3) := by decide +kernel
theorem dX0_init_12 : decode cX0_init 12 = .ok (.aload_n 0, 1) := by decide +kernel
theorem dX0_init_13 : decode cX0_init 13 = .ok (.bipush 6, 2) := by decide +kernel
theorem dX0_init_15 : decode cX0_init 15 = .ok (.newarray .int, 2) := by decide +kernel
theorem dX0_init_17 : decode cX0_init 17 = .ok (.putfield 15, 3) := by decide +kernel
theorem dX0_init_20 : decode cX0_init 20 = .ok (.aload_n 0, 1) := by decide +kernel
theorem dX0_init_21 : decode cX0_init 21 = .ok (.bipush 48, 2) := by decide +kernel
theorem dX0_init_23 : decode cX0_init 23 = .ok (.newarray .int, 2) := by decide +kernel
theorem dX0_init_25 : decode cX0_init 25 = .ok (.putfield 18, 3) := by decide +kernel
theorem dX0_init_28 : decode cX0_init 28 = .ok (.return_, 1) := by decide +kernel
theorem dX0_lay_0 : decode cX0_lay 0 = .ok (.aload_n 1, 1) := by decide +kernel
theorem dX0_lay_1 : decode cX0_lay 1 = .ok (.getfield 21, 3) := by decide +kernel
theorem dX0_lay_4 : decode cX0_lay 4 = .ok (.iload_n 2, 1) := by decide +kernel
theorem dX0_lay_5 : decode cX0_lay 5 = .ok (.invokestatic 26, 3) := by decide +kernel
theorem dX0_lay_8 : decode cX0_lay 8 = .ok (.istore 4, 2) := by decide +kernel
theorem dX0_lay_10 : decode cX0_lay 10 = .ok (.aload_n 0, 1) := by decide +kernel
theorem dX0_lay_11 : decode cX0_lay 11 = .ok (.aload_n 1, 1) := by decide +kernel
theorem dX0_lay_12 : decode cX0_lay 12 = .ok (.getfield 30, 3) := by decide +kernel
theorem dX0_lay_15 : decode cX0_lay 15 = .ok (.iload_n 2, 1) := by decide +kernel
theorem dX0_lay_16 : decode cX0_lay 16 = .ok (.invokestatic 26, 3) := by decide +kernel
theorem dX0_lay_19 : decode cX0_lay 19 = .ok (.iload_n 3, 1) := by decide +kernel
theorem dX0_lay_20 : decode cX0_lay 20 = .ok (.invokestatic 33, 3) := by decide +kernel
theorem dX0_lay_23 : decode cX0_lay 23 = .ok (.putfield 37, 3) := by decide +kernel
theorem dX0_lay_26 : decode cX0_lay 26 = .ok (.aload_n 0, 1) := by decide +kernel
theorem dX0_lay_27 : decode cX0_lay 27 = .ok (.iconst 0, 1) := by decide +kernel
theorem dX0_lay_28 : decode cX0_lay 28 = .ok (.putfield 41, 3) := by decide +kernel
theorem dX0_lay_31 : decode cX0_lay 31 = .ok (.aload_n 0, 1) := by decide +kernel
theorem dX0_lay_32 : decode cX0_lay 32 = .ok (.iconst 0, 1) := by decide +kernel
theorem dX0_lay_33 : decode cX0_lay 33 = .ok (.putfield 44, 3) := by decide +kernel
theorem dX0_lay_36 : decode cX0_lay 36 = .ok (.aload_n 0, 1) := by decide +kernel
theorem dX0_lay_37 : decode cX0_lay 37 = .ok (.lconst 0, 1) := by decide +kernel
theorem dX0_lay_38 : decode cX0_lay 38 = .ok (.putfield 47, 3) := by decide +kernel
theorem dX0_lay_41 : decode cX0_lay 41 = .ok (.iconst 0, 1) := by decide +kernel
theorem dX0_lay_42 : decode cX0_lay 42 = .ok (.istore 5, 2) := by decide +kernel
theorem dX0_lay_44 : decode cX0_lay 44 = .ok (.iconst 0, 1) := by decide +kernel
theorem dX0_lay_45 : decode cX0_lay 45 = .ok (.istore 6, 2) := by decide +kernel
theorem dX0_lay_47 : decode cX0_lay 47 = .ok (.iconst 0, 1) := by decide +kernel
theorem dX0_lay_48 : decode cX0_lay 48 = .ok (.istore 7, 2) := by decide +kernel
theorem dX0_lay_50 : decode cX0_lay 50 = .ok (.iload 7, 2) := by decide +kernel
theorem dX0_lay_52 : decode cX0_lay 52 = .ok (.iload 4, 2) := by decide +kernel
theorem dX0_lay_54 : decode cX0_lay 54 = .ok (.if_icmp .ge 167, 3) := by decide +kernel
theorem dX0_lay_57 : decode cX0_lay 57 = .ok (.iload_n 2, 1) := by decide +kernel
theorem dX0_lay_58 : decode cX0_lay 58 = .ok (.bipush 6, 2) := by decide +kernel
theorem dX0_lay_60 : decode cX0_lay 60 = .ok (.imul, 1) := by decide +kernel
theorem dX0_lay_61 : decode cX0_lay 61 = .ok (.iload 7, 2) := by decide +kernel
theorem dX0_lay_63 : decode cX0_lay 63 = .ok (.iadd, 1) := by decide +kernel
theorem dX0_lay_64 : decode cX0_lay 64 = .ok (.istore 8, 2) := by decide +kernel
theorem dX0_lay_66 : decode cX0_lay 66 = .ok (.aload_n 1, 1) := by decide +kernel
theorem dX0_lay_67 : decode cX0_lay 67 = .ok (.getfield 51, 3) := by decide +kernel
theorem dX0_lay_70 : decode cX0_lay 70 = .ok (.iload 8, 2) := by decide +kernel
theorem dX0_lay_72 : decode cX0_lay 72 = .ok (.invokestatic 26, 3) := by decide +kernel
theorem dX0_lay_75 : decode cX0_lay 75 = .ok (.iload 6, 2) := by decide +kernel
theorem dX0_lay_77 : decode cX0_lay 77 = .ok (.isub, 1) := by decide +kernel
theorem dX0_lay_78 : decode cX0_lay 78 = .ok (.istore 9, 2) := by decide +kernel
theorem dX0_lay_80 : decode cX0_lay 80 = .ok (.aload_n 1, 1) := by decide +kernel
theorem dX0_lay_81 : decode cX0_lay 81 = .ok (.aload_n 1, 1) := by decide +kernel
theorem dX0_lay_82 : decode cX0_lay 82 = .ok (.getfield 54, 3) := by decide +kernel
theorem dX0_lay_85 : decode cX0_lay 85 = .ok (.iload 8, 2) := by decide +kernel
theorem dX0_lay_87 : decode cX0_lay 87 = .ok (.invokestatic 26, 3) := by decide +kernel
theorem dX0_lay_90 : decode cX0_lay 90 = .ok (.iload_n 3, 1) := by decide +kernel
theorem dX0_lay_91 : decode cX0_lay 91 = .ok (.invokevirtual 57, 3) := by decide +kernel
theorem dX0_lay_94 : decode cX0_lay 94 = .ok (.istore 10, 2) := by decide +kernel
theorem dX0_lay_96 : decode cX0_lay 96 = .ok (.iload 7, 2) := by decide +kernel
theorem dX0_lay_98 : decode cX0_lay 98 = .ok (.ifCond .le 37, 3) := by decide +kernel
theorem dX0_lay_101 : decode cX0_lay 101 = .ok (.aload_n 1, 1) := by decide +kernel
theorem dX0_lay_102 : decode cX0_lay 102 = .ok (.getfield 60, 3) := by decide +kernel
theorem dX0_lay_105 : decode cX0_lay 105 = .ok (.iload 8, 2) := by decide +kernel
theorem dX0_lay_107 : decode cX0_lay 107 = .ok (.invokestatic 26, 3) := by decide +kernel
theorem dX0_lay_110 : decode cX0_lay 110 = .ok (.iconst 3, 1) := by decide +kernel
theorem dX0_lay_111 : decode cX0_lay 111 = .ok (.if_icmp .ne 24, 3) := by decide +kernel
theorem dX0_lay_114 : decode cX0_lay 114 = .ok (.iload 5, 2) := by decide +kernel
theorem dX0_lay_116 : decode cX0_lay 116 = .ok (.iload 9, 2) := by decide +kernel
theorem dX0_lay_118 : decode cX0_lay 118 = .ok (.iload_n 3, 1) := by decide +kernel
theorem dX0_lay_119 : decode cX0_lay 119 = .ok (.invokestatic 63, 3) := by decide +kernel
theorem dX0_lay_122 : decode cX0_lay 122 = .ok (.aload_n 1, 1) := by decide +kernel
theorem dX0_lay_123 : decode cX0_lay 123 = .ok (.getfield 66, 3) := by decide +kernel
theorem dX0_lay_126 : decode cX0_lay 126 = .ok (.invokestatic 69, 3) := by decide +kernel
theorem dX0_lay_129 : decode cX0_lay 129 = .ok (.iadd, 1) := by decide +kernel
theorem dX0_lay_130 : decode cX0_lay 130 = .ok (.istore 11, 2) := by decide +kernel
theorem dX0_lay_132 : decode cX0_lay 132 = .ok (.goto 14, 3) := by decide +kernel
theorem dX0_lay_135 : decode cX0_lay 135 = .ok (.aload_n 1, 1) := by decide +kernel
theorem dX0_lay_136 : decode cX0_lay 136 = .ok (.iload 8, 2) := by decide +kernel
theorem dX0_lay_138 : decode cX0_lay 138 = .ok (.iload_n 3, 1) := by decide +kernel
theorem dX0_lay_139 : decode cX0_lay 139 = .ok (.iload 10, 2) := by decide +kernel
theorem dX0_lay_141 : decode cX0_lay 141 = .ok (.invokestatic 74, 3) := by decide +kernel
theorem dX0_lay_144 : decode cX0_lay 144 = .ok (.istore 11, 2) := by decide +kernel
theorem dX0_lay_146 : decode cX0_lay 146 = .ok (.iload 5, 2) := by decide +kernel
theorem dX0_lay_148 : decode cX0_lay 148 = .ok (.iload 9, 2) := by decide +kernel
theorem dX0_lay_150 : decode cX0_lay 150 = .ok (.ifCond .le 7, 3) := by decide +kernel
theorem dX0_lay_153 : decode cX0_lay 153 = .ok (.iconst 1, 1) := by decide +kernel
theorem dX0_lay_154 : decode cX0_lay 154 = .ok (.goto 4, 3) := by decide +kernel
theorem dX0_lay_157 : decode cX0_lay 157 = .ok (.iconst 0, 1) := by decide +kernel
theorem dX0_lay_158 : decode cX0_lay 158 = .ok (.iadd, 1) := by decide +kernel
theorem dX0_lay_159 : decode cX0_lay 159 = .ok (.istore 12, 2) := by decide +kernel
theorem dX0_lay_161 : decode cX0_lay 161 = .ok (.iload 7, 2) := by decide +kernel
theorem dX0_lay_163 : decode cX0_lay 163 = .ok (.ifCond .le 27, 3) := by decide +kernel
theorem dX0_lay_166 : decode cX0_lay 166 = .ok (.iload 11, 2) := by decide +kernel
theorem dX0_lay_168 : decode cX0_lay 168 = .ok (.iload 12, 2) := by decide +kernel
theorem dX0_lay_170 : decode cX0_lay 170 = .ok (.if_icmp .ge 20, 3) := by decide +kernel
theorem dX0_lay_173 : decode cX0_lay 173 = .ok (.iload 12, 2) := by decide +kernel
theorem dX0_lay_175 : decode cX0_lay 175 = .ok (.istore 11, 2) := by decide +kernel
theorem dX0_lay_177 : decode cX0_lay 177 = .ok (.aload_n 0, 1) := by decide +kernel
theorem dX0_lay_178 : decode cX0_lay 178 = .ok (.dup, 1) := by decide +kernel
theorem dX0_lay_179 : decode cX0_lay 179 = .ok (.getfield 41, 3) := by decide +kernel
theorem dX0_lay_182 : decode cX0_lay 182 = .ok (.iconst 1, 1) := by decide +kernel
theorem dX0_lay_183 : decode cX0_lay 183 = .ok (.iload 7, 2) := by decide +kernel
theorem dX0_lay_185 : decode cX0_lay 185 = .ok (.ishl, 1) := by decide +kernel
theorem dX0_lay_186 : decode cX0_lay 186 = .ok (.ior, 1) := by decide +kernel
theorem dX0_lay_187 : decode cX0_lay 187 = .ok (.putfield 41, 3) := by decide +kernel
theorem dX0_lay_190 : decode cX0_lay 190 = .ok (.aload_n 0, 1) := by decide +kernel
theorem dX0_lay_191 : decode cX0_lay 191 = .ok (.iload 7, 2) := by decide +kernel
theorem dX0_lay_193 : decode cX0_lay 193 = .ok (.iload 11, 2) := by decide +kernel
theorem dX0_lay_195 : decode cX0_lay 195 = .ok (.iload 10, 2) := by decide +kernel
theorem dX0_lay_197 : decode cX0_lay 197 = .ok (.invokevirtual 78, 3) := by decide +kernel
theorem dX0_lay_200 : decode cX0_lay 200 = .ok (.iload 11, 2) := by decide +kernel
theorem dX0_lay_202 : decode cX0_lay 202 = .ok (.iload 10, 2) := by decide +kernel
theorem dX0_lay_204 : decode cX0_lay 204 = .ok (.iadd, 1) := by decide +kernel
theorem dX0_lay_205 : decode cX0_lay 205 = .ok (.istore 5, 2) := by decide +kernel
theorem dX0_lay_207 : decode cX0_lay 207 = .ok (.aload_n 1, 1) := by decide +kernel
theorem dX0_lay_208 : decode cX0_lay 208 = .ok (.iload 8, 2) := by decide +kernel
theorem dX0_lay_210 : decode cX0_lay 210 = .ok (.invokevirtual 82, 3) := by decide +kernel
theorem dX0_lay_213 : decode cX0_lay 213 = .ok (.istore 6, 2) := by decide +kernel
theorem dX0_lay_215 : decode cX0_lay 215 = .ok (.iinc 7 1, 3) := by decide +kernel
theorem dX0_lay_218 : decode cX0_lay 218 = .ok (.goto (-168), 3) := by decide +kernel
theorem dX0_lay_221 : decode cX0_lay 221 = .ok (.return_, 1) := by decide +kernel
theorem dX0_light_0 : decode cX0_light 0 = .ok (.aload_n 0, 1) := by decide +kernel
theorem dX0_light_1 : decode cX0_light 1 = .ok (.getfield 9, 3) := by decide +kernel
theorem dX0_light_4 : decode cX0_light 4 = .ok (.iload_n 1, 1) := by decide +kernel
theorem dX0_light_5 : decode cX0_light 5 = .ok (.iload_n 2, 1) := by decide +kernel
theorem dX0_light_6 : decode cX0_light 6 = .ok (.invokestatic 86, 3) := by decide +kernel
theorem dX0_light_9 : decode cX0_light 9 = .ok (.aload_n 0, 1) := by decide +kernel
theorem dX0_light_10 : decode cX0_light 10 = .ok (.getfield 15, 3) := by decide +kernel
theorem dX0_light_13 : decode cX0_light 13 = .ok (.iload_n 1, 1) := by decide +kernel
theorem dX0_light_14 : decode cX0_light 14 = .ok (.iload_n 3, 1) := by decide +kernel
theorem dX0_light_15 : decode cX0_light 15 = .ok (.invokestatic 86, 3) := by decide +kernel
theorem dX0_light_18 : decode cX0_light 18 = .ok (.iload_n 2, 1) := by decide +kernel
theorem dX0_light_19 : decode cX0_light 19 = .ok (.ifCond .lt 13, 3) := by decide +kernel
theorem dX0_light_22 : decode cX0_light 22 = .ok (.iload_n 2, 1) := by decide +kernel
theorem dX0_light_23 : decode cX0_light 23 = .ok (.iload_n 3, 1) := by decide +kernel
theorem dX0_light_24 : decode cX0_light 24 = .ok (.iadd, 1) := by decide +kernel
theorem dX0_light_25 : decode cX0_light 25 = .ok (.aload_n 0, 1) := by decide +kernel
theorem dX0_light_26 : decode cX0_light 26 = .ok (.getfield 37, 3) := by decide +kernel
theorem dX0_light_29 : decode cX0_light 29 = .ok (.if_icmp .le 15, 3) := by decide +kernel
theorem dX0_light_32 : decode cX0_light 32 = .ok (.aload_n 0, 1) := by decide +kernel
theorem dX0_light_33 : decode cX0_light 33 = .ok (.dup, 1) := by decide +kernel
theorem dX0_light_34 : decode cX0_light 34 = .ok (.getfield 44, 3) := by decide +kernel
theorem dX0_light_37 : decode cX0_light 37 = .ok (.iconst 1, 1) := by decide +kernel
theorem dX0_light_38 : decode cX0_light 38 = .ok (.iload_n 1, 1) := by decide +kernel
theorem dX0_light_39 : decode cX0_light 39 = .ok (.ishl, 1) := by decide +kernel
theorem dX0_light_40 : decode cX0_light 40 = .ok (.ior, 1) := by decide +kernel
theorem dX0_light_41 : decode cX0_light 41 = .ok (.putfield 44, 3) := by decide +kernel
theorem dX0_light_44 : decode cX0_light 44 = .ok (.iload_n 2, 1) := by decide +kernel
theorem dX0_light_45 : decode cX0_light 45 = .ok (.iload_n 3, 1) := by decide +kernel
theorem dX0_light_46 : decode cX0_light 46 = .ok (.iadd, 1) := by decide +kernel
theorem dX0_light_47 : decode cX0_light 47 = .ok (.aload_n 0, 1) := by decide +kernel
theorem dX0_light_48 : decode cX0_light 48 = .ok (.getfield 37, 3) := by decide +kernel
theorem dX0_light_51 : decode cX0_light 51 = .ok (.invokestatic 90, 3) := by decide +kernel
theorem dX0_light_54 : decode cX0_light 54 = .ok (.istore 4, 2) := by decide +kernel
theorem dX0_light_56 : decode cX0_light 56 = .ok (.iload_n 2, 1) := by decide +kernel
theorem dX0_light_57 : decode cX0_light 57 = .ok (.iconst 0, 1) := by decide +kernel
theorem dX0_light_58 : decode cX0_light 58 = .ok (.invokestatic 69, 3) := by decide +kernel
theorem dX0_light_61 : decode cX0_light 61 = .ok (.istore 5, 2) := by decide +kernel
theorem dX0_light_63 : decode cX0_light 63 = .ok (.iload 5, 2) := by decide +kernel
theorem dX0_light_65 : decode cX0_light 65 = .ok (.iload 4, 2) := by decide +kernel
theorem dX0_light_67 : decode cX0_light 67 = .ok (.if_icmp .ge 22, 3) := by decide +kernel
theorem dX0_light_70 : decode cX0_light 70 = .ok (.aload_n 0, 1) := by decide +kernel
theorem dX0_light_71 : decode cX0_light 71 = .ok (.dup, 1) := by decide +kernel
theorem dX0_light_72 : decode cX0_light 72 = .ok (.getfield 47, 3) := by decide +kernel
theorem dX0_light_75 : decode cX0_light 75 = .ok (.lconst 1, 1) := by decide +kernel
theorem dX0_light_76 : decode cX0_light 76 = .ok (.iload 5, 2) := by decide +kernel
theorem dX0_light_78 : decode cX0_light 78 = .ok (.lshl, 1) := by decide +kernel
theorem dX0_light_79 : decode cX0_light 79 = .ok (.lor, 1) := by decide +kernel
theorem dX0_light_80 : decode cX0_light 80 = .ok (.putfield 47, 3) := by decide +kernel
theorem dX0_light_83 : decode cX0_light 83 = .ok (.iinc 5 1, 3) := by decide +kernel
theorem dX0_light_86 : decode cX0_light 86 = .ok (.goto (-23), 3) := by decide +kernel
theorem dX0_light_89 : decode cX0_light 89 = .ok (.return_, 1) := by decide +kernel
theorem dX0_isClear_0 : decode cX0_isClear 0 = .ok (.aload_n 0, 1) := by decide +kernel
theorem dX0_isClear_1 : decode cX0_isClear 1 = .ok (.getfield 41, 3) := by decide +kernel
theorem dX0_isClear_4 : decode cX0_isClear 4 = .ok (.ifCond .ne 14, 3) := by decide +kernel
theorem dX0_isClear_7 : decode cX0_isClear 7 = .ok (.aload_n 0, 1) := by decide +kernel
theorem dX0_isClear_8 : decode cX0_isClear 8 = .ok (.getfield 44, 3) := by decide +kernel
theorem dX0_isClear_11 : decode cX0_isClear 11 = .ok (.ifCond .ne 7, 3) := by decide +kernel
theorem dX0_isClear_14 : decode cX0_isClear 14 = .ok (.iconst 1, 1) := by decide +kernel
theorem dX0_isClear_15 : decode cX0_isClear 15 = .ok (.goto 4, 3) := by decide +kernel
theorem dX0_isClear_18 : decode cX0_isClear 18 = .ok (.iconst 0, 1) := by decide +kernel
theorem dX0_isClear_19 : decode cX0_isClear 19 = .ok (.ireturn, 1) := by decide +kernel
theorem dX0_isEven_0 : decode cX0_isEven 0 = .ok (.iconst 0, 1) := by decide +kernel
theorem dX0_isEven_1 : decode cX0_isEven 1 = .ok (.istore_n 3, 1) := by decide +kernel
theorem dX0_isEven_2 : decode cX0_isEven 2 = .ok (.iload_n 3, 1) := by decide +kernel
theorem dX0_isEven_3 : decode cX0_isEven 3 = .ok (.aload_n 0, 1) := by decide +kernel
theorem dX0_isEven_4 : decode cX0_isEven 4 = .ok (.getfield 18, 3) := by decide +kernel
theorem dX0_isEven_7 : decode cX0_isEven 7 = .ok (.arraylength, 1) := by decide +kernel
theorem dX0_isEven_8 : decode cX0_isEven 8 = .ok (.if_icmp .ge 28, 3) := by decide +kernel
theorem dX0_isEven_11 : decode cX0_isEven 11 = .ok (.aload_n 0, 1) := by decide +kernel
theorem dX0_isEven_12 : decode cX0_isEven 12 = .ok (.getfield 18, 3) := by decide +kernel
theorem dX0_isEven_15 : decode cX0_isEven 15 = .ok (.iload_n 3, 1) := by decide +kernel
theorem dX0_isEven_16 : decode cX0_isEven 16 = .ok (.aload_n 1, 1) := by decide +kernel
theorem dX0_isEven_17 : decode cX0_isEven 17 = .ok (.aload_n 1, 1) := by decide +kernel
theorem dX0_isEven_18 : decode cX0_isEven 18 = .ok (.getfield 54, 3) := by decide +kernel
theorem dX0_isEven_21 : decode cX0_isEven 21 = .ok (.iload_n 3, 1) := by decide +kernel
theorem dX0_isEven_22 : decode cX0_isEven 22 = .ok (.invokestatic 26, 3) := by decide +kernel
theorem dX0_isEven_25 : decode cX0_isEven 25 = .ok (.iload_n 2, 1) := by decide +kernel
theorem dX0_isEven_26 : decode cX0_isEven 26 = .ok (.invokevirtual 57, 3) := by decide +kernel
theorem dX0_isEven_29 : decode cX0_isEven 29 = .ok (.iastore, 1) := by decide +kernel
theorem dX0_isEven_30 : decode cX0_isEven 30 = .ok (.iinc 3 1, 3) := by decide +kernel
theorem dX0_isEven_33 : decode cX0_isEven 33 = .ok (.goto (-31), 3) := by decide +kernel
theorem dX0_isEven_36 : decode cX0_isEven 36 = .ok (.iconst 1, 1) := by decide +kernel
theorem dX0_isEven_37 : decode cX0_isEven 37 = .ok (.istore_n 3, 1) := by decide +kernel
theorem dX0_isEven_38 : decode cX0_isEven 38 = .ok (.iload_n 3, 1) := by decide +kernel
theorem dX0_isEven_39 : decode cX0_isEven 39 = .ok (.aload_n 0, 1) := by decide +kernel
theorem dX0_isEven_40 : decode cX0_isEven 40 = .ok (.getfield 18, 3) := by decide +kernel
theorem dX0_isEven_43 : decode cX0_isEven 43 = .ok (.arraylength, 1) := by decide +kernel
theorem dX0_isEven_44 : decode cX0_isEven 44 = .ok (.if_icmp .ge 20, 3) := by decide +kernel
theorem dX0_isEven_47 : decode cX0_isEven 47 = .ok (.aload_n 0, 1) := by decide +kernel
theorem dX0_isEven_48 : decode cX0_isEven 48 = .ok (.aload_n 1, 1) := by decide +kernel
theorem dX0_isEven_49 : decode cX0_isEven 49 = .ok (.iload_n 3, 1) := by decide +kernel
theorem dX0_isEven_50 : decode cX0_isEven 50 = .ok (.invokevirtual 93, 3) := by decide +kernel
theorem dX0_isEven_53 : decode cX0_isEven 53 = .ok (.ifCond .ne 5, 3) := by decide +kernel
theorem dX0_isEven_56 : decode cX0_isEven 56 = .ok (.iconst 0, 1) := by decide +kernel
theorem dX0_isEven_57 : decode cX0_isEven 57 = .ok (.ireturn, 1) := by decide +kernel
theorem dX0_isEven_58 : decode cX0_isEven 58 = .ok (.iinc 3 1, 3) := by decide +kernel
theorem dX0_isEven_61 : decode cX0_isEven 61 = .ok (.goto (-23), 3) := by decide +kernel
theorem dX0_isEven_64 : decode cX0_isEven 64 = .ok (.iconst 1, 1) := by decide +kernel
theorem dX0_isEven_65 : decode cX0_isEven 65 = .ok (.ireturn, 1) := by decide +kernel
theorem dX0_isEvenAhead_0 : decode cX0_isEvenAhead 0 = .ok (.aload_n 1, 1) := by decide +kernel
theorem dX0_isEvenAhead_1 : decode cX0_isEvenAhead 1 = .ok (.getfield 54, 3) := by decide +kernel
theorem dX0_isEvenAhead_4 : decode cX0_isEvenAhead 4 = .ok (.iload_n 2, 1) := by decide +kernel
theorem dX0_isEvenAhead_5 : decode cX0_isEvenAhead 5 = .ok (.invokestatic 26, 3) := by decide +kernel
theorem dX0_isEvenAhead_8 : decode cX0_isEvenAhead 8 = .ok (.istore_n 3, 1) := by decide +kernel
theorem dX0_isEvenAhead_9 : decode cX0_isEvenAhead 9 = .ok (.iconst 0, 1) := by decide +kernel
theorem dX0_isEvenAhead_10 : decode cX0_isEvenAhead 10 = .ok (.istore 4, 2) := by decide +kernel
theorem dX0_isEvenAhead_12 : decode cX0_isEvenAhead 12 = .ok (.iload 4, 2) := by decide +kernel
theorem dX0_isEvenAhead_14 : decode cX0_isEvenAhead 14 = .ok (.iload_n 2, 1) := by decide +kernel
theorem dX0_isEvenAhead_15 : decode cX0_isEvenAhead 15 = .ok (.if_icmp .ge 65, 3) := by decide +kernel
theorem dX0_isEvenAhead_18 : decode cX0_isEvenAhead 18 = .ok (.iload_n 3, 1) := by decide +kernel
theorem dX0_isEvenAhead_19 : decode cX0_isEvenAhead 19 = .ok (.ifCond .le 61, 3) := by decide +kernel
theorem dX0_isEvenAhead_22 : decode cX0_isEvenAhead 22 = .ok (.aload_n 1, 1) := by decide +kernel
theorem dX0_isEvenAhead_23 : decode cX0_isEvenAhead 23 = .ok (.getfield 54, 3) := by decide +kernel
theorem dX0_isEvenAhead_26 : decode cX0_isEvenAhead 26 = .ok (.iload 4, 2) := by decide +kernel
theorem dX0_isEvenAhead_28 : decode cX0_isEvenAhead 28 = .ok (.invokestatic 26, 3) := by decide +kernel
theorem dX0_isEvenAhead_31 : decode cX0_isEvenAhead 31 = .ok (.istore 5, 2) := by decide +kernel
theorem dX0_isEvenAhead_33 : decode cX0_isEvenAhead 33 = .ok (.iload 5, 2) := by decide +kernel
theorem dX0_isEvenAhead_35 : decode cX0_isEvenAhead 35 = .ok (.ifCond .le 39, 3) := by decide +kernel
theorem dX0_isEvenAhead_38 : decode cX0_isEvenAhead 38 = .ok (.iload 5, 2) := by decide +kernel
theorem dX0_isEvenAhead_40 : decode cX0_isEvenAhead 40 = .ok (.iload_n 3, 1) := by decide +kernel
theorem dX0_isEvenAhead_41 : decode cX0_isEvenAhead 41 = .ok (.isub, 1) := by decide +kernel
theorem dX0_isEvenAhead_42 : decode cX0_isEvenAhead 42 = .ok (.invokestatic 97, 3) := by decide +kernel
theorem dX0_isEvenAhead_45 : decode cX0_isEvenAhead 45 = .ok (.aload_n 1, 1) := by decide +kernel
theorem dX0_isEvenAhead_46 : decode cX0_isEvenAhead 46 = .ok (.getfield 100, 3) := by decide +kernel
theorem dX0_isEvenAhead_49 : decode cX0_isEvenAhead 49 = .ok (.if_icmp .gt 25, 3) := by decide +kernel
theorem dX0_isEvenAhead_52 : decode cX0_isEvenAhead 52 = .ok (.aload_n 0, 1) := by decide +kernel
theorem dX0_isEvenAhead_53 : decode cX0_isEvenAhead 53 = .ok (.getfield 18, 3) := by decide +kernel
theorem dX0_isEvenAhead_56 : decode cX0_isEvenAhead 56 = .ok (.iload 4, 2) := by decide +kernel
theorem dX0_isEvenAhead_58 : decode cX0_isEvenAhead 58 = .ok (.invokestatic 26, 3) := by decide +kernel
theorem dX0_isEvenAhead_61 : decode cX0_isEvenAhead 61 = .ok (.aload_n 0, 1) := by decide +kernel
theorem dX0_isEvenAhead_62 : decode cX0_isEvenAhead 62 = .ok (.getfield 18, 3) := by decide +kernel
theorem dX0_isEvenAhead_65 : decode cX0_isEvenAhead 65 = .ok (.iload_n 2, 1) := by decide +kernel
theorem dX0_isEvenAhead_66 : decode cX0_isEvenAhead 66 = .ok (.invokestatic 26, 3) := by decide +kernel
theorem dX0_isEvenAhead_69 : decode cX0_isEvenAhead 69 = .ok (.if_icmp .eq 5, 3) := by decide +kernel
theorem dX0_isEvenAhead_72 : decode cX0_isEvenAhead 72 = .ok (.iconst 0, 1) := by decide +kernel
theorem dX0_isEvenAhead_73 : decode cX0_isEvenAhead 73 = .ok (.ireturn, 1) := by decide +kernel
theorem dX0_isEvenAhead_74 : decode cX0_isEvenAhead 74 = .ok (.iinc 4 1, 3) := by decide +kernel
theorem dX0_isEvenAhead_77 : decode cX0_isEvenAhead 77 = .ok (.goto (-65), 3) := by decide +kernel
theorem dX0_isEvenAhead_80 : decode cX0_isEvenAhead 80 = .ok (.iconst 1, 1) := by decide +kernel
theorem dX0_isEvenAhead_81 : decode cX0_isEvenAhead 81 = .ok (.ireturn, 1) := by decide +kernel
theorem dX0_columnsOf_0 : decode cX0_columnsOf 0 = .ok (.iconst 1, 1) := by decide +kernel
theorem dX0_columnsOf_1 : decode cX0_columnsOf 1 = .ok (.bipush 64, 2) := by decide +kernel
theorem dX0_columnsOf_3 : decode cX0_columnsOf 3 = .ok (.iload_n 0, 1) := by decide +kernel
theorem dX0_columnsOf_4 : decode cX0_columnsOf 4 = .ok (.iload_n 1, 1) := by decide +kernel
theorem dX0_columnsOf_5 : decode cX0_columnsOf 5 = .ok (.invokestatic 63, 3) := by decide +kernel
theorem dX0_columnsOf_8 : decode cX0_columnsOf 8 = .ok (.invokestatic 90, 3) := by decide +kernel
theorem dX0_columnsOf_11 : decode cX0_columnsOf 11 = .ok (.invokestatic 69, 3) := by decide +kernel
theorem dX0_columnsOf_14 : decode cX0_columnsOf 14 = .ok (.ireturn, 1) := by decide +kernel
theorem dX0_rounded_0 : decode cX0_rounded 0 = .ok (.aload_n 0, 1) := by decide +kernel
theorem dX0_rounded_1 : decode cX0_rounded 1 = .ok (.getfield 51, 3) := by decide +kernel
theorem dX0_rounded_4 : decode cX0_rounded 4 = .ok (.iload_n 1, 1) := by decide +kernel
theorem dX0_rounded_5 : decode cX0_rounded 5 = .ok (.invokestatic 26, 3) := by decide +kernel
theorem dX0_rounded_8 : decode cX0_rounded 8 = .ok (.istore 4, 2) := by decide +kernel
theorem dX0_rounded_10 : decode cX0_rounded 10 = .ok (.aload_n 0, 1) := by decide +kernel
theorem dX0_rounded_11 : decode cX0_rounded 11 = .ok (.getfield 54, 3) := by decide +kernel
theorem dX0_rounded_14 : decode cX0_rounded 14 = .ok (.iload_n 1, 1) := by decide +kernel
theorem dX0_rounded_15 : decode cX0_rounded 15 = .ok (.invokestatic 26, 3) := by decide +kernel
theorem dX0_rounded_18 : decode cX0_rounded 18 = .ok (.istore 5, 2) := by decide +kernel
theorem dX0_rounded_20 : decode cX0_rounded 20 = .ok (.aload_n 0, 1) := by decide +kernel
theorem dX0_rounded_21 : decode cX0_rounded 21 = .ok (.getfield 60, 3) := by decide +kernel
theorem dX0_rounded_24 : decode cX0_rounded 24 = .ok (.iload_n 1, 1) := by decide +kernel
theorem dX0_rounded_25 : decode cX0_rounded 25 = .ok (.invokestatic 26, 3) := by decide +kernel
theorem dX0_rounded_28 : decode cX0_rounded 28 = .ok (.lookupswitch 58 #[(1, 28), (2, 46)], 28) := by decide +kernel
theorem dX0_rounded_56 : decode cX0_rounded 56 = .ok (.iconst 2, 1) := by decide +kernel
theorem dX0_rounded_57 : decode cX0_rounded 57 = .ok (.iload 4, 2) := by decide +kernel
theorem dX0_rounded_59 : decode cX0_rounded 59 = .ok (.imul, 1) := by decide +kernel
theorem dX0_rounded_60 : decode cX0_rounded 60 = .ok (.iload 5, 2) := by decide +kernel
theorem dX0_rounded_62 : decode cX0_rounded 62 = .ok (.iadd, 1) := by decide +kernel
theorem dX0_rounded_63 : decode cX0_rounded 63 = .ok (.iload_n 2, 1) := by decide +kernel
theorem dX0_rounded_64 : decode cX0_rounded 64 = .ok (.invokestatic 63, 3) := by decide +kernel
theorem dX0_rounded_67 : decode cX0_rounded 67 = .ok (.iload_n 3, 1) := by decide +kernel
theorem dX0_rounded_68 : decode cX0_rounded 68 = .ok (.isub, 1) := by decide +kernel
theorem dX0_rounded_69 : decode cX0_rounded 69 = .ok (.iconst 2, 1) := by decide +kernel
theorem dX0_rounded_70 : decode cX0_rounded 70 = .ok (.invokestatic 103, 3) := by decide +kernel
theorem dX0_rounded_73 : decode cX0_rounded 73 = .ok (.ireturn, 1) := by decide +kernel
theorem dX0_rounded_74 : decode cX0_rounded 74 = .ok (.iload 4, 2) := by decide +kernel
theorem dX0_rounded_76 : decode cX0_rounded 76 = .ok (.iload 5, 2) := by decide +kernel
theorem dX0_rounded_78 : decode cX0_rounded 78 = .ok (.iadd, 1) := by decide +kernel
theorem dX0_rounded_79 : decode cX0_rounded 79 = .ok (.iload_n 2, 1) := by decide +kernel
theorem dX0_rounded_80 : decode cX0_rounded 80 = .ok (.invokestatic 63, 3) := by decide +kernel
theorem dX0_rounded_83 : decode cX0_rounded 83 = .ok (.iload_n 3, 1) := by decide +kernel
theorem dX0_rounded_84 : decode cX0_rounded 84 = .ok (.isub, 1) := by decide +kernel
theorem dX0_rounded_85 : decode cX0_rounded 85 = .ok (.ireturn, 1) := by decide +kernel
theorem dX0_rounded_86 : decode cX0_rounded 86 = .ok (.iload 4, 2) := by decide +kernel
theorem dX0_rounded_88 : decode cX0_rounded 88 = .ok (.iload_n 2, 1) := by decide +kernel
theorem dX0_rounded_89 : decode cX0_rounded 89 = .ok (.invokestatic 63, 3) := by decide +kernel
theorem dX0_rounded_92 : decode cX0_rounded 92 = .ok (.ireturn, 1) := by decide +kernel
theorem dX1_init_0 : decode cX1_init 0 = .ok (.aload_n 0, 1) := by decide +kernel
theorem dX1_init_1 : decode cX1_init 1 = .ok (.invokespecial 3, 3) := by decide +kernel
theorem dX1_init_4 : decode cX1_init 4 = .ok (.aload_n 0, 1) := by decide +kernel
theorem dX1_init_5 : decode cX1_init 5 = .ok (.bipush 20, 2) := by decide +kernel
theorem dX1_init_7 : decode cX1_init 7 = .ok (.putfield 9, 3) := by decide +kernel
theorem dX1_init_10 : decode cX1_init 10 = .ok (.aload_n 0, 1) := by decide +kernel
theorem dX1_init_11 : decode cX1_init 11 = .ok (.iconst 1, 1) := by decide +kernel
theorem dX1_init_12 : decode cX1_init 12 = .ok (.putfield 15, 3) := by decide +kernel
theorem dX1_init_15 : decode cX1_init 15 = .ok (.aload_n 0, 1) := by decide +kernel
theorem dX1_init_16 : decode cX1_init 16 = .ok (.bipush 8, 2) := by decide +kernel
theorem dX1_init_18 : decode cX1_init 18 = .ok (.newarray .int, 2) := by decide +kernel
theorem dX1_init_20 : decode cX1_init 20 = .ok (.putfield 18, 3) := by decide +kernel
theorem dX1_init_23 : decode cX1_init 23 = .ok (.aload_n 0, 1) := by decide +kernel
theorem dX1_init_24 : decode cX1_init 24 = .ok (.bipush 8, 2) := by decide +kernel
theorem dX1_init_26 : decode cX1_init 26 = .ok (.newarray .int, 2) := by decide +kernel
theorem dX1_init_28 : decode cX1_init 28 = .ok (.putfield 22, 3) := by decide +kernel
theorem dX1_init_31 : decode cX1_init 31 = .ok (.aload_n 0, 1) := by decide +kernel
theorem dX1_init_32 : decode cX1_init 32 = .ok (.bipush 48, 2) := by decide +kernel
theorem dX1_init_34 : decode cX1_init 34 = .ok (.newarray .int, 2) := by decide +kernel
theorem dX1_init_36 : decode cX1_init 36 = .ok (.putfield 25, 3) := by decide +kernel
theorem dX1_init_39 : decode cX1_init 39 = .ok (.aload_n 0, 1) := by decide +kernel
theorem dX1_init_40 : decode cX1_init 40 = .ok (.bipush 48, 2) := by decide +kernel
theorem dX1_init_42 : decode cX1_init 42 = .ok (.newarray .int, 2) := by decide +kernel
theorem dX1_init_44 : decode cX1_init 44 = .ok (.putfield 28, 3) := by decide +kernel
theorem dX1_init_47 : decode cX1_init 47 = .ok (.aload_n 0, 1) := by decide +kernel
theorem dX1_init_48 : decode cX1_init 48 = .ok (.bipush 48, 2) := by decide +kernel
theorem dX1_init_50 : decode cX1_init 50 = .ok (.newarray .int, 2) := by decide +kernel
theorem dX1_init_52 : decode cX1_init 52 = .ok (.putfield 31, 3) := by decide +kernel
theorem dX1_init_55 : decode cX1_init 55 = .ok (.aload_n 0, 1) := by decide +kernel
theorem dX1_init_56 : decode cX1_init 56 = .ok (.iconst 3, 1) := by decide +kernel
theorem dX1_init_57 : decode cX1_init 57 = .ok (.newarray .int, 2) := by decide +kernel
theorem dX1_init_59 : decode cX1_init 59 = .ok (.putfield 34, 3) := by decide +kernel
theorem dX1_init_62 : decode cX1_init 62 = .ok (.aload_n 0, 1) := by decide +kernel
theorem dX1_init_63 : decode cX1_init 63 = .ok (.new 37, 3) := by decide +kernel
theorem dX1_init_66 : decode cX1_init 66 = .ok (.dup, 1) := by decide +kernel
theorem dX1_init_67 : decode cX1_init 67 = .ok (.invokespecial 39, 3) := by decide +kernel
theorem dX1_init_70 : decode cX1_init 70 = .ok (.putfield 40, 3) := by decide +kernel
theorem dX1_init_73 : decode cX1_init 73 = .ok (.return_, 1) := by decide +kernel
theorem dX1_copy_0 : decode cX1_copy 0 = .ok (.aload_n 0, 1) := by decide +kernel
theorem dX1_copy_1 : decode cX1_copy 1 = .ok (.aload_n 1, 1) := by decide +kernel
theorem dX1_copy_2 : decode cX1_copy 2 = .ok (.getfield 44, 3) := by decide +kernel
theorem dX1_copy_5 : decode cX1_copy 5 = .ok (.putfield 44, 3) := by decide +kernel
theorem dX1_copy_8 : decode cX1_copy 8 = .ok (.aload_n 0, 1) := by decide +kernel
theorem dX1_copy_9 : decode cX1_copy 9 = .ok (.aload_n 1, 1) := by decide +kernel
theorem dX1_copy_10 : decode cX1_copy 10 = .ok (.getfield 47, 3) := by decide +kernel
theorem dX1_copy_13 : decode cX1_copy 13 = .ok (.putfield 47, 3) := by decide +kernel
theorem dX1_copy_16 : decode cX1_copy 16 = .ok (.aload_n 0, 1) := by decide +kernel
theorem dX1_copy_17 : decode cX1_copy 17 = .ok (.aload_n 1, 1) := by decide +kernel
theorem dX1_copy_18 : decode cX1_copy 18 = .ok (.getfield 9, 3) := by decide +kernel
theorem dX1_copy_21 : decode cX1_copy 21 = .ok (.putfield 9, 3) := by decide +kernel
theorem dX1_copy_24 : decode cX1_copy 24 = .ok (.aload_n 0, 1) := by decide +kernel
theorem dX1_copy_25 : decode cX1_copy 25 = .ok (.aload_n 1, 1) := by decide +kernel
theorem dX1_copy_26 : decode cX1_copy 26 = .ok (.getfield 15, 3) := by decide +kernel
theorem dX1_copy_29 : decode cX1_copy 29 = .ok (.putfield 15, 3) := by decide +kernel
theorem dX1_copy_32 : decode cX1_copy 32 = .ok (.aload_n 1, 1) := by decide +kernel
theorem dX1_copy_33 : decode cX1_copy 33 = .ok (.getfield 18, 3) := by decide +kernel
theorem dX1_copy_36 : decode cX1_copy 36 = .ok (.aload_n 0, 1) := by decide +kernel
theorem dX1_copy_37 : decode cX1_copy 37 = .ok (.getfield 18, 3) := by decide +kernel
theorem dX1_copy_40 : decode cX1_copy 40 = .ok (.invokestatic 50, 3) := by decide +kernel
theorem dX1_copy_43 : decode cX1_copy 43 = .ok (.aload_n 1, 1) := by decide +kernel
theorem dX1_copy_44 : decode cX1_copy 44 = .ok (.getfield 22, 3) := by decide +kernel
theorem dX1_copy_47 : decode cX1_copy 47 = .ok (.aload_n 0, 1) := by decide +kernel
theorem dX1_copy_48 : decode cX1_copy 48 = .ok (.getfield 22, 3) := by decide +kernel
theorem dX1_copy_51 : decode cX1_copy 51 = .ok (.invokestatic 50, 3) := by decide +kernel
theorem dX1_copy_54 : decode cX1_copy 54 = .ok (.aload_n 1, 1) := by decide +kernel
theorem dX1_copy_55 : decode cX1_copy 55 = .ok (.getfield 25, 3) := by decide +kernel
theorem dX1_copy_58 : decode cX1_copy 58 = .ok (.aload_n 0, 1) := by decide +kernel
theorem dX1_copy_59 : decode cX1_copy 59 = .ok (.getfield 25, 3) := by decide +kernel
theorem dX1_copy_62 : decode cX1_copy 62 = .ok (.invokestatic 50, 3) := by decide +kernel
theorem dX1_copy_65 : decode cX1_copy 65 = .ok (.aload_n 1, 1) := by decide +kernel
theorem dX1_copy_66 : decode cX1_copy 66 = .ok (.getfield 28, 3) := by decide +kernel
theorem dX1_copy_69 : decode cX1_copy 69 = .ok (.aload_n 0, 1) := by decide +kernel
theorem dX1_copy_70 : decode cX1_copy 70 = .ok (.getfield 28, 3) := by decide +kernel
theorem dX1_copy_73 : decode cX1_copy 73 = .ok (.invokestatic 50, 3) := by decide +kernel
theorem dX1_copy_76 : decode cX1_copy 76 = .ok (.aload_n 1, 1) := by decide +kernel
theorem dX1_copy_77 : decode cX1_copy 77 = .ok (.getfield 31, 3) := by decide +kernel
theorem dX1_copy_80 : decode cX1_copy 80 = .ok (.aload_n 0, 1) := by decide +kernel
theorem dX1_copy_81 : decode cX1_copy 81 = .ok (.getfield 31, 3) := by decide +kernel
theorem dX1_copy_84 : decode cX1_copy 84 = .ok (.invokestatic 50, 3) := by decide +kernel
theorem dX1_copy_87 : decode cX1_copy 87 = .ok (.aload_n 1, 1) := by decide +kernel
theorem dX1_copy_88 : decode cX1_copy 88 = .ok (.getfield 34, 3) := by decide +kernel
theorem dX1_copy_91 : decode cX1_copy 91 = .ok (.aload_n 0, 1) := by decide +kernel
theorem dX1_copy_92 : decode cX1_copy 92 = .ok (.getfield 34, 3) := by decide +kernel
theorem dX1_copy_95 : decode cX1_copy 95 = .ok (.invokestatic 50, 3) := by decide +kernel
theorem dX1_copy_98 : decode cX1_copy 98 = .ok (.aload_n 0, 1) := by decide +kernel
theorem dX1_copy_99 : decode cX1_copy 99 = .ok (.getfield 40, 3) := by decide +kernel
theorem dX1_copy_102 : decode cX1_copy 102 = .ok (.aload_n 1, 1) := by decide +kernel
theorem dX1_copy_103 : decode cX1_copy 103 = .ok (.getfield 40, 3) := by decide +kernel
theorem dX1_copy_106 : decode cX1_copy 106 = .ok (.invokevirtual 54, 3) := by decide +kernel
theorem dX1_copy_109 : decode cX1_copy 109 = .ok (.return_, 1) := by decide +kernel
theorem dX1_hasGlyph_0 : decode cX1_hasGlyph 0 = .ok (.iload_n 1, 1) := by decide +kernel
theorem dX1_hasGlyph_1 : decode cX1_hasGlyph 1 = .ok (.iconst 0, 1) := by decide +kernel
theorem dX1_hasGlyph_2 : decode cX1_hasGlyph 2 = .ok (.aload_n 0, 1) := by decide +kernel
theorem dX1_hasGlyph_3 : decode cX1_hasGlyph 3 = .ok (.getfield 44, 3) := by decide +kernel
theorem dX1_hasGlyph_6 : decode cX1_hasGlyph 6 = .ok (.iconst 1, 1) := by decide +kernel
theorem dX1_hasGlyph_7 : decode cX1_hasGlyph 7 = .ok (.isub, 1) := by decide +kernel
theorem dX1_hasGlyph_8 : decode cX1_hasGlyph 8 = .ok (.invokestatic 58, 3) := by decide +kernel
theorem dX1_hasGlyph_11 : decode cX1_hasGlyph 11 = .ok (.ireturn, 1) := by decide +kernel
theorem dX1_hasStem_0 : decode cX1_hasStem 0 = .ok (.aload_n 0, 1) := by decide +kernel
theorem dX1_hasStem_1 : decode cX1_hasStem 1 = .ok (.iload_n 1, 1) := by decide +kernel
theorem dX1_hasStem_2 : decode cX1_hasStem 2 = .ok (.invokevirtual 62, 3) := by decide +kernel
theorem dX1_hasStem_5 : decode cX1_hasStem 5 = .ok (.ifCond .eq 25, 3) := by decide +kernel
theorem dX1_hasStem_8 : decode cX1_hasStem 8 = .ok (.iload_n 2, 1) := by decide +kernel
theorem dX1_hasStem_9 : decode cX1_hasStem 9 = .ok (.iconst 0, 1) := by decide +kernel
theorem dX1_hasStem_10 : decode cX1_hasStem 10 = .ok (.aload_n 0, 1) := by decide +kernel
theorem dX1_hasStem_11 : decode cX1_hasStem 11 = .ok (.getfield 22, 3) := by decide +kernel
theorem dX1_hasStem_14 : decode cX1_hasStem 14 = .ok (.iload_n 1, 1) := by decide +kernel
theorem dX1_hasStem_15 : decode cX1_hasStem 15 = .ok (.invokestatic 66, 3) := by decide +kernel
theorem dX1_hasStem_18 : decode cX1_hasStem 18 = .ok (.iconst 1, 1) := by decide +kernel
theorem dX1_hasStem_19 : decode cX1_hasStem 19 = .ok (.isub, 1) := by decide +kernel
theorem dX1_hasStem_20 : decode cX1_hasStem 20 = .ok (.invokestatic 58, 3) := by decide +kernel
theorem dX1_hasStem_23 : decode cX1_hasStem 23 = .ok (.ifCond .eq 7, 3) := by decide +kernel
theorem dX1_hasStem_26 : decode cX1_hasStem 26 = .ok (.iconst 1, 1) := by decide +kernel
theorem dX1_hasStem_27 : decode cX1_hasStem 27 = .ok (.goto 4, 3) := by decide +kernel
theorem dX1_hasStem_30 : decode cX1_hasStem 30 = .ok (.iconst 0, 1) := by decide +kernel
theorem dX1_hasStem_31 : decode cX1_hasStem 31 = .ok (.ireturn, 1) := by decide +kernel
theorem dX1_endOf_0 : decode cX1_endOf 0 = .ok (.aload_n 0, 1) := by decide +kernel
theorem dX1_endOf_1 : decode cX1_endOf 1 = .ok (.getfield 25, 3) := by decide +kernel
theorem dX1_endOf_4 : decode cX1_endOf 4 = .ok (.iload_n 1, 1) := by decide +kernel
theorem dX1_endOf_5 : decode cX1_endOf 5 = .ok (.invokestatic 66, 3) := by decide +kernel
theorem dX1_endOf_8 : decode cX1_endOf 8 = .ok (.aload_n 0, 1) := by decide +kernel
theorem dX1_endOf_9 : decode cX1_endOf 9 = .ok (.getfield 28, 3) := by decide +kernel
theorem dX1_endOf_12 : decode cX1_endOf 12 = .ok (.iload_n 1, 1) := by decide +kernel
theorem dX1_endOf_13 : decode cX1_endOf 13 = .ok (.invokestatic 66, 3) := by decide +kernel
theorem dX1_endOf_16 : decode cX1_endOf 16 = .ok (.iadd, 1) := by decide +kernel
theorem dX1_endOf_17 : decode cX1_endOf 17 = .ok (.ireturn, 1) := by decide +kernel
theorem dX1_addGlyph_0 : decode cX1_addGlyph 0 = .ok (.iload_n 1, 1) := by decide +kernel
theorem dX1_addGlyph_1 : decode cX1_addGlyph 1 = .ok (.bipush 100, 2) := by decide +kernel
theorem dX1_addGlyph_3 : decode cX1_addGlyph 3 = .ok (.sipush 1500, 3) := by decide +kernel
theorem dX1_addGlyph_6 : decode cX1_addGlyph 6 = .ok (.invokestatic 58, 3) := by decide +kernel
theorem dX1_addGlyph_9 : decode cX1_addGlyph 9 = .ok (.ifCond .ne 6, 3) := by decide +kernel
theorem dX1_addGlyph_12 : decode cX1_addGlyph 12 = .ok (.ldc 70, 2) := by decide +kernel
theorem dX1_addGlyph_14 : decode cX1_addGlyph 14 = .ok (.ireturn, 1) := by decide +kernel
theorem dX1_addGlyph_15 : decode cX1_addGlyph 15 = .ok (.aload_n 0, 1) := by decide +kernel
theorem dX1_addGlyph_16 : decode cX1_addGlyph 16 = .ok (.getfield 44, 3) := by decide +kernel
theorem dX1_addGlyph_19 : decode cX1_addGlyph 19 = .ok (.bipush 8, 2) := by decide +kernel
theorem dX1_addGlyph_21 : decode cX1_addGlyph 21 = .ok (.if_icmp .lt 6, 3) := by decide +kernel
theorem dX1_addGlyph_24 : decode cX1_addGlyph 24 = .ok (.ldc 71, 2) := by decide +kernel
theorem dX1_addGlyph_26 : decode cX1_addGlyph 26 = .ok (.ireturn, 1) := by decide +kernel
theorem dX1_addGlyph_27 : decode cX1_addGlyph 27 = .ok (.aload_n 0, 1) := by decide +kernel
theorem dX1_addGlyph_28 : decode cX1_addGlyph 28 = .ok (.getfield 44, 3) := by decide +kernel
theorem dX1_addGlyph_31 : decode cX1_addGlyph 31 = .ok (.istore_n 2, 1) := by decide +kernel
theorem dX1_addGlyph_32 : decode cX1_addGlyph 32 = .ok (.aload_n 0, 1) := by decide +kernel
theorem dX1_addGlyph_33 : decode cX1_addGlyph 33 = .ok (.getfield 18, 3) := by decide +kernel
theorem dX1_addGlyph_36 : decode cX1_addGlyph 36 = .ok (.iload_n 2, 1) := by decide +kernel
theorem dX1_addGlyph_37 : decode cX1_addGlyph 37 = .ok (.iload_n 1, 1) := by decide +kernel
theorem dX1_addGlyph_38 : decode cX1_addGlyph 38 = .ok (.invokestatic 72, 3) := by decide +kernel
theorem dX1_addGlyph_41 : decode cX1_addGlyph 41 = .ok (.aload_n 0, 1) := by decide +kernel
theorem dX1_addGlyph_42 : decode cX1_addGlyph 42 = .ok (.dup, 1) := by decide +kernel
theorem dX1_addGlyph_43 : decode cX1_addGlyph 43 = .ok (.getfield 44, 3) := by decide +kernel
theorem dX1_addGlyph_46 : decode cX1_addGlyph 46 = .ok (.iconst 1, 1) := by decide +kernel
theorem dX1_addGlyph_47 : decode cX1_addGlyph 47 = .ok (.iadd, 1) := by decide +kernel
theorem dX1_addGlyph_48 : decode cX1_addGlyph 48 = .ok (.putfield 44, 3) := by decide +kernel
theorem dX1_addGlyph_51 : decode cX1_addGlyph 51 = .ok (.iload_n 2, 1) := by decide +kernel
theorem dX1_addGlyph_52 : decode cX1_addGlyph 52 = .ok (.ireturn, 1) := by decide +kernel
theorem dX1_addStem_0 : decode cX1_addStem 0 = .ok (.aload_n 0, 1) := by decide +kernel
theorem dX1_addStem_1 : decode cX1_addStem 1 = .ok (.iload_n 1, 1) := by decide +kernel
theorem dX1_addStem_2 : decode cX1_addStem 2 = .ok (.invokevirtual 62, 3) := by decide +kernel
theorem dX1_addStem_5 : decode cX1_addStem 5 = .ok (.ifCond .eq 25, 3) := by decide +kernel
theorem dX1_addStem_8 : decode cX1_addStem 8 = .ok (.iload_n 2, 1) := by decide +kernel
theorem dX1_addStem_9 : decode cX1_addStem 9 = .ok (.iconst 0, 1) := by decide +kernel
theorem dX1_addStem_10 : decode cX1_addStem 10 = .ok (.sipush 999, 3) := by decide +kernel
theorem dX1_addStem_13 : decode cX1_addStem 13 = .ok (.invokestatic 58, 3) := by decide +kernel
theorem dX1_addStem_16 : decode cX1_addStem 16 = .ok (.ifCond .eq 14, 3) := by decide +kernel
theorem dX1_addStem_19 : decode cX1_addStem 19 = .ok (.iload_n 3, 1) := by decide +kernel
theorem dX1_addStem_20 : decode cX1_addStem 20 = .ok (.iconst 1, 1) := by decide +kernel
theorem dX1_addStem_21 : decode cX1_addStem 21 = .ok (.sipush 300, 3) := by decide +kernel
theorem dX1_addStem_24 : decode cX1_addStem 24 = .ok (.invokestatic 58, 3) := by decide +kernel
theorem dX1_addStem_27 : decode cX1_addStem 27 = .ok (.ifCond .ne 6, 3) := by decide +kernel
theorem dX1_addStem_30 : decode cX1_addStem 30 = .ok (.ldc 70, 2) := by decide +kernel
theorem dX1_addStem_32 : decode cX1_addStem 32 = .ok (.ireturn, 1) := by decide +kernel
theorem dX1_addStem_33 : decode cX1_addStem 33 = .ok (.iload_n 1, 1) := by decide +kernel
theorem dX1_addStem_34 : decode cX1_addStem 34 = .ok (.bipush 6, 2) := by decide +kernel
theorem dX1_addStem_36 : decode cX1_addStem 36 = .ok (.imul, 1) := by decide +kernel
theorem dX1_addStem_37 : decode cX1_addStem 37 = .ok (.istore 4, 2) := by decide +kernel
theorem dX1_addStem_39 : decode cX1_addStem 39 = .ok (.aload_n 0, 1) := by decide +kernel
theorem dX1_addStem_40 : decode cX1_addStem 40 = .ok (.getfield 22, 3) := by decide +kernel
theorem dX1_addStem_43 : decode cX1_addStem 43 = .ok (.iload_n 1, 1) := by decide +kernel
theorem dX1_addStem_44 : decode cX1_addStem 44 = .ok (.invokestatic 66, 3) := by decide +kernel
theorem dX1_addStem_47 : decode cX1_addStem 47 = .ok (.istore 5, 2) := by decide +kernel
theorem dX1_addStem_49 : decode cX1_addStem 49 = .ok (.iconst 0, 1) := by decide +kernel
theorem dX1_addStem_50 : decode cX1_addStem 50 = .ok (.istore 6, 2) := by decide +kernel
theorem dX1_addStem_52 : decode cX1_addStem 52 = .ok (.iconst 0, 1) := by decide +kernel
theorem dX1_addStem_53 : decode cX1_addStem 53 = .ok (.istore 7, 2) := by decide +kernel
theorem dX1_addStem_55 : decode cX1_addStem 55 = .ok (.iload 7, 2) := by decide +kernel
theorem dX1_addStem_57 : decode cX1_addStem 57 = .ok (.iload 5, 2) := by decide +kernel
theorem dX1_addStem_59 : decode cX1_addStem 59 = .ok (.if_icmp .ge 56, 3) := by decide +kernel
theorem dX1_addStem_62 : decode cX1_addStem 62 = .ok (.aload_n 0, 1) := by decide +kernel
theorem dX1_addStem_63 : decode cX1_addStem 63 = .ok (.getfield 25, 3) := by decide +kernel
theorem dX1_addStem_66 : decode cX1_addStem 66 = .ok (.iload 4, 2) := by decide +kernel
theorem dX1_addStem_68 : decode cX1_addStem 68 = .ok (.iload 7, 2) := by decide +kernel
theorem dX1_addStem_70 : decode cX1_addStem 70 = .ok (.iadd, 1) := by decide +kernel
theorem dX1_addStem_71 : decode cX1_addStem 71 = .ok (.invokestatic 66, 3) := by decide +kernel
theorem dX1_addStem_74 : decode cX1_addStem 74 = .ok (.istore 8, 2) := by decide +kernel
theorem dX1_addStem_76 : decode cX1_addStem 76 = .ok (.iload_n 2, 1) := by decide +kernel
theorem dX1_addStem_77 : decode cX1_addStem 77 = .ok (.aload_n 0, 1) := by decide +kernel
theorem dX1_addStem_78 : decode cX1_addStem 78 = .ok (.iload 4, 2) := by decide +kernel
theorem dX1_addStem_80 : decode cX1_addStem 80 = .ok (.iload 7, 2) := by decide +kernel
theorem dX1_addStem_82 : decode cX1_addStem 82 = .ok (.iadd, 1) := by decide +kernel
theorem dX1_addStem_83 : decode cX1_addStem 83 = .ok (.invokevirtual 76, 3) := by decide +kernel
theorem dX1_addStem_86 : decode cX1_addStem 86 = .ok (.if_icmp .ge 14, 3) := by decide +kernel
theorem dX1_addStem_89 : decode cX1_addStem 89 = .ok (.iload 8, 2) := by decide +kernel
theorem dX1_addStem_91 : decode cX1_addStem 91 = .ok (.iload_n 2, 1) := by decide +kernel
theorem dX1_addStem_92 : decode cX1_addStem 92 = .ok (.iload_n 3, 1) := by decide +kernel
theorem dX1_addStem_93 : decode cX1_addStem 93 = .ok (.iadd, 1) := by decide +kernel
theorem dX1_addStem_94 : decode cX1_addStem 94 = .ok (.if_icmp .ge 6, 3) := by decide +kernel
theorem dX1_addStem_97 : decode cX1_addStem 97 = .ok (.ldc 80, 2) := by decide +kernel
theorem dX1_addStem_99 : decode cX1_addStem 99 = .ok (.ireturn, 1) := by decide +kernel
theorem dX1_addStem_100 : decode cX1_addStem 100 = .ok (.iload 8, 2) := by decide +kernel
theorem dX1_addStem_102 : decode cX1_addStem 102 = .ok (.iload_n 2, 1) := by decide +kernel
theorem dX1_addStem_103 : decode cX1_addStem 103 = .ok (.if_icmp .ge 6, 3) := by decide +kernel
theorem dX1_addStem_106 : decode cX1_addStem 106 = .ok (.iinc 6 1, 3) := by decide +kernel
theorem dX1_addStem_109 : decode cX1_addStem 109 = .ok (.iinc 7 1, 3) := by decide +kernel
theorem dX1_addStem_112 : decode cX1_addStem 112 = .ok (.goto (-57), 3) := by decide +kernel
theorem dX1_addStem_115 : decode cX1_addStem 115 = .ok (.iload 5, 2) := by decide +kernel
theorem dX1_addStem_117 : decode cX1_addStem 117 = .ok (.bipush 6, 2) := by decide +kernel
theorem dX1_addStem_119 : decode cX1_addStem 119 = .ok (.if_icmp .lt 6, 3) := by decide +kernel
theorem dX1_addStem_122 : decode cX1_addStem 122 = .ok (.ldc 71, 2) := by decide +kernel
theorem dX1_addStem_124 : decode cX1_addStem 124 = .ok (.ireturn, 1) := by decide +kernel
theorem dX1_addStem_125 : decode cX1_addStem 125 = .ok (.iload 5, 2) := by decide +kernel
theorem dX1_addStem_127 : decode cX1_addStem 127 = .ok (.istore 7, 2) := by decide +kernel
theorem dX1_addStem_129 : decode cX1_addStem 129 = .ok (.iload 7, 2) := by decide +kernel
theorem dX1_addStem_131 : decode cX1_addStem 131 = .ok (.iload 6, 2) := by decide +kernel
theorem dX1_addStem_133 : decode cX1_addStem 133 = .ok (.if_icmp .le 25, 3) := by decide +kernel
theorem dX1_addStem_136 : decode cX1_addStem 136 = .ok (.aload_n 0, 1) := by decide +kernel
theorem dX1_addStem_137 : decode cX1_addStem 137 = .ok (.iload 4, 2) := by decide +kernel
theorem dX1_addStem_139 : decode cX1_addStem 139 = .ok (.iload 7, 2) := by decide +kernel
theorem dX1_addStem_141 : decode cX1_addStem 141 = .ok (.iadd, 1) := by decide +kernel
theorem dX1_addStem_142 : decode cX1_addStem 142 = .ok (.iconst 1, 1) := by decide +kernel
theorem dX1_addStem_143 : decode cX1_addStem 143 = .ok (.isub, 1) := by decide +kernel
theorem dX1_addStem_144 : decode cX1_addStem 144 = .ok (.iload 4, 2) := by decide +kernel
theorem dX1_addStem_146 : decode cX1_addStem 146 = .ok (.iload 7, 2) := by decide +kernel
theorem dX1_addStem_148 : decode cX1_addStem 148 = .ok (.iadd, 1) := by decide +kernel
theorem dX1_addStem_149 : decode cX1_addStem 149 = .ok (.invokevirtual 81, 3) := by decide +kernel
theorem dX1_addStem_152 : decode cX1_addStem 152 = .ok (.iinc 7 (-1), 3) := by decide +kernel
theorem dX1_addStem_155 : decode cX1_addStem 155 = .ok (.goto (-26), 3) := by decide +kernel
theorem dX1_addStem_158 : decode cX1_addStem 158 = .ok (.aload_n 0, 1) := by decide +kernel
theorem dX1_addStem_159 : decode cX1_addStem 159 = .ok (.iload 4, 2) := by decide +kernel
theorem dX1_addStem_161 : decode cX1_addStem 161 = .ok (.iload 6, 2) := by decide +kernel
theorem dX1_addStem_163 : decode cX1_addStem 163 = .ok (.iadd, 1) := by decide +kernel
theorem dX1_addStem_164 : decode cX1_addStem 164 = .ok (.iload_n 2, 1) := by decide +kernel
theorem dX1_addStem_165 : decode cX1_addStem 165 = .ok (.iload_n 3, 1) := by decide +kernel
theorem dX1_addStem_166 : decode cX1_addStem 166 = .ok (.iconst 0, 1) := by decide +kernel
theorem dX1_addStem_167 : decode cX1_addStem 167 = .ok (.invokevirtual 85, 3) := by decide +kernel
theorem dX1_addStem_170 : decode cX1_addStem 170 = .ok (.aload_n 0, 1) := by decide +kernel
theorem dX1_addStem_171 : decode cX1_addStem 171 = .ok (.getfield 22, 3) := by decide +kernel
theorem dX1_addStem_174 : decode cX1_addStem 174 = .ok (.iload_n 1, 1) := by decide +kernel
theorem dX1_addStem_175 : decode cX1_addStem 175 = .ok (.iload 5, 2) := by decide +kernel
theorem dX1_addStem_177 : decode cX1_addStem 177 = .ok (.iconst 1, 1) := by decide +kernel
theorem dX1_addStem_178 : decode cX1_addStem 178 = .ok (.iadd, 1) := by decide +kernel
theorem dX1_addStem_179 : decode cX1_addStem 179 = .ok (.invokestatic 72, 3) := by decide +kernel
theorem dX1_addStem_182 : decode cX1_addStem 182 = .ok (.iload 6, 2) := by decide +kernel
theorem dX1_addStem_184 : decode cX1_addStem 184 = .ok (.ireturn, 1) := by decide +kernel
theorem dX1_cutStem_0 : decode cX1_cutStem 0 = .ok (.aload_n 0, 1) := by decide +kernel
theorem dX1_cutStem_1 : decode cX1_cutStem 1 = .ok (.iload_n 1, 1) := by decide +kernel
theorem dX1_cutStem_2 : decode cX1_cutStem 2 = .ok (.iload_n 2, 1) := by decide +kernel
theorem dX1_cutStem_3 : decode cX1_cutStem 3 = .ok (.invokevirtual 89, 3) := by decide +kernel
theorem dX1_cutStem_6 : decode cX1_cutStem 6 = .ok (.ifCond .ne 6, 3) := by decide +kernel
theorem dX1_cutStem_9 : decode cX1_cutStem 9 = .ok (.ldc 70, 2) := by decide +kernel
theorem dX1_cutStem_11 : decode cX1_cutStem 11 = .ok (.ireturn, 1) := by decide +kernel
theorem dX1_cutStem_12 : decode cX1_cutStem 12 = .ok (.iload_n 1, 1) := by decide +kernel
theorem dX1_cutStem_13 : decode cX1_cutStem 13 = .ok (.bipush 6, 2) := by decide +kernel
theorem dX1_cutStem_15 : decode cX1_cutStem 15 = .ok (.imul, 1) := by decide +kernel
theorem dX1_cutStem_16 : decode cX1_cutStem 16 = .ok (.istore_n 3, 1) := by decide +kernel
theorem dX1_cutStem_17 : decode cX1_cutStem 17 = .ok (.aload_n 0, 1) := by decide +kernel
theorem dX1_cutStem_18 : decode cX1_cutStem 18 = .ok (.getfield 22, 3) := by decide +kernel
theorem dX1_cutStem_21 : decode cX1_cutStem 21 = .ok (.iload_n 1, 1) := by decide +kernel
theorem dX1_cutStem_22 : decode cX1_cutStem 22 = .ok (.invokestatic 66, 3) := by decide +kernel
theorem dX1_cutStem_25 : decode cX1_cutStem 25 = .ok (.iconst 1, 1) := by decide +kernel
theorem dX1_cutStem_26 : decode cX1_cutStem 26 = .ok (.isub, 1) := by decide +kernel
theorem dX1_cutStem_27 : decode cX1_cutStem 27 = .ok (.istore 4, 2) := by decide +kernel
theorem dX1_cutStem_29 : decode cX1_cutStem 29 = .ok (.iload_n 2, 1) := by decide +kernel
theorem dX1_cutStem_30 : decode cX1_cutStem 30 = .ok (.istore 5, 2) := by decide +kernel
theorem dX1_cutStem_32 : decode cX1_cutStem 32 = .ok (.iload 5, 2) := by decide +kernel
theorem dX1_cutStem_34 : decode cX1_cutStem 34 = .ok (.iload 4, 2) := by decide +kernel
theorem dX1_cutStem_36 : decode cX1_cutStem 36 = .ok (.if_icmp .ge 23, 3) := by decide +kernel
theorem dX1_cutStem_39 : decode cX1_cutStem 39 = .ok (.aload_n 0, 1) := by decide +kernel
theorem dX1_cutStem_40 : decode cX1_cutStem 40 = .ok (.iload_n 3, 1) := by decide +kernel
theorem dX1_cutStem_41 : decode cX1_cutStem 41 = .ok (.iload 5, 2) := by decide +kernel
theorem dX1_cutStem_43 : decode cX1_cutStem 43 = .ok (.iadd, 1) := by decide +kernel
theorem dX1_cutStem_44 : decode cX1_cutStem 44 = .ok (.iconst 1, 1) := by decide +kernel
theorem dX1_cutStem_45 : decode cX1_cutStem 45 = .ok (.iadd, 1) := by decide +kernel
theorem dX1_cutStem_46 : decode cX1_cutStem 46 = .ok (.iload_n 3, 1) := by decide +kernel
theorem dX1_cutStem_47 : decode cX1_cutStem 47 = .ok (.iload 5, 2) := by decide +kernel
theorem dX1_cutStem_49 : decode cX1_cutStem 49 = .ok (.iadd, 1) := by decide +kernel
theorem dX1_cutStem_50 : decode cX1_cutStem 50 = .ok (.invokevirtual 81, 3) := by decide +kernel
theorem dX1_cutStem_53 : decode cX1_cutStem 53 = .ok (.iinc 5 1, 3) := by decide +kernel
theorem dX1_cutStem_56 : decode cX1_cutStem 56 = .ok (.goto (-24), 3) := by decide +kernel
theorem dX1_cutStem_59 : decode cX1_cutStem 59 = .ok (.aload_n 0, 1) := by decide +kernel
theorem dX1_cutStem_60 : decode cX1_cutStem 60 = .ok (.iload_n 3, 1) := by decide +kernel
theorem dX1_cutStem_61 : decode cX1_cutStem 61 = .ok (.iload 4, 2) := by decide +kernel
theorem dX1_cutStem_63 : decode cX1_cutStem 63 = .ok (.iadd, 1) := by decide +kernel
theorem dX1_cutStem_64 : decode cX1_cutStem 64 = .ok (.iconst 0, 1) := by decide +kernel
theorem dX1_cutStem_65 : decode cX1_cutStem 65 = .ok (.iconst 0, 1) := by decide +kernel
theorem dX1_cutStem_66 : decode cX1_cutStem 66 = .ok (.iconst 0, 1) := by decide +kernel
theorem dX1_cutStem_67 : decode cX1_cutStem 67 = .ok (.invokevirtual 85, 3) := by decide +kernel
theorem dX1_cutStem_70 : decode cX1_cutStem 70 = .ok (.aload_n 0, 1) := by decide +kernel
theorem dX1_cutStem_71 : decode cX1_cutStem 71 = .ok (.getfield 22, 3) := by decide +kernel
theorem dX1_cutStem_74 : decode cX1_cutStem 74 = .ok (.iload_n 1, 1) := by decide +kernel
theorem dX1_cutStem_75 : decode cX1_cutStem 75 = .ok (.iload 4, 2) := by decide +kernel
theorem dX1_cutStem_77 : decode cX1_cutStem 77 = .ok (.invokestatic 72, 3) := by decide +kernel
theorem dX1_cutStem_80 : decode cX1_cutStem 80 = .ok (.iload 4, 2) := by decide +kernel
theorem dX1_cutStem_82 : decode cX1_cutStem 82 = .ok (.ireturn, 1) := by decide +kernel
theorem dX1_moveStem_0 : decode cX1_moveStem 0 = .ok (.aload_n 0, 1) := by decide +kernel
theorem dX1_moveStem_1 : decode cX1_moveStem 1 = .ok (.iload_n 2, 1) := by decide +kernel
theorem dX1_moveStem_2 : decode cX1_moveStem 2 = .ok (.aload_n 0, 1) := by decide +kernel
theorem dX1_moveStem_3 : decode cX1_moveStem 3 = .ok (.getfield 25, 3) := by decide +kernel
theorem dX1_moveStem_6 : decode cX1_moveStem 6 = .ok (.iload_n 1, 1) := by decide +kernel
theorem dX1_moveStem_7 : decode cX1_moveStem 7 = .ok (.invokestatic 66, 3) := by decide +kernel
theorem dX1_moveStem_10 : decode cX1_moveStem 10 = .ok (.aload_n 0, 1) := by decide +kernel
theorem dX1_moveStem_11 : decode cX1_moveStem 11 = .ok (.getfield 28, 3) := by decide +kernel
theorem dX1_moveStem_14 : decode cX1_moveStem 14 = .ok (.iload_n 1, 1) := by decide +kernel
theorem dX1_moveStem_15 : decode cX1_moveStem 15 = .ok (.invokestatic 66, 3) := by decide +kernel
theorem dX1_moveStem_18 : decode cX1_moveStem 18 = .ok (.aload_n 0, 1) := by decide +kernel
theorem dX1_moveStem_19 : decode cX1_moveStem 19 = .ok (.getfield 31, 3) := by decide +kernel
theorem dX1_moveStem_22 : decode cX1_moveStem 22 = .ok (.iload_n 1, 1) := by decide +kernel
theorem dX1_moveStem_23 : decode cX1_moveStem 23 = .ok (.invokestatic 66, 3) := by decide +kernel
theorem dX1_moveStem_26 : decode cX1_moveStem 26 = .ok (.invokevirtual 85, 3) := by decide +kernel
theorem dX1_moveStem_29 : decode cX1_moveStem 29 = .ok (.return_, 1) := by decide +kernel
theorem dX1_putStem_0 : decode cX1_putStem 0 = .ok (.aload_n 0, 1) := by decide +kernel
theorem dX1_putStem_1 : decode cX1_putStem 1 = .ok (.getfield 25, 3) := by decide +kernel
theorem dX1_putStem_4 : decode cX1_putStem 4 = .ok (.iload_n 1, 1) := by decide +kernel
theorem dX1_putStem_5 : decode cX1_putStem 5 = .ok (.iload_n 2, 1) := by decide +kernel
theorem dX1_putStem_6 : decode cX1_putStem 6 = .ok (.invokestatic 72, 3) := by decide +kernel
theorem dX1_putStem_9 : decode cX1_putStem 9 = .ok (.aload_n 0, 1) := by decide +kernel
theorem dX1_putStem_10 : decode cX1_putStem 10 = .ok (.getfield 28, 3) := by decide +kernel
theorem dX1_putStem_13 : decode cX1_putStem 13 = .ok (.iload_n 1, 1) := by decide +kernel
theorem dX1_putStem_14 : decode cX1_putStem 14 = .ok (.iload_n 3, 1) := by decide +kernel
theorem dX1_putStem_15 : decode cX1_putStem 15 = .ok (.invokestatic 72, 3) := by decide +kernel
theorem dX1_putStem_18 : decode cX1_putStem 18 = .ok (.aload_n 0, 1) := by decide +kernel
theorem dX1_putStem_19 : decode cX1_putStem 19 = .ok (.getfield 31, 3) := by decide +kernel
theorem dX1_putStem_22 : decode cX1_putStem 22 = .ok (.iload_n 1, 1) := by decide +kernel
theorem dX1_putStem_23 : decode cX1_putStem 23 = .ok (.iload 4, 2) := by decide +kernel
theorem dX1_putStem_25 : decode cX1_putStem 25 = .ok (.invokestatic 72, 3) := by decide +kernel
theorem dX1_putStem_28 : decode cX1_putStem 28 = .ok (.return_, 1) := by decide +kernel
theorem dX1_hintStem_0 : decode cX1_hintStem 0 = .ok (.aload_n 0, 1) := by decide +kernel
theorem dX1_hintStem_1 : decode cX1_hintStem 1 = .ok (.iload_n 1, 1) := by decide +kernel
theorem dX1_hintStem_2 : decode cX1_hintStem 2 = .ok (.iload_n 2, 1) := by decide +kernel
theorem dX1_hintStem_3 : decode cX1_hintStem 3 = .ok (.invokevirtual 89, 3) := by decide +kernel
theorem dX1_hintStem_6 : decode cX1_hintStem 6 = .ok (.ifCond .eq 12, 3) := by decide +kernel
theorem dX1_hintStem_9 : decode cX1_hintStem 9 = .ok (.iload_n 3, 1) := by decide +kernel
theorem dX1_hintStem_10 : decode cX1_hintStem 10 = .ok (.iconst 0, 1) := by decide +kernel
theorem dX1_hintStem_11 : decode cX1_hintStem 11 = .ok (.iconst 3, 1) := by decide +kernel
theorem dX1_hintStem_12 : decode cX1_hintStem 12 = .ok (.invokestatic 58, 3) := by decide +kernel
theorem dX1_hintStem_15 : decode cX1_hintStem 15 = .ok (.ifCond .ne 6, 3) := by decide +kernel
theorem dX1_hintStem_18 : decode cX1_hintStem 18 = .ok (.ldc 70, 2) := by decide +kernel
theorem dX1_hintStem_20 : decode cX1_hintStem 20 = .ok (.ireturn, 1) := by decide +kernel
theorem dX1_hintStem_21 : decode cX1_hintStem 21 = .ok (.iload_n 1, 1) := by decide +kernel
theorem dX1_hintStem_22 : decode cX1_hintStem 22 = .ok (.bipush 6, 2) := by decide +kernel
theorem dX1_hintStem_24 : decode cX1_hintStem 24 = .ok (.imul, 1) := by decide +kernel
theorem dX1_hintStem_25 : decode cX1_hintStem 25 = .ok (.iload_n 2, 1) := by decide +kernel
theorem dX1_hintStem_26 : decode cX1_hintStem 26 = .ok (.iadd, 1) := by decide +kernel
theorem dX1_hintStem_27 : decode cX1_hintStem 27 = .ok (.istore 4, 2) := by decide +kernel
theorem dX1_hintStem_29 : decode cX1_hintStem 29 = .ok (.aload_n 0, 1) := by decide +kernel
theorem dX1_hintStem_30 : decode cX1_hintStem 30 = .ok (.getfield 31, 3) := by decide +kernel
theorem dX1_hintStem_33 : decode cX1_hintStem 33 = .ok (.iload 4, 2) := by decide +kernel
theorem dX1_hintStem_35 : decode cX1_hintStem 35 = .ok (.invokestatic 66, 3) := by decide +kernel
theorem dX1_hintStem_38 : decode cX1_hintStem 38 = .ok (.istore 5, 2) := by decide +kernel
theorem dX1_hintStem_40 : decode cX1_hintStem 40 = .ok (.aload_n 0, 1) := by decide +kernel
theorem dX1_hintStem_41 : decode cX1_hintStem 41 = .ok (.getfield 31, 3) := by decide +kernel
theorem dX1_hintStem_44 : decode cX1_hintStem 44 = .ok (.iload 4, 2) := by decide +kernel
theorem dX1_hintStem_46 : decode cX1_hintStem 46 = .ok (.iload_n 3, 1) := by decide +kernel
theorem dX1_hintStem_47 : decode cX1_hintStem 47 = .ok (.invokestatic 72, 3) := by decide +kernel
theorem dX1_hintStem_50 : decode cX1_hintStem 50 = .ok (.iload 5, 2) := by decide +kernel
theorem dX1_hintStem_52 : decode cX1_hintStem 52 = .ok (.ireturn, 1) := by decide +kernel
theorem dX1_addStandard_0 : decode cX1_addStandard 0 = .ok (.iload_n 1, 1) := by decide +kernel
theorem dX1_addStandard_1 : decode cX1_addStandard 1 = .ok (.iconst 1, 1) := by decide +kernel
theorem dX1_addStandard_2 : decode cX1_addStandard 2 = .ok (.sipush 300, 3) := by decide +kernel
theorem dX1_addStandard_5 : decode cX1_addStandard 5 = .ok (.invokestatic 58, 3) := by decide +kernel
theorem dX1_addStandard_8 : decode cX1_addStandard 8 = .ok (.ifCond .ne 6, 3) := by decide +kernel
theorem dX1_addStandard_11 : decode cX1_addStandard 11 = .ok (.ldc 70, 2) := by decide +kernel
theorem dX1_addStandard_13 : decode cX1_addStandard 13 = .ok (.ireturn, 1) := by decide +kernel
theorem dX1_addStandard_14 : decode cX1_addStandard 14 = .ok (.aload_n 0, 1) := by decide +kernel
theorem dX1_addStandard_15 : decode cX1_addStandard 15 = .ok (.iload_n 1, 1) := by decide +kernel
theorem dX1_addStandard_16 : decode cX1_addStandard 16 = .ok (.invokevirtual 93, 3) := by decide +kernel
theorem dX1_addStandard_19 : decode cX1_addStandard 19 = .ok (.ifCond .lt 6, 3) := by decide +kernel
theorem dX1_addStandard_22 : decode cX1_addStandard 22 = .ok (.ldc 80, 2) := by decide +kernel
theorem dX1_addStandard_24 : decode cX1_addStandard 24 = .ok (.ireturn, 1) := by decide +kernel
theorem dX1_addStandard_25 : decode cX1_addStandard 25 = .ok (.aload_n 0, 1) := by decide +kernel
theorem dX1_addStandard_26 : decode cX1_addStandard 26 = .ok (.getfield 47, 3) := by decide +kernel
theorem dX1_addStandard_29 : decode cX1_addStandard 29 = .ok (.iconst 3, 1) := by decide +kernel
theorem dX1_addStandard_30 : decode cX1_addStandard 30 = .ok (.if_icmp .lt 6, 3) := by decide +kernel
theorem dX1_addStandard_33 : decode cX1_addStandard 33 = .ok (.ldc 71, 2) := by decide +kernel
theorem dX1_addStandard_35 : decode cX1_addStandard 35 = .ok (.ireturn, 1) := by decide +kernel
theorem dX1_addStandard_36 : decode cX1_addStandard 36 = .ok (.aload_n 0, 1) := by decide +kernel
theorem dX1_addStandard_37 : decode cX1_addStandard 37 = .ok (.getfield 47, 3) := by decide +kernel
theorem dX1_addStandard_40 : decode cX1_addStandard 40 = .ok (.istore_n 2, 1) := by decide +kernel
theorem dX1_addStandard_41 : decode cX1_addStandard 41 = .ok (.iload_n 2, 1) := by decide +kernel
theorem dX1_addStandard_42 : decode cX1_addStandard 42 = .ok (.ifCond .le 41, 3) := by decide +kernel
theorem dX1_addStandard_45 : decode cX1_addStandard 45 = .ok (.aload_n 0, 1) := by decide +kernel
theorem dX1_addStandard_46 : decode cX1_addStandard 46 = .ok (.getfield 34, 3) := by decide +kernel
theorem dX1_addStandard_49 : decode cX1_addStandard 49 = .ok (.iload_n 2, 1) := by decide +kernel
theorem dX1_addStandard_50 : decode cX1_addStandard 50 = .ok (.iconst 1, 1) := by decide +kernel
theorem dX1_addStandard_51 : decode cX1_addStandard 51 = .ok (.isub, 1) := by decide +kernel
theorem dX1_addStandard_52 : decode cX1_addStandard 52 = .ok (.invokestatic 66, 3) := by decide +kernel
theorem dX1_addStandard_55 : decode cX1_addStandard 55 = .ok (.iload_n 1, 1) := by decide +kernel
theorem dX1_addStandard_56 : decode cX1_addStandard 56 = .ok (.if_icmp .le 27, 3) := by decide +kernel
theorem dX1_addStandard_59 : decode cX1_addStandard 59 = .ok (.aload_n 0, 1) := by decide +kernel
theorem dX1_addStandard_60 : decode cX1_addStandard 60 = .ok (.getfield 34, 3) := by decide +kernel
theorem dX1_addStandard_63 : decode cX1_addStandard 63 = .ok (.iload_n 2, 1) := by decide +kernel
theorem dX1_addStandard_64 : decode cX1_addStandard 64 = .ok (.aload_n 0, 1) := by decide +kernel
theorem dX1_addStandard_65 : decode cX1_addStandard 65 = .ok (.getfield 34, 3) := by decide +kernel
theorem dX1_addStandard_68 : decode cX1_addStandard 68 = .ok (.iload_n 2, 1) := by decide +kernel
theorem dX1_addStandard_69 : decode cX1_addStandard 69 = .ok (.iconst 1, 1) := by decide +kernel
theorem dX1_addStandard_70 : decode cX1_addStandard 70 = .ok (.isub, 1) := by decide +kernel
theorem dX1_addStandard_71 : decode cX1_addStandard 71 = .ok (.invokestatic 66, 3) := by decide +kernel
theorem dX1_addStandard_74 : decode cX1_addStandard 74 = .ok (.invokestatic 72, 3) := by decide +kernel
theorem dX1_addStandard_77 : decode cX1_addStandard 77 = .ok (.iinc 2 (-1), 3) := by decide +kernel
theorem dX1_addStandard_80 : decode cX1_addStandard 80 = .ok (.goto (-39), 3) := by decide +kernel
theorem dX1_addStandard_83 : decode cX1_addStandard 83 = .ok (.aload_n 0, 1) := by decide +kernel
theorem dX1_addStandard_84 : decode cX1_addStandard 84 = .ok (.getfield 34, 3) := by decide +kernel
theorem dX1_addStandard_87 : decode cX1_addStandard 87 = .ok (.iload_n 2, 1) := by decide +kernel
theorem dX1_addStandard_88 : decode cX1_addStandard 88 = .ok (.iload_n 1, 1) := by decide +kernel
theorem dX1_addStandard_89 : decode cX1_addStandard 89 = .ok (.invokestatic 72, 3) := by decide +kernel
theorem dX1_addStandard_92 : decode cX1_addStandard 92 = .ok (.aload_n 0, 1) := by decide +kernel
theorem dX1_addStandard_93 : decode cX1_addStandard 93 = .ok (.dup, 1) := by decide +kernel
theorem dX1_addStandard_94 : decode cX1_addStandard 94 = .ok (.getfield 47, 3) := by decide +kernel
theorem dX1_addStandard_97 : decode cX1_addStandard 97 = .ok (.iconst 1, 1) := by decide +kernel
theorem dX1_addStandard_98 : decode cX1_addStandard 98 = .ok (.iadd, 1) := by decide +kernel
theorem dX1_addStandard_99 : decode cX1_addStandard 99 = .ok (.putfield 47, 3) := by decide +kernel
theorem dX1_addStandard_102 : decode cX1_addStandard 102 = .ok (.aload_n 0, 1) := by decide +kernel
theorem dX1_addStandard_103 : decode cX1_addStandard 103 = .ok (.iload_n 1, 1) := by decide +kernel
theorem dX1_addStandard_104 : decode cX1_addStandard 104 = .ok (.invokevirtual 96, 3) := by decide +kernel
theorem dX1_addStandard_107 : decode cX1_addStandard 107 = .ok (.ireturn, 1) := by decide +kernel
theorem dX1_dropStandard_0 : decode cX1_dropStandard 0 = .ok (.iload_n 1, 1) := by decide +kernel
theorem dX1_dropStandard_1 : decode cX1_dropStandard 1 = .ok (.iconst 1, 1) := by decide +kernel
theorem dX1_dropStandard_2 : decode cX1_dropStandard 2 = .ok (.sipush 300, 3) := by decide +kernel
theorem dX1_dropStandard_5 : decode cX1_dropStandard 5 = .ok (.invokestatic 58, 3) := by decide +kernel
theorem dX1_dropStandard_8 : decode cX1_dropStandard 8 = .ok (.ifCond .ne 6, 3) := by decide +kernel
theorem dX1_dropStandard_11 : decode cX1_dropStandard 11 = .ok (.ldc 70, 2) := by decide +kernel
theorem dX1_dropStandard_13 : decode cX1_dropStandard 13 = .ok (.ireturn, 1) := by decide +kernel
theorem dX1_dropStandard_14 : decode cX1_dropStandard 14 = .ok (.aload_n 0, 1) := by decide +kernel
theorem dX1_dropStandard_15 : decode cX1_dropStandard 15 = .ok (.iload_n 1, 1) := by decide +kernel
theorem dX1_dropStandard_16 : decode cX1_dropStandard 16 = .ok (.invokevirtual 93, 3) := by decide +kernel
theorem dX1_dropStandard_19 : decode cX1_dropStandard 19 = .ok (.istore_n 2, 1) := by decide +kernel
theorem dX1_dropStandard_20 : decode cX1_dropStandard 20 = .ok (.iload_n 2, 1) := by decide +kernel
theorem dX1_dropStandard_21 : decode cX1_dropStandard 21 = .ok (.ifCond .ge 6, 3) := by decide +kernel
theorem dX1_dropStandard_24 : decode cX1_dropStandard 24 = .ok (.ldc 80, 2) := by decide +kernel
theorem dX1_dropStandard_26 : decode cX1_dropStandard 26 = .ok (.ireturn, 1) := by decide +kernel
theorem dX1_dropStandard_27 : decode cX1_dropStandard 27 = .ok (.aload_n 0, 1) := by decide +kernel
theorem dX1_dropStandard_28 : decode cX1_dropStandard 28 = .ok (.dup, 1) := by decide +kernel
theorem dX1_dropStandard_29 : decode cX1_dropStandard 29 = .ok (.getfield 47, 3) := by decide +kernel
theorem dX1_dropStandard_32 : decode cX1_dropStandard 32 = .ok (.iconst 1, 1) := by decide +kernel
theorem dX1_dropStandard_33 : decode cX1_dropStandard 33 = .ok (.isub, 1) := by decide +kernel
theorem dX1_dropStandard_34 : decode cX1_dropStandard 34 = .ok (.putfield 47, 3) := by decide +kernel
theorem dX1_dropStandard_37 : decode cX1_dropStandard 37 = .ok (.iload_n 2, 1) := by decide +kernel
theorem dX1_dropStandard_38 : decode cX1_dropStandard 38 = .ok (.istore_n 3, 1) := by decide +kernel
theorem dX1_dropStandard_39 : decode cX1_dropStandard 39 = .ok (.iload_n 3, 1) := by decide +kernel
theorem dX1_dropStandard_40 : decode cX1_dropStandard 40 = .ok (.aload_n 0, 1) := by decide +kernel
theorem dX1_dropStandard_41 : decode cX1_dropStandard 41 = .ok (.getfield 47, 3) := by decide +kernel
theorem dX1_dropStandard_44 : decode cX1_dropStandard 44 = .ok (.if_icmp .ge 27, 3) := by decide +kernel
theorem dX1_dropStandard_47 : decode cX1_dropStandard 47 = .ok (.aload_n 0, 1) := by decide +kernel
theorem dX1_dropStandard_48 : decode cX1_dropStandard 48 = .ok (.getfield 34, 3) := by decide +kernel
theorem dX1_dropStandard_51 : decode cX1_dropStandard 51 = .ok (.iload_n 3, 1) := by decide +kernel
theorem dX1_dropStandard_52 : decode cX1_dropStandard 52 = .ok (.aload_n 0, 1) := by decide +kernel
theorem dX1_dropStandard_53 : decode cX1_dropStandard 53 = .ok (.getfield 34, 3) := by decide +kernel
theorem dX1_dropStandard_56 : decode cX1_dropStandard 56 = .ok (.iload_n 3, 1) := by decide +kernel
theorem dX1_dropStandard_57 : decode cX1_dropStandard 57 = .ok (.iconst 1, 1) := by decide +kernel
theorem dX1_dropStandard_58 : decode cX1_dropStandard 58 = .ok (.iadd, 1) := by decide +kernel
theorem dX1_dropStandard_59 : decode cX1_dropStandard 59 = .ok (.invokestatic 66, 3) := by decide +kernel
theorem dX1_dropStandard_62 : decode cX1_dropStandard 62 = .ok (.invokestatic 72, 3) := by decide +kernel
theorem dX1_dropStandard_65 : decode cX1_dropStandard 65 = .ok (.iinc 3 1, 3) := by decide +kernel
theorem dX1_dropStandard_68 : decode cX1_dropStandard 68 = .ok (.goto (-29), 3) := by decide +kernel
theorem dX1_dropStandard_71 : decode cX1_dropStandard 71 = .ok (.aload_n 0, 1) := by decide +kernel
theorem dX1_dropStandard_72 : decode cX1_dropStandard 72 = .ok (.getfield 34, 3) := by decide +kernel
theorem dX1_dropStandard_75 : decode cX1_dropStandard 75 = .ok (.aload_n 0, 1) := by decide +kernel
theorem dX1_dropStandard_76 : decode cX1_dropStandard 76 = .ok (.getfield 47, 3) := by decide +kernel
theorem dX1_dropStandard_79 : decode cX1_dropStandard 79 = .ok (.iconst 0, 1) := by decide +kernel
theorem dX1_dropStandard_80 : decode cX1_dropStandard 80 = .ok (.invokestatic 72, 3) := by decide +kernel
theorem dX1_dropStandard_83 : decode cX1_dropStandard 83 = .ok (.aload_n 0, 1) := by decide +kernel
theorem dX1_dropStandard_84 : decode cX1_dropStandard 84 = .ok (.getfield 47, 3) := by decide +kernel
theorem dX1_dropStandard_87 : decode cX1_dropStandard 87 = .ok (.ireturn, 1) := by decide +kernel
theorem dX1_standardAt_0 : decode cX1_standardAt 0 = .ok (.iconst 0, 1) := by decide +kernel
theorem dX1_standardAt_1 : decode cX1_standardAt 1 = .ok (.istore_n 2, 1) := by decide +kernel
theorem dX1_standardAt_2 : decode cX1_standardAt 2 = .ok (.iload_n 2, 1) := by decide +kernel
theorem dX1_standardAt_3 : decode cX1_standardAt 3 = .ok (.aload_n 0, 1) := by decide +kernel
theorem dX1_standardAt_4 : decode cX1_standardAt 4 = .ok (.getfield 47, 3) := by decide +kernel
theorem dX1_standardAt_7 : decode cX1_standardAt 7 = .ok (.if_icmp .ge 23, 3) := by decide +kernel
theorem dX1_standardAt_10 : decode cX1_standardAt 10 = .ok (.aload_n 0, 1) := by decide +kernel
theorem dX1_standardAt_11 : decode cX1_standardAt 11 = .ok (.getfield 34, 3) := by decide +kernel
theorem dX1_standardAt_14 : decode cX1_standardAt 14 = .ok (.iload_n 2, 1) := by decide +kernel
theorem dX1_standardAt_15 : decode cX1_standardAt 15 = .ok (.invokestatic 66, 3) := by decide +kernel
theorem dX1_standardAt_18 : decode cX1_standardAt 18 = .ok (.iload_n 1, 1) := by decide +kernel
theorem dX1_standardAt_19 : decode cX1_standardAt 19 = .ok (.if_icmp .ne 5, 3) := by decide +kernel
theorem dX1_standardAt_22 : decode cX1_standardAt 22 = .ok (.iload_n 2, 1) := by decide +kernel
theorem dX1_standardAt_23 : decode cX1_standardAt 23 = .ok (.ireturn, 1) := by decide +kernel
theorem dX1_standardAt_24 : decode cX1_standardAt 24 = .ok (.iinc 2 1, 3) := by decide +kernel
theorem dX1_standardAt_27 : decode cX1_standardAt 27 = .ok (.goto (-25), 3) := by decide +kernel
theorem dX1_standardAt_30 : decode cX1_standardAt 30 = .ok (.iconst (-1), 1) := by decide +kernel
theorem dX1_standardAt_31 : decode cX1_standardAt 31 = .ok (.ireturn, 1) := by decide +kernel
theorem dX1_changeSetting_0 : decode cX1_changeSetting 0 = .ok (.iload_n 1, 1) := by decide +kernel
theorem dX1_changeSetting_1 : decode cX1_changeSetting 1 = .ok (.ifCond .ne 25, 3) := by decide +kernel
theorem dX1_changeSetting_4 : decode cX1_changeSetting 4 = .ok (.iload_n 2, 1) := by decide +kernel
theorem dX1_changeSetting_5 : decode cX1_changeSetting 5 = .ok (.iconst 0, 1) := by decide +kernel
theorem dX1_changeSetting_6 : decode cX1_changeSetting 6 = .ok (.bipush 100, 2) := by decide +kernel
theorem dX1_changeSetting_8 : decode cX1_changeSetting 8 = .ok (.invokestatic 58, 3) := by decide +kernel
theorem dX1_changeSetting_11 : decode cX1_changeSetting 11 = .ok (.ifCond .eq 15, 3) := by decide +kernel
theorem dX1_changeSetting_14 : decode cX1_changeSetting 14 = .ok (.aload_n 0, 1) := by decide +kernel
theorem dX1_changeSetting_15 : decode cX1_changeSetting 15 = .ok (.getfield 9, 3) := by decide +kernel
theorem dX1_changeSetting_18 : decode cX1_changeSetting 18 = .ok (.istore_n 3, 1) := by decide +kernel
theorem dX1_changeSetting_19 : decode cX1_changeSetting 19 = .ok (.aload_n 0, 1) := by decide +kernel
theorem dX1_changeSetting_20 : decode cX1_changeSetting 20 = .ok (.iload_n 2, 1) := by decide +kernel
theorem dX1_changeSetting_21 : decode cX1_changeSetting 21 = .ok (.putfield 9, 3) := by decide +kernel
theorem dX1_changeSetting_24 : decode cX1_changeSetting 24 = .ok (.iload_n 3, 1) := by decide +kernel
theorem dX1_changeSetting_25 : decode cX1_changeSetting 25 = .ok (.ireturn, 1) := by decide +kernel
theorem dX1_changeSetting_26 : decode cX1_changeSetting 26 = .ok (.iload_n 1, 1) := by decide +kernel
theorem dX1_changeSetting_27 : decode cX1_changeSetting 27 = .ok (.iconst 1, 1) := by decide +kernel
theorem dX1_changeSetting_28 : decode cX1_changeSetting 28 = .ok (.if_icmp .ne 24, 3) := by decide +kernel
theorem dX1_changeSetting_31 : decode cX1_changeSetting 31 = .ok (.iload_n 2, 1) := by decide +kernel
theorem dX1_changeSetting_32 : decode cX1_changeSetting 32 = .ok (.iconst 0, 1) := by decide +kernel
theorem dX1_changeSetting_33 : decode cX1_changeSetting 33 = .ok (.iconst 3, 1) := by decide +kernel
theorem dX1_changeSetting_34 : decode cX1_changeSetting 34 = .ok (.invokestatic 58, 3) := by decide +kernel
theorem dX1_changeSetting_37 : decode cX1_changeSetting 37 = .ok (.ifCond .eq 15, 3) := by decide +kernel
theorem dX1_changeSetting_40 : decode cX1_changeSetting 40 = .ok (.aload_n 0, 1) := by decide +kernel
theorem dX1_changeSetting_41 : decode cX1_changeSetting 41 = .ok (.getfield 15, 3) := by decide +kernel
theorem dX1_changeSetting_44 : decode cX1_changeSetting 44 = .ok (.istore_n 3, 1) := by decide +kernel
theorem dX1_changeSetting_45 : decode cX1_changeSetting 45 = .ok (.aload_n 0, 1) := by decide +kernel
theorem dX1_changeSetting_46 : decode cX1_changeSetting 46 = .ok (.iload_n 2, 1) := by decide +kernel
theorem dX1_changeSetting_47 : decode cX1_changeSetting 47 = .ok (.putfield 15, 3) := by decide +kernel
theorem dX1_changeSetting_50 : decode cX1_changeSetting 50 = .ok (.iload_n 3, 1) := by decide +kernel
theorem dX1_changeSetting_51 : decode cX1_changeSetting 51 = .ok (.ireturn, 1) := by decide +kernel
theorem dX1_changeSetting_52 : decode cX1_changeSetting 52 = .ok (.ldc 70, 2) := by decide +kernel
theorem dX1_changeSetting_54 : decode cX1_changeSetting 54 = .ok (.ireturn, 1) := by decide +kernel
theorem dX1_makeSheet_0 : decode cX1_makeSheet 0 = .ok (.iload_n 1, 1) := by decide +kernel
theorem dX1_makeSheet_1 : decode cX1_makeSheet 1 = .ok (.invokestatic 99, 3) := by decide +kernel
theorem dX1_makeSheet_4 : decode cX1_makeSheet 4 = .ok (.ifCond .ne 6, 3) := by decide +kernel
theorem dX1_makeSheet_7 : decode cX1_makeSheet 7 = .ok (.ldc 70, 2) := by decide +kernel
theorem dX1_makeSheet_9 : decode cX1_makeSheet 9 = .ok (.ireturn, 1) := by decide +kernel
theorem dX1_makeSheet_10 : decode cX1_makeSheet 10 = .ok (.aload_n 0, 1) := by decide +kernel
theorem dX1_makeSheet_11 : decode cX1_makeSheet 11 = .ok (.getfield 40, 3) := by decide +kernel
theorem dX1_makeSheet_14 : decode cX1_makeSheet 14 = .ok (.iload_n 1, 1) := by decide +kernel
theorem dX1_makeSheet_15 : decode cX1_makeSheet 15 = .ok (.invokevirtual 102, 3) := by decide +kernel
theorem dX1_makeSheet_18 : decode cX1_makeSheet 18 = .ok (.istore_n 3, 1) := by decide +kernel
theorem dX1_makeSheet_19 : decode cX1_makeSheet 19 = .ok (.aload_n 0, 1) := by decide +kernel
theorem dX1_makeSheet_20 : decode cX1_makeSheet 20 = .ok (.getfield 40, 3) := by decide +kernel
theorem dX1_makeSheet_23 : decode cX1_makeSheet 23 = .ok (.iload_n 3, 1) := by decide +kernel
theorem dX1_makeSheet_24 : decode cX1_makeSheet 24 = .ok (.iload_n 1, 1) := by decide +kernel
theorem dX1_makeSheet_25 : decode cX1_makeSheet 25 = .ok (.aload_n 0, 1) := by decide +kernel
theorem dX1_makeSheet_26 : decode cX1_makeSheet 26 = .ok (.getfield 44, 3) := by decide +kernel
theorem dX1_makeSheet_29 : decode cX1_makeSheet 29 = .ok (.invokevirtual 105, 3) := by decide +kernel
theorem dX1_makeSheet_32 : decode cX1_makeSheet 32 = .ok (.iconst 0, 1) := by decide +kernel
theorem dX1_makeSheet_33 : decode cX1_makeSheet 33 = .ok (.istore 4, 2) := by decide +kernel
theorem dX1_makeSheet_35 : decode cX1_makeSheet 35 = .ok (.iload 4, 2) := by decide +kernel
theorem dX1_makeSheet_37 : decode cX1_makeSheet 37 = .ok (.aload_n 0, 1) := by decide +kernel
theorem dX1_makeSheet_38 : decode cX1_makeSheet 38 = .ok (.getfield 44, 3) := by decide +kernel
theorem dX1_makeSheet_41 : decode cX1_makeSheet 41 = .ok (.if_icmp .ge 39, 3) := by decide +kernel
theorem dX1_makeSheet_44 : decode cX1_makeSheet 44 = .ok (.aload_n 2, 1) := by decide +kernel
theorem dX1_makeSheet_45 : decode cX1_makeSheet 45 = .ok (.aload_n 0, 1) := by decide +kernel
theorem dX1_makeSheet_46 : decode cX1_makeSheet 46 = .ok (.iload 4, 2) := by decide +kernel
theorem dX1_makeSheet_48 : decode cX1_makeSheet 48 = .ok (.iload_n 1, 1) := by decide +kernel
theorem dX1_makeSheet_49 : decode cX1_makeSheet 49 = .ok (.invokevirtual 109, 3) := by decide +kernel
theorem dX1_makeSheet_52 : decode cX1_makeSheet 52 = .ok (.aload_n 0, 1) := by decide +kernel
theorem dX1_makeSheet_53 : decode cX1_makeSheet 53 = .ok (.getfield 40, 3) := by decide +kernel
theorem dX1_makeSheet_56 : decode cX1_makeSheet 56 = .ok (.iload_n 3, 1) := by decide +kernel
theorem dX1_makeSheet_57 : decode cX1_makeSheet 57 = .ok (.bipush 8, 2) := by decide +kernel
theorem dX1_makeSheet_59 : decode cX1_makeSheet 59 = .ok (.imul, 1) := by decide +kernel
theorem dX1_makeSheet_60 : decode cX1_makeSheet 60 = .ok (.iload 4, 2) := by decide +kernel
theorem dX1_makeSheet_62 : decode cX1_makeSheet 62 = .ok (.iadd, 1) := by decide +kernel
theorem dX1_makeSheet_63 : decode cX1_makeSheet 63 = .ok (.aload_n 2, 1) := by decide +kernel
theorem dX1_makeSheet_64 : decode cX1_makeSheet 64 = .ok (.getfield 115, 3) := by decide +kernel
theorem dX1_makeSheet_67 : decode cX1_makeSheet 67 = .ok (.aload_n 2, 1) := by decide +kernel
theorem dX1_makeSheet_68 : decode cX1_makeSheet 68 = .ok (.getfield 118, 3) := by decide +kernel
theorem dX1_makeSheet_71 : decode cX1_makeSheet 71 = .ok (.invokevirtual 122, 3) := by decide +kernel
theorem dX1_makeSheet_74 : decode cX1_makeSheet 74 = .ok (.iinc 4 1, 3) := by decide +kernel
theorem dX1_makeSheet_77 : decode cX1_makeSheet 77 = .ok (.goto (-42), 3) := by decide +kernel
theorem dX1_makeSheet_80 : decode cX1_makeSheet 80 = .ok (.aload_n 0, 1) := by decide +kernel
theorem dX1_makeSheet_81 : decode cX1_makeSheet 81 = .ok (.getfield 40, 3) := by decide +kernel
theorem dX1_makeSheet_84 : decode cX1_makeSheet 84 = .ok (.invokevirtual 126, 3) := by decide +kernel
theorem dX1_makeSheet_87 : decode cX1_makeSheet 87 = .ok (.ireturn, 1) := by decide +kernel
theorem dX1_isStale_0 : decode cX1_isStale 0 = .ok (.aload_n 0, 1) := by decide +kernel
theorem dX1_isStale_1 : decode cX1_isStale 1 = .ok (.getfield 40, 3) := by decide +kernel
theorem dX1_isStale_4 : decode cX1_isStale 4 = .ok (.getfield 130, 3) := by decide +kernel
theorem dX1_isStale_7 : decode cX1_isStale 7 = .ok (.iload_n 1, 1) := by decide +kernel
theorem dX1_isStale_8 : decode cX1_isStale 8 = .ok (.invokestatic 66, 3) := by decide +kernel
theorem dX1_isStale_11 : decode cX1_isStale 11 = .ok (.istore_n 3, 1) := by decide +kernel
theorem dX1_isStale_12 : decode cX1_isStale 12 = .ok (.iload_n 3, 1) := by decide +kernel
theorem dX1_isStale_13 : decode cX1_isStale 13 = .ok (.aload_n 0, 1) := by decide +kernel
theorem dX1_isStale_14 : decode cX1_isStale 14 = .ok (.getfield 44, 3) := by decide +kernel
theorem dX1_isStale_17 : decode cX1_isStale 17 = .ok (.if_icmp .eq 5, 3) := by decide +kernel
theorem dX1_isStale_20 : decode cX1_isStale 20 = .ok (.iconst 1, 1) := by decide +kernel
theorem dX1_isStale_21 : decode cX1_isStale 21 = .ok (.ireturn, 1) := by decide +kernel
theorem dX1_isStale_22 : decode cX1_isStale 22 = .ok (.iconst 0, 1) := by decide +kernel
theorem dX1_isStale_23 : decode cX1_isStale 23 = .ok (.istore 4, 2) := by decide +kernel
theorem dX1_isStale_25 : decode cX1_isStale 25 = .ok (.iload 4, 2) := by decide +kernel
theorem dX1_isStale_27 : decode cX1_isStale 27 = .ok (.iload_n 3, 1) := by decide +kernel
theorem dX1_isStale_28 : decode cX1_isStale 28 = .ok (.if_icmp .ge 74, 3) := by decide +kernel
theorem dX1_isStale_31 : decode cX1_isStale 31 = .ok (.aload_n 2, 1) := by decide +kernel
theorem dX1_isStale_32 : decode cX1_isStale 32 = .ok (.aload_n 0, 1) := by decide +kernel
theorem dX1_isStale_33 : decode cX1_isStale 33 = .ok (.iload 4, 2) := by decide +kernel
theorem dX1_isStale_35 : decode cX1_isStale 35 = .ok (.aload_n 0, 1) := by decide +kernel
theorem dX1_isStale_36 : decode cX1_isStale 36 = .ok (.getfield 40, 3) := by decide +kernel
theorem dX1_isStale_39 : decode cX1_isStale 39 = .ok (.getfield 132, 3) := by decide +kernel
theorem dX1_isStale_42 : decode cX1_isStale 42 = .ok (.iload_n 1, 1) := by decide +kernel
theorem dX1_isStale_43 : decode cX1_isStale 43 = .ok (.invokestatic 66, 3) := by decide +kernel
theorem dX1_isStale_46 : decode cX1_isStale 46 = .ok (.invokevirtual 109, 3) := by decide +kernel
theorem dX1_isStale_49 : decode cX1_isStale 49 = .ok (.iload_n 1, 1) := by decide +kernel
theorem dX1_isStale_50 : decode cX1_isStale 50 = .ok (.bipush 8, 2) := by decide +kernel
theorem dX1_isStale_52 : decode cX1_isStale 52 = .ok (.imul, 1) := by decide +kernel
theorem dX1_isStale_53 : decode cX1_isStale 53 = .ok (.iload 4, 2) := by decide +kernel
theorem dX1_isStale_55 : decode cX1_isStale 55 = .ok (.iadd, 1) := by decide +kernel
theorem dX1_isStale_56 : decode cX1_isStale 56 = .ok (.istore 5, 2) := by decide +kernel
theorem dX1_isStale_58 : decode cX1_isStale 58 = .ok (.aload_n 2, 1) := by decide +kernel
theorem dX1_isStale_59 : decode cX1_isStale 59 = .ok (.getfield 115, 3) := by decide +kernel
theorem dX1_isStale_62 : decode cX1_isStale 62 = .ok (.aload_n 0, 1) := by decide +kernel
theorem dX1_isStale_63 : decode cX1_isStale 63 = .ok (.getfield 40, 3) := by decide +kernel
theorem dX1_isStale_66 : decode cX1_isStale 66 = .ok (.getfield 135, 3) := by decide +kernel
theorem dX1_isStale_69 : decode cX1_isStale 69 = .ok (.iload 5, 2) := by decide +kernel
theorem dX1_isStale_71 : decode cX1_isStale 71 = .ok (.invokestatic 66, 3) := by decide +kernel
theorem dX1_isStale_74 : decode cX1_isStale 74 = .ok (.if_icmp .ne 20, 3) := by decide +kernel
theorem dX1_isStale_77 : decode cX1_isStale 77 = .ok (.aload_n 2, 1) := by decide +kernel
theorem dX1_isStale_78 : decode cX1_isStale 78 = .ok (.getfield 118, 3) := by decide +kernel
theorem dX1_isStale_81 : decode cX1_isStale 81 = .ok (.aload_n 0, 1) := by decide +kernel
theorem dX1_isStale_82 : decode cX1_isStale 82 = .ok (.getfield 40, 3) := by decide +kernel
theorem dX1_isStale_85 : decode cX1_isStale 85 = .ok (.iload 5, 2) := by decide +kernel
theorem dX1_isStale_87 : decode cX1_isStale 87 = .ok (.invokevirtual 137, 3) := by decide +kernel
theorem dX1_isStale_90 : decode cX1_isStale 90 = .ok (.lcmp, 1) := by decide +kernel
theorem dX1_isStale_91 : decode cX1_isStale 91 = .ok (.ifCond .eq 5, 3) := by decide +kernel
theorem dX1_isStale_94 : decode cX1_isStale 94 = .ok (.iconst 1, 1) := by decide +kernel
theorem dX1_isStale_95 : decode cX1_isStale 95 = .ok (.ireturn, 1) := by decide +kernel
theorem dX1_isStale_96 : decode cX1_isStale 96 = .ok (.iinc 4 1, 3) := by decide +kernel
theorem dX1_isStale_99 : decode cX1_isStale 99 = .ok (.goto (-74), 3) := by decide +kernel
theorem dX1_isStale_102 : decode cX1_isStale 102 = .ok (.iconst 0, 1) := by decide +kernel
theorem dX1_isStale_103 : decode cX1_isStale 103 = .ok (.ireturn, 1) := by decide +kernel
theorem dX1_snapOf_0 : decode cX1_snapOf 0 = .ok (.iconst 0, 1) := by decide +kernel
theorem dX1_snapOf_1 : decode cX1_snapOf 1 = .ok (.istore_n 2, 1) := by decide +kernel
theorem dX1_snapOf_2 : decode cX1_snapOf 2 = .ok (.aload_n 0, 1) := by decide +kernel
theorem dX1_snapOf_3 : decode cX1_snapOf 3 = .ok (.getfield 9, 3) := by decide +kernel
theorem dX1_snapOf_6 : decode cX1_snapOf 6 = .ok (.iconst 1, 1) := by decide +kernel
theorem dX1_snapOf_7 : decode cX1_snapOf 7 = .ok (.iadd, 1) := by decide +kernel
theorem dX1_snapOf_8 : decode cX1_snapOf 8 = .ok (.istore_n 3, 1) := by decide +kernel
theorem dX1_snapOf_9 : decode cX1_snapOf 9 = .ok (.iconst 0, 1) := by decide +kernel
theorem dX1_snapOf_10 : decode cX1_snapOf 10 = .ok (.istore 4, 2) := by decide +kernel
theorem dX1_snapOf_12 : decode cX1_snapOf 12 = .ok (.iload 4, 2) := by decide +kernel
theorem dX1_snapOf_14 : decode cX1_snapOf 14 = .ok (.aload_n 0, 1) := by decide +kernel
theorem dX1_snapOf_15 : decode cX1_snapOf 15 = .ok (.getfield 47, 3) := by decide +kernel
theorem dX1_snapOf_18 : decode cX1_snapOf 18 = .ok (.if_icmp .ge 44, 3) := by decide +kernel
theorem dX1_snapOf_21 : decode cX1_snapOf 21 = .ok (.aload_n 0, 1) := by decide +kernel
theorem dX1_snapOf_22 : decode cX1_snapOf 22 = .ok (.getfield 34, 3) := by decide +kernel
theorem dX1_snapOf_25 : decode cX1_snapOf 25 = .ok (.iload 4, 2) := by decide +kernel
theorem dX1_snapOf_27 : decode cX1_snapOf 27 = .ok (.invokestatic 66, 3) := by decide +kernel
theorem dX1_snapOf_30 : decode cX1_snapOf 30 = .ok (.iload_n 1, 1) := by decide +kernel
theorem dX1_snapOf_31 : decode cX1_snapOf 31 = .ok (.isub, 1) := by decide +kernel
theorem dX1_snapOf_32 : decode cX1_snapOf 32 = .ok (.invokestatic 141, 3) := by decide +kernel
theorem dX1_snapOf_35 : decode cX1_snapOf 35 = .ok (.istore 5, 2) := by decide +kernel
theorem dX1_snapOf_37 : decode cX1_snapOf 37 = .ok (.iload 5, 2) := by decide +kernel
theorem dX1_snapOf_39 : decode cX1_snapOf 39 = .ok (.iload_n 3, 1) := by decide +kernel
theorem dX1_snapOf_40 : decode cX1_snapOf 40 = .ok (.if_icmp .ge 16, 3) := by decide +kernel
theorem dX1_snapOf_43 : decode cX1_snapOf 43 = .ok (.iload 5, 2) := by decide +kernel
theorem dX1_snapOf_45 : decode cX1_snapOf 45 = .ok (.istore_n 3, 1) := by decide +kernel
theorem dX1_snapOf_46 : decode cX1_snapOf 46 = .ok (.aload_n 0, 1) := by decide +kernel
theorem dX1_snapOf_47 : decode cX1_snapOf 47 = .ok (.getfield 34, 3) := by decide +kernel
theorem dX1_snapOf_50 : decode cX1_snapOf 50 = .ok (.iload 4, 2) := by decide +kernel
theorem dX1_snapOf_52 : decode cX1_snapOf 52 = .ok (.invokestatic 66, 3) := by decide +kernel
theorem dX1_snapOf_55 : decode cX1_snapOf 55 = .ok (.istore_n 2, 1) := by decide +kernel
theorem dX1_snapOf_56 : decode cX1_snapOf 56 = .ok (.iinc 4 1, 3) := by decide +kernel
theorem dX1_snapOf_59 : decode cX1_snapOf 59 = .ok (.goto (-47), 3) := by decide +kernel
theorem dX1_snapOf_62 : decode cX1_snapOf 62 = .ok (.iload_n 2, 1) := by decide +kernel
theorem dX1_snapOf_63 : decode cX1_snapOf 63 = .ok (.ireturn, 1) := by decide +kernel
theorem dX1_hintedWidth_0 : decode cX1_hintedWidth 0 = .ok (.aload_n 0, 1) := by decide +kernel
theorem dX1_hintedWidth_1 : decode cX1_hintedWidth 1 = .ok (.iload_n 1, 1) := by decide +kernel
theorem dX1_hintedWidth_2 : decode cX1_hintedWidth 2 = .ok (.invokevirtual 146, 3) := by decide +kernel
theorem dX1_hintedWidth_5 : decode cX1_hintedWidth 5 = .ok (.istore_n 2, 1) := by decide +kernel
theorem dX1_hintedWidth_6 : decode cX1_hintedWidth 6 = .ok (.iload_n 2, 1) := by decide +kernel
theorem dX1_hintedWidth_7 : decode cX1_hintedWidth 7 = .ok (.ifCond .ne 7, 3) := by decide +kernel
theorem dX1_hintedWidth_10 : decode cX1_hintedWidth 10 = .ok (.iload_n 1, 1) := by decide +kernel
theorem dX1_hintedWidth_11 : decode cX1_hintedWidth 11 = .ok (.goto 4, 3) := by decide +kernel
theorem dX1_hintedWidth_14 : decode cX1_hintedWidth 14 = .ok (.iload_n 2, 1) := by decide +kernel
theorem dX1_hintedWidth_15 : decode cX1_hintedWidth 15 = .ok (.ireturn, 1) := by decide +kernel
theorem dX1_wideOf_0 : decode cX1_wideOf 0 = .ok (.aload_n 0, 1) := by decide +kernel
theorem dX1_wideOf_1 : decode cX1_wideOf 1 = .ok (.iload_n 1, 1) := by decide +kernel
theorem dX1_wideOf_2 : decode cX1_wideOf 2 = .ok (.invokevirtual 146, 3) := by decide +kernel
theorem dX1_wideOf_5 : decode cX1_wideOf 5 = .ok (.istore_n 3, 1) := by decide +kernel
theorem dX1_wideOf_6 : decode cX1_wideOf 6 = .ok (.iconst 1, 1) := by decide +kernel
theorem dX1_wideOf_7 : decode cX1_wideOf 7 = .ok (.iload_n 3, 1) := by decide +kernel
theorem dX1_wideOf_8 : decode cX1_wideOf 8 = .ok (.ifCond .ne 7, 3) := by decide +kernel
theorem dX1_wideOf_11 : decode cX1_wideOf 11 = .ok (.iload_n 1, 1) := by decide +kernel
theorem dX1_wideOf_12 : decode cX1_wideOf 12 = .ok (.goto 4, 3) := by decide +kernel
theorem dX1_wideOf_15 : decode cX1_wideOf 15 = .ok (.iload_n 3, 1) := by decide +kernel
theorem dX1_wideOf_16 : decode cX1_wideOf 16 = .ok (.iload_n 2, 1) := by decide +kernel
theorem dX1_wideOf_17 : decode cX1_wideOf 17 = .ok (.invokestatic 149, 3) := by decide +kernel
theorem dX1_wideOf_20 : decode cX1_wideOf 20 = .ok (.invokestatic 153, 3) := by decide +kernel
theorem dX1_wideOf_23 : decode cX1_wideOf 23 = .ok (.ireturn, 1) := by decide +kernel
theorem dX1_alikeWith_0 : decode cX1_alikeWith 0 = .ok (.aload_n 0, 1) := by decide +kernel
theorem dX1_alikeWith_1 : decode cX1_alikeWith 1 = .ok (.iload_n 1, 1) := by decide +kernel
theorem dX1_alikeWith_2 : decode cX1_alikeWith 2 = .ok (.invokevirtual 156, 3) := by decide +kernel
theorem dX1_alikeWith_5 : decode cX1_alikeWith 5 = .ok (.istore_n 2, 1) := by decide +kernel
theorem dX1_alikeWith_6 : decode cX1_alikeWith 6 = .ok (.iconst 0, 1) := by decide +kernel
theorem dX1_alikeWith_7 : decode cX1_alikeWith 7 = .ok (.istore_n 3, 1) := by decide +kernel
theorem dX1_alikeWith_8 : decode cX1_alikeWith 8 = .ok (.iconst 0, 1) := by decide +kernel
theorem dX1_alikeWith_9 : decode cX1_alikeWith 9 = .ok (.istore 4, 2) := by decide +kernel
theorem dX1_alikeWith_11 : decode cX1_alikeWith 11 = .ok (.iload 4, 2) := by decide +kernel
theorem dX1_alikeWith_13 : decode cX1_alikeWith 13 = .ok (.aload_n 0, 1) := by decide +kernel
theorem dX1_alikeWith_14 : decode cX1_alikeWith 14 = .ok (.getfield 28, 3) := by decide +kernel
theorem dX1_alikeWith_17 : decode cX1_alikeWith 17 = .ok (.arraylength, 1) := by decide +kernel
theorem dX1_alikeWith_18 : decode cX1_alikeWith 18 = .ok (.if_icmp .ge 37, 3) := by decide +kernel
theorem dX1_alikeWith_21 : decode cX1_alikeWith 21 = .ok (.aload_n 0, 1) := by decide +kernel
theorem dX1_alikeWith_22 : decode cX1_alikeWith 22 = .ok (.getfield 28, 3) := by decide +kernel
theorem dX1_alikeWith_25 : decode cX1_alikeWith 25 = .ok (.iload 4, 2) := by decide +kernel
theorem dX1_alikeWith_27 : decode cX1_alikeWith 27 = .ok (.iaload, 1) := by decide +kernel
theorem dX1_alikeWith_28 : decode cX1_alikeWith 28 = .ok (.ifCond .le 21, 3) := by decide +kernel
theorem dX1_alikeWith_31 : decode cX1_alikeWith 31 = .ok (.aload_n 0, 1) := by decide +kernel
theorem dX1_alikeWith_32 : decode cX1_alikeWith 32 = .ok (.aload_n 0, 1) := by decide +kernel
theorem dX1_alikeWith_33 : decode cX1_alikeWith 33 = .ok (.getfield 28, 3) := by decide +kernel
theorem dX1_alikeWith_36 : decode cX1_alikeWith 36 = .ok (.iload 4, 2) := by decide +kernel
theorem dX1_alikeWith_38 : decode cX1_alikeWith 38 = .ok (.iaload, 1) := by decide +kernel
theorem dX1_alikeWith_39 : decode cX1_alikeWith 39 = .ok (.invokevirtual 156, 3) := by decide +kernel
theorem dX1_alikeWith_42 : decode cX1_alikeWith 42 = .ok (.iload_n 2, 1) := by decide +kernel
theorem dX1_alikeWith_43 : decode cX1_alikeWith 43 = .ok (.if_icmp .ne 6, 3) := by decide +kernel
theorem dX1_alikeWith_46 : decode cX1_alikeWith 46 = .ok (.iinc 3 1, 3) := by decide +kernel
theorem dX1_alikeWith_49 : decode cX1_alikeWith 49 = .ok (.iinc 4 1, 3) := by decide +kernel
theorem dX1_alikeWith_52 : decode cX1_alikeWith 52 = .ok (.goto (-41), 3) := by decide +kernel
theorem dX1_alikeWith_55 : decode cX1_alikeWith 55 = .ok (.iload_n 3, 1) := by decide +kernel
theorem dX1_alikeWith_56 : decode cX1_alikeWith 56 = .ok (.ireturn, 1) := by decide +kernel
theorem dX1_snappingTo_0 : decode cX1_snappingTo 0 = .ok (.iconst 0, 1) := by decide +kernel
theorem dX1_snappingTo_1 : decode cX1_snappingTo 1 = .ok (.istore_n 2, 1) := by decide +kernel
theorem dX1_snappingTo_2 : decode cX1_snappingTo 2 = .ok (.iconst 0, 1) := by decide +kernel
theorem dX1_snappingTo_3 : decode cX1_snappingTo 3 = .ok (.istore_n 3, 1) := by decide +kernel
theorem dX1_snappingTo_4 : decode cX1_snappingTo 4 = .ok (.iload_n 3, 1) := by decide +kernel
theorem dX1_snappingTo_5 : decode cX1_snappingTo 5 = .ok (.aload_n 0, 1) := by decide +kernel
theorem dX1_snappingTo_6 : decode cX1_snappingTo 6 = .ok (.getfield 28, 3) := by decide +kernel
theorem dX1_snappingTo_9 : decode cX1_snappingTo 9 = .ok (.arraylength, 1) := by decide +kernel
theorem dX1_snappingTo_10 : decode cX1_snappingTo 10 = .ok (.if_icmp .ge 35, 3) := by decide +kernel
theorem dX1_snappingTo_13 : decode cX1_snappingTo 13 = .ok (.aload_n 0, 1) := by decide +kernel
theorem dX1_snappingTo_14 : decode cX1_snappingTo 14 = .ok (.getfield 28, 3) := by decide +kernel
theorem dX1_snappingTo_17 : decode cX1_snappingTo 17 = .ok (.iload_n 3, 1) := by decide +kernel
theorem dX1_snappingTo_18 : decode cX1_snappingTo 18 = .ok (.iaload, 1) := by decide +kernel
theorem dX1_snappingTo_19 : decode cX1_snappingTo 19 = .ok (.ifCond .le 20, 3) := by decide +kernel
theorem dX1_snappingTo_22 : decode cX1_snappingTo 22 = .ok (.aload_n 0, 1) := by decide +kernel
theorem dX1_snappingTo_23 : decode cX1_snappingTo 23 = .ok (.aload_n 0, 1) := by decide +kernel
theorem dX1_snappingTo_24 : decode cX1_snappingTo 24 = .ok (.getfield 28, 3) := by decide +kernel
theorem dX1_snappingTo_27 : decode cX1_snappingTo 27 = .ok (.iload_n 3, 1) := by decide +kernel
theorem dX1_snappingTo_28 : decode cX1_snappingTo 28 = .ok (.iaload, 1) := by decide +kernel
theorem dX1_snappingTo_29 : decode cX1_snappingTo 29 = .ok (.invokevirtual 146, 3) := by decide +kernel
theorem dX1_snappingTo_32 : decode cX1_snappingTo 32 = .ok (.iload_n 1, 1) := by decide +kernel
theorem dX1_snappingTo_33 : decode cX1_snappingTo 33 = .ok (.if_icmp .ne 6, 3) := by decide +kernel
theorem dX1_snappingTo_36 : decode cX1_snappingTo 36 = .ok (.iinc 2 1, 3) := by decide +kernel
theorem dX1_snappingTo_39 : decode cX1_snappingTo 39 = .ok (.iinc 3 1, 3) := by decide +kernel
theorem dX1_snappingTo_42 : decode cX1_snappingTo 42 = .ok (.goto (-38), 3) := by decide +kernel
theorem dX1_snappingTo_45 : decode cX1_snappingTo 45 = .ok (.iload_n 2, 1) := by decide +kernel
theorem dX1_snappingTo_46 : decode cX1_snappingTo 46 = .ok (.ireturn, 1) := by decide +kernel
theorem dX1_unlikeWidths_0 : decode cX1_unlikeWidths 0 = .ok (.iconst 0, 1) := by decide +kernel
theorem dX1_unlikeWidths_1 : decode cX1_unlikeWidths 1 = .ok (.istore_n 1, 1) := by decide +kernel
theorem dX1_unlikeWidths_2 : decode cX1_unlikeWidths 2 = .ok (.iconst 0, 1) := by decide +kernel
theorem dX1_unlikeWidths_3 : decode cX1_unlikeWidths 3 = .ok (.istore_n 2, 1) := by decide +kernel
theorem dX1_unlikeWidths_4 : decode cX1_unlikeWidths 4 = .ok (.iload_n 2, 1) := by decide +kernel
theorem dX1_unlikeWidths_5 : decode cX1_unlikeWidths 5 = .ok (.aload_n 0, 1) := by decide +kernel
theorem dX1_unlikeWidths_6 : decode cX1_unlikeWidths 6 = .ok (.getfield 28, 3) := by decide +kernel
theorem dX1_unlikeWidths_9 : decode cX1_unlikeWidths 9 = .ok (.arraylength, 1) := by decide +kernel
theorem dX1_unlikeWidths_10 : decode cX1_unlikeWidths 10 = .ok (.if_icmp .ge 29, 3) := by decide +kernel
theorem dX1_unlikeWidths_13 : decode cX1_unlikeWidths 13 = .ok (.aload_n 0, 1) := by decide +kernel
theorem dX1_unlikeWidths_14 : decode cX1_unlikeWidths 14 = .ok (.getfield 28, 3) := by decide +kernel
theorem dX1_unlikeWidths_17 : decode cX1_unlikeWidths 17 = .ok (.iload_n 2, 1) := by decide +kernel
theorem dX1_unlikeWidths_18 : decode cX1_unlikeWidths 18 = .ok (.iaload, 1) := by decide +kernel
theorem dX1_unlikeWidths_19 : decode cX1_unlikeWidths 19 = .ok (.ifCond .le 14, 3) := by decide +kernel
theorem dX1_unlikeWidths_22 : decode cX1_unlikeWidths 22 = .ok (.aload_n 0, 1) := by decide +kernel
theorem dX1_unlikeWidths_23 : decode cX1_unlikeWidths 23 = .ok (.iload_n 2, 1) := by decide +kernel
theorem dX1_unlikeWidths_24 : decode cX1_unlikeWidths 24 = .ok (.invokevirtual 159, 3) := by decide +kernel
theorem dX1_unlikeWidths_27 : decode cX1_unlikeWidths 27 = .ok (.ifCond .ne 6, 3) := by decide +kernel
theorem dX1_unlikeWidths_30 : decode cX1_unlikeWidths 30 = .ok (.iinc 1 1, 3) := by decide +kernel
theorem dX1_unlikeWidths_33 : decode cX1_unlikeWidths 33 = .ok (.iinc 2 1, 3) := by decide +kernel
theorem dX1_unlikeWidths_36 : decode cX1_unlikeWidths 36 = .ok (.goto (-32), 3) := by decide +kernel
theorem dX1_unlikeWidths_39 : decode cX1_unlikeWidths 39 = .ok (.iload_n 1, 1) := by decide +kernel
theorem dX1_unlikeWidths_40 : decode cX1_unlikeWidths 40 = .ok (.ireturn, 1) := by decide +kernel
theorem dX1_isAlikeAhead_0 : decode cX1_isAlikeAhead 0 = .ok (.aload_n 0, 1) := by decide +kernel
theorem dX1_isAlikeAhead_1 : decode cX1_isAlikeAhead 1 = .ok (.aload_n 0, 1) := by decide +kernel
theorem dX1_isAlikeAhead_2 : decode cX1_isAlikeAhead 2 = .ok (.getfield 28, 3) := by decide +kernel
theorem dX1_isAlikeAhead_5 : decode cX1_isAlikeAhead 5 = .ok (.iload_n 1, 1) := by decide +kernel
theorem dX1_isAlikeAhead_6 : decode cX1_isAlikeAhead 6 = .ok (.invokestatic 66, 3) := by decide +kernel
theorem dX1_isAlikeAhead_9 : decode cX1_isAlikeAhead 9 = .ok (.invokevirtual 156, 3) := by decide +kernel
theorem dX1_isAlikeAhead_12 : decode cX1_isAlikeAhead 12 = .ok (.istore_n 2, 1) := by decide +kernel
theorem dX1_isAlikeAhead_13 : decode cX1_isAlikeAhead 13 = .ok (.iconst 0, 1) := by decide +kernel
theorem dX1_isAlikeAhead_14 : decode cX1_isAlikeAhead 14 = .ok (.istore_n 3, 1) := by decide +kernel
theorem dX1_isAlikeAhead_15 : decode cX1_isAlikeAhead 15 = .ok (.iload_n 3, 1) := by decide +kernel
theorem dX1_isAlikeAhead_16 : decode cX1_isAlikeAhead 16 = .ok (.iload_n 1, 1) := by decide +kernel
theorem dX1_isAlikeAhead_17 : decode cX1_isAlikeAhead 17 = .ok (.if_icmp .ge 43, 3) := by decide +kernel
theorem dX1_isAlikeAhead_20 : decode cX1_isAlikeAhead 20 = .ok (.iload_n 3, 1) := by decide +kernel
theorem dX1_isAlikeAhead_21 : decode cX1_isAlikeAhead 21 = .ok (.aload_n 0, 1) := by decide +kernel
theorem dX1_isAlikeAhead_22 : decode cX1_isAlikeAhead 22 = .ok (.getfield 28, 3) := by decide +kernel
theorem dX1_isAlikeAhead_25 : decode cX1_isAlikeAhead 25 = .ok (.arraylength, 1) := by decide +kernel
theorem dX1_isAlikeAhead_26 : decode cX1_isAlikeAhead 26 = .ok (.if_icmp .ge 34, 3) := by decide +kernel
theorem dX1_isAlikeAhead_29 : decode cX1_isAlikeAhead 29 = .ok (.aload_n 0, 1) := by decide +kernel
theorem dX1_isAlikeAhead_30 : decode cX1_isAlikeAhead 30 = .ok (.getfield 28, 3) := by decide +kernel
theorem dX1_isAlikeAhead_33 : decode cX1_isAlikeAhead 33 = .ok (.iload_n 3, 1) := by decide +kernel
theorem dX1_isAlikeAhead_34 : decode cX1_isAlikeAhead 34 = .ok (.iaload, 1) := by decide +kernel
theorem dX1_isAlikeAhead_35 : decode cX1_isAlikeAhead 35 = .ok (.ifCond .le 19, 3) := by decide +kernel
theorem dX1_isAlikeAhead_38 : decode cX1_isAlikeAhead 38 = .ok (.aload_n 0, 1) := by decide +kernel
theorem dX1_isAlikeAhead_39 : decode cX1_isAlikeAhead 39 = .ok (.aload_n 0, 1) := by decide +kernel
theorem dX1_isAlikeAhead_40 : decode cX1_isAlikeAhead 40 = .ok (.getfield 28, 3) := by decide +kernel
theorem dX1_isAlikeAhead_43 : decode cX1_isAlikeAhead 43 = .ok (.iload_n 3, 1) := by decide +kernel
theorem dX1_isAlikeAhead_44 : decode cX1_isAlikeAhead 44 = .ok (.iaload, 1) := by decide +kernel
theorem dX1_isAlikeAhead_45 : decode cX1_isAlikeAhead 45 = .ok (.invokevirtual 156, 3) := by decide +kernel
theorem dX1_isAlikeAhead_48 : decode cX1_isAlikeAhead 48 = .ok (.iload_n 2, 1) := by decide +kernel
theorem dX1_isAlikeAhead_49 : decode cX1_isAlikeAhead 49 = .ok (.if_icmp .ne 5, 3) := by decide +kernel
theorem dX1_isAlikeAhead_52 : decode cX1_isAlikeAhead 52 = .ok (.iconst 1, 1) := by decide +kernel
theorem dX1_isAlikeAhead_53 : decode cX1_isAlikeAhead 53 = .ok (.ireturn, 1) := by decide +kernel
theorem dX1_isAlikeAhead_54 : decode cX1_isAlikeAhead 54 = .ok (.iinc 3 1, 3) := by decide +kernel
theorem dX1_isAlikeAhead_57 : decode cX1_isAlikeAhead 57 = .ok (.goto (-42), 3) := by decide +kernel
theorem dX1_isAlikeAhead_60 : decode cX1_isAlikeAhead 60 = .ok (.iconst 0, 1) := by decide +kernel
theorem dX1_isAlikeAhead_61 : decode cX1_isAlikeAhead 61 = .ok (.ireturn, 1) := by decide +kernel
theorem dX1_stemsTogether_0 : decode cX1_stemsTogether 0 = .ok (.iconst 0, 1) := by decide +kernel
theorem dX1_stemsTogether_1 : decode cX1_stemsTogether 1 = .ok (.istore_n 1, 1) := by decide +kernel
theorem dX1_stemsTogether_2 : decode cX1_stemsTogether 2 = .ok (.iconst 0, 1) := by decide +kernel
theorem dX1_stemsTogether_3 : decode cX1_stemsTogether 3 = .ok (.istore_n 2, 1) := by decide +kernel
theorem dX1_stemsTogether_4 : decode cX1_stemsTogether 4 = .ok (.iload_n 2, 1) := by decide +kernel
theorem dX1_stemsTogether_5 : decode cX1_stemsTogether 5 = .ok (.aload_n 0, 1) := by decide +kernel
theorem dX1_stemsTogether_6 : decode cX1_stemsTogether 6 = .ok (.getfield 22, 3) := by decide +kernel
theorem dX1_stemsTogether_9 : decode cX1_stemsTogether 9 = .ok (.arraylength, 1) := by decide +kernel
theorem dX1_stemsTogether_10 : decode cX1_stemsTogether 10 = .ok (.if_icmp .ge 18, 3) := by decide +kernel
theorem dX1_stemsTogether_13 : decode cX1_stemsTogether 13 = .ok (.iload_n 1, 1) := by decide +kernel
theorem dX1_stemsTogether_14 : decode cX1_stemsTogether 14 = .ok (.aload_n 0, 1) := by decide +kernel
theorem dX1_stemsTogether_15 : decode cX1_stemsTogether 15 = .ok (.getfield 22, 3) := by decide +kernel
theorem dX1_stemsTogether_18 : decode cX1_stemsTogether 18 = .ok (.iload_n 2, 1) := by decide +kernel
theorem dX1_stemsTogether_19 : decode cX1_stemsTogether 19 = .ok (.iaload, 1) := by decide +kernel
theorem dX1_stemsTogether_20 : decode cX1_stemsTogether 20 = .ok (.iadd, 1) := by decide +kernel
theorem dX1_stemsTogether_21 : decode cX1_stemsTogether 21 = .ok (.istore_n 1, 1) := by decide +kernel
theorem dX1_stemsTogether_22 : decode cX1_stemsTogether 22 = .ok (.iinc 2 1, 3) := by decide +kernel
theorem dX1_stemsTogether_25 : decode cX1_stemsTogether 25 = .ok (.goto (-21), 3) := by decide +kernel
theorem dX1_stemsTogether_28 : decode cX1_stemsTogether 28 = .ok (.iload_n 1, 1) := by decide +kernel
theorem dX1_stemsTogether_29 : decode cX1_stemsTogether 29 = .ok (.ireturn, 1) := by decide +kernel
theorem dX1_widthsTogether_0 : decode cX1_widthsTogether 0 = .ok (.iconst 0, 1) := by decide +kernel
theorem dX1_widthsTogether_1 : decode cX1_widthsTogether 1 = .ok (.istore_n 1, 1) := by decide +kernel
theorem dX1_widthsTogether_2 : decode cX1_widthsTogether 2 = .ok (.iconst 0, 1) := by decide +kernel
theorem dX1_widthsTogether_3 : decode cX1_widthsTogether 3 = .ok (.istore_n 2, 1) := by decide +kernel
theorem dX1_widthsTogether_4 : decode cX1_widthsTogether 4 = .ok (.iload_n 2, 1) := by decide +kernel
theorem dX1_widthsTogether_5 : decode cX1_widthsTogether 5 = .ok (.aload_n 0, 1) := by decide +kernel
theorem dX1_widthsTogether_6 : decode cX1_widthsTogether 6 = .ok (.getfield 28, 3) := by decide +kernel
theorem dX1_widthsTogether_9 : decode cX1_widthsTogether 9 = .ok (.arraylength, 1) := by decide +kernel
theorem dX1_widthsTogether_10 : decode cX1_widthsTogether 10 = .ok (.if_icmp .ge 18, 3) := by decide +kernel
theorem dX1_widthsTogether_13 : decode cX1_widthsTogether 13 = .ok (.iload_n 1, 1) := by decide +kernel
theorem dX1_widthsTogether_14 : decode cX1_widthsTogether 14 = .ok (.aload_n 0, 1) := by decide +kernel
theorem dX1_widthsTogether_15 : decode cX1_widthsTogether 15 = .ok (.getfield 28, 3) := by decide +kernel
theorem dX1_widthsTogether_18 : decode cX1_widthsTogether 18 = .ok (.iload_n 2, 1) := by decide +kernel
theorem dX1_widthsTogether_19 : decode cX1_widthsTogether 19 = .ok (.iaload, 1) := by decide +kernel
theorem dX1_widthsTogether_20 : decode cX1_widthsTogether 20 = .ok (.iadd, 1) := by decide +kernel
theorem dX1_widthsTogether_21 : decode cX1_widthsTogether 21 = .ok (.istore_n 1, 1) := by decide +kernel
theorem dX1_widthsTogether_22 : decode cX1_widthsTogether 22 = .ok (.iinc 2 1, 3) := by decide +kernel
theorem dX1_widthsTogether_25 : decode cX1_widthsTogether 25 = .ok (.goto (-21), 3) := by decide +kernel
theorem dX1_widthsTogether_28 : decode cX1_widthsTogether 28 = .ok (.iload_n 1, 1) := by decide +kernel
theorem dX1_widthsTogether_29 : decode cX1_widthsTogether 29 = .ok (.ireturn, 1) := by decide +kernel
theorem dX2_init_0 : decode cX2_init 0 = .ok (.aload_n 0, 1) := by decide +kernel
theorem dX2_init_1 : decode cX2_init 1 = .ok (.invokespecial 3, 3) := by decide +kernel
theorem dX2_init_4 : decode cX2_init 4 = .ok (.aload_n 0, 1) := by decide +kernel
theorem dX2_init_5 : decode cX2_init 5 = .ok (.iconst 5, 1) := by decide +kernel
theorem dX2_init_6 : decode cX2_init 6 = .ok (.anewarray 9, 3) := by decide +kernel
theorem dX2_init_9 : decode cX2_init 9 = .ok (.putfield 11, 3) := by decide +kernel
theorem dX2_init_12 : decode cX2_init 12 = .ok (.iconst 0, 1) := by decide +kernel
theorem dX2_init_13 : decode cX2_init 13 = .ok (.istore_n 1, 1) := by decide +kernel
theorem dX2_init_14 : decode cX2_init 14 = .ok (.iload_n 1, 1) := by decide +kernel
theorem dX2_init_15 : decode cX2_init 15 = .ok (.aload_n 0, 1) := by decide +kernel
theorem dX2_init_16 : decode cX2_init 16 = .ok (.getfield 11, 3) := by decide +kernel
theorem dX2_init_19 : decode cX2_init 19 = .ok (.arraylength, 1) := by decide +kernel
theorem dX2_init_20 : decode cX2_init 20 = .ok (.if_icmp .ge 22, 3) := by decide +kernel
theorem dX2_init_23 : decode cX2_init 23 = .ok (.aload_n 0, 1) := by decide +kernel
theorem dX2_init_24 : decode cX2_init 24 = .ok (.getfield 11, 3) := by decide +kernel
theorem dX2_init_27 : decode cX2_init 27 = .ok (.iload_n 1, 1) := by decide +kernel
theorem dX2_init_28 : decode cX2_init 28 = .ok (.new 9, 3) := by decide +kernel
theorem dX2_init_31 : decode cX2_init 31 = .ok (.dup, 1) := by decide +kernel
theorem dX2_init_32 : decode cX2_init 32 = .ok (.invokespecial 17, 3) := by decide +kernel
theorem dX2_init_35 : decode cX2_init 35 = .ok (.aastore, 1) := by decide +kernel
theorem dX2_init_36 : decode cX2_init 36 = .ok (.iinc 1 1, 3) := by decide +kernel
theorem dX2_init_39 : decode cX2_init 39 = .ok (.goto (-25), 3) := by decide +kernel
theorem dX2_init_42 : decode cX2_init 42 = .ok (.return_, 1) := by decide +kernel
theorem dX2_note_0 : decode cX2_note 0 = .ok (.aload_n 0, 1) := by decide +kernel
theorem dX2_note_1 : decode cX2_note 1 = .ok (.aload_n 0, 1) := by decide +kernel
theorem dX2_note_2 : decode cX2_note 2 = .ok (.getfield 18, 3) := by decide +kernel
theorem dX2_note_5 : decode cX2_note 5 = .ok (.invokevirtual 22, 3) := by decide +kernel
theorem dX2_note_8 : decode cX2_note 8 = .ok (.astore_n 2, 1) := by decide +kernel
theorem dX2_note_9 : decode cX2_note 9 = .ok (.aload_n 2, 1) := by decide +kernel
theorem dX2_note_10 : decode cX2_note 10 = .ok (.ifnull 8, 3) := by decide +kernel
theorem dX2_note_13 : decode cX2_note 13 = .ok (.aload_n 2, 1) := by decide +kernel
theorem dX2_note_14 : decode cX2_note 14 = .ok (.aload_n 1, 1) := by decide +kernel
theorem dX2_note_15 : decode cX2_note 15 = .ok (.invokevirtual 26, 3) := by decide +kernel
theorem dX2_note_18 : decode cX2_note 18 = .ok (.return_, 1) := by decide +kernel
theorem dX2_keep_0 : decode cX2_keep 0 = .ok (.aload_n 0, 1) := by decide +kernel
theorem dX2_keep_1 : decode cX2_keep 1 = .ok (.getfield 18, 3) := by decide +kernel
theorem dX2_keep_4 : decode cX2_keep 4 = .ok (.iconst 4, 1) := by decide +kernel
theorem dX2_keep_5 : decode cX2_keep 5 = .ok (.if_icmp .ge 16, 3) := by decide +kernel
theorem dX2_keep_8 : decode cX2_keep 8 = .ok (.aload_n 0, 1) := by decide +kernel
theorem dX2_keep_9 : decode cX2_keep 9 = .ok (.dup, 1) := by decide +kernel
theorem dX2_keep_10 : decode cX2_keep 10 = .ok (.getfield 18, 3) := by decide +kernel
theorem dX2_keep_13 : decode cX2_keep 13 = .ok (.iconst 1, 1) := by decide +kernel
theorem dX2_keep_14 : decode cX2_keep 14 = .ok (.iadd, 1) := by decide +kernel
theorem dX2_keep_15 : decode cX2_keep 15 = .ok (.putfield 18, 3) := by decide +kernel
theorem dX2_keep_18 : decode cX2_keep 18 = .ok (.goto 15, 3) := by decide +kernel
theorem dX2_keep_21 : decode cX2_keep 21 = .ok (.aload_n 0, 1) := by decide +kernel
theorem dX2_keep_22 : decode cX2_keep 22 = .ok (.aload_n 0, 1) := by decide +kernel
theorem dX2_keep_23 : decode cX2_keep 23 = .ok (.getfield 30, 3) := by decide +kernel
theorem dX2_keep_26 : decode cX2_keep 26 = .ok (.iconst 1, 1) := by decide +kernel
theorem dX2_keep_27 : decode cX2_keep 27 = .ok (.iadd, 1) := by decide +kernel
theorem dX2_keep_28 : decode cX2_keep 28 = .ok (.iconst 5, 1) := by decide +kernel
theorem dX2_keep_29 : decode cX2_keep 29 = .ok (.irem, 1) := by decide +kernel
theorem dX2_keep_30 : decode cX2_keep 30 = .ok (.putfield 30, 3) := by decide +kernel
theorem dX2_keep_33 : decode cX2_keep 33 = .ok (.return_, 1) := by decide +kernel
theorem dX2_giveBack_0 : decode cX2_giveBack 0 = .ok (.aload_n 0, 1) := by decide +kernel
theorem dX2_giveBack_1 : decode cX2_giveBack 1 = .ok (.aload_n 0, 1) := by decide +kernel
theorem dX2_giveBack_2 : decode cX2_giveBack 2 = .ok (.getfield 18, 3) := by decide +kernel
theorem dX2_giveBack_5 : decode cX2_giveBack 5 = .ok (.iconst 1, 1) := by decide +kernel
theorem dX2_giveBack_6 : decode cX2_giveBack 6 = .ok (.isub, 1) := by decide +kernel
theorem dX2_giveBack_7 : decode cX2_giveBack 7 = .ok (.invokevirtual 22, 3) := by decide +kernel
theorem dX2_giveBack_10 : decode cX2_giveBack 10 = .ok (.astore_n 2, 1) := by decide +kernel
theorem dX2_giveBack_11 : decode cX2_giveBack 11 = .ok (.aload_n 0, 1) := by decide +kernel
theorem dX2_giveBack_12 : decode cX2_giveBack 12 = .ok (.getfield 18, 3) := by decide +kernel
theorem dX2_giveBack_15 : decode cX2_giveBack 15 = .ok (.ifCond .le 7, 3) := by decide +kernel
theorem dX2_giveBack_18 : decode cX2_giveBack 18 = .ok (.aload_n 2, 1) := by decide +kernel
theorem dX2_giveBack_19 : decode cX2_giveBack 19 = .ok (.ifnonnull 5, 3) := by decide +kernel
theorem dX2_giveBack_22 : decode cX2_giveBack 22 = .ok (.iconst 0, 1) := by decide +kernel
theorem dX2_giveBack_23 : decode cX2_giveBack 23 = .ok (.ireturn, 1) := by decide +kernel
theorem dX2_giveBack_24 : decode cX2_giveBack 24 = .ok (.aload_n 1, 1) := by decide +kernel
theorem dX2_giveBack_25 : decode cX2_giveBack 25 = .ok (.aload_n 2, 1) := by decide +kernel
theorem dX2_giveBack_26 : decode cX2_giveBack 26 = .ok (.invokevirtual 26, 3) := by decide +kernel
theorem dX2_giveBack_29 : decode cX2_giveBack 29 = .ok (.aload_n 0, 1) := by decide +kernel
theorem dX2_giveBack_30 : decode cX2_giveBack 30 = .ok (.dup, 1) := by decide +kernel
theorem dX2_giveBack_31 : decode cX2_giveBack 31 = .ok (.getfield 18, 3) := by decide +kernel
theorem dX2_giveBack_34 : decode cX2_giveBack 34 = .ok (.iconst 1, 1) := by decide +kernel
theorem dX2_giveBack_35 : decode cX2_giveBack 35 = .ok (.isub, 1) := by decide +kernel
theorem dX2_giveBack_36 : decode cX2_giveBack 36 = .ok (.putfield 18, 3) := by decide +kernel
theorem dX2_giveBack_39 : decode cX2_giveBack 39 = .ok (.iconst 1, 1) := by decide +kernel
theorem dX2_giveBack_40 : decode cX2_giveBack 40 = .ok (.ireturn, 1) := by decide +kernel
theorem dX2_slotAt_0 : decode cX2_slotAt 0 = .ok (.aload_n 0, 1) := by decide +kernel
theorem dX2_slotAt_1 : decode cX2_slotAt 1 = .ok (.getfield 30, 3) := by decide +kernel
theorem dX2_slotAt_4 : decode cX2_slotAt 4 = .ok (.iload_n 1, 1) := by decide +kernel
theorem dX2_slotAt_5 : decode cX2_slotAt 5 = .ok (.iadd, 1) := by decide +kernel
theorem dX2_slotAt_6 : decode cX2_slotAt 6 = .ok (.iconst 5, 1) := by decide +kernel
theorem dX2_slotAt_7 : decode cX2_slotAt 7 = .ok (.invokestatic 33, 3) := by decide +kernel
theorem dX2_slotAt_10 : decode cX2_slotAt 10 = .ok (.istore_n 2, 1) := by decide +kernel
theorem dX2_slotAt_11 : decode cX2_slotAt 11 = .ok (.iload_n 2, 1) := by decide +kernel
theorem dX2_slotAt_12 : decode cX2_slotAt 12 = .ok (.ifCond .lt 21, 3) := by decide +kernel
theorem dX2_slotAt_15 : decode cX2_slotAt 15 = .ok (.iload_n 2, 1) := by decide +kernel
theorem dX2_slotAt_16 : decode cX2_slotAt 16 = .ok (.aload_n 0, 1) := by decide +kernel
theorem dX2_slotAt_17 : decode cX2_slotAt 17 = .ok (.getfield 11, 3) := by decide +kernel
theorem dX2_slotAt_20 : decode cX2_slotAt 20 = .ok (.arraylength, 1) := by decide +kernel
theorem dX2_slotAt_21 : decode cX2_slotAt 21 = .ok (.if_icmp .ge 12, 3) := by decide +kernel
theorem dX2_slotAt_24 : decode cX2_slotAt 24 = .ok (.aload_n 0, 1) := by decide +kernel
theorem dX2_slotAt_25 : decode cX2_slotAt 25 = .ok (.getfield 11, 3) := by decide +kernel
theorem dX2_slotAt_28 : decode cX2_slotAt 28 = .ok (.iload_n 2, 1) := by decide +kernel
theorem dX2_slotAt_29 : decode cX2_slotAt 29 = .ok (.aaload, 1) := by decide +kernel
theorem dX2_slotAt_30 : decode cX2_slotAt 30 = .ok (.goto 4, 3) := by decide +kernel
theorem dX2_slotAt_33 : decode cX2_slotAt 33 = .ok (.aconst_null, 1) := by decide +kernel
theorem dX2_slotAt_34 : decode cX2_slotAt 34 = .ok (.areturn, 1) := by decide +kernel
theorem dX3_init_0 : decode cX3_init 0 = .ok (.aload_n 0, 1) := by decide +kernel
theorem dX3_init_1 : decode cX3_init 1 = .ok (.invokespecial 3, 3) := by decide +kernel
theorem dX3_init_4 : decode cX3_init 4 = .ok (.aload_n 0, 1) := by decide +kernel
theorem dX3_init_5 : decode cX3_init 5 = .ok (.bipush 60, 2) := by decide +kernel
theorem dX3_init_7 : decode cX3_init 7 = .ok (.newarray .int, 2) := by decide +kernel
theorem dX3_init_9 : decode cX3_init 9 = .ok (.putfield 9, 3) := by decide +kernel
theorem dX3_init_12 : decode cX3_init 12 = .ok (.aload_n 0, 1) := by decide +kernel
theorem dX3_init_13 : decode cX3_init 13 = .ok (.iconst 3, 1) := by decide +kernel
theorem dX3_init_14 : decode cX3_init 14 = .ok (.newarray .int, 2) := by decide +kernel
theorem dX3_init_16 : decode cX3_init 16 = .ok (.putfield 15, 3) := by decide +kernel
theorem dX3_init_19 : decode cX3_init 19 = .ok (.return_, 1) := by decide +kernel
theorem dX3_append_0 : decode cX3_append 0 = .ok (.aload_n 0, 1) := by decide +kernel
theorem dX3_append_1 : decode cX3_append 1 = .ok (.getfield 18, 3) := by decide +kernel
theorem dX3_append_4 : decode cX3_append 4 = .ok (.bipush 60, 2) := by decide +kernel
theorem dX3_append_6 : decode cX3_append 6 = .ok (.if_icmp .lt 5, 3) := by decide +kernel
theorem dX3_append_9 : decode cX3_append 9 = .ok (.iconst 0, 1) := by decide +kernel
theorem dX3_append_10 : decode cX3_append 10 = .ok (.ireturn, 1) := by decide +kernel
theorem dX3_append_11 : decode cX3_append 11 = .ok (.aload_n 0, 1) := by decide +kernel
theorem dX3_append_12 : decode cX3_append 12 = .ok (.getfield 9, 3) := by decide +kernel
theorem dX3_append_15 : decode cX3_append 15 = .ok (.aload_n 0, 1) := by decide +kernel
theorem dX3_append_16 : decode cX3_append 16 = .ok (.getfield 18, 3) := by decide +kernel
theorem dX3_append_19 : decode cX3_append 19 = .ok (.iload_n 1, 1) := by decide +kernel
theorem dX3_append_20 : decode cX3_append 20 = .ok (.invokestatic 22, 3) := by decide +kernel
theorem dX3_append_23 : decode cX3_append 23 = .ok (.aload_n 0, 1) := by decide +kernel
theorem dX3_append_24 : decode cX3_append 24 = .ok (.dup, 1) := by decide +kernel
theorem dX3_append_25 : decode cX3_append 25 = .ok (.getfield 18, 3) := by decide +kernel
theorem dX3_append_28 : decode cX3_append 28 = .ok (.iconst 1, 1) := by decide +kernel
theorem dX3_append_29 : decode cX3_append 29 = .ok (.iadd, 1) := by decide +kernel
theorem dX3_append_30 : decode cX3_append 30 = .ok (.putfield 18, 3) := by decide +kernel
theorem dX3_append_33 : decode cX3_append 33 = .ok (.iconst 1, 1) := by decide +kernel
theorem dX3_append_34 : decode cX3_append 34 = .ok (.ireturn, 1) := by decide +kernel
theorem dX3_run_0 : decode cX3_run 0 = .ok (.aload_n 0, 1) := by decide +kernel
theorem dX3_run_1 : decode cX3_run 1 = .ok (.iconst 0, 1) := by decide +kernel
theorem dX3_run_2 : decode cX3_run 2 = .ok (.putfield 26, 3) := by decide +kernel
theorem dX3_run_5 : decode cX3_run 5 = .ok (.aload_n 0, 1) := by decide +kernel
theorem dX3_run_6 : decode cX3_run 6 = .ok (.iconst 0, 1) := by decide +kernel
theorem dX3_run_7 : decode cX3_run 7 = .ok (.putfield 29, 3) := by decide +kernel
theorem dX3_run_10 : decode cX3_run 10 = .ok (.iconst 0, 1) := by decide +kernel
theorem dX3_run_11 : decode cX3_run 11 = .ok (.istore_n 3, 1) := by decide +kernel
theorem dX3_run_12 : decode cX3_run 12 = .ok (.iconst 0, 1) := by decide +kernel
theorem dX3_run_13 : decode cX3_run 13 = .ok (.istore 4, 2) := by decide +kernel
theorem dX3_run_15 : decode cX3_run 15 = .ok (.iload 4, 2) := by decide +kernel
theorem dX3_run_17 : decode cX3_run 17 = .ok (.bipush 60, 2) := by decide +kernel
theorem dX3_run_19 : decode cX3_run 19 = .ok (.if_icmp .ge 80, 3) := by decide +kernel
theorem dX3_run_22 : decode cX3_run 22 = .ok (.iload_n 3, 1) := by decide +kernel
theorem dX3_run_23 : decode cX3_run 23 = .ok (.aload_n 0, 1) := by decide +kernel
theorem dX3_run_24 : decode cX3_run 24 = .ok (.getfield 18, 3) := by decide +kernel
theorem dX3_run_27 : decode cX3_run 27 = .ok (.if_icmp .ge 72, 3) := by decide +kernel
theorem dX3_run_30 : decode cX3_run 30 = .ok (.aload_n 0, 1) := by decide +kernel
theorem dX3_run_31 : decode cX3_run 31 = .ok (.iload_n 3, 1) := by decide +kernel
theorem dX3_run_32 : decode cX3_run 32 = .ok (.invokevirtual 32, 3) := by decide +kernel
theorem dX3_run_35 : decode cX3_run 35 = .ok (.ifCond .ne 16, 3) := by decide +kernel
theorem dX3_run_38 : decode cX3_run 38 = .ok (.aload_n 0, 1) := by decide +kernel
theorem dX3_run_39 : decode cX3_run 39 = .ok (.iload_n 3, 1) := by decide +kernel
theorem dX3_run_40 : decode cX3_run 40 = .ok (.iconst 1, 1) := by decide +kernel
theorem dX3_run_41 : decode cX3_run 41 = .ok (.aload_n 0, 1) := by decide +kernel
theorem dX3_run_42 : decode cX3_run 42 = .ok (.getfield 36, 3) := by decide +kernel
theorem dX3_run_45 : decode cX3_run 45 = .ok (.iload_n 3, 1) := by decide +kernel
theorem dX3_run_46 : decode cX3_run 46 = .ok (.isub, 1) := by decide +kernel
theorem dX3_run_47 : decode cX3_run 47 = .ok (.invokevirtual 39, 3) := by decide +kernel
theorem dX3_run_50 : decode cX3_run 50 = .ok (.return_, 1) := by decide +kernel
theorem dX3_run_51 : decode cX3_run 51 = .ok (.aload_n 0, 1) := by decide +kernel
theorem dX3_run_52 : decode cX3_run 52 = .ok (.aload_n 0, 1) := by decide +kernel
theorem dX3_run_53 : decode cX3_run 53 = .ok (.iload_n 3, 1) := by decide +kernel
theorem dX3_run_54 : decode cX3_run 54 = .ok (.invokevirtual 43, 3) := by decide +kernel
theorem dX3_run_57 : decode cX3_run 57 = .ok (.aload_n 1, 1) := by decide +kernel
theorem dX3_run_58 : decode cX3_run 58 = .ok (.aload_n 2, 1) := by decide +kernel
theorem dX3_run_59 : decode cX3_run 59 = .ok (.invokevirtual 47, 3) := by decide +kernel
theorem dX3_run_62 : decode cX3_run 62 = .ok (.istore 5, 2) := by decide +kernel
theorem dX3_run_64 : decode cX3_run 64 = .ok (.iload 5, 2) := by decide +kernel
theorem dX3_run_66 : decode cX3_run 66 = .ok (.ifCond .ge 12, 3) := by decide +kernel
theorem dX3_run_69 : decode cX3_run 69 = .ok (.aload_n 0, 1) := by decide +kernel
theorem dX3_run_70 : decode cX3_run 70 = .ok (.iload_n 3, 1) := by decide +kernel
theorem dX3_run_71 : decode cX3_run 71 = .ok (.iconst 2, 1) := by decide +kernel
theorem dX3_run_72 : decode cX3_run 72 = .ok (.iload 5, 2) := by decide +kernel
theorem dX3_run_74 : decode cX3_run 74 = .ok (.invokevirtual 39, 3) := by decide +kernel
theorem dX3_run_77 : decode cX3_run 77 = .ok (.return_, 1) := by decide +kernel
theorem dX3_run_78 : decode cX3_run 78 = .ok (.aload_n 0, 1) := by decide +kernel
theorem dX3_run_79 : decode cX3_run 79 = .ok (.dup, 1) := by decide +kernel
theorem dX3_run_80 : decode cX3_run 80 = .ok (.getfield 26, 3) := by decide +kernel
theorem dX3_run_83 : decode cX3_run 83 = .ok (.iconst 1, 1) := by decide +kernel
theorem dX3_run_84 : decode cX3_run 84 = .ok (.iadd, 1) := by decide +kernel
theorem dX3_run_85 : decode cX3_run 85 = .ok (.putfield 26, 3) := by decide +kernel
theorem dX3_run_88 : decode cX3_run 88 = .ok (.aload_n 0, 1) := by decide +kernel
theorem dX3_run_89 : decode cX3_run 89 = .ok (.getfield 36, 3) := by decide +kernel
theorem dX3_run_92 : decode cX3_run 92 = .ok (.istore_n 3, 1) := by decide +kernel
theorem dX3_run_93 : decode cX3_run 93 = .ok (.iinc 4 1, 3) := by decide +kernel
theorem dX3_run_96 : decode cX3_run 96 = .ok (.goto (-81), 3) := by decide +kernel
theorem dX3_run_99 : decode cX3_run 99 = .ok (.return_, 1) := by decide +kernel
theorem dX3_tell_0 : decode cX3_tell 0 = .ok (.aload_n 0, 1) := by decide +kernel
theorem dX3_tell_1 : decode cX3_tell 1 = .ok (.iload_n 1, 1) := by decide +kernel
theorem dX3_tell_2 : decode cX3_tell 2 = .ok (.putfield 51, 3) := by decide +kernel
theorem dX3_tell_5 : decode cX3_tell 5 = .ok (.aload_n 0, 1) := by decide +kernel
theorem dX3_tell_6 : decode cX3_tell 6 = .ok (.iload_n 2, 1) := by decide +kernel
theorem dX3_tell_7 : decode cX3_tell 7 = .ok (.putfield 29, 3) := by decide +kernel
theorem dX3_tell_10 : decode cX3_tell 10 = .ok (.aload_n 0, 1) := by decide +kernel
theorem dX3_tell_11 : decode cX3_tell 11 = .ok (.iload_n 3, 1) := by decide +kernel
theorem dX3_tell_12 : decode cX3_tell 12 = .ok (.putfield 54, 3) := by decide +kernel
theorem dX3_tell_15 : decode cX3_tell 15 = .ok (.return_, 1) := by decide +kernel
theorem dX3_signAt_0 : decode cX3_signAt 0 = .ok (.iload_n 1, 1) := by decide +kernel
theorem dX3_signAt_1 : decode cX3_signAt 1 = .ok (.aload_n 0, 1) := by decide +kernel
theorem dX3_signAt_2 : decode cX3_signAt 2 = .ok (.getfield 18, 3) := by decide +kernel
theorem dX3_signAt_5 : decode cX3_signAt 5 = .ok (.if_icmp .ge 14, 3) := by decide +kernel
theorem dX3_signAt_8 : decode cX3_signAt 8 = .ok (.aload_n 0, 1) := by decide +kernel
theorem dX3_signAt_9 : decode cX3_signAt 9 = .ok (.getfield 9, 3) := by decide +kernel
theorem dX3_signAt_12 : decode cX3_signAt 12 = .ok (.iload_n 1, 1) := by decide +kernel
theorem dX3_signAt_13 : decode cX3_signAt 13 = .ok (.invokestatic 57, 3) := by decide +kernel
theorem dX3_signAt_16 : decode cX3_signAt 16 = .ok (.goto 4, 3) := by decide +kernel
theorem dX3_signAt_19 : decode cX3_signAt 19 = .ok (.iconst 0, 1) := by decide +kernel
theorem dX3_signAt_20 : decode cX3_signAt 20 = .ok (.ireturn, 1) := by decide +kernel
theorem dX3_isOrder_0 : decode cX3_isOrder 0 = .ok (.aload_n 0, 1) := by decide +kernel
theorem dX3_isOrder_1 : decode cX3_isOrder 1 = .ok (.iload_n 1, 1) := by decide +kernel
theorem dX3_isOrder_2 : decode cX3_isOrder 2 = .ok (.putfield 36, 3) := by decide +kernel
theorem dX3_isOrder_5 : decode cX3_isOrder 5 = .ok (.aload_n 0, 1) := by decide +kernel
theorem dX3_isOrder_6 : decode cX3_isOrder 6 = .ok (.iload_n 1, 1) := by decide +kernel
theorem dX3_isOrder_7 : decode cX3_isOrder 7 = .ok (.invokevirtual 43, 3) := by decide +kernel
theorem dX3_isOrder_10 : decode cX3_isOrder 10 = .ok (.invokestatic 61, 3) := by decide +kernel
theorem dX3_isOrder_13 : decode cX3_isOrder 13 = .ok (.istore_n 2, 1) := by decide +kernel
theorem dX3_isOrder_14 : decode cX3_isOrder 14 = .ok (.iload_n 2, 1) := by decide +kernel
theorem dX3_isOrder_15 : decode cX3_isOrder 15 = .ok (.ifCond .ne 5, 3) := by decide +kernel
theorem dX3_isOrder_18 : decode cX3_isOrder 18 = .ok (.iconst 0, 1) := by decide +kernel
theorem dX3_isOrder_19 : decode cX3_isOrder 19 = .ok (.ireturn, 1) := by decide +kernel
theorem dX3_isOrder_20 : decode cX3_isOrder 20 = .ok (.aload_n 0, 1) := by decide +kernel
theorem dX3_isOrder_21 : decode cX3_isOrder 21 = .ok (.dup, 1) := by decide +kernel
theorem dX3_isOrder_22 : decode cX3_isOrder 22 = .ok (.getfield 36, 3) := by decide +kernel
theorem dX3_isOrder_25 : decode cX3_isOrder 25 = .ok (.iconst 1, 1) := by decide +kernel
theorem dX3_isOrder_26 : decode cX3_isOrder 26 = .ok (.iadd, 1) := by decide +kernel
theorem dX3_isOrder_27 : decode cX3_isOrder 27 = .ok (.putfield 36, 3) := by decide +kernel
theorem dX3_isOrder_30 : decode cX3_isOrder 30 = .ok (.iconst 0, 1) := by decide +kernel
theorem dX3_isOrder_31 : decode cX3_isOrder 31 = .ok (.istore_n 3, 1) := by decide +kernel
theorem dX3_isOrder_32 : decode cX3_isOrder 32 = .ok (.iload_n 3, 1) := by decide +kernel
theorem dX3_isOrder_33 : decode cX3_isOrder 33 = .ok (.iload_n 2, 1) := by decide +kernel
theorem dX3_isOrder_34 : decode cX3_isOrder 34 = .ok (.if_icmp .ge 54, 3) := by decide +kernel
theorem dX3_isOrder_37 : decode cX3_isOrder 37 = .ok (.aload_n 0, 1) := by decide +kernel
theorem dX3_isOrder_38 : decode cX3_isOrder 38 = .ok (.iload_n 3, 1) := by decide +kernel
theorem dX3_isOrder_39 : decode cX3_isOrder 39 = .ok (.invokevirtual 64, 3) := by decide +kernel
theorem dX3_isOrder_42 : decode cX3_isOrder 42 = .ok (.ifCond .eq 28, 3) := by decide +kernel
theorem dX3_isOrder_45 : decode cX3_isOrder 45 = .ok (.aload_n 0, 1) := by decide +kernel
theorem dX3_isOrder_46 : decode cX3_isOrder 46 = .ok (.aload_n 0, 1) := by decide +kernel
theorem dX3_isOrder_47 : decode cX3_isOrder 47 = .ok (.getfield 36, 3) := by decide +kernel
theorem dX3_isOrder_50 : decode cX3_isOrder 50 = .ok (.invokevirtual 43, 3) := by decide +kernel
theorem dX3_isOrder_53 : decode cX3_isOrder 53 = .ok (.iload_n 3, 1) := by decide +kernel
theorem dX3_isOrder_54 : decode cX3_isOrder 54 = .ok (.iconst 1, 1) := by decide +kernel
theorem dX3_isOrder_55 : decode cX3_isOrder 55 = .ok (.iadd, 1) := by decide +kernel
theorem dX3_isOrder_56 : decode cX3_isOrder 56 = .ok (.iload_n 2, 1) := by decide +kernel
theorem dX3_isOrder_57 : decode cX3_isOrder 57 = .ok (.if_icmp .ge 8, 3) := by decide +kernel
theorem dX3_isOrder_60 : decode cX3_isOrder 60 = .ok (.bipush 44, 2) := by decide +kernel
theorem dX3_isOrder_62 : decode cX3_isOrder 62 = .ok (.goto 5, 3) := by decide +kernel
theorem dX3_isOrder_65 : decode cX3_isOrder 65 = .ok (.bipush 59, 2) := by decide +kernel
theorem dX3_isOrder_67 : decode cX3_isOrder 67 = .ok (.if_icmp .eq 5, 3) := by decide +kernel
theorem dX3_isOrder_70 : decode cX3_isOrder 70 = .ok (.iconst 0, 1) := by decide +kernel
theorem dX3_isOrder_71 : decode cX3_isOrder 71 = .ok (.ireturn, 1) := by decide +kernel
theorem dX3_isOrder_72 : decode cX3_isOrder 72 = .ok (.aload_n 0, 1) := by decide +kernel
theorem dX3_isOrder_73 : decode cX3_isOrder 73 = .ok (.dup, 1) := by decide +kernel
theorem dX3_isOrder_74 : decode cX3_isOrder 74 = .ok (.getfield 36, 3) := by decide +kernel
theorem dX3_isOrder_77 : decode cX3_isOrder 77 = .ok (.iconst 1, 1) := by decide +kernel
theorem dX3_isOrder_78 : decode cX3_isOrder 78 = .ok (.iadd, 1) := by decide +kernel
theorem dX3_isOrder_79 : decode cX3_isOrder 79 = .ok (.putfield 36, 3) := by decide +kernel
theorem dX3_isOrder_82 : decode cX3_isOrder 82 = .ok (.iinc 3 1, 3) := by decide +kernel
theorem dX3_isOrder_85 : decode cX3_isOrder 85 = .ok (.goto (-53), 3) := by decide +kernel
theorem dX3_isOrder_88 : decode cX3_isOrder 88 = .ok (.iconst 1, 1) := by decide +kernel
theorem dX3_isOrder_89 : decode cX3_isOrder 89 = .ok (.ireturn, 1) := by decide +kernel
theorem dX3_numbersOf_0 : decode cX3_numbersOf 0 = .ok (.iload_n 0, 1) := by decide +kernel
theorem dX3_numbersOf_1 : decode cX3_numbersOf 1 = .ok (.lookupswitch 55 #[(103, 51), (104, 53), (109, 51), (115, 53), (119, 51)], 51) := by decide +kernel
theorem dX3_numbersOf_52 : decode cX3_numbersOf 52 = .ok (.iconst 1, 1) := by decide +kernel
theorem dX3_numbersOf_53 : decode cX3_numbersOf 53 = .ok (.ireturn, 1) := by decide +kernel
theorem dX3_numbersOf_54 : decode cX3_numbersOf 54 = .ok (.iconst 3, 1) := by decide +kernel
theorem dX3_numbersOf_55 : decode cX3_numbersOf 55 = .ok (.ireturn, 1) := by decide +kernel
theorem dX3_numbersOf_56 : decode cX3_numbersOf 56 = .ok (.iconst 0, 1) := by decide +kernel
theorem dX3_numbersOf_57 : decode cX3_numbersOf 57 = .ok (.ireturn, 1) := by decide +kernel
theorem dX3_isNumber_0 : decode cX3_isNumber 0 = .ok (.iconst 0, 1) := by decide +kernel
theorem dX3_isNumber_1 : decode cX3_isNumber 1 = .ok (.istore_n 2, 1) := by decide +kernel
theorem dX3_isNumber_2 : decode cX3_isNumber 2 = .ok (.iconst 0, 1) := by decide +kernel
theorem dX3_isNumber_3 : decode cX3_isNumber 3 = .ok (.istore_n 3, 1) := by decide +kernel
theorem dX3_isNumber_4 : decode cX3_isNumber 4 = .ok (.iload_n 3, 1) := by decide +kernel
theorem dX3_isNumber_5 : decode cX3_isNumber 5 = .ok (.iconst 4, 1) := by decide +kernel
theorem dX3_isNumber_6 : decode cX3_isNumber 6 = .ok (.if_icmp .ge 54, 3) := by decide +kernel
theorem dX3_isNumber_9 : decode cX3_isNumber 9 = .ok (.aload_n 0, 1) := by decide +kernel
theorem dX3_isNumber_10 : decode cX3_isNumber 10 = .ok (.aload_n 0, 1) := by decide +kernel
theorem dX3_isNumber_11 : decode cX3_isNumber 11 = .ok (.getfield 36, 3) := by decide +kernel
theorem dX3_isNumber_14 : decode cX3_isNumber 14 = .ok (.invokevirtual 43, 3) := by decide +kernel
theorem dX3_isNumber_17 : decode cX3_isNumber 17 = .ok (.bipush 48, 2) := by decide +kernel
theorem dX3_isNumber_19 : decode cX3_isNumber 19 = .ok (.bipush 57, 2) := by decide +kernel
theorem dX3_isNumber_21 : decode cX3_isNumber 21 = .ok (.invokestatic 67, 3) := by decide +kernel
theorem dX3_isNumber_24 : decode cX3_isNumber 24 = .ok (.ifCond .eq 36, 3) := by decide +kernel
theorem dX3_isNumber_27 : decode cX3_isNumber 27 = .ok (.iload_n 2, 1) := by decide +kernel
theorem dX3_isNumber_28 : decode cX3_isNumber 28 = .ok (.bipush 10, 2) := by decide +kernel
theorem dX3_isNumber_30 : decode cX3_isNumber 30 = .ok (.imul, 1) := by decide +kernel
theorem dX3_isNumber_31 : decode cX3_isNumber 31 = .ok (.aload_n 0, 1) := by decide +kernel
theorem dX3_isNumber_32 : decode cX3_isNumber 32 = .ok (.aload_n 0, 1) := by decide +kernel
theorem dX3_isNumber_33 : decode cX3_isNumber 33 = .ok (.getfield 36, 3) := by decide +kernel
theorem dX3_isNumber_36 : decode cX3_isNumber 36 = .ok (.invokevirtual 43, 3) := by decide +kernel
theorem dX3_isNumber_39 : decode cX3_isNumber 39 = .ok (.iadd, 1) := by decide +kernel
theorem dX3_isNumber_40 : decode cX3_isNumber 40 = .ok (.bipush 48, 2) := by decide +kernel
theorem dX3_isNumber_42 : decode cX3_isNumber 42 = .ok (.isub, 1) := by decide +kernel
theorem dX3_isNumber_43 : decode cX3_isNumber 43 = .ok (.istore_n 2, 1) := by decide +kernel
theorem dX3_isNumber_44 : decode cX3_isNumber 44 = .ok (.iinc 3 1, 3) := by decide +kernel
theorem dX3_isNumber_47 : decode cX3_isNumber 47 = .ok (.aload_n 0, 1) := by decide +kernel
theorem dX3_isNumber_48 : decode cX3_isNumber 48 = .ok (.dup, 1) := by decide +kernel
theorem dX3_isNumber_49 : decode cX3_isNumber 49 = .ok (.getfield 36, 3) := by decide +kernel
theorem dX3_isNumber_52 : decode cX3_isNumber 52 = .ok (.iconst 1, 1) := by decide +kernel
theorem dX3_isNumber_53 : decode cX3_isNumber 53 = .ok (.iadd, 1) := by decide +kernel
theorem dX3_isNumber_54 : decode cX3_isNumber 54 = .ok (.putfield 36, 3) := by decide +kernel
theorem dX3_isNumber_57 : decode cX3_isNumber 57 = .ok (.goto (-53), 3) := by decide +kernel
theorem dX3_isNumber_60 : decode cX3_isNumber 60 = .ok (.aload_n 0, 1) := by decide +kernel
theorem dX3_isNumber_61 : decode cX3_isNumber 61 = .ok (.getfield 15, 3) := by decide +kernel
theorem dX3_isNumber_64 : decode cX3_isNumber 64 = .ok (.iload_n 1, 1) := by decide +kernel
theorem dX3_isNumber_65 : decode cX3_isNumber 65 = .ok (.iload_n 2, 1) := by decide +kernel
theorem dX3_isNumber_66 : decode cX3_isNumber 66 = .ok (.invokestatic 22, 3) := by decide +kernel
theorem dX3_isNumber_69 : decode cX3_isNumber 69 = .ok (.iload_n 3, 1) := by decide +kernel
theorem dX3_isNumber_70 : decode cX3_isNumber 70 = .ok (.ifCond .le 7, 3) := by decide +kernel
theorem dX3_isNumber_73 : decode cX3_isNumber 73 = .ok (.iconst 1, 1) := by decide +kernel
theorem dX3_isNumber_74 : decode cX3_isNumber 74 = .ok (.goto 4, 3) := by decide +kernel
theorem dX3_isNumber_77 : decode cX3_isNumber 77 = .ok (.iconst 0, 1) := by decide +kernel
theorem dX3_isNumber_78 : decode cX3_isNumber 78 = .ok (.ireturn, 1) := by decide +kernel
theorem dX3_carryOut_0 : decode cX3_carryOut 0 = .ok (.aload_n 0, 1) := by decide +kernel
theorem dX3_carryOut_1 : decode cX3_carryOut 1 = .ok (.getfield 15, 3) := by decide +kernel
theorem dX3_carryOut_4 : decode cX3_carryOut 4 = .ok (.iconst 0, 1) := by decide +kernel
theorem dX3_carryOut_5 : decode cX3_carryOut 5 = .ok (.invokestatic 57, 3) := by decide +kernel
theorem dX3_carryOut_8 : decode cX3_carryOut 8 = .ok (.istore 4, 2) := by decide +kernel
theorem dX3_carryOut_10 : decode cX3_carryOut 10 = .ok (.iload_n 1, 1) := by decide +kernel
theorem dX3_carryOut_11 : decode cX3_carryOut 11 = .ok (.lookupswitch 101 #[(103, 41), (104, 71), (115, 48), (119, 94)], 41) := by decide +kernel
theorem dX3_carryOut_52 : decode cX3_carryOut 52 = .ok (.aload_n 2, 1) := by decide +kernel
theorem dX3_carryOut_53 : decode cX3_carryOut 53 = .ok (.iload 4, 2) := by decide +kernel
theorem dX3_carryOut_55 : decode cX3_carryOut 55 = .ok (.invokevirtual 71, 3) := by decide +kernel
theorem dX3_carryOut_58 : decode cX3_carryOut 58 = .ok (.ireturn, 1) := by decide +kernel
theorem dX3_carryOut_59 : decode cX3_carryOut 59 = .ok (.aload_n 2, 1) := by decide +kernel
theorem dX3_carryOut_60 : decode cX3_carryOut 60 = .ok (.iload 4, 2) := by decide +kernel
theorem dX3_carryOut_62 : decode cX3_carryOut 62 = .ok (.aload_n 0, 1) := by decide +kernel
theorem dX3_carryOut_63 : decode cX3_carryOut 63 = .ok (.getfield 15, 3) := by decide +kernel
theorem dX3_carryOut_66 : decode cX3_carryOut 66 = .ok (.iconst 1, 1) := by decide +kernel
theorem dX3_carryOut_67 : decode cX3_carryOut 67 = .ok (.invokestatic 57, 3) := by decide +kernel
theorem dX3_carryOut_70 : decode cX3_carryOut 70 = .ok (.aload_n 0, 1) := by decide +kernel
theorem dX3_carryOut_71 : decode cX3_carryOut 71 = .ok (.getfield 15, 3) := by decide +kernel
theorem dX3_carryOut_74 : decode cX3_carryOut 74 = .ok (.iconst 2, 1) := by decide +kernel
theorem dX3_carryOut_75 : decode cX3_carryOut 75 = .ok (.invokestatic 57, 3) := by decide +kernel
theorem dX3_carryOut_78 : decode cX3_carryOut 78 = .ok (.invokevirtual 76, 3) := by decide +kernel
theorem dX3_carryOut_81 : decode cX3_carryOut 81 = .ok (.ireturn, 1) := by decide +kernel
theorem dX3_carryOut_82 : decode cX3_carryOut 82 = .ok (.aload_n 2, 1) := by decide +kernel
theorem dX3_carryOut_83 : decode cX3_carryOut 83 = .ok (.iload 4, 2) := by decide +kernel
theorem dX3_carryOut_85 : decode cX3_carryOut 85 = .ok (.aload_n 0, 1) := by decide +kernel
theorem dX3_carryOut_86 : decode cX3_carryOut 86 = .ok (.getfield 15, 3) := by decide +kernel
theorem dX3_carryOut_89 : decode cX3_carryOut 89 = .ok (.iconst 1, 1) := by decide +kernel
theorem dX3_carryOut_90 : decode cX3_carryOut 90 = .ok (.invokestatic 57, 3) := by decide +kernel
end
section
theorem dX3_carryOut_93 : decode cX3_carryOut 93 = .ok (.aload_n 0, 1) := by decide +kernel
theorem dX3_carryOut_94 : decode cX3_carryOut 94 = .ok (.getfield 15, 3) := by decide +kernel
theorem dX3_carryOut_97 : decode cX3_carryOut 97 = .ok (.iconst 2, 1) := by decide +kernel
theorem dX3_carryOut_98 : decode cX3_carryOut 98 = .ok (.invokestatic 57, 3) := by decide +kernel
theorem dX3_carryOut_101 : decode cX3_carryOut 101 = .ok (.invokevirtual 80, 3) := by decide +kernel
theorem dX3_carryOut_104 : decode cX3_carryOut 104 = .ok (.ireturn, 1) := by decide +kernel
theorem dX3_carryOut_105 : decode cX3_carryOut 105 = .ok (.aload_n 2, 1) := by decide +kernel
theorem dX3_carryOut_106 : decode cX3_carryOut 106 = .ok (.iload 4, 2) := by decide +kernel
theorem dX3_carryOut_108 : decode cX3_carryOut 108 = .ok (.invokevirtual 83, 3) := by decide +kernel
theorem dX3_carryOut_111 : decode cX3_carryOut 111 = .ok (.ireturn, 1) := by decide +kernel
theorem dX3_carryOut_112 : decode cX3_carryOut 112 = .ok (.aload_n 2, 1) := by decide +kernel
theorem dX3_carryOut_113 : decode cX3_carryOut 113 = .ok (.iload 4, 2) := by decide +kernel
theorem dX3_carryOut_115 : decode cX3_carryOut 115 = .ok (.aload_n 3, 1) := by decide +kernel
theorem dX3_carryOut_116 : decode cX3_carryOut 116 = .ok (.invokevirtual 86, 3) := by decide +kernel
theorem dX3_carryOut_119 : decode cX3_carryOut 119 = .ok (.ireturn, 1) := by decide +kernel
theorem dX4_init_0 : decode cX4_init 0 = .ok (.aload_n 0, 1) := by decide +kernel
theorem dX4_init_1 : decode cX4_init 1 = .ok (.invokespecial 3, 3) := by decide +kernel
theorem dX4_init_4 : decode cX4_init 4 = .ok (.aload_n 0, 1) := by decide +kernel
theorem dX4_init_5 : decode cX4_init 5 = .ok (.iconst 4, 1) := by decide +kernel
theorem dX4_init_6 : decode cX4_init 6 = .ok (.newarray .int, 2) := by decide +kernel
theorem dX4_init_8 : decode cX4_init 8 = .ok (.putfield 9, 3) := by decide +kernel
theorem dX4_init_11 : decode cX4_init 11 = .ok (.aload_n 0, 1) := by decide +kernel
theorem dX4_init_12 : decode cX4_init 12 = .ok (.iconst 4, 1) := by decide +kernel
theorem dX4_init_13 : decode cX4_init 13 = .ok (.newarray .int, 2) := by decide +kernel
theorem dX4_init_15 : decode cX4_init 15 = .ok (.putfield 15, 3) := by decide +kernel
theorem dX4_init_18 : decode cX4_init 18 = .ok (.aload_n 0, 1) := by decide +kernel
theorem dX4_init_19 : decode cX4_init 19 = .ok (.iconst 4, 1) := by decide +kernel
theorem dX4_init_20 : decode cX4_init 20 = .ok (.newarray .int, 2) := by decide +kernel
theorem dX4_init_22 : decode cX4_init 22 = .ok (.putfield 18, 3) := by decide +kernel
theorem dX4_init_25 : decode cX4_init 25 = .ok (.aload_n 0, 1) := by decide +kernel
theorem dX4_init_26 : decode cX4_init 26 = .ok (.bipush 32, 2) := by decide +kernel
theorem dX4_init_28 : decode cX4_init 28 = .ok (.newarray .int, 2) := by decide +kernel
theorem dX4_init_30 : decode cX4_init 30 = .ok (.putfield 21, 3) := by decide +kernel
theorem dX4_init_33 : decode cX4_init 33 = .ok (.aload_n 0, 1) := by decide +kernel
theorem dX4_init_34 : decode cX4_init 34 = .ok (.bipush 32, 2) := by decide +kernel
theorem dX4_init_36 : decode cX4_init 36 = .ok (.newarray .long, 2) := by decide +kernel
theorem dX4_init_38 : decode cX4_init 38 = .ok (.putfield 24, 3) := by decide +kernel
theorem dX4_init_41 : decode cX4_init 41 = .ok (.return_, 1) := by decide +kernel
theorem dX4_copy_0 : decode cX4_copy 0 = .ok (.aload_n 0, 1) := by decide +kernel
theorem dX4_copy_1 : decode cX4_copy 1 = .ok (.aload_n 1, 1) := by decide +kernel
theorem dX4_copy_2 : decode cX4_copy 2 = .ok (.getfield 28, 3) := by decide +kernel
theorem dX4_copy_5 : decode cX4_copy 5 = .ok (.putfield 28, 3) := by decide +kernel
theorem dX4_copy_8 : decode cX4_copy 8 = .ok (.aload_n 1, 1) := by decide +kernel
theorem dX4_copy_9 : decode cX4_copy 9 = .ok (.getfield 9, 3) := by decide +kernel
theorem dX4_copy_12 : decode cX4_copy 12 = .ok (.aload_n 0, 1) := by decide +kernel
theorem dX4_copy_13 : decode cX4_copy 13 = .ok (.getfield 9, 3) := by decide +kernel
theorem dX4_copy_16 : decode cX4_copy 16 = .ok (.invokestatic 32, 3) := by decide +kernel
theorem dX4_copy_19 : decode cX4_copy 19 = .ok (.aload_n 1, 1) := by decide +kernel
theorem dX4_copy_20 : decode cX4_copy 20 = .ok (.getfield 15, 3) := by decide +kernel
theorem dX4_copy_23 : decode cX4_copy 23 = .ok (.aload_n 0, 1) := by decide +kernel
theorem dX4_copy_24 : decode cX4_copy 24 = .ok (.getfield 15, 3) := by decide +kernel
theorem dX4_copy_27 : decode cX4_copy 27 = .ok (.invokestatic 32, 3) := by decide +kernel
theorem dX4_copy_30 : decode cX4_copy 30 = .ok (.aload_n 1, 1) := by decide +kernel
theorem dX4_copy_31 : decode cX4_copy 31 = .ok (.getfield 18, 3) := by decide +kernel
theorem dX4_copy_34 : decode cX4_copy 34 = .ok (.aload_n 0, 1) := by decide +kernel
theorem dX4_copy_35 : decode cX4_copy 35 = .ok (.getfield 18, 3) := by decide +kernel
theorem dX4_copy_38 : decode cX4_copy 38 = .ok (.invokestatic 32, 3) := by decide +kernel
theorem dX4_copy_41 : decode cX4_copy 41 = .ok (.aload_n 1, 1) := by decide +kernel
theorem dX4_copy_42 : decode cX4_copy 42 = .ok (.getfield 21, 3) := by decide +kernel
theorem dX4_copy_45 : decode cX4_copy 45 = .ok (.aload_n 0, 1) := by decide +kernel
theorem dX4_copy_46 : decode cX4_copy 46 = .ok (.getfield 21, 3) := by decide +kernel
theorem dX4_copy_49 : decode cX4_copy 49 = .ok (.invokestatic 32, 3) := by decide +kernel
theorem dX4_copy_52 : decode cX4_copy 52 = .ok (.iconst 0, 1) := by decide +kernel
theorem dX4_copy_53 : decode cX4_copy 53 = .ok (.istore_n 2, 1) := by decide +kernel
theorem dX4_copy_54 : decode cX4_copy 54 = .ok (.iload_n 2, 1) := by decide +kernel
theorem dX4_copy_55 : decode cX4_copy 55 = .ok (.aload_n 0, 1) := by decide +kernel
theorem dX4_copy_56 : decode cX4_copy 56 = .ok (.getfield 24, 3) := by decide +kernel
theorem dX4_copy_59 : decode cX4_copy 59 = .ok (.arraylength, 1) := by decide +kernel
theorem dX4_copy_60 : decode cX4_copy 60 = .ok (.if_icmp .ge 30, 3) := by decide +kernel
theorem dX4_copy_63 : decode cX4_copy 63 = .ok (.iload_n 2, 1) := by decide +kernel
theorem dX4_copy_64 : decode cX4_copy 64 = .ok (.aload_n 1, 1) := by decide +kernel
theorem dX4_copy_65 : decode cX4_copy 65 = .ok (.getfield 24, 3) := by decide +kernel
theorem dX4_copy_68 : decode cX4_copy 68 = .ok (.arraylength, 1) := by decide +kernel
theorem dX4_copy_69 : decode cX4_copy 69 = .ok (.if_icmp .ge 21, 3) := by decide +kernel
theorem dX4_copy_72 : decode cX4_copy 72 = .ok (.aload_n 0, 1) := by decide +kernel
theorem dX4_copy_73 : decode cX4_copy 73 = .ok (.getfield 24, 3) := by decide +kernel
theorem dX4_copy_76 : decode cX4_copy 76 = .ok (.iload_n 2, 1) := by decide +kernel
theorem dX4_copy_77 : decode cX4_copy 77 = .ok (.aload_n 1, 1) := by decide +kernel
theorem dX4_copy_78 : decode cX4_copy 78 = .ok (.getfield 24, 3) := by decide +kernel
theorem dX4_copy_81 : decode cX4_copy 81 = .ok (.iload_n 2, 1) := by decide +kernel
theorem dX4_copy_82 : decode cX4_copy 82 = .ok (.laload, 1) := by decide +kernel
theorem dX4_copy_83 : decode cX4_copy 83 = .ok (.lastore, 1) := by decide +kernel
theorem dX4_copy_84 : decode cX4_copy 84 = .ok (.iinc 2 1, 3) := by decide +kernel
theorem dX4_copy_87 : decode cX4_copy 87 = .ok (.goto (-33), 3) := by decide +kernel
theorem dX4_copy_90 : decode cX4_copy 90 = .ok (.return_, 1) := by decide +kernel
theorem dX4_isMade_0 : decode cX4_isMade 0 = .ok (.aload_n 0, 1) := by decide +kernel
theorem dX4_isMade_1 : decode cX4_isMade 1 = .ok (.getfield 9, 3) := by decide +kernel
theorem dX4_isMade_4 : decode cX4_isMade 4 = .ok (.iload_n 1, 1) := by decide +kernel
theorem dX4_isMade_5 : decode cX4_isMade 5 = .ok (.invokestatic 36, 3) := by decide +kernel
theorem dX4_isMade_8 : decode cX4_isMade 8 = .ok (.ifCond .le 7, 3) := by decide +kernel
theorem dX4_isMade_11 : decode cX4_isMade 11 = .ok (.iconst 1, 1) := by decide +kernel
theorem dX4_isMade_12 : decode cX4_isMade 12 = .ok (.goto 4, 3) := by decide +kernel
theorem dX4_isMade_15 : decode cX4_isMade 15 = .ok (.iconst 0, 1) := by decide +kernel
theorem dX4_isMade_16 : decode cX4_isMade 16 = .ok (.ireturn, 1) := by decide +kernel
theorem dX4_held_0 : decode cX4_held 0 = .ok (.iconst 0, 1) := by decide +kernel
theorem dX4_held_1 : decode cX4_held 1 = .ok (.istore_n 1, 1) := by decide +kernel
theorem dX4_held_2 : decode cX4_held 2 = .ok (.iconst 0, 1) := by decide +kernel
theorem dX4_held_3 : decode cX4_held 3 = .ok (.istore_n 2, 1) := by decide +kernel
theorem dX4_held_4 : decode cX4_held 4 = .ok (.iload_n 2, 1) := by decide +kernel
theorem dX4_held_5 : decode cX4_held 5 = .ok (.iconst 4, 1) := by decide +kernel
theorem dX4_held_6 : decode cX4_held 6 = .ok (.if_icmp .ge 20, 3) := by decide +kernel
theorem dX4_held_9 : decode cX4_held 9 = .ok (.aload_n 0, 1) := by decide +kernel
theorem dX4_held_10 : decode cX4_held 10 = .ok (.iload_n 2, 1) := by decide +kernel
theorem dX4_held_11 : decode cX4_held 11 = .ok (.invokevirtual 40, 3) := by decide +kernel
theorem dX4_held_14 : decode cX4_held 14 = .ok (.ifCond .eq 6, 3) := by decide +kernel
theorem dX4_held_17 : decode cX4_held 17 = .ok (.iinc 1 1, 3) := by decide +kernel
theorem dX4_held_20 : decode cX4_held 20 = .ok (.iinc 2 1, 3) := by decide +kernel
theorem dX4_held_23 : decode cX4_held 23 = .ok (.goto (-19), 3) := by decide +kernel
theorem dX4_held_26 : decode cX4_held 26 = .ok (.iload_n 1, 1) := by decide +kernel
theorem dX4_held_27 : decode cX4_held 27 = .ok (.ireturn, 1) := by decide +kernel
theorem dX4_slotOf_0 : decode cX4_slotOf 0 = .ok (.iconst 0, 1) := by decide +kernel
theorem dX4_slotOf_1 : decode cX4_slotOf 1 = .ok (.istore_n 2, 1) := by decide +kernel
theorem dX4_slotOf_2 : decode cX4_slotOf 2 = .ok (.iload_n 2, 1) := by decide +kernel
theorem dX4_slotOf_3 : decode cX4_slotOf 3 = .ok (.iconst 4, 1) := by decide +kernel
theorem dX4_slotOf_4 : decode cX4_slotOf 4 = .ok (.if_icmp .ge 31, 3) := by decide +kernel
theorem dX4_slotOf_7 : decode cX4_slotOf 7 = .ok (.aload_n 0, 1) := by decide +kernel
theorem dX4_slotOf_8 : decode cX4_slotOf 8 = .ok (.iload_n 2, 1) := by decide +kernel
theorem dX4_slotOf_9 : decode cX4_slotOf 9 = .ok (.invokevirtual 40, 3) := by decide +kernel
theorem dX4_slotOf_12 : decode cX4_slotOf 12 = .ok (.ifCond .eq 17, 3) := by decide +kernel
theorem dX4_slotOf_15 : decode cX4_slotOf 15 = .ok (.aload_n 0, 1) := by decide +kernel
theorem dX4_slotOf_16 : decode cX4_slotOf 16 = .ok (.getfield 15, 3) := by decide +kernel
theorem dX4_slotOf_19 : decode cX4_slotOf 19 = .ok (.iload_n 2, 1) := by decide +kernel
theorem dX4_slotOf_20 : decode cX4_slotOf 20 = .ok (.invokestatic 36, 3) := by decide +kernel
theorem dX4_slotOf_23 : decode cX4_slotOf 23 = .ok (.iload_n 1, 1) := by decide +kernel
theorem dX4_slotOf_24 : decode cX4_slotOf 24 = .ok (.if_icmp .ne 5, 3) := by decide +kernel
theorem dX4_slotOf_27 : decode cX4_slotOf 27 = .ok (.iload_n 2, 1) := by decide +kernel
theorem dX4_slotOf_28 : decode cX4_slotOf 28 = .ok (.ireturn, 1) := by decide +kernel
theorem dX4_slotOf_29 : decode cX4_slotOf 29 = .ok (.iinc 2 1, 3) := by decide +kernel
theorem dX4_slotOf_32 : decode cX4_slotOf 32 = .ok (.goto (-30), 3) := by decide +kernel
theorem dX4_slotOf_35 : decode cX4_slotOf 35 = .ok (.iconst (-1), 1) := by decide +kernel
theorem dX4_slotOf_36 : decode cX4_slotOf 36 = .ok (.ireturn, 1) := by decide +kernel
theorem dX4_slotAt_0 : decode cX4_slotAt 0 = .ok (.iconst 0, 1) := by decide +kernel
theorem dX4_slotAt_1 : decode cX4_slotAt 1 = .ok (.istore_n 2, 1) := by decide +kernel
theorem dX4_slotAt_2 : decode cX4_slotAt 2 = .ok (.iload_n 2, 1) := by decide +kernel
theorem dX4_slotAt_3 : decode cX4_slotAt 3 = .ok (.iconst 4, 1) := by decide +kernel
theorem dX4_slotAt_4 : decode cX4_slotAt 4 = .ok (.if_icmp .ge 28, 3) := by decide +kernel
theorem dX4_slotAt_7 : decode cX4_slotAt 7 = .ok (.aload_n 0, 1) := by decide +kernel
theorem dX4_slotAt_8 : decode cX4_slotAt 8 = .ok (.iload_n 2, 1) := by decide +kernel
theorem dX4_slotAt_9 : decode cX4_slotAt 9 = .ok (.invokevirtual 40, 3) := by decide +kernel
theorem dX4_slotAt_12 : decode cX4_slotAt 12 = .ok (.ifCond .eq 14, 3) := by decide +kernel
theorem dX4_slotAt_15 : decode cX4_slotAt 15 = .ok (.aload_n 0, 1) := by decide +kernel
theorem dX4_slotAt_16 : decode cX4_slotAt 16 = .ok (.iload_n 2, 1) := by decide +kernel
theorem dX4_slotAt_17 : decode cX4_slotAt 17 = .ok (.invokevirtual 44, 3) := by decide +kernel
theorem dX4_slotAt_20 : decode cX4_slotAt 20 = .ok (.iload_n 1, 1) := by decide +kernel
theorem dX4_slotAt_21 : decode cX4_slotAt 21 = .ok (.if_icmp .ne 5, 3) := by decide +kernel
theorem dX4_slotAt_24 : decode cX4_slotAt 24 = .ok (.iload_n 2, 1) := by decide +kernel
theorem dX4_slotAt_25 : decode cX4_slotAt 25 = .ok (.ireturn, 1) := by decide +kernel
theorem dX4_slotAt_26 : decode cX4_slotAt 26 = .ok (.iinc 2 1, 3) := by decide +kernel
theorem dX4_slotAt_29 : decode cX4_slotAt 29 = .ok (.goto (-27), 3) := by decide +kernel
theorem dX4_slotAt_32 : decode cX4_slotAt 32 = .ok (.iconst (-1), 1) := by decide +kernel
theorem dX4_slotAt_33 : decode cX4_slotAt 33 = .ok (.ireturn, 1) := by decide +kernel
theorem dX4_olderThan_0 : decode cX4_olderThan 0 = .ok (.iconst 0, 1) := by decide +kernel
theorem dX4_olderThan_1 : decode cX4_olderThan 1 = .ok (.istore_n 2, 1) := by decide +kernel
theorem dX4_olderThan_2 : decode cX4_olderThan 2 = .ok (.iconst 0, 1) := by decide +kernel
theorem dX4_olderThan_3 : decode cX4_olderThan 3 = .ok (.istore_n 3, 1) := by decide +kernel
theorem dX4_olderThan_4 : decode cX4_olderThan 4 = .ok (.iload_n 3, 1) := by decide +kernel
theorem dX4_olderThan_5 : decode cX4_olderThan 5 = .ok (.iconst 4, 1) := by decide +kernel
theorem dX4_olderThan_6 : decode cX4_olderThan 6 = .ok (.if_icmp .ge 39, 3) := by decide +kernel
theorem dX4_olderThan_9 : decode cX4_olderThan 9 = .ok (.aload_n 0, 1) := by decide +kernel
theorem dX4_olderThan_10 : decode cX4_olderThan 10 = .ok (.iload_n 3, 1) := by decide +kernel
theorem dX4_olderThan_11 : decode cX4_olderThan 11 = .ok (.invokevirtual 40, 3) := by decide +kernel
theorem dX4_olderThan_14 : decode cX4_olderThan 14 = .ok (.ifCond .eq 25, 3) := by decide +kernel
theorem dX4_olderThan_17 : decode cX4_olderThan 17 = .ok (.aload_n 0, 1) := by decide +kernel
theorem dX4_olderThan_18 : decode cX4_olderThan 18 = .ok (.getfield 9, 3) := by decide +kernel
theorem dX4_olderThan_21 : decode cX4_olderThan 21 = .ok (.iload_n 3, 1) := by decide +kernel
theorem dX4_olderThan_22 : decode cX4_olderThan 22 = .ok (.invokestatic 36, 3) := by decide +kernel
theorem dX4_olderThan_25 : decode cX4_olderThan 25 = .ok (.aload_n 0, 1) := by decide +kernel
theorem dX4_olderThan_26 : decode cX4_olderThan 26 = .ok (.getfield 9, 3) := by decide +kernel
theorem dX4_olderThan_29 : decode cX4_olderThan 29 = .ok (.iload_n 1, 1) := by decide +kernel
theorem dX4_olderThan_30 : decode cX4_olderThan 30 = .ok (.invokestatic 36, 3) := by decide +kernel
theorem dX4_olderThan_33 : decode cX4_olderThan 33 = .ok (.if_icmp .ge 6, 3) := by decide +kernel
theorem dX4_olderThan_36 : decode cX4_olderThan 36 = .ok (.iinc 2 1, 3) := by decide +kernel
theorem dX4_olderThan_39 : decode cX4_olderThan 39 = .ok (.iinc 3 1, 3) := by decide +kernel
theorem dX4_olderThan_42 : decode cX4_olderThan 42 = .ok (.goto (-38), 3) := by decide +kernel
theorem dX4_olderThan_45 : decode cX4_olderThan 45 = .ok (.iload_n 2, 1) := by decide +kernel
theorem dX4_olderThan_46 : decode cX4_olderThan 46 = .ok (.ireturn, 1) := by decide +kernel
theorem dX4_slotToMake_0 : decode cX4_slotToMake 0 = .ok (.aload_n 0, 1) := by decide +kernel
theorem dX4_slotToMake_1 : decode cX4_slotToMake 1 = .ok (.iload_n 1, 1) := by decide +kernel
theorem dX4_slotToMake_2 : decode cX4_slotToMake 2 = .ok (.invokevirtual 48, 3) := by decide +kernel
theorem dX4_slotToMake_5 : decode cX4_slotToMake 5 = .ok (.istore_n 2, 1) := by decide +kernel
theorem dX4_slotToMake_6 : decode cX4_slotToMake 6 = .ok (.iload_n 2, 1) := by decide +kernel
theorem dX4_slotToMake_7 : decode cX4_slotToMake 7 = .ok (.ifCond .lt 5, 3) := by decide +kernel
theorem dX4_slotToMake_10 : decode cX4_slotToMake 10 = .ok (.iload_n 2, 1) := by decide +kernel
theorem dX4_slotToMake_11 : decode cX4_slotToMake 11 = .ok (.ireturn, 1) := by decide +kernel
theorem dX4_slotToMake_12 : decode cX4_slotToMake 12 = .ok (.iconst 0, 1) := by decide +kernel
theorem dX4_slotToMake_13 : decode cX4_slotToMake 13 = .ok (.istore_n 3, 1) := by decide +kernel
theorem dX4_slotToMake_14 : decode cX4_slotToMake 14 = .ok (.iconst 1, 1) := by decide +kernel
theorem dX4_slotToMake_15 : decode cX4_slotToMake 15 = .ok (.istore 4, 2) := by decide +kernel
theorem dX4_slotToMake_17 : decode cX4_slotToMake 17 = .ok (.iload 4, 2) := by decide +kernel
theorem dX4_slotToMake_19 : decode cX4_slotToMake 19 = .ok (.iconst 4, 1) := by decide +kernel
theorem dX4_slotToMake_20 : decode cX4_slotToMake 20 = .ok (.if_icmp .ge 32, 3) := by decide +kernel
theorem dX4_slotToMake_23 : decode cX4_slotToMake 23 = .ok (.aload_n 0, 1) := by decide +kernel
theorem dX4_slotToMake_24 : decode cX4_slotToMake 24 = .ok (.getfield 9, 3) := by decide +kernel
theorem dX4_slotToMake_27 : decode cX4_slotToMake 27 = .ok (.iload 4, 2) := by decide +kernel
theorem dX4_slotToMake_29 : decode cX4_slotToMake 29 = .ok (.invokestatic 36, 3) := by decide +kernel
theorem dX4_slotToMake_32 : decode cX4_slotToMake 32 = .ok (.aload_n 0, 1) := by decide +kernel
theorem dX4_slotToMake_33 : decode cX4_slotToMake 33 = .ok (.getfield 9, 3) := by decide +kernel
theorem dX4_slotToMake_36 : decode cX4_slotToMake 36 = .ok (.iload_n 3, 1) := by decide +kernel
theorem dX4_slotToMake_37 : decode cX4_slotToMake 37 = .ok (.invokestatic 36, 3) := by decide +kernel
theorem dX4_slotToMake_40 : decode cX4_slotToMake 40 = .ok (.if_icmp .ge 6, 3) := by decide +kernel
theorem dX4_slotToMake_43 : decode cX4_slotToMake 43 = .ok (.iload 4, 2) := by decide +kernel
theorem dX4_slotToMake_45 : decode cX4_slotToMake 45 = .ok (.istore_n 3, 1) := by decide +kernel
theorem dX4_slotToMake_46 : decode cX4_slotToMake 46 = .ok (.iinc 4 1, 3) := by decide +kernel
theorem dX4_slotToMake_49 : decode cX4_slotToMake 49 = .ok (.goto (-32), 3) := by decide +kernel
theorem dX4_slotToMake_52 : decode cX4_slotToMake 52 = .ok (.iload_n 3, 1) := by decide +kernel
theorem dX4_slotToMake_53 : decode cX4_slotToMake 53 = .ok (.ireturn, 1) := by decide +kernel
theorem dX4_begin_0 : decode cX4_begin 0 = .ok (.aload_n 0, 1) := by decide +kernel
theorem dX4_begin_1 : decode cX4_begin 1 = .ok (.dup, 1) := by decide +kernel
theorem dX4_begin_2 : decode cX4_begin 2 = .ok (.getfield 28, 3) := by decide +kernel
theorem dX4_begin_5 : decode cX4_begin 5 = .ok (.iconst 1, 1) := by decide +kernel
theorem dX4_begin_6 : decode cX4_begin 6 = .ok (.iadd, 1) := by decide +kernel
theorem dX4_begin_7 : decode cX4_begin 7 = .ok (.putfield 28, 3) := by decide +kernel
theorem dX4_begin_10 : decode cX4_begin 10 = .ok (.aload_n 0, 1) := by decide +kernel
theorem dX4_begin_11 : decode cX4_begin 11 = .ok (.getfield 9, 3) := by decide +kernel
theorem dX4_begin_14 : decode cX4_begin 14 = .ok (.iload_n 1, 1) := by decide +kernel
theorem dX4_begin_15 : decode cX4_begin 15 = .ok (.aload_n 0, 1) := by decide +kernel
theorem dX4_begin_16 : decode cX4_begin 16 = .ok (.getfield 28, 3) := by decide +kernel
theorem dX4_begin_19 : decode cX4_begin 19 = .ok (.invokestatic 51, 3) := by decide +kernel
theorem dX4_begin_22 : decode cX4_begin 22 = .ok (.aload_n 0, 1) := by decide +kernel
theorem dX4_begin_23 : decode cX4_begin 23 = .ok (.getfield 15, 3) := by decide +kernel
theorem dX4_begin_26 : decode cX4_begin 26 = .ok (.iload_n 1, 1) := by decide +kernel
theorem dX4_begin_27 : decode cX4_begin 27 = .ok (.iload_n 2, 1) := by decide +kernel
theorem dX4_begin_28 : decode cX4_begin 28 = .ok (.invokestatic 51, 3) := by decide +kernel
theorem dX4_begin_31 : decode cX4_begin 31 = .ok (.aload_n 0, 1) := by decide +kernel
theorem dX4_begin_32 : decode cX4_begin 32 = .ok (.getfield 18, 3) := by decide +kernel
theorem dX4_begin_35 : decode cX4_begin 35 = .ok (.iload_n 1, 1) := by decide +kernel
theorem dX4_begin_36 : decode cX4_begin 36 = .ok (.iload_n 3, 1) := by decide +kernel
theorem dX4_begin_37 : decode cX4_begin 37 = .ok (.invokestatic 51, 3) := by decide +kernel
theorem dX4_begin_40 : decode cX4_begin 40 = .ok (.return_, 1) := by decide +kernel
theorem dX4_keep_0 : decode cX4_keep 0 = .ok (.aload_n 0, 1) := by decide +kernel
theorem dX4_keep_1 : decode cX4_keep 1 = .ok (.getfield 21, 3) := by decide +kernel
theorem dX4_keep_4 : decode cX4_keep 4 = .ok (.iload_n 1, 1) := by decide +kernel
theorem dX4_keep_5 : decode cX4_keep 5 = .ok (.iload_n 2, 1) := by decide +kernel
theorem dX4_keep_6 : decode cX4_keep 6 = .ok (.invokestatic 51, 3) := by decide +kernel
theorem dX4_keep_9 : decode cX4_keep 9 = .ok (.iload_n 1, 1) := by decide +kernel
theorem dX4_keep_10 : decode cX4_keep 10 = .ok (.ifCond .lt 19, 3) := by decide +kernel
theorem dX4_keep_13 : decode cX4_keep 13 = .ok (.iload_n 1, 1) := by decide +kernel
theorem dX4_keep_14 : decode cX4_keep 14 = .ok (.aload_n 0, 1) := by decide +kernel
theorem dX4_keep_15 : decode cX4_keep 15 = .ok (.getfield 24, 3) := by decide +kernel
theorem dX4_keep_18 : decode cX4_keep 18 = .ok (.arraylength, 1) := by decide +kernel
theorem dX4_keep_19 : decode cX4_keep 19 = .ok (.if_icmp .ge 10, 3) := by decide +kernel
theorem dX4_keep_22 : decode cX4_keep 22 = .ok (.aload_n 0, 1) := by decide +kernel
theorem dX4_keep_23 : decode cX4_keep 23 = .ok (.getfield 24, 3) := by decide +kernel
theorem dX4_keep_26 : decode cX4_keep 26 = .ok (.iload_n 1, 1) := by decide +kernel
theorem dX4_keep_27 : decode cX4_keep 27 = .ok (.lload_n 3, 1) := by decide +kernel
theorem dX4_keep_28 : decode cX4_keep 28 = .ok (.lastore, 1) := by decide +kernel
theorem dX4_keep_29 : decode cX4_keep 29 = .ok (.return_, 1) := by decide +kernel
theorem dX4_litAt_0 : decode cX4_litAt 0 = .ok (.iload_n 1, 1) := by decide +kernel
theorem dX4_litAt_1 : decode cX4_litAt 1 = .ok (.ifCond .lt 21, 3) := by decide +kernel
theorem dX4_litAt_4 : decode cX4_litAt 4 = .ok (.iload_n 1, 1) := by decide +kernel
theorem dX4_litAt_5 : decode cX4_litAt 5 = .ok (.aload_n 0, 1) := by decide +kernel
theorem dX4_litAt_6 : decode cX4_litAt 6 = .ok (.getfield 24, 3) := by decide +kernel
theorem dX4_litAt_9 : decode cX4_litAt 9 = .ok (.arraylength, 1) := by decide +kernel
theorem dX4_litAt_10 : decode cX4_litAt 10 = .ok (.if_icmp .ge 12, 3) := by decide +kernel
theorem dX4_litAt_13 : decode cX4_litAt 13 = .ok (.aload_n 0, 1) := by decide +kernel
theorem dX4_litAt_14 : decode cX4_litAt 14 = .ok (.getfield 24, 3) := by decide +kernel
theorem dX4_litAt_17 : decode cX4_litAt 17 = .ok (.iload_n 1, 1) := by decide +kernel
theorem dX4_litAt_18 : decode cX4_litAt 18 = .ok (.laload, 1) := by decide +kernel
theorem dX4_litAt_19 : decode cX4_litAt 19 = .ok (.goto 4, 3) := by decide +kernel
theorem dX4_litAt_22 : decode cX4_litAt 22 = .ok (.lconst 0, 1) := by decide +kernel
theorem dX4_litAt_23 : decode cX4_litAt 23 = .ok (.lreturn, 1) := by decide +kernel
theorem dX4_litTogether_0 : decode cX4_litTogether 0 = .ok (.iconst 0, 1) := by decide +kernel
theorem dX4_litTogether_1 : decode cX4_litTogether 1 = .ok (.istore_n 2, 1) := by decide +kernel
theorem dX4_litTogether_2 : decode cX4_litTogether 2 = .ok (.iconst 0, 1) := by decide +kernel
theorem dX4_litTogether_3 : decode cX4_litTogether 3 = .ok (.istore_n 3, 1) := by decide +kernel
theorem dX4_litTogether_4 : decode cX4_litTogether 4 = .ok (.iload_n 3, 1) := by decide +kernel
theorem dX4_litTogether_5 : decode cX4_litTogether 5 = .ok (.aload_n 0, 1) := by decide +kernel
theorem dX4_litTogether_6 : decode cX4_litTogether 6 = .ok (.getfield 18, 3) := by decide +kernel
theorem dX4_litTogether_9 : decode cX4_litTogether 9 = .ok (.iload_n 1, 1) := by decide +kernel
theorem dX4_litTogether_10 : decode cX4_litTogether 10 = .ok (.invokestatic 36, 3) := by decide +kernel
theorem dX4_litTogether_13 : decode cX4_litTogether 13 = .ok (.if_icmp .ge 25, 3) := by decide +kernel
theorem dX4_litTogether_16 : decode cX4_litTogether 16 = .ok (.iload_n 2, 1) := by decide +kernel
theorem dX4_litTogether_17 : decode cX4_litTogether 17 = .ok (.aload_n 0, 1) := by decide +kernel
theorem dX4_litTogether_18 : decode cX4_litTogether 18 = .ok (.iload_n 1, 1) := by decide +kernel
theorem dX4_litTogether_19 : decode cX4_litTogether 19 = .ok (.bipush 8, 2) := by decide +kernel
theorem dX4_litTogether_21 : decode cX4_litTogether 21 = .ok (.imul, 1) := by decide +kernel
theorem dX4_litTogether_22 : decode cX4_litTogether 22 = .ok (.iload_n 3, 1) := by decide +kernel
theorem dX4_litTogether_23 : decode cX4_litTogether 23 = .ok (.iadd, 1) := by decide +kernel
theorem dX4_litTogether_24 : decode cX4_litTogether 24 = .ok (.invokevirtual 55, 3) := by decide +kernel
theorem dX4_litTogether_27 : decode cX4_litTogether 27 = .ok (.invokestatic 59, 3) := by decide +kernel
theorem dX4_litTogether_30 : decode cX4_litTogether 30 = .ok (.iadd, 1) := by decide +kernel
theorem dX4_litTogether_31 : decode cX4_litTogether 31 = .ok (.istore_n 2, 1) := by decide +kernel
theorem dX4_litTogether_32 : decode cX4_litTogether 32 = .ok (.iinc 3 1, 3) := by decide +kernel
theorem dX4_litTogether_35 : decode cX4_litTogether 35 = .ok (.goto (-31), 3) := by decide +kernel
theorem dX4_litTogether_38 : decode cX4_litTogether 38 = .ok (.iload_n 2, 1) := by decide +kernel
theorem dX4_litTogether_39 : decode cX4_litTogether 39 = .ok (.ireturn, 1) := by decide +kernel
theorem dX5_init_0 : decode cX5_init 0 = .ok (.aload_n 0, 1) := by decide +kernel
theorem dX5_init_1 : decode cX5_init 1 = .ok (.invokespecial 1, 3) := by decide +kernel
theorem dX5_init_4 : decode cX5_init 4 = .ok (.aload_n 0, 1) := by decide +kernel
theorem dX5_init_5 : decode cX5_init 5 = .ok (.new 7, 3) := by decide +kernel
theorem dX5_init_8 : decode cX5_init 8 = .ok (.dup, 1) := by decide +kernel
theorem dX5_init_9 : decode cX5_init 9 = .ok (.invokespecial 9, 3) := by decide +kernel
theorem dX5_init_12 : decode cX5_init 12 = .ok (.putfield 10, 3) := by decide +kernel
theorem dX5_init_15 : decode cX5_init 15 = .ok (.aload_n 0, 1) := by decide +kernel
theorem dX5_init_16 : decode cX5_init 16 = .ok (.new 7, 3) := by decide +kernel
theorem dX5_init_19 : decode cX5_init 19 = .ok (.dup, 1) := by decide +kernel
theorem dX5_init_20 : decode cX5_init 20 = .ok (.invokespecial 9, 3) := by decide +kernel
theorem dX5_init_23 : decode cX5_init 23 = .ok (.putfield 16, 3) := by decide +kernel
theorem dX5_init_26 : decode cX5_init 26 = .ok (.aload_n 0, 1) := by decide +kernel
theorem dX5_init_27 : decode cX5_init 27 = .ok (.new 19, 3) := by decide +kernel
theorem dX5_init_30 : decode cX5_init 30 = .ok (.dup, 1) := by decide +kernel
theorem dX5_init_31 : decode cX5_init 31 = .ok (.invokespecial 21, 3) := by decide +kernel
theorem dX5_init_34 : decode cX5_init 34 = .ok (.putfield 22, 3) := by decide +kernel
theorem dX5_init_37 : decode cX5_init 37 = .ok (.aload_n 0, 1) := by decide +kernel
theorem dX5_init_38 : decode cX5_init 38 = .ok (.new 26, 3) := by decide +kernel
theorem dX5_init_41 : decode cX5_init 41 = .ok (.dup, 1) := by decide +kernel
theorem dX5_init_42 : decode cX5_init 42 = .ok (.invokespecial 28, 3) := by decide +kernel
theorem dX5_init_45 : decode cX5_init 45 = .ok (.putfield 29, 3) := by decide +kernel
theorem dX5_init_48 : decode cX5_init 48 = .ok (.aload_n 0, 1) := by decide +kernel
theorem dX5_init_49 : decode cX5_init 49 = .ok (.new 33, 3) := by decide +kernel
theorem dX5_init_52 : decode cX5_init 52 = .ok (.dup, 1) := by decide +kernel
theorem dX5_init_53 : decode cX5_init 53 = .ok (.invokespecial 35, 3) := by decide +kernel
theorem dX5_init_56 : decode cX5_init 56 = .ok (.putfield 36, 3) := by decide +kernel
theorem dX5_init_59 : decode cX5_init 59 = .ok (.return_, 1) := by decide +kernel
theorem dX5_glyph_0 : decode cX5_glyph 0 = .ok (.aload_n 0, 1) := by decide +kernel
theorem dX5_glyph_1 : decode cX5_glyph 1 = .ok (.getfield 36, 3) := by decide +kernel
theorem dX5_glyph_4 : decode cX5_glyph 4 = .ok (.aload_n 0, 1) := by decide +kernel
theorem dX5_glyph_5 : decode cX5_glyph 5 = .ok (.getfield 10, 3) := by decide +kernel
theorem dX5_glyph_8 : decode cX5_glyph 8 = .ok (.invokevirtual 40, 3) := by decide +kernel
theorem dX5_glyph_11 : decode cX5_glyph 11 = .ok (.aload_n 0, 1) := by decide +kernel
theorem dX5_glyph_12 : decode cX5_glyph 12 = .ok (.aload_n 0, 1) := by decide +kernel
theorem dX5_glyph_13 : decode cX5_glyph 13 = .ok (.getfield 10, 3) := by decide +kernel
theorem dX5_glyph_16 : decode cX5_glyph 16 = .ok (.iload_n 1, 1) := by decide +kernel
theorem dX5_glyph_17 : decode cX5_glyph 17 = .ok (.invokevirtual 44, 3) := by decide +kernel
theorem dX5_glyph_20 : decode cX5_glyph 20 = .ok (.invokevirtual 48, 3) := by decide +kernel
theorem dX5_glyph_23 : decode cX5_glyph 23 = .ok (.ireturn, 1) := by decide +kernel
theorem dX5_stem_0 : decode cX5_stem 0 = .ok (.aload_n 0, 1) := by decide +kernel
theorem dX5_stem_1 : decode cX5_stem 1 = .ok (.getfield 36, 3) := by decide +kernel
theorem dX5_stem_4 : decode cX5_stem 4 = .ok (.aload_n 0, 1) := by decide +kernel
theorem dX5_stem_5 : decode cX5_stem 5 = .ok (.getfield 10, 3) := by decide +kernel
theorem dX5_stem_8 : decode cX5_stem 8 = .ok (.invokevirtual 40, 3) := by decide +kernel
theorem dX5_stem_11 : decode cX5_stem 11 = .ok (.aload_n 0, 1) := by decide +kernel
theorem dX5_stem_12 : decode cX5_stem 12 = .ok (.aload_n 0, 1) := by decide +kernel
theorem dX5_stem_13 : decode cX5_stem 13 = .ok (.getfield 10, 3) := by decide +kernel
theorem dX5_stem_16 : decode cX5_stem 16 = .ok (.iload_n 1, 1) := by decide +kernel
theorem dX5_stem_17 : decode cX5_stem 17 = .ok (.iload_n 2, 1) := by decide +kernel
theorem dX5_stem_18 : decode cX5_stem 18 = .ok (.iload_n 3, 1) := by decide +kernel
theorem dX5_stem_19 : decode cX5_stem 19 = .ok (.invokevirtual 51, 3) := by decide +kernel
theorem dX5_stem_22 : decode cX5_stem 22 = .ok (.invokevirtual 48, 3) := by decide +kernel
theorem dX5_stem_25 : decode cX5_stem 25 = .ok (.ireturn, 1) := by decide +kernel
theorem dX5_cut_0 : decode cX5_cut 0 = .ok (.aload_n 0, 1) := by decide +kernel
theorem dX5_cut_1 : decode cX5_cut 1 = .ok (.getfield 36, 3) := by decide +kernel
theorem dX5_cut_4 : decode cX5_cut 4 = .ok (.aload_n 0, 1) := by decide +kernel
theorem dX5_cut_5 : decode cX5_cut 5 = .ok (.getfield 10, 3) := by decide +kernel
theorem dX5_cut_8 : decode cX5_cut 8 = .ok (.invokevirtual 40, 3) := by decide +kernel
theorem dX5_cut_11 : decode cX5_cut 11 = .ok (.aload_n 0, 1) := by decide +kernel
theorem dX5_cut_12 : decode cX5_cut 12 = .ok (.aload_n 0, 1) := by decide +kernel
theorem dX5_cut_13 : decode cX5_cut 13 = .ok (.getfield 10, 3) := by decide +kernel
theorem dX5_cut_16 : decode cX5_cut 16 = .ok (.iload_n 1, 1) := by decide +kernel
theorem dX5_cut_17 : decode cX5_cut 17 = .ok (.iload_n 2, 1) := by decide +kernel
theorem dX5_cut_18 : decode cX5_cut 18 = .ok (.invokevirtual 55, 3) := by decide +kernel
theorem dX5_cut_21 : decode cX5_cut 21 = .ok (.invokevirtual 48, 3) := by decide +kernel
theorem dX5_cut_24 : decode cX5_cut 24 = .ok (.ireturn, 1) := by decide +kernel
theorem dX5_hint_0 : decode cX5_hint 0 = .ok (.aload_n 0, 1) := by decide +kernel
theorem dX5_hint_1 : decode cX5_hint 1 = .ok (.getfield 36, 3) := by decide +kernel
theorem dX5_hint_4 : decode cX5_hint 4 = .ok (.aload_n 0, 1) := by decide +kernel
theorem dX5_hint_5 : decode cX5_hint 5 = .ok (.getfield 10, 3) := by decide +kernel
theorem dX5_hint_8 : decode cX5_hint 8 = .ok (.invokevirtual 40, 3) := by decide +kernel
theorem dX5_hint_11 : decode cX5_hint 11 = .ok (.aload_n 0, 1) := by decide +kernel
theorem dX5_hint_12 : decode cX5_hint 12 = .ok (.aload_n 0, 1) := by decide +kernel
theorem dX5_hint_13 : decode cX5_hint 13 = .ok (.getfield 10, 3) := by decide +kernel
theorem dX5_hint_16 : decode cX5_hint 16 = .ok (.iload_n 1, 1) := by decide +kernel
theorem dX5_hint_17 : decode cX5_hint 17 = .ok (.iload_n 2, 1) := by decide +kernel
theorem dX5_hint_18 : decode cX5_hint 18 = .ok (.iload_n 3, 1) := by decide +kernel
theorem dX5_hint_19 : decode cX5_hint 19 = .ok (.invokevirtual 59, 3) := by decide +kernel
theorem dX5_hint_22 : decode cX5_hint 22 = .ok (.invokevirtual 48, 3) := by decide +kernel
theorem dX5_hint_25 : decode cX5_hint 25 = .ok (.ireturn, 1) := by decide +kernel
theorem dX5_standard_0 : decode cX5_standard 0 = .ok (.aload_n 0, 1) := by decide +kernel
theorem dX5_standard_1 : decode cX5_standard 1 = .ok (.getfield 36, 3) := by decide +kernel
theorem dX5_standard_4 : decode cX5_standard 4 = .ok (.aload_n 0, 1) := by decide +kernel
theorem dX5_standard_5 : decode cX5_standard 5 = .ok (.getfield 10, 3) := by decide +kernel
theorem dX5_standard_8 : decode cX5_standard 8 = .ok (.invokevirtual 40, 3) := by decide +kernel
theorem dX5_standard_11 : decode cX5_standard 11 = .ok (.aload_n 0, 1) := by decide +kernel
theorem dX5_standard_12 : decode cX5_standard 12 = .ok (.aload_n 0, 1) := by decide +kernel
theorem dX5_standard_13 : decode cX5_standard 13 = .ok (.getfield 10, 3) := by decide +kernel
theorem dX5_standard_16 : decode cX5_standard 16 = .ok (.iload_n 1, 1) := by decide +kernel
theorem dX5_standard_17 : decode cX5_standard 17 = .ok (.invokevirtual 62, 3) := by decide +kernel
theorem dX5_standard_20 : decode cX5_standard 20 = .ok (.invokevirtual 48, 3) := by decide +kernel
theorem dX5_standard_23 : decode cX5_standard 23 = .ok (.ireturn, 1) := by decide +kernel
theorem dX5_drop_0 : decode cX5_drop 0 = .ok (.aload_n 0, 1) := by decide +kernel
theorem dX5_drop_1 : decode cX5_drop 1 = .ok (.getfield 36, 3) := by decide +kernel
theorem dX5_drop_4 : decode cX5_drop 4 = .ok (.aload_n 0, 1) := by decide +kernel
theorem dX5_drop_5 : decode cX5_drop 5 = .ok (.getfield 10, 3) := by decide +kernel
theorem dX5_drop_8 : decode cX5_drop 8 = .ok (.invokevirtual 40, 3) := by decide +kernel
theorem dX5_drop_11 : decode cX5_drop 11 = .ok (.aload_n 0, 1) := by decide +kernel
theorem dX5_drop_12 : decode cX5_drop 12 = .ok (.aload_n 0, 1) := by decide +kernel
theorem dX5_drop_13 : decode cX5_drop 13 = .ok (.getfield 10, 3) := by decide +kernel
theorem dX5_drop_16 : decode cX5_drop 16 = .ok (.iload_n 1, 1) := by decide +kernel
theorem dX5_drop_17 : decode cX5_drop 17 = .ok (.invokevirtual 65, 3) := by decide +kernel
theorem dX5_drop_20 : decode cX5_drop 20 = .ok (.invokevirtual 48, 3) := by decide +kernel
theorem dX5_drop_23 : decode cX5_drop 23 = .ok (.ireturn, 1) := by decide +kernel
theorem dX5_make_0 : decode cX5_make 0 = .ok (.aload_n 0, 1) := by decide +kernel
theorem dX5_make_1 : decode cX5_make 1 = .ok (.getfield 36, 3) := by decide +kernel
theorem dX5_make_4 : decode cX5_make 4 = .ok (.aload_n 0, 1) := by decide +kernel
theorem dX5_make_5 : decode cX5_make 5 = .ok (.getfield 10, 3) := by decide +kernel
theorem dX5_make_8 : decode cX5_make 8 = .ok (.invokevirtual 40, 3) := by decide +kernel
theorem dX5_make_11 : decode cX5_make 11 = .ok (.aload_n 0, 1) := by decide +kernel
theorem dX5_make_12 : decode cX5_make 12 = .ok (.aload_n 0, 1) := by decide +kernel
theorem dX5_make_13 : decode cX5_make 13 = .ok (.getfield 10, 3) := by decide +kernel
theorem dX5_make_16 : decode cX5_make 16 = .ok (.iload_n 1, 1) := by decide +kernel
theorem dX5_make_17 : decode cX5_make 17 = .ok (.aload_n 0, 1) := by decide +kernel
theorem dX5_make_18 : decode cX5_make 18 = .ok (.getfield 22, 3) := by decide +kernel
theorem dX5_make_21 : decode cX5_make 21 = .ok (.invokevirtual 68, 3) := by decide +kernel
theorem dX5_make_24 : decode cX5_make 24 = .ok (.invokevirtual 48, 3) := by decide +kernel
theorem dX5_make_27 : decode cX5_make 27 = .ok (.ireturn, 1) := by decide +kernel
theorem dX5_set_0 : decode cX5_set 0 = .ok (.aload_n 0, 1) := by decide +kernel
theorem dX5_set_1 : decode cX5_set 1 = .ok (.getfield 36, 3) := by decide +kernel
theorem dX5_set_4 : decode cX5_set 4 = .ok (.aload_n 0, 1) := by decide +kernel
theorem dX5_set_5 : decode cX5_set 5 = .ok (.getfield 10, 3) := by decide +kernel
theorem dX5_set_8 : decode cX5_set 8 = .ok (.invokevirtual 40, 3) := by decide +kernel
theorem dX5_set_11 : decode cX5_set 11 = .ok (.aload_n 0, 1) := by decide +kernel
theorem dX5_set_12 : decode cX5_set 12 = .ok (.aload_n 0, 1) := by decide +kernel
theorem dX5_set_13 : decode cX5_set 13 = .ok (.getfield 10, 3) := by decide +kernel
theorem dX5_set_16 : decode cX5_set 16 = .ok (.iload_n 1, 1) := by decide +kernel
theorem dX5_set_17 : decode cX5_set 17 = .ok (.iload_n 2, 1) := by decide +kernel
theorem dX5_set_18 : decode cX5_set 18 = .ok (.invokevirtual 72, 3) := by decide +kernel
theorem dX5_set_21 : decode cX5_set 21 = .ok (.invokevirtual 48, 3) := by decide +kernel
theorem dX5_set_24 : decode cX5_set 24 = .ok (.ireturn, 1) := by decide +kernel
theorem dX5_stemOf_0 : decode cX5_stemOf 0 = .ok (.aload_n 0, 1) := by decide +kernel
theorem dX5_stemOf_1 : decode cX5_stemOf 1 = .ok (.getfield 10, 3) := by decide +kernel
theorem dX5_stemOf_4 : decode cX5_stemOf 4 = .ok (.iload_n 1, 1) := by decide +kernel
theorem dX5_stemOf_5 : decode cX5_stemOf 5 = .ok (.iload_n 2, 1) := by decide +kernel
theorem dX5_stemOf_6 : decode cX5_stemOf 6 = .ok (.invokevirtual 75, 3) := by decide +kernel
theorem dX5_stemOf_9 : decode cX5_stemOf 9 = .ok (.ifCond .eq 13, 3) := by decide +kernel
theorem dX5_stemOf_12 : decode cX5_stemOf 12 = .ok (.iload_n 3, 1) := by decide +kernel
theorem dX5_stemOf_13 : decode cX5_stemOf 13 = .ok (.iconst 0, 1) := by decide +kernel
theorem dX5_stemOf_14 : decode cX5_stemOf 14 = .ok (.bipush 6, 2) := by decide +kernel
theorem dX5_stemOf_16 : decode cX5_stemOf 16 = .ok (.invokestatic 79, 3) := by decide +kernel
theorem dX5_stemOf_19 : decode cX5_stemOf 19 = .ok (.ifCond .ne 6, 3) := by decide +kernel
theorem dX5_stemOf_22 : decode cX5_stemOf 22 = .ok (.ldc 83, 2) := by decide +kernel
theorem dX5_stemOf_24 : decode cX5_stemOf 24 = .ok (.ireturn, 1) := by decide +kernel
theorem dX5_stemOf_25 : decode cX5_stemOf 25 = .ok (.iload_n 1, 1) := by decide +kernel
theorem dX5_stemOf_26 : decode cX5_stemOf 26 = .ok (.bipush 6, 2) := by decide +kernel
theorem dX5_stemOf_28 : decode cX5_stemOf 28 = .ok (.imul, 1) := by decide +kernel
theorem dX5_stemOf_29 : decode cX5_stemOf 29 = .ok (.iload_n 2, 1) := by decide +kernel
theorem dX5_stemOf_30 : decode cX5_stemOf 30 = .ok (.iadd, 1) := by decide +kernel
theorem dX5_stemOf_31 : decode cX5_stemOf 31 = .ok (.istore 4, 2) := by decide +kernel
theorem dX5_stemOf_33 : decode cX5_stemOf 33 = .ok (.aload_n 0, 1) := by decide +kernel
theorem dX5_stemOf_34 : decode cX5_stemOf 34 = .ok (.getfield 10, 3) := by decide +kernel
theorem dX5_stemOf_37 : decode cX5_stemOf 37 = .ok (.getfield 84, 3) := by decide +kernel
theorem dX5_stemOf_40 : decode cX5_stemOf 40 = .ok (.iload 4, 2) := by decide +kernel
theorem dX5_stemOf_42 : decode cX5_stemOf 42 = .ok (.invokestatic 88, 3) := by decide +kernel
theorem dX5_stemOf_45 : decode cX5_stemOf 45 = .ok (.istore 5, 2) := by decide +kernel
theorem dX5_stemOf_47 : decode cX5_stemOf 47 = .ok (.iload_n 3, 1) := by decide +kernel
theorem dX5_stemOf_48 : decode cX5_stemOf 48 = .ok (.tableswitch 113 0 5 #[40, 53, 56, 69, 79, 103], 40) := by decide +kernel
theorem dX5_stemOf_88 : decode cX5_stemOf 88 = .ok (.aload_n 0, 1) := by decide +kernel
theorem dX5_stemOf_89 : decode cX5_stemOf 89 = .ok (.getfield 10, 3) := by decide +kernel
theorem dX5_stemOf_92 : decode cX5_stemOf 92 = .ok (.getfield 92, 3) := by decide +kernel
theorem dX5_stemOf_95 : decode cX5_stemOf 95 = .ok (.iload 4, 2) := by decide +kernel
theorem dX5_stemOf_97 : decode cX5_stemOf 97 = .ok (.invokestatic 88, 3) := by decide +kernel
theorem dX5_stemOf_100 : decode cX5_stemOf 100 = .ok (.ireturn, 1) := by decide +kernel
theorem dX5_stemOf_101 : decode cX5_stemOf 101 = .ok (.iload 5, 2) := by decide +kernel
theorem dX5_stemOf_103 : decode cX5_stemOf 103 = .ok (.ireturn, 1) := by decide +kernel
theorem dX5_stemOf_104 : decode cX5_stemOf 104 = .ok (.aload_n 0, 1) := by decide +kernel
theorem dX5_stemOf_105 : decode cX5_stemOf 105 = .ok (.getfield 10, 3) := by decide +kernel
theorem dX5_stemOf_108 : decode cX5_stemOf 108 = .ok (.getfield 95, 3) := by decide +kernel
theorem dX5_stemOf_111 : decode cX5_stemOf 111 = .ok (.iload 4, 2) := by decide +kernel
theorem dX5_stemOf_113 : decode cX5_stemOf 113 = .ok (.invokestatic 88, 3) := by decide +kernel
theorem dX5_stemOf_116 : decode cX5_stemOf 116 = .ok (.ireturn, 1) := by decide +kernel
theorem dX5_stemOf_117 : decode cX5_stemOf 117 = .ok (.aload_n 0, 1) := by decide +kernel
theorem dX5_stemOf_118 : decode cX5_stemOf 118 = .ok (.getfield 10, 3) := by decide +kernel
theorem dX5_stemOf_121 : decode cX5_stemOf 121 = .ok (.iload 5, 2) := by decide +kernel
theorem dX5_stemOf_123 : decode cX5_stemOf 123 = .ok (.invokevirtual 98, 3) := by decide +kernel
theorem dX5_stemOf_126 : decode cX5_stemOf 126 = .ok (.ireturn, 1) := by decide +kernel
theorem dX5_stemOf_127 : decode cX5_stemOf 127 = .ok (.aload_n 0, 1) := by decide +kernel
theorem dX5_stemOf_128 : decode cX5_stemOf 128 = .ok (.getfield 10, 3) := by decide +kernel
theorem dX5_stemOf_131 : decode cX5_stemOf 131 = .ok (.iload 5, 2) := by decide +kernel
theorem dX5_stemOf_133 : decode cX5_stemOf 133 = .ok (.invokevirtual 101, 3) := by decide +kernel
theorem dX5_stemOf_136 : decode cX5_stemOf 136 = .ok (.istore 6, 2) := by decide +kernel
theorem dX5_stemOf_138 : decode cX5_stemOf 138 = .ok (.iload 6, 2) := by decide +kernel
theorem dX5_stemOf_140 : decode cX5_stemOf 140 = .ok (.ifCond .ne 8, 3) := by decide +kernel
theorem dX5_stemOf_143 : decode cX5_stemOf 143 = .ok (.ldc 104, 2) := by decide +kernel
theorem dX5_stemOf_145 : decode cX5_stemOf 145 = .ok (.goto 5, 3) := by decide +kernel
theorem dX5_stemOf_148 : decode cX5_stemOf 148 = .ok (.iload 6, 2) := by decide +kernel
theorem dX5_stemOf_150 : decode cX5_stemOf 150 = .ok (.ireturn, 1) := by decide +kernel
theorem dX5_stemOf_151 : decode cX5_stemOf 151 = .ok (.aload_n 0, 1) := by decide +kernel
theorem dX5_stemOf_152 : decode cX5_stemOf 152 = .ok (.getfield 10, 3) := by decide +kernel
theorem dX5_stemOf_155 : decode cX5_stemOf 155 = .ok (.iload 5, 2) := by decide +kernel
theorem dX5_stemOf_157 : decode cX5_stemOf 157 = .ok (.invokevirtual 105, 3) := by decide +kernel
theorem dX5_stemOf_160 : decode cX5_stemOf 160 = .ok (.ireturn, 1) := by decide +kernel
theorem dX5_stemOf_161 : decode cX5_stemOf 161 = .ok (.iload_n 2, 1) := by decide +kernel
theorem dX5_stemOf_162 : decode cX5_stemOf 162 = .ok (.ifCond .ne 8, 3) := by decide +kernel
theorem dX5_stemOf_165 : decode cX5_stemOf 165 = .ok (.ldc 104, 2) := by decide +kernel
theorem dX5_stemOf_167 : decode cX5_stemOf 167 = .ok (.goto 27, 3) := by decide +kernel
theorem dX5_stemOf_170 : decode cX5_stemOf 170 = .ok (.aload_n 0, 1) := by decide +kernel
theorem dX5_stemOf_171 : decode cX5_stemOf 171 = .ok (.getfield 10, 3) := by decide +kernel
theorem dX5_stemOf_174 : decode cX5_stemOf 174 = .ok (.getfield 92, 3) := by decide +kernel
theorem dX5_stemOf_177 : decode cX5_stemOf 177 = .ok (.iload 4, 2) := by decide +kernel
theorem dX5_stemOf_179 : decode cX5_stemOf 179 = .ok (.invokestatic 88, 3) := by decide +kernel
theorem dX5_stemOf_182 : decode cX5_stemOf 182 = .ok (.aload_n 0, 1) := by decide +kernel
theorem dX5_stemOf_183 : decode cX5_stemOf 183 = .ok (.getfield 10, 3) := by decide +kernel
theorem dX5_stemOf_186 : decode cX5_stemOf 186 = .ok (.iload 4, 2) := by decide +kernel
theorem dX5_stemOf_188 : decode cX5_stemOf 188 = .ok (.iconst 1, 1) := by decide +kernel
theorem dX5_stemOf_189 : decode cX5_stemOf 189 = .ok (.isub, 1) := by decide +kernel
theorem dX5_stemOf_190 : decode cX5_stemOf 190 = .ok (.invokevirtual 108, 3) := by decide +kernel
theorem dX5_stemOf_193 : decode cX5_stemOf 193 = .ok (.isub, 1) := by decide +kernel
theorem dX5_stemOf_194 : decode cX5_stemOf 194 = .ok (.ireturn, 1) := by decide +kernel
theorem dX5_pixels_0 : decode cX5_pixels 0 = .ok (.aload_n 0, 1) := by decide +kernel
theorem dX5_pixels_1 : decode cX5_pixels 1 = .ok (.getfield 10, 3) := by decide +kernel
theorem dX5_pixels_4 : decode cX5_pixels 4 = .ok (.iload_n 1, 1) := by decide +kernel
theorem dX5_pixels_5 : decode cX5_pixels 5 = .ok (.iload_n 2, 1) := by decide +kernel
theorem dX5_pixels_6 : decode cX5_pixels 6 = .ok (.invokevirtual 75, 3) := by decide +kernel
theorem dX5_pixels_9 : decode cX5_pixels 9 = .ok (.ifCond .eq 20, 3) := by decide +kernel
theorem dX5_pixels_12 : decode cX5_pixels 12 = .ok (.iload_n 3, 1) := by decide +kernel
theorem dX5_pixels_13 : decode cX5_pixels 13 = .ok (.invokestatic 111, 3) := by decide +kernel
theorem dX5_pixels_16 : decode cX5_pixels 16 = .ok (.ifCond .eq 13, 3) := by decide +kernel
theorem dX5_pixels_19 : decode cX5_pixels 19 = .ok (.iload 4, 2) := by decide +kernel
theorem dX5_pixels_21 : decode cX5_pixels 21 = .ok (.iconst 0, 1) := by decide +kernel
theorem dX5_pixels_22 : decode cX5_pixels 22 = .ok (.iconst 3, 1) := by decide +kernel
theorem dX5_pixels_23 : decode cX5_pixels 23 = .ok (.invokestatic 79, 3) := by decide +kernel
theorem dX5_pixels_26 : decode cX5_pixels 26 = .ok (.ifCond .ne 6, 3) := by decide +kernel
theorem dX5_pixels_29 : decode cX5_pixels 29 = .ok (.ldc 83, 2) := by decide +kernel
theorem dX5_pixels_31 : decode cX5_pixels 31 = .ok (.ireturn, 1) := by decide +kernel
theorem dX5_pixels_32 : decode cX5_pixels 32 = .ok (.aload_n 0, 1) := by decide +kernel
theorem dX5_pixels_33 : decode cX5_pixels 33 = .ok (.getfield 22, 3) := by decide +kernel
theorem dX5_pixels_36 : decode cX5_pixels 36 = .ok (.aload_n 0, 1) := by decide +kernel
theorem dX5_pixels_37 : decode cX5_pixels 37 = .ok (.getfield 10, 3) := by decide +kernel
theorem dX5_pixels_40 : decode cX5_pixels 40 = .ok (.iload_n 1, 1) := by decide +kernel
theorem dX5_pixels_41 : decode cX5_pixels 41 = .ok (.iload_n 3, 1) := by decide +kernel
theorem dX5_pixels_42 : decode cX5_pixels 42 = .ok (.invokevirtual 115, 3) := by decide +kernel
theorem dX5_pixels_45 : decode cX5_pixels 45 = .ok (.iload 4, 2) := by decide +kernel
theorem dX5_pixels_47 : decode cX5_pixels 47 = .ok (.tableswitch 61 0 2 #[25, 37, 49], 25) := by decide +kernel
theorem dX5_pixels_72 : decode cX5_pixels 72 = .ok (.aload_n 0, 1) := by decide +kernel
theorem dX5_pixels_73 : decode cX5_pixels 73 = .ok (.getfield 22, 3) := by decide +kernel
theorem dX5_pixels_76 : decode cX5_pixels 76 = .ok (.getfield 119, 3) := by decide +kernel
theorem dX5_pixels_79 : decode cX5_pixels 79 = .ok (.iload_n 2, 1) := by decide +kernel
theorem dX5_pixels_80 : decode cX5_pixels 80 = .ok (.invokestatic 88, 3) := by decide +kernel
theorem dX5_pixels_83 : decode cX5_pixels 83 = .ok (.ireturn, 1) := by decide +kernel
theorem dX5_pixels_84 : decode cX5_pixels 84 = .ok (.aload_n 0, 1) := by decide +kernel
theorem dX5_pixels_85 : decode cX5_pixels 85 = .ok (.getfield 22, 3) := by decide +kernel
theorem dX5_pixels_88 : decode cX5_pixels 88 = .ok (.getfield 122, 3) := by decide +kernel
theorem dX5_pixels_91 : decode cX5_pixels 91 = .ok (.iload_n 2, 1) := by decide +kernel
theorem dX5_pixels_92 : decode cX5_pixels 92 = .ok (.invokestatic 88, 3) := by decide +kernel
theorem dX5_pixels_95 : decode cX5_pixels 95 = .ok (.ireturn, 1) := by decide +kernel
theorem dX5_pixels_96 : decode cX5_pixels 96 = .ok (.aload_n 0, 1) := by decide +kernel
theorem dX5_pixels_97 : decode cX5_pixels 97 = .ok (.getfield 22, 3) := by decide +kernel
theorem dX5_pixels_100 : decode cX5_pixels 100 = .ok (.getfield 125, 3) := by decide +kernel
theorem dX5_pixels_103 : decode cX5_pixels 103 = .ok (.iload_n 2, 1) := by decide +kernel
theorem dX5_pixels_104 : decode cX5_pixels 104 = .ok (.ishr, 1) := by decide +kernel
theorem dX5_pixels_105 : decode cX5_pixels 105 = .ok (.iconst 1, 1) := by decide +kernel
theorem dX5_pixels_106 : decode cX5_pixels 106 = .ok (.iand, 1) := by decide +kernel
theorem dX5_pixels_107 : decode cX5_pixels 107 = .ok (.ireturn, 1) := by decide +kernel
theorem dX5_pixels_108 : decode cX5_pixels 108 = .ok (.aload_n 0, 1) := by decide +kernel
theorem dX5_pixels_109 : decode cX5_pixels 109 = .ok (.getfield 22, 3) := by decide +kernel
theorem dX5_pixels_112 : decode cX5_pixels 112 = .ok (.getfield 129, 3) := by decide +kernel
theorem dX5_pixels_115 : decode cX5_pixels 115 = .ok (.iload_n 2, 1) := by decide +kernel
theorem dX5_pixels_116 : decode cX5_pixels 116 = .ok (.ishr, 1) := by decide +kernel
theorem dX5_pixels_117 : decode cX5_pixels 117 = .ok (.iconst 1, 1) := by decide +kernel
theorem dX5_pixels_118 : decode cX5_pixels 118 = .ok (.iand, 1) := by decide +kernel
theorem dX5_pixels_119 : decode cX5_pixels 119 = .ok (.ireturn, 1) := by decide +kernel
theorem dX5_glyphOf_0 : decode cX5_glyphOf 0 = .ok (.aload_n 0, 1) := by decide +kernel
theorem dX5_glyphOf_1 : decode cX5_glyphOf 1 = .ok (.getfield 10, 3) := by decide +kernel
theorem dX5_glyphOf_4 : decode cX5_glyphOf 4 = .ok (.iload_n 1, 1) := by decide +kernel
theorem dX5_glyphOf_5 : decode cX5_glyphOf 5 = .ok (.invokevirtual 132, 3) := by decide +kernel
theorem dX5_glyphOf_8 : decode cX5_glyphOf 8 = .ok (.ifCond .eq 19, 3) := by decide +kernel
theorem dX5_glyphOf_11 : decode cX5_glyphOf 11 = .ok (.iload_n 2, 1) := by decide +kernel
theorem dX5_glyphOf_12 : decode cX5_glyphOf 12 = .ok (.invokestatic 111, 3) := by decide +kernel
theorem dX5_glyphOf_15 : decode cX5_glyphOf 15 = .ok (.ifCond .eq 12, 3) := by decide +kernel
theorem dX5_glyphOf_18 : decode cX5_glyphOf 18 = .ok (.iload_n 3, 1) := by decide +kernel
theorem dX5_glyphOf_19 : decode cX5_glyphOf 19 = .ok (.iconst 0, 1) := by decide +kernel
theorem dX5_glyphOf_20 : decode cX5_glyphOf 20 = .ok (.iconst 5, 1) := by decide +kernel
theorem dX5_glyphOf_21 : decode cX5_glyphOf 21 = .ok (.invokestatic 79, 3) := by decide +kernel
theorem dX5_glyphOf_24 : decode cX5_glyphOf 24 = .ok (.ifCond .ne 6, 3) := by decide +kernel
theorem dX5_glyphOf_27 : decode cX5_glyphOf 27 = .ok (.ldc 83, 2) := by decide +kernel
theorem dX5_glyphOf_29 : decode cX5_glyphOf 29 = .ok (.ireturn, 1) := by decide +kernel
theorem dX5_glyphOf_30 : decode cX5_glyphOf 30 = .ok (.aload_n 0, 1) := by decide +kernel
theorem dX5_glyphOf_31 : decode cX5_glyphOf 31 = .ok (.getfield 22, 3) := by decide +kernel
theorem dX5_glyphOf_34 : decode cX5_glyphOf 34 = .ok (.aload_n 0, 1) := by decide +kernel
theorem dX5_glyphOf_35 : decode cX5_glyphOf 35 = .ok (.getfield 10, 3) := by decide +kernel
theorem dX5_glyphOf_38 : decode cX5_glyphOf 38 = .ok (.iload_n 1, 1) := by decide +kernel
theorem dX5_glyphOf_39 : decode cX5_glyphOf 39 = .ok (.iload_n 2, 1) := by decide +kernel
theorem dX5_glyphOf_40 : decode cX5_glyphOf 40 = .ok (.invokevirtual 115, 3) := by decide +kernel
theorem dX5_glyphOf_43 : decode cX5_glyphOf 43 = .ok (.iload_n 3, 1) := by decide +kernel
theorem dX5_glyphOf_44 : decode cX5_glyphOf 44 = .ok (.tableswitch 87 0 4 #[36, 44, 55, 71, 79], 36) := by decide +kernel
theorem dX5_glyphOf_80 : decode cX5_glyphOf 80 = .ok (.aload_n 0, 1) := by decide +kernel
theorem dX5_glyphOf_81 : decode cX5_glyphOf 81 = .ok (.getfield 22, 3) := by decide +kernel
theorem dX5_glyphOf_84 : decode cX5_glyphOf 84 = .ok (.getfield 135, 3) := by decide +kernel
theorem dX5_glyphOf_87 : decode cX5_glyphOf 87 = .ok (.ireturn, 1) := by decide +kernel
theorem dX5_glyphOf_88 : decode cX5_glyphOf 88 = .ok (.aload_n 0, 1) := by decide +kernel
theorem dX5_glyphOf_89 : decode cX5_glyphOf 89 = .ok (.getfield 22, 3) := by decide +kernel
theorem dX5_glyphOf_92 : decode cX5_glyphOf 92 = .ok (.getfield 138, 3) := by decide +kernel
theorem dX5_glyphOf_95 : decode cX5_glyphOf 95 = .ok (.invokestatic 142, 3) := by decide +kernel
theorem dX5_glyphOf_98 : decode cX5_glyphOf 98 = .ok (.ireturn, 1) := by decide +kernel
theorem dX5_glyphOf_99 : decode cX5_glyphOf 99 = .ok (.aload_n 0, 1) := by decide +kernel
theorem dX5_glyphOf_100 : decode cX5_glyphOf 100 = .ok (.getfield 22, 3) := by decide +kernel
theorem dX5_glyphOf_103 : decode cX5_glyphOf 103 = .ok (.invokevirtual 148, 3) := by decide +kernel
theorem dX5_glyphOf_106 : decode cX5_glyphOf 106 = .ok (.ifCond .eq 7, 3) := by decide +kernel
theorem dX5_glyphOf_109 : decode cX5_glyphOf 109 = .ok (.iconst 1, 1) := by decide +kernel
theorem dX5_glyphOf_110 : decode cX5_glyphOf 110 = .ok (.goto 4, 3) := by decide +kernel
theorem dX5_glyphOf_113 : decode cX5_glyphOf 113 = .ok (.iconst 0, 1) := by decide +kernel
theorem dX5_glyphOf_114 : decode cX5_glyphOf 114 = .ok (.ireturn, 1) := by decide +kernel
theorem dX5_glyphOf_115 : decode cX5_glyphOf 115 = .ok (.aload_n 0, 1) := by decide +kernel
theorem dX5_glyphOf_116 : decode cX5_glyphOf 116 = .ok (.getfield 22, 3) := by decide +kernel
theorem dX5_glyphOf_119 : decode cX5_glyphOf 119 = .ok (.getfield 125, 3) := by decide +kernel
theorem dX5_glyphOf_122 : decode cX5_glyphOf 122 = .ok (.ireturn, 1) := by decide +kernel
theorem dX5_glyphOf_123 : decode cX5_glyphOf 123 = .ok (.aload_n 0, 1) := by decide +kernel
theorem dX5_glyphOf_124 : decode cX5_glyphOf 124 = .ok (.getfield 22, 3) := by decide +kernel
theorem dX5_glyphOf_127 : decode cX5_glyphOf 127 = .ok (.getfield 129, 3) := by decide +kernel
theorem dX5_glyphOf_130 : decode cX5_glyphOf 130 = .ok (.ireturn, 1) := by decide +kernel
theorem dX5_glyphOf_131 : decode cX5_glyphOf 131 = .ok (.aload_n 0, 1) := by decide +kernel
theorem dX5_glyphOf_132 : decode cX5_glyphOf 132 = .ok (.getfield 22, 3) := by decide +kernel
theorem dX5_glyphOf_135 : decode cX5_glyphOf 135 = .ok (.getfield 138, 3) := by decide +kernel
theorem dX5_glyphOf_138 : decode cX5_glyphOf 138 = .ok (.invokestatic 152, 3) := by decide +kernel
theorem dX5_glyphOf_141 : decode cX5_glyphOf 141 = .ok (.ireturn, 1) := by decide +kernel
theorem dX5_lit_0 : decode cX5_lit 0 = .ok (.aload_n 0, 1) := by decide +kernel
theorem dX5_lit_1 : decode cX5_lit 1 = .ok (.getfield 10, 3) := by decide +kernel
theorem dX5_lit_4 : decode cX5_lit 4 = .ok (.iload_n 1, 1) := by decide +kernel
theorem dX5_lit_5 : decode cX5_lit 5 = .ok (.invokevirtual 132, 3) := by decide +kernel
theorem dX5_lit_8 : decode cX5_lit 8 = .ok (.ifCond .eq 20, 3) := by decide +kernel
theorem dX5_lit_11 : decode cX5_lit 11 = .ok (.iload_n 2, 1) := by decide +kernel
theorem dX5_lit_12 : decode cX5_lit 12 = .ok (.invokestatic 111, 3) := by decide +kernel
theorem dX5_lit_15 : decode cX5_lit 15 = .ok (.ifCond .eq 13, 3) := by decide +kernel
theorem dX5_lit_18 : decode cX5_lit 18 = .ok (.iload_n 3, 1) := by decide +kernel
theorem dX5_lit_19 : decode cX5_lit 19 = .ok (.iconst 0, 1) := by decide +kernel
theorem dX5_lit_20 : decode cX5_lit 20 = .ok (.bipush 63, 2) := by decide +kernel
theorem dX5_lit_22 : decode cX5_lit 22 = .ok (.invokestatic 79, 3) := by decide +kernel
theorem dX5_lit_25 : decode cX5_lit 25 = .ok (.ifCond .ne 6, 3) := by decide +kernel
theorem dX5_lit_28 : decode cX5_lit 28 = .ok (.ldc 83, 2) := by decide +kernel
theorem dX5_lit_30 : decode cX5_lit 30 = .ok (.ireturn, 1) := by decide +kernel
theorem dX5_lit_31 : decode cX5_lit 31 = .ok (.aload_n 0, 1) := by decide +kernel
theorem dX5_lit_32 : decode cX5_lit 32 = .ok (.getfield 22, 3) := by decide +kernel
theorem dX5_lit_35 : decode cX5_lit 35 = .ok (.aload_n 0, 1) := by decide +kernel
theorem dX5_lit_36 : decode cX5_lit 36 = .ok (.getfield 10, 3) := by decide +kernel
theorem dX5_lit_39 : decode cX5_lit 39 = .ok (.iload_n 1, 1) := by decide +kernel
theorem dX5_lit_40 : decode cX5_lit 40 = .ok (.iload_n 2, 1) := by decide +kernel
theorem dX5_lit_41 : decode cX5_lit 41 = .ok (.invokevirtual 115, 3) := by decide +kernel
theorem dX5_lit_44 : decode cX5_lit 44 = .ok (.iload_n 3, 1) := by decide +kernel
theorem dX5_lit_45 : decode cX5_lit 45 = .ok (.aload_n 0, 1) := by decide +kernel
theorem dX5_lit_46 : decode cX5_lit 46 = .ok (.getfield 22, 3) := by decide +kernel
theorem dX5_lit_49 : decode cX5_lit 49 = .ok (.getfield 135, 3) := by decide +kernel
theorem dX5_lit_52 : decode cX5_lit 52 = .ok (.if_icmp .ge 17, 3) := by decide +kernel
theorem dX5_lit_55 : decode cX5_lit 55 = .ok (.aload_n 0, 1) := by decide +kernel
theorem dX5_lit_56 : decode cX5_lit 56 = .ok (.getfield 22, 3) := by decide +kernel
theorem dX5_lit_59 : decode cX5_lit 59 = .ok (.getfield 138, 3) := by decide +kernel
theorem dX5_lit_62 : decode cX5_lit 62 = .ok (.iload_n 3, 1) := by decide +kernel
theorem dX5_lit_63 : decode cX5_lit 63 = .ok (.invokestatic 155, 3) := by decide +kernel
theorem dX5_lit_66 : decode cX5_lit 66 = .ok (.goto 5, 3) := by decide +kernel
theorem dX5_lit_69 : decode cX5_lit 69 = .ok (.ldc 104, 2) := by decide +kernel
theorem dX5_lit_71 : decode cX5_lit 71 = .ok (.ireturn, 1) := by decide +kernel
theorem dX5_inSheet_0 : decode cX5_inSheet 0 = .ok (.iload_n 1, 1) := by decide +kernel
theorem dX5_inSheet_1 : decode cX5_inSheet 1 = .ok (.invokestatic 111, 3) := by decide +kernel
theorem dX5_inSheet_4 : decode cX5_inSheet 4 = .ok (.ifCond .eq 23, 3) := by decide +kernel
theorem dX5_inSheet_7 : decode cX5_inSheet 7 = .ok (.iload_n 2, 1) := by decide +kernel
theorem dX5_inSheet_8 : decode cX5_inSheet 8 = .ok (.iconst 0, 1) := by decide +kernel
theorem dX5_inSheet_9 : decode cX5_inSheet 9 = .ok (.bipush 7, 2) := by decide +kernel
theorem dX5_inSheet_11 : decode cX5_inSheet 11 = .ok (.invokestatic 79, 3) := by decide +kernel
theorem dX5_inSheet_14 : decode cX5_inSheet 14 = .ok (.ifCond .eq 13, 3) := by decide +kernel
theorem dX5_inSheet_17 : decode cX5_inSheet 17 = .ok (.iload_n 3, 1) := by decide +kernel
theorem dX5_inSheet_18 : decode cX5_inSheet 18 = .ok (.iconst 0, 1) := by decide +kernel
theorem dX5_inSheet_19 : decode cX5_inSheet 19 = .ok (.bipush 63, 2) := by decide +kernel
theorem dX5_inSheet_21 : decode cX5_inSheet 21 = .ok (.invokestatic 79, 3) := by decide +kernel
theorem dX5_inSheet_24 : decode cX5_inSheet 24 = .ok (.ifCond .ne 6, 3) := by decide +kernel
theorem dX5_inSheet_27 : decode cX5_inSheet 27 = .ok (.ldc 83, 2) := by decide +kernel
theorem dX5_inSheet_29 : decode cX5_inSheet 29 = .ok (.ireturn, 1) := by decide +kernel
theorem dX5_inSheet_30 : decode cX5_inSheet 30 = .ok (.aload_n 0, 1) := by decide +kernel
theorem dX5_inSheet_31 : decode cX5_inSheet 31 = .ok (.getfield 10, 3) := by decide +kernel
theorem dX5_inSheet_34 : decode cX5_inSheet 34 = .ok (.getfield 159, 3) := by decide +kernel
theorem dX5_inSheet_37 : decode cX5_inSheet 37 = .ok (.astore 4, 2) := by decide +kernel
theorem dX5_inSheet_39 : decode cX5_inSheet 39 = .ok (.aload 4, 2) := by decide +kernel
theorem dX5_inSheet_41 : decode cX5_inSheet 41 = .ok (.iload_n 1, 1) := by decide +kernel
theorem dX5_inSheet_42 : decode cX5_inSheet 42 = .ok (.invokevirtual 163, 3) := by decide +kernel
theorem dX5_inSheet_45 : decode cX5_inSheet 45 = .ok (.istore 5, 2) := by decide +kernel
theorem dX5_inSheet_47 : decode cX5_inSheet 47 = .ok (.iload 5, 2) := by decide +kernel
theorem dX5_inSheet_49 : decode cX5_inSheet 49 = .ok (.ifCond .lt 17, 3) := by decide +kernel
theorem dX5_inSheet_52 : decode cX5_inSheet 52 = .ok (.iload_n 2, 1) := by decide +kernel
theorem dX5_inSheet_53 : decode cX5_inSheet 53 = .ok (.aload 4, 2) := by decide +kernel
theorem dX5_inSheet_55 : decode cX5_inSheet 55 = .ok (.getfield 168, 3) := by decide +kernel
theorem dX5_inSheet_58 : decode cX5_inSheet 58 = .ok (.iload 5, 2) := by decide +kernel
theorem dX5_inSheet_60 : decode cX5_inSheet 60 = .ok (.invokestatic 88, 3) := by decide +kernel
theorem dX5_inSheet_63 : decode cX5_inSheet 63 = .ok (.if_icmp .lt 6, 3) := by decide +kernel
theorem dX5_inSheet_66 : decode cX5_inSheet 66 = .ok (.ldc 104, 2) := by decide +kernel
theorem dX5_inSheet_68 : decode cX5_inSheet 68 = .ok (.ireturn, 1) := by decide +kernel
theorem dX5_inSheet_69 : decode cX5_inSheet 69 = .ok (.iload 5, 2) := by decide +kernel
theorem dX5_inSheet_71 : decode cX5_inSheet 71 = .ok (.bipush 8, 2) := by decide +kernel
theorem dX5_inSheet_73 : decode cX5_inSheet 73 = .ok (.imul, 1) := by decide +kernel
theorem dX5_inSheet_74 : decode cX5_inSheet 74 = .ok (.iload_n 2, 1) := by decide +kernel
theorem dX5_inSheet_75 : decode cX5_inSheet 75 = .ok (.iadd, 1) := by decide +kernel
theorem dX5_inSheet_76 : decode cX5_inSheet 76 = .ok (.istore 6, 2) := by decide +kernel
theorem dX5_inSheet_78 : decode cX5_inSheet 78 = .ok (.iload_n 3, 1) := by decide +kernel
theorem dX5_inSheet_79 : decode cX5_inSheet 79 = .ok (.aload 4, 2) := by decide +kernel
theorem dX5_inSheet_81 : decode cX5_inSheet 81 = .ok (.getfield 171, 3) := by decide +kernel
theorem dX5_inSheet_84 : decode cX5_inSheet 84 = .ok (.iload 6, 2) := by decide +kernel
theorem dX5_inSheet_86 : decode cX5_inSheet 86 = .ok (.invokestatic 88, 3) := by decide +kernel
theorem dX5_inSheet_89 : decode cX5_inSheet 89 = .ok (.if_icmp .ge 17, 3) := by decide +kernel
theorem dX5_inSheet_92 : decode cX5_inSheet 92 = .ok (.aload 4, 2) := by decide +kernel
theorem dX5_inSheet_94 : decode cX5_inSheet 94 = .ok (.iload 6, 2) := by decide +kernel
theorem dX5_inSheet_96 : decode cX5_inSheet 96 = .ok (.invokevirtual 173, 3) := by decide +kernel
theorem dX5_inSheet_99 : decode cX5_inSheet 99 = .ok (.iload_n 3, 1) := by decide +kernel
theorem dX5_inSheet_100 : decode cX5_inSheet 100 = .ok (.invokestatic 155, 3) := by decide +kernel
theorem dX5_inSheet_103 : decode cX5_inSheet 103 = .ok (.goto 5, 3) := by decide +kernel
theorem dX5_inSheet_106 : decode cX5_inSheet 106 = .ok (.ldc 104, 2) := by decide +kernel
theorem dX5_inSheet_108 : decode cX5_inSheet 108 = .ok (.ireturn, 1) := by decide +kernel
theorem dX5_sheetOf_0 : decode cX5_sheetOf 0 = .ok (.iload_n 1, 1) := by decide +kernel
theorem dX5_sheetOf_1 : decode cX5_sheetOf 1 = .ok (.ifCond .lt 12, 3) := by decide +kernel
theorem dX5_sheetOf_4 : decode cX5_sheetOf 4 = .ok (.iload_n 2, 1) := by decide +kernel
theorem dX5_sheetOf_5 : decode cX5_sheetOf 5 = .ok (.iconst 0, 1) := by decide +kernel
theorem dX5_sheetOf_6 : decode cX5_sheetOf 6 = .ok (.iconst 3, 1) := by decide +kernel
theorem dX5_sheetOf_7 : decode cX5_sheetOf 7 = .ok (.invokestatic 79, 3) := by decide +kernel
theorem dX5_sheetOf_10 : decode cX5_sheetOf 10 = .ok (.ifCond .ne 6, 3) := by decide +kernel
theorem dX5_sheetOf_13 : decode cX5_sheetOf 13 = .ok (.ldc 83, 2) := by decide +kernel
theorem dX5_sheetOf_15 : decode cX5_sheetOf 15 = .ok (.ireturn, 1) := by decide +kernel
theorem dX5_sheetOf_16 : decode cX5_sheetOf 16 = .ok (.aload_n 0, 1) := by decide +kernel
theorem dX5_sheetOf_17 : decode cX5_sheetOf 17 = .ok (.getfield 10, 3) := by decide +kernel
theorem dX5_sheetOf_20 : decode cX5_sheetOf 20 = .ok (.getfield 159, 3) := by decide +kernel
theorem dX5_sheetOf_23 : decode cX5_sheetOf 23 = .ok (.iload_n 1, 1) := by decide +kernel
theorem dX5_sheetOf_24 : decode cX5_sheetOf 24 = .ok (.invokevirtual 177, 3) := by decide +kernel
theorem dX5_sheetOf_27 : decode cX5_sheetOf 27 = .ok (.istore_n 3, 1) := by decide +kernel
theorem dX5_sheetOf_28 : decode cX5_sheetOf 28 = .ok (.iload_n 3, 1) := by decide +kernel
theorem dX5_sheetOf_29 : decode cX5_sheetOf 29 = .ok (.ifCond .ge 6, 3) := by decide +kernel
theorem dX5_sheetOf_32 : decode cX5_sheetOf 32 = .ok (.ldc 104, 2) := by decide +kernel
theorem dX5_sheetOf_34 : decode cX5_sheetOf 34 = .ok (.ireturn, 1) := by decide +kernel
theorem dX5_sheetOf_35 : decode cX5_sheetOf 35 = .ok (.iload_n 2, 1) := by decide +kernel
theorem dX5_sheetOf_36 : decode cX5_sheetOf 36 = .ok (.tableswitch 79 0 2 #[28, 43, 58], 28) := by decide +kernel
theorem dX5_sheetOf_64 : decode cX5_sheetOf 64 = .ok (.aload_n 0, 1) := by decide +kernel
theorem dX5_sheetOf_65 : decode cX5_sheetOf 65 = .ok (.getfield 10, 3) := by decide +kernel
theorem dX5_sheetOf_68 : decode cX5_sheetOf 68 = .ok (.getfield 159, 3) := by decide +kernel
theorem dX5_sheetOf_71 : decode cX5_sheetOf 71 = .ok (.getfield 180, 3) := by decide +kernel
theorem dX5_sheetOf_74 : decode cX5_sheetOf 74 = .ok (.iload_n 3, 1) := by decide +kernel
theorem dX5_sheetOf_75 : decode cX5_sheetOf 75 = .ok (.invokestatic 88, 3) := by decide +kernel
theorem dX5_sheetOf_78 : decode cX5_sheetOf 78 = .ok (.ireturn, 1) := by decide +kernel
theorem dX5_sheetOf_79 : decode cX5_sheetOf 79 = .ok (.aload_n 0, 1) := by decide +kernel
theorem dX5_sheetOf_80 : decode cX5_sheetOf 80 = .ok (.getfield 10, 3) := by decide +kernel
theorem dX5_sheetOf_83 : decode cX5_sheetOf 83 = .ok (.getfield 159, 3) := by decide +kernel
theorem dX5_sheetOf_86 : decode cX5_sheetOf 86 = .ok (.getfield 168, 3) := by decide +kernel
theorem dX5_sheetOf_89 : decode cX5_sheetOf 89 = .ok (.iload_n 3, 1) := by decide +kernel
theorem dX5_sheetOf_90 : decode cX5_sheetOf 90 = .ok (.invokestatic 88, 3) := by decide +kernel
theorem dX5_sheetOf_93 : decode cX5_sheetOf 93 = .ok (.ireturn, 1) := by decide +kernel
theorem dX5_sheetOf_94 : decode cX5_sheetOf 94 = .ok (.aload_n 0, 1) := by decide +kernel
theorem dX5_sheetOf_95 : decode cX5_sheetOf 95 = .ok (.getfield 10, 3) := by decide +kernel
theorem dX5_sheetOf_98 : decode cX5_sheetOf 98 = .ok (.iload_n 3, 1) := by decide +kernel
theorem dX5_sheetOf_99 : decode cX5_sheetOf 99 = .ok (.aload_n 0, 1) := by decide +kernel
theorem dX5_sheetOf_100 : decode cX5_sheetOf 100 = .ok (.getfield 22, 3) := by decide +kernel
theorem dX5_sheetOf_103 : decode cX5_sheetOf 103 = .ok (.invokevirtual 183, 3) := by decide +kernel
theorem dX5_sheetOf_106 : decode cX5_sheetOf 106 = .ok (.ifCond .eq 7, 3) := by decide +kernel
theorem dX5_sheetOf_109 : decode cX5_sheetOf 109 = .ok (.iconst 1, 1) := by decide +kernel
theorem dX5_sheetOf_110 : decode cX5_sheetOf 110 = .ok (.goto 4, 3) := by decide +kernel
theorem dX5_sheetOf_113 : decode cX5_sheetOf 113 = .ok (.iconst 0, 1) := by decide +kernel
theorem dX5_sheetOf_114 : decode cX5_sheetOf 114 = .ok (.ireturn, 1) := by decide +kernel
theorem dX5_sheetOf_115 : decode cX5_sheetOf 115 = .ok (.aload_n 0, 1) := by decide +kernel
theorem dX5_sheetOf_116 : decode cX5_sheetOf 116 = .ok (.getfield 10, 3) := by decide +kernel
theorem dX5_sheetOf_119 : decode cX5_sheetOf 119 = .ok (.getfield 159, 3) := by decide +kernel
theorem dX5_sheetOf_122 : decode cX5_sheetOf 122 = .ok (.iload_n 3, 1) := by decide +kernel
theorem dX5_sheetOf_123 : decode cX5_sheetOf 123 = .ok (.invokevirtual 187, 3) := by decide +kernel
theorem dX5_sheetOf_126 : decode cX5_sheetOf 126 = .ok (.ireturn, 1) := by decide +kernel
theorem dX5_even_0 : decode cX5_even 0 = .ok (.iload_n 1, 1) := by decide +kernel
theorem dX5_even_1 : decode cX5_even 1 = .ok (.invokestatic 111, 3) := by decide +kernel
theorem dX5_even_4 : decode cX5_even 4 = .ok (.ifCond .ne 6, 3) := by decide +kernel
theorem dX5_even_7 : decode cX5_even 7 = .ok (.ldc 83, 2) := by decide +kernel
theorem dX5_even_9 : decode cX5_even 9 = .ok (.ireturn, 1) := by decide +kernel
theorem dX5_even_10 : decode cX5_even 10 = .ok (.aload_n 0, 1) := by decide +kernel
theorem dX5_even_11 : decode cX5_even 11 = .ok (.getfield 22, 3) := by decide +kernel
theorem dX5_even_14 : decode cX5_even 14 = .ok (.aload_n 0, 1) := by decide +kernel
theorem dX5_even_15 : decode cX5_even 15 = .ok (.getfield 10, 3) := by decide +kernel
theorem dX5_even_18 : decode cX5_even 18 = .ok (.iload_n 1, 1) := by decide +kernel
theorem dX5_even_19 : decode cX5_even 19 = .ok (.invokevirtual 190, 3) := by decide +kernel
theorem dX5_even_22 : decode cX5_even 22 = .ok (.ifCond .eq 7, 3) := by decide +kernel
theorem dX5_even_25 : decode cX5_even 25 = .ok (.iconst 1, 1) := by decide +kernel
theorem dX5_even_26 : decode cX5_even 26 = .ok (.goto 4, 3) := by decide +kernel
theorem dX5_even_29 : decode cX5_even 29 = .ok (.iconst 0, 1) := by decide +kernel
theorem dX5_even_30 : decode cX5_even 30 = .ok (.ireturn, 1) := by decide +kernel
theorem dX5_clear_0 : decode cX5_clear 0 = .ok (.aload_n 0, 1) := by decide +kernel
theorem dX5_clear_1 : decode cX5_clear 1 = .ok (.getfield 10, 3) := by decide +kernel
theorem dX5_clear_4 : decode cX5_clear 4 = .ok (.iload_n 1, 1) := by decide +kernel
theorem dX5_clear_5 : decode cX5_clear 5 = .ok (.invokevirtual 132, 3) := by decide +kernel
theorem dX5_clear_8 : decode cX5_clear 8 = .ok (.ifCond .ne 6, 3) := by decide +kernel
theorem dX5_clear_11 : decode cX5_clear 11 = .ok (.ldc 83, 2) := by decide +kernel
theorem dX5_clear_13 : decode cX5_clear 13 = .ok (.ireturn, 1) := by decide +kernel
theorem dX5_clear_14 : decode cX5_clear 14 = .ok (.bipush 6, 2) := by decide +kernel
theorem dX5_clear_16 : decode cX5_clear 16 = .ok (.istore_n 2, 1) := by decide +kernel
theorem dX5_clear_17 : decode cX5_clear 17 = .ok (.iload_n 2, 1) := by decide +kernel
theorem dX5_clear_18 : decode cX5_clear 18 = .ok (.bipush 48, 2) := by decide +kernel
theorem dX5_clear_20 : decode cX5_clear 20 = .ok (.if_icmp .gt 34, 3) := by decide +kernel
theorem dX5_clear_23 : decode cX5_clear 23 = .ok (.aload_n 0, 1) := by decide +kernel
theorem dX5_clear_24 : decode cX5_clear 24 = .ok (.getfield 22, 3) := by decide +kernel
theorem dX5_clear_27 : decode cX5_clear 27 = .ok (.aload_n 0, 1) := by decide +kernel
theorem dX5_clear_28 : decode cX5_clear 28 = .ok (.getfield 10, 3) := by decide +kernel
theorem dX5_clear_31 : decode cX5_clear 31 = .ok (.iload_n 1, 1) := by decide +kernel
theorem dX5_clear_32 : decode cX5_clear 32 = .ok (.iload_n 2, 1) := by decide +kernel
theorem dX5_clear_33 : decode cX5_clear 33 = .ok (.invokevirtual 115, 3) := by decide +kernel
theorem dX5_clear_36 : decode cX5_clear 36 = .ok (.aload_n 0, 1) := by decide +kernel
theorem dX5_clear_37 : decode cX5_clear 37 = .ok (.getfield 22, 3) := by decide +kernel
theorem dX5_clear_40 : decode cX5_clear 40 = .ok (.invokevirtual 148, 3) := by decide +kernel
theorem dX5_clear_43 : decode cX5_clear 43 = .ok (.ifCond .eq 5, 3) := by decide +kernel
theorem dX5_clear_46 : decode cX5_clear 46 = .ok (.iload_n 2, 1) := by decide +kernel
theorem dX5_clear_47 : decode cX5_clear 47 = .ok (.ireturn, 1) := by decide +kernel
theorem dX5_clear_48 : decode cX5_clear 48 = .ok (.iinc 2 1, 3) := by decide +kernel
theorem dX5_clear_51 : decode cX5_clear 51 = .ok (.goto (-34), 3) := by decide +kernel
theorem dX5_clear_54 : decode cX5_clear 54 = .ok (.ldc 104, 2) := by decide +kernel
theorem dX5_clear_56 : decode cX5_clear 56 = .ok (.ireturn, 1) := by decide +kernel
theorem dX5_best_0 : decode cX5_best 0 = .ok (.aload_n 0, 1) := by decide +kernel
theorem dX5_best_1 : decode cX5_best 1 = .ok (.getfield 10, 3) := by decide +kernel
theorem dX5_best_4 : decode cX5_best 4 = .ok (.iload_n 1, 1) := by decide +kernel
theorem dX5_best_5 : decode cX5_best 5 = .ok (.iload_n 2, 1) := by decide +kernel
theorem dX5_best_6 : decode cX5_best 6 = .ok (.invokevirtual 75, 3) := by decide +kernel
theorem dX5_best_9 : decode cX5_best 9 = .ok (.ifCond .eq 12, 3) := by decide +kernel
theorem dX5_best_12 : decode cX5_best 12 = .ok (.iload_n 3, 1) := by decide +kernel
theorem dX5_best_13 : decode cX5_best 13 = .ok (.iconst 0, 1) := by decide +kernel
theorem dX5_best_14 : decode cX5_best 14 = .ok (.iconst 1, 1) := by decide +kernel
theorem dX5_best_15 : decode cX5_best 15 = .ok (.invokestatic 79, 3) := by decide +kernel
theorem dX5_best_18 : decode cX5_best 18 = .ok (.ifCond .ne 6, 3) := by decide +kernel
theorem dX5_best_21 : decode cX5_best 21 = .ok (.ldc 83, 2) := by decide +kernel
theorem dX5_best_23 : decode cX5_best 23 = .ok (.ireturn, 1) := by decide +kernel
theorem dX5_best_24 : decode cX5_best 24 = .ok (.aload_n 0, 1) := by decide +kernel
theorem dX5_best_25 : decode cX5_best 25 = .ok (.getfield 16, 3) := by decide +kernel
theorem dX5_best_28 : decode cX5_best 28 = .ok (.aload_n 0, 1) := by decide +kernel
theorem dX5_best_29 : decode cX5_best 29 = .ok (.getfield 10, 3) := by decide +kernel
theorem dX5_best_32 : decode cX5_best 32 = .ok (.invokevirtual 194, 3) := by decide +kernel
theorem dX5_best_35 : decode cX5_best 35 = .ok (.iconst 0, 1) := by decide +kernel
theorem dX5_best_36 : decode cX5_best 36 = .ok (.istore 4, 2) := by decide +kernel
theorem dX5_best_38 : decode cX5_best 38 = .ok (.iconst (-1), 1) := by decide +kernel
theorem dX5_best_39 : decode cX5_best 39 = .ok (.istore 5, 2) := by decide +kernel
theorem dX5_best_41 : decode cX5_best 41 = .ok (.iconst 0, 1) := by decide +kernel
theorem dX5_best_42 : decode cX5_best 42 = .ok (.istore 6, 2) := by decide +kernel
theorem dX5_best_44 : decode cX5_best 44 = .ok (.iload 6, 2) := by decide +kernel
theorem dX5_best_46 : decode cX5_best 46 = .ok (.iconst 3, 1) := by decide +kernel
theorem dX5_best_47 : decode cX5_best 47 = .ok (.if_icmp .gt 53, 3) := by decide +kernel
theorem dX5_best_50 : decode cX5_best 50 = .ok (.aload_n 0, 1) := by decide +kernel
theorem dX5_best_51 : decode cX5_best 51 = .ok (.getfield 16, 3) := by decide +kernel
theorem dX5_best_54 : decode cX5_best 54 = .ok (.getfield 95, 3) := by decide +kernel
theorem dX5_best_57 : decode cX5_best 57 = .ok (.iload_n 1, 1) := by decide +kernel
theorem dX5_best_58 : decode cX5_best 58 = .ok (.bipush 6, 2) := by decide +kernel
theorem dX5_best_60 : decode cX5_best 60 = .ok (.imul, 1) := by decide +kernel
theorem dX5_best_61 : decode cX5_best 61 = .ok (.iload_n 2, 1) := by decide +kernel
theorem dX5_best_62 : decode cX5_best 62 = .ok (.iadd, 1) := by decide +kernel
theorem dX5_best_63 : decode cX5_best 63 = .ok (.iload 6, 2) := by decide +kernel
theorem dX5_best_65 : decode cX5_best 65 = .ok (.invokestatic 197, 3) := by decide +kernel
theorem dX5_best_68 : decode cX5_best 68 = .ok (.aload_n 0, 1) := by decide +kernel
theorem dX5_best_69 : decode cX5_best 69 = .ok (.aload_n 0, 1) := by decide +kernel
theorem dX5_best_70 : decode cX5_best 70 = .ok (.getfield 16, 3) := by decide +kernel
theorem dX5_best_73 : decode cX5_best 73 = .ok (.iload_n 1, 1) := by decide +kernel
theorem dX5_best_74 : decode cX5_best 74 = .ok (.invokevirtual 201, 3) := by decide +kernel
theorem dX5_best_77 : decode cX5_best 77 = .ok (.istore 7, 2) := by decide +kernel
theorem dX5_best_79 : decode cX5_best 79 = .ok (.iload 7, 2) := by decide +kernel
theorem dX5_best_81 : decode cX5_best 81 = .ok (.iload 5, 2) := by decide +kernel
theorem dX5_best_83 : decode cX5_best 83 = .ok (.if_icmp .le 11, 3) := by decide +kernel
theorem dX5_best_86 : decode cX5_best 86 = .ok (.iload 7, 2) := by decide +kernel
theorem dX5_best_88 : decode cX5_best 88 = .ok (.istore 5, 2) := by decide +kernel
theorem dX5_best_90 : decode cX5_best 90 = .ok (.iload 6, 2) := by decide +kernel
theorem dX5_best_92 : decode cX5_best 92 = .ok (.istore 4, 2) := by decide +kernel
theorem dX5_best_94 : decode cX5_best 94 = .ok (.iinc 6 1, 3) := by decide +kernel
theorem dX5_best_97 : decode cX5_best 97 = .ok (.goto (-53), 3) := by decide +kernel
theorem dX5_best_100 : decode cX5_best 100 = .ok (.iload_n 3, 1) := by decide +kernel
theorem dX5_best_101 : decode cX5_best 101 = .ok (.ifCond .ne 8, 3) := by decide +kernel
theorem dX5_best_104 : decode cX5_best 104 = .ok (.iload 4, 2) := by decide +kernel
theorem dX5_best_106 : decode cX5_best 106 = .ok (.goto 5, 3) := by decide +kernel
theorem dX5_best_109 : decode cX5_best 109 = .ok (.iload 5, 2) := by decide +kernel
theorem dX5_best_111 : decode cX5_best 111 = .ok (.ireturn, 1) := by decide +kernel
theorem dX5_mean_0 : decode cX5_mean 0 = .ok (.aload_n 0, 1) := by decide +kernel
theorem dX5_mean_1 : decode cX5_mean 1 = .ok (.getfield 10, 3) := by decide +kernel
theorem dX5_mean_4 : decode cX5_mean 4 = .ok (.invokevirtual 205, 3) := by decide +kernel
theorem dX5_mean_7 : decode cX5_mean 7 = .ok (.istore_n 1, 1) := by decide +kernel
theorem dX5_mean_8 : decode cX5_mean 8 = .ok (.iload_n 1, 1) := by decide +kernel
theorem dX5_mean_9 : decode cX5_mean 9 = .ok (.ifCond .gt 6, 3) := by decide +kernel
theorem dX5_mean_12 : decode cX5_mean 12 = .ok (.ldc 104, 2) := by decide +kernel
theorem dX5_mean_14 : decode cX5_mean 14 = .ok (.ireturn, 1) := by decide +kernel
theorem dX5_mean_15 : decode cX5_mean 15 = .ok (.aload_n 0, 1) := by decide +kernel
theorem dX5_mean_16 : decode cX5_mean 16 = .ok (.getfield 10, 3) := by decide +kernel
theorem dX5_mean_19 : decode cX5_mean 19 = .ok (.invokevirtual 209, 3) := by decide +kernel
theorem dX5_mean_22 : decode cX5_mean 22 = .ok (.i2f, 1) := by decide +kernel
theorem dX5_mean_23 : decode cX5_mean 23 = .ok (.iload_n 1, 1) := by decide +kernel
theorem dX5_mean_24 : decode cX5_mean 24 = .ok (.i2f, 1) := by decide +kernel
theorem dX5_mean_25 : decode cX5_mean 25 = .ok (.fdiv, 1) := by decide +kernel
theorem dX5_mean_26 : decode cX5_mean 26 = .ok (.invokestatic 212, 3) := by decide +kernel
theorem dX5_mean_29 : decode cX5_mean 29 = .ok (.ireturn, 1) := by decide +kernel
theorem dX5_count_0 : decode cX5_count 0 = .ok (.iload_n 1, 1) := by decide +kernel
theorem dX5_count_1 : decode cX5_count 1 = .ok (.tableswitch 228 0 21 #[103, 111, 119, 127, 138, 143, 151, 162, 170, 228, 178, 178, 178, 228, 228, 228, 228, 228, 228, 228, 212, 220], 103) := by decide +kernel
theorem dX5_count_104 : decode cX5_count 104 = .ok (.aload_n 0, 1) := by decide +kernel
theorem dX5_count_105 : decode cX5_count 105 = .ok (.getfield 10, 3) := by decide +kernel
theorem dX5_count_108 : decode cX5_count 108 = .ok (.getfield 216, 3) := by decide +kernel
theorem dX5_count_111 : decode cX5_count 111 = .ok (.ireturn, 1) := by decide +kernel
theorem dX5_count_112 : decode cX5_count 112 = .ok (.aload_n 0, 1) := by decide +kernel
theorem dX5_count_113 : decode cX5_count 113 = .ok (.getfield 10, 3) := by decide +kernel
theorem dX5_count_116 : decode cX5_count 116 = .ok (.invokevirtual 205, 3) := by decide +kernel
theorem dX5_count_119 : decode cX5_count 119 = .ok (.ireturn, 1) := by decide +kernel
theorem dX5_count_120 : decode cX5_count 120 = .ok (.aload_n 0, 1) := by decide +kernel
theorem dX5_count_121 : decode cX5_count 121 = .ok (.getfield 10, 3) := by decide +kernel
theorem dX5_count_124 : decode cX5_count 124 = .ok (.getfield 218, 3) := by decide +kernel
theorem dX5_count_127 : decode cX5_count 127 = .ok (.ireturn, 1) := by decide +kernel
theorem dX5_count_128 : decode cX5_count 128 = .ok (.aload_n 0, 1) := by decide +kernel
theorem dX5_count_129 : decode cX5_count 129 = .ok (.getfield 10, 3) := by decide +kernel
theorem dX5_count_132 : decode cX5_count 132 = .ok (.getfield 159, 3) := by decide +kernel
theorem dX5_count_135 : decode cX5_count 135 = .ok (.invokevirtual 221, 3) := by decide +kernel
theorem dX5_count_138 : decode cX5_count 138 = .ok (.ireturn, 1) := by decide +kernel
theorem dX5_count_139 : decode cX5_count 139 = .ok (.aload_n 0, 1) := by decide +kernel
theorem dX5_count_140 : decode cX5_count 140 = .ok (.invokevirtual 224, 3) := by decide +kernel
theorem dX5_count_143 : decode cX5_count 143 = .ok (.ireturn, 1) := by decide +kernel
theorem dX5_count_144 : decode cX5_count 144 = .ok (.aload_n 0, 1) := by decide +kernel
theorem dX5_count_145 : decode cX5_count 145 = .ok (.getfield 10, 3) := by decide +kernel
theorem dX5_count_148 : decode cX5_count 148 = .ok (.invokevirtual 227, 3) := by decide +kernel
theorem dX5_count_151 : decode cX5_count 151 = .ok (.ireturn, 1) := by decide +kernel
theorem dX5_count_152 : decode cX5_count 152 = .ok (.aload_n 0, 1) := by decide +kernel
theorem dX5_count_153 : decode cX5_count 153 = .ok (.getfield 10, 3) := by decide +kernel
theorem dX5_count_156 : decode cX5_count 156 = .ok (.getfield 159, 3) := by decide +kernel
theorem dX5_count_159 : decode cX5_count 159 = .ok (.getfield 230, 3) := by decide +kernel
theorem dX5_count_162 : decode cX5_count 162 = .ok (.ireturn, 1) := by decide +kernel
theorem dX5_count_163 : decode cX5_count 163 = .ok (.aload_n 0, 1) := by decide +kernel
theorem dX5_count_164 : decode cX5_count 164 = .ok (.getfield 36, 3) := by decide +kernel
theorem dX5_count_167 : decode cX5_count 167 = .ok (.getfield 233, 3) := by decide +kernel
theorem dX5_count_170 : decode cX5_count 170 = .ok (.ireturn, 1) := by decide +kernel
theorem dX5_count_171 : decode cX5_count 171 = .ok (.aload_n 0, 1) := by decide +kernel
theorem dX5_count_172 : decode cX5_count 172 = .ok (.getfield 29, 3) := by decide +kernel
theorem dX5_count_175 : decode cX5_count 175 = .ok (.getfield 236, 3) := by decide +kernel
theorem dX5_count_178 : decode cX5_count 178 = .ok (.ireturn, 1) := by decide +kernel
theorem dX5_count_179 : decode cX5_count 179 = .ok (.iload_n 1, 1) := by decide +kernel
theorem dX5_count_180 : decode cX5_count 180 = .ok (.bipush 10, 2) := by decide +kernel
theorem dX5_count_182 : decode cX5_count 182 = .ok (.isub, 1) := by decide +kernel
theorem dX5_count_183 : decode cX5_count 183 = .ok (.aload_n 0, 1) := by decide +kernel
theorem dX5_count_184 : decode cX5_count 184 = .ok (.getfield 10, 3) := by decide +kernel
theorem dX5_count_187 : decode cX5_count 187 = .ok (.getfield 218, 3) := by decide +kernel
theorem dX5_count_190 : decode cX5_count 190 = .ok (.if_icmp .ge 20, 3) := by decide +kernel
theorem dX5_count_193 : decode cX5_count 193 = .ok (.aload_n 0, 1) := by decide +kernel
theorem dX5_count_194 : decode cX5_count 194 = .ok (.getfield 10, 3) := by decide +kernel
theorem dX5_count_197 : decode cX5_count 197 = .ok (.getfield 239, 3) := by decide +kernel
theorem dX5_count_200 : decode cX5_count 200 = .ok (.iload_n 1, 1) := by decide +kernel
theorem dX5_count_201 : decode cX5_count 201 = .ok (.bipush 10, 2) := by decide +kernel
theorem dX5_count_203 : decode cX5_count 203 = .ok (.isub, 1) := by decide +kernel
theorem dX5_count_204 : decode cX5_count 204 = .ok (.invokestatic 88, 3) := by decide +kernel
theorem dX5_count_207 : decode cX5_count 207 = .ok (.goto 5, 3) := by decide +kernel
theorem dX5_count_210 : decode cX5_count 210 = .ok (.ldc 104, 2) := by decide +kernel
theorem dX5_count_212 : decode cX5_count 212 = .ok (.ireturn, 1) := by decide +kernel
theorem dX5_count_213 : decode cX5_count 213 = .ok (.aload_n 0, 1) := by decide +kernel
theorem dX5_count_214 : decode cX5_count 214 = .ok (.getfield 10, 3) := by decide +kernel
theorem dX5_count_217 : decode cX5_count 217 = .ok (.getfield 242, 3) := by decide +kernel
theorem dX5_count_220 : decode cX5_count 220 = .ok (.ireturn, 1) := by decide +kernel
theorem dX5_count_221 : decode cX5_count 221 = .ok (.aload_n 0, 1) := by decide +kernel
theorem dX5_count_222 : decode cX5_count 222 = .ok (.getfield 10, 3) := by decide +kernel
theorem dX5_count_225 : decode cX5_count 225 = .ok (.getfield 245, 3) := by decide +kernel
theorem dX5_count_228 : decode cX5_count 228 = .ok (.ireturn, 1) := by decide +kernel
theorem dX5_count_229 : decode cX5_count 229 = .ok (.ldc 83, 2) := by decide +kernel
theorem dX5_count_231 : decode cX5_count 231 = .ok (.ireturn, 1) := by decide +kernel
theorem dX5_undo_0 : decode cX5_undo 0 = .ok (.aload_n 0, 1) := by decide +kernel
theorem dX5_undo_1 : decode cX5_undo 1 = .ok (.getfield 36, 3) := by decide +kernel
theorem dX5_undo_4 : decode cX5_undo 4 = .ok (.aload_n 0, 1) := by decide +kernel
theorem dX5_undo_5 : decode cX5_undo 5 = .ok (.getfield 10, 3) := by decide +kernel
theorem dX5_undo_8 : decode cX5_undo 8 = .ok (.invokevirtual 248, 3) := by decide +kernel
theorem dX5_undo_11 : decode cX5_undo 11 = .ok (.ifCond .eq 13, 3) := by decide +kernel
theorem dX5_undo_14 : decode cX5_undo 14 = .ok (.aload_n 0, 1) := by decide +kernel
theorem dX5_undo_15 : decode cX5_undo 15 = .ok (.getfield 36, 3) := by decide +kernel
theorem dX5_undo_18 : decode cX5_undo 18 = .ok (.getfield 233, 3) := by decide +kernel
theorem dX5_undo_21 : decode cX5_undo 21 = .ok (.goto 5, 3) := by decide +kernel
theorem dX5_undo_24 : decode cX5_undo 24 = .ok (.ldc 252, 2) := by decide +kernel
theorem dX5_undo_26 : decode cX5_undo 26 = .ok (.ireturn, 1) := by decide +kernel
theorem dX5_type_0 : decode cX5_type 0 = .ok (.iload_n 1, 1) := by decide +kernel
theorem dX5_type_1 : decode cX5_type 1 = .ok (.bipush 32, 2) := by decide +kernel
theorem dX5_type_3 : decode cX5_type 3 = .ok (.bipush 126, 2) := by decide +kernel
theorem dX5_type_5 : decode cX5_type 5 = .ok (.invokestatic 79, 3) := by decide +kernel
theorem dX5_type_8 : decode cX5_type 8 = .ok (.ifCond .ne 6, 3) := by decide +kernel
theorem dX5_type_11 : decode cX5_type 11 = .ok (.ldc 83, 2) := by decide +kernel
theorem dX5_type_13 : decode cX5_type 13 = .ok (.ireturn, 1) := by decide +kernel
theorem dX5_type_14 : decode cX5_type 14 = .ok (.aload_n 0, 1) := by decide +kernel
theorem dX5_type_15 : decode cX5_type 15 = .ok (.getfield 29, 3) := by decide +kernel
theorem dX5_type_18 : decode cX5_type 18 = .ok (.iload_n 1, 1) := by decide +kernel
theorem dX5_type_19 : decode cX5_type 19 = .ok (.invokevirtual 253, 3) := by decide +kernel
theorem dX5_type_22 : decode cX5_type 22 = .ok (.ifCond .eq 13, 3) := by decide +kernel
theorem dX5_type_25 : decode cX5_type 25 = .ok (.aload_n 0, 1) := by decide +kernel
theorem dX5_type_26 : decode cX5_type 26 = .ok (.getfield 29, 3) := by decide +kernel
theorem dX5_type_29 : decode cX5_type 29 = .ok (.getfield 236, 3) := by decide +kernel
theorem dX5_type_32 : decode cX5_type 32 = .ok (.goto 6, 3) := by decide +kernel
theorem dX5_type_35 : decode cX5_type 35 = .ok (.ldc_w 256, 3) := by decide +kernel
theorem dX5_type_38 : decode cX5_type 38 = .ok (.ireturn, 1) := by decide +kernel
theorem dX5_clearText_0 : decode cX5_clearText 0 = .ok (.aload_n 0, 1) := by decide +kernel
theorem dX5_clearText_1 : decode cX5_clearText 1 = .ok (.getfield 29, 3) := by decide +kernel
theorem dX5_clearText_4 : decode cX5_clearText 4 = .ok (.getfield 236, 3) := by decide +kernel
theorem dX5_clearText_7 : decode cX5_clearText 7 = .ok (.istore_n 1, 1) := by decide +kernel
theorem dX5_clearText_8 : decode cX5_clearText 8 = .ok (.aload_n 0, 1) := by decide +kernel
theorem dX5_clearText_9 : decode cX5_clearText 9 = .ok (.getfield 29, 3) := by decide +kernel
theorem dX5_clearText_12 : decode cX5_clearText 12 = .ok (.iconst 0, 1) := by decide +kernel
theorem dX5_clearText_13 : decode cX5_clearText 13 = .ok (.putfield 236, 3) := by decide +kernel
theorem dX5_clearText_16 : decode cX5_clearText 16 = .ok (.iload_n 1, 1) := by decide +kernel
theorem dX5_clearText_17 : decode cX5_clearText 17 = .ok (.ireturn, 1) := by decide +kernel
theorem dX5_fault_0 : decode cX5_fault 0 = .ok (.iload_n 1, 1) := by decide +kernel
theorem dX5_fault_1 : decode cX5_fault 1 = .ok (.iconst 0, 1) := by decide +kernel
theorem dX5_fault_2 : decode cX5_fault 2 = .ok (.iconst 2, 1) := by decide +kernel
theorem dX5_fault_3 : decode cX5_fault 3 = .ok (.invokestatic 79, 3) := by decide +kernel
theorem dX5_fault_6 : decode cX5_fault 6 = .ok (.ifCond .ne 6, 3) := by decide +kernel
theorem dX5_fault_9 : decode cX5_fault 9 = .ok (.ldc 83, 2) := by decide +kernel
theorem dX5_fault_11 : decode cX5_fault 11 = .ok (.ireturn, 1) := by decide +kernel
theorem dX5_fault_12 : decode cX5_fault 12 = .ok (.aload_n 0, 1) := by decide +kernel
theorem dX5_fault_13 : decode cX5_fault 13 = .ok (.getfield 16, 3) := by decide +kernel
theorem dX5_fault_16 : decode cX5_fault 16 = .ok (.aload_n 0, 1) := by decide +kernel
theorem dX5_fault_17 : decode cX5_fault 17 = .ok (.getfield 10, 3) := by decide +kernel
theorem dX5_fault_20 : decode cX5_fault 20 = .ok (.invokevirtual 194, 3) := by decide +kernel
theorem dX5_fault_23 : decode cX5_fault 23 = .ok (.aload_n 0, 1) := by decide +kernel
theorem dX5_fault_24 : decode cX5_fault 24 = .ok (.getfield 29, 3) := by decide +kernel
theorem dX5_fault_27 : decode cX5_fault 27 = .ok (.aload_n 0, 1) := by decide +kernel
theorem dX5_fault_28 : decode cX5_fault 28 = .ok (.getfield 16, 3) := by decide +kernel
theorem dX5_fault_31 : decode cX5_fault 31 = .ok (.aload_n 0, 1) := by decide +kernel
theorem dX5_fault_32 : decode cX5_fault 32 = .ok (.getfield 22, 3) := by decide +kernel
theorem dX5_fault_35 : decode cX5_fault 35 = .ok (.invokevirtual 257, 3) := by decide +kernel
theorem dX5_fault_38 : decode cX5_fault 38 = .ok (.aload_n 0, 1) := by decide +kernel
theorem dX5_fault_39 : decode cX5_fault 39 = .ok (.getfield 29, 3) := by decide +kernel
theorem dX5_fault_42 : decode cX5_fault 42 = .ok (.getfield 261, 3) := by decide +kernel
theorem dX5_fault_45 : decode cX5_fault 45 = .ok (.ifCond .ne 6, 3) := by decide +kernel
theorem dX5_fault_48 : decode cX5_fault 48 = .ok (.ldc 104, 2) := by decide +kernel
theorem dX5_fault_50 : decode cX5_fault 50 = .ok (.ireturn, 1) := by decide +kernel
theorem dX5_fault_51 : decode cX5_fault 51 = .ok (.iload_n 1, 1) := by decide +kernel
theorem dX5_fault_52 : decode cX5_fault 52 = .ok (.lookupswitch 44 #[(0, 28), (1, 36)], 28) := by decide +kernel
theorem dX5_fault_80 : decode cX5_fault 80 = .ok (.aload_n 0, 1) := by decide +kernel
theorem dX5_fault_81 : decode cX5_fault 81 = .ok (.getfield 29, 3) := by decide +kernel
theorem dX5_fault_84 : decode cX5_fault 84 = .ok (.getfield 264, 3) := by decide +kernel
theorem dX5_fault_87 : decode cX5_fault 87 = .ok (.ireturn, 1) := by decide +kernel
theorem dX5_fault_88 : decode cX5_fault 88 = .ok (.aload_n 0, 1) := by decide +kernel
theorem dX5_fault_89 : decode cX5_fault 89 = .ok (.getfield 29, 3) := by decide +kernel
theorem dX5_fault_92 : decode cX5_fault 92 = .ok (.getfield 261, 3) := by decide +kernel
theorem dX5_fault_95 : decode cX5_fault 95 = .ok (.ireturn, 1) := by decide +kernel
theorem dX5_fault_96 : decode cX5_fault 96 = .ok (.aload_n 0, 1) := by decide +kernel
theorem dX5_fault_97 : decode cX5_fault 97 = .ok (.getfield 29, 3) := by decide +kernel
theorem dX5_fault_100 : decode cX5_fault 100 = .ok (.getfield 267, 3) := by decide +kernel
theorem dX5_fault_103 : decode cX5_fault 103 = .ok (.ireturn, 1) := by decide +kernel
theorem dX5_play_0 : decode cX5_play 0 = .ok (.aload_n 0, 1) := by decide +kernel
theorem dX5_play_1 : decode cX5_play 1 = .ok (.getfield 16, 3) := by decide +kernel
theorem dX5_play_4 : decode cX5_play 4 = .ok (.aload_n 0, 1) := by decide +kernel
theorem dX5_play_5 : decode cX5_play 5 = .ok (.getfield 10, 3) := by decide +kernel
theorem dX5_play_8 : decode cX5_play 8 = .ok (.invokevirtual 194, 3) := by decide +kernel
theorem dX5_play_11 : decode cX5_play 11 = .ok (.aload_n 0, 1) := by decide +kernel
theorem dX5_play_12 : decode cX5_play 12 = .ok (.getfield 29, 3) := by decide +kernel
theorem dX5_play_15 : decode cX5_play 15 = .ok (.aload_n 0, 1) := by decide +kernel
theorem dX5_play_16 : decode cX5_play 16 = .ok (.getfield 16, 3) := by decide +kernel
theorem dX5_play_19 : decode cX5_play 19 = .ok (.aload_n 0, 1) := by decide +kernel
theorem dX5_play_20 : decode cX5_play 20 = .ok (.getfield 22, 3) := by decide +kernel
theorem dX5_play_23 : decode cX5_play 23 = .ok (.invokevirtual 257, 3) := by decide +kernel
theorem dX5_play_26 : decode cX5_play 26 = .ok (.aload_n 0, 1) := by decide +kernel
theorem dX5_play_27 : decode cX5_play 27 = .ok (.getfield 29, 3) := by decide +kernel
theorem dX5_play_30 : decode cX5_play 30 = .ok (.getfield 261, 3) := by decide +kernel
theorem dX5_play_33 : decode cX5_play 33 = .ok (.ifCond .eq 6, 3) := by decide +kernel
theorem dX5_play_36 : decode cX5_play 36 = .ok (.ldc 252, 2) := by decide +kernel
theorem dX5_play_38 : decode cX5_play 38 = .ok (.ireturn, 1) := by decide +kernel
theorem dX5_play_39 : decode cX5_play 39 = .ok (.aload_n 0, 1) := by decide +kernel
theorem dX5_play_40 : decode cX5_play 40 = .ok (.getfield 36, 3) := by decide +kernel
theorem dX5_play_43 : decode cX5_play 43 = .ok (.aload_n 0, 1) := by decide +kernel
theorem dX5_play_44 : decode cX5_play 44 = .ok (.getfield 10, 3) := by decide +kernel
theorem dX5_play_47 : decode cX5_play 47 = .ok (.invokevirtual 40, 3) := by decide +kernel
theorem dX5_play_50 : decode cX5_play 50 = .ok (.aload_n 0, 1) := by decide +kernel
theorem dX5_play_51 : decode cX5_play 51 = .ok (.getfield 10, 3) := by decide +kernel
theorem dX5_play_54 : decode cX5_play 54 = .ok (.aload_n 0, 1) := by decide +kernel
theorem dX5_play_55 : decode cX5_play 55 = .ok (.getfield 16, 3) := by decide +kernel
theorem dX5_play_58 : decode cX5_play 58 = .ok (.invokevirtual 194, 3) := by decide +kernel
theorem dX5_play_61 : decode cX5_play 61 = .ok (.aload_n 0, 1) := by decide +kernel
theorem dX5_play_62 : decode cX5_play 62 = .ok (.aload_n 0, 1) := by decide +kernel
theorem dX5_play_63 : decode cX5_play 63 = .ok (.getfield 29, 3) := by decide +kernel
theorem dX5_play_66 : decode cX5_play 66 = .ok (.getfield 270, 3) := by decide +kernel
theorem dX5_play_69 : decode cX5_play 69 = .ok (.invokevirtual 48, 3) := by decide +kernel
theorem dX5_play_72 : decode cX5_play 72 = .ok (.ireturn, 1) := by decide +kernel
theorem dX5_settled_0 : decode cX5_settled 0 = .ok (.iload_n 1, 1) := by decide +kernel
theorem dX5_settled_1 : decode cX5_settled 1 = .ok (.ifCond .lt 10, 3) := by decide +kernel
theorem dX5_settled_4 : decode cX5_settled 4 = .ok (.aload_n 0, 1) := by decide +kernel
theorem dX5_settled_5 : decode cX5_settled 5 = .ok (.getfield 36, 3) := by decide +kernel
theorem dX5_settled_8 : decode cX5_settled 8 = .ok (.invokevirtual 273, 3) := by decide +kernel
theorem dX5_settled_11 : decode cX5_settled 11 = .ok (.iload_n 1, 1) := by decide +kernel
theorem dX5_settled_12 : decode cX5_settled 12 = .ok (.ireturn, 1) := by decide +kernel
theorem dX5_clearSizes_0 : decode cX5_clearSizes 0 = .ok (.iconst 0, 1) := by decide +kernel
theorem dX5_clearSizes_1 : decode cX5_clearSizes 1 = .ok (.istore_n 3, 1) := by decide +kernel
theorem dX5_clearSizes_2 : decode cX5_clearSizes 2 = .ok (.bipush 6, 2) := by decide +kernel
theorem dX5_clearSizes_4 : decode cX5_clearSizes 4 = .ok (.istore 4, 2) := by decide +kernel
theorem dX5_clearSizes_6 : decode cX5_clearSizes 6 = .ok (.iload 4, 2) := by decide +kernel
theorem dX5_clearSizes_8 : decode cX5_clearSizes 8 = .ok (.bipush 48, 2) := by decide +kernel
theorem dX5_clearSizes_10 : decode cX5_clearSizes 10 = .ok (.if_icmp .gt 33, 3) := by decide +kernel
theorem dX5_clearSizes_13 : decode cX5_clearSizes 13 = .ok (.aload_n 0, 1) := by decide +kernel
theorem dX5_clearSizes_14 : decode cX5_clearSizes 14 = .ok (.getfield 22, 3) := by decide +kernel
theorem dX5_clearSizes_17 : decode cX5_clearSizes 17 = .ok (.aload_n 1, 1) := by decide +kernel
theorem dX5_clearSizes_18 : decode cX5_clearSizes 18 = .ok (.iload_n 2, 1) := by decide +kernel
theorem dX5_clearSizes_19 : decode cX5_clearSizes 19 = .ok (.iload 4, 2) := by decide +kernel
theorem dX5_clearSizes_21 : decode cX5_clearSizes 21 = .ok (.invokevirtual 115, 3) := by decide +kernel
theorem dX5_clearSizes_24 : decode cX5_clearSizes 24 = .ok (.aload_n 0, 1) := by decide +kernel
theorem dX5_clearSizes_25 : decode cX5_clearSizes 25 = .ok (.getfield 22, 3) := by decide +kernel
theorem dX5_clearSizes_28 : decode cX5_clearSizes 28 = .ok (.invokevirtual 148, 3) := by decide +kernel
theorem dX5_clearSizes_31 : decode cX5_clearSizes 31 = .ok (.ifCond .eq 6, 3) := by decide +kernel
theorem dX5_clearSizes_34 : decode cX5_clearSizes 34 = .ok (.iinc 3 1, 3) := by decide +kernel
theorem dX5_clearSizes_37 : decode cX5_clearSizes 37 = .ok (.iinc 4 1, 3) := by decide +kernel
theorem dX5_clearSizes_40 : decode cX5_clearSizes 40 = .ok (.goto (-34), 3) := by decide +kernel
theorem dX5_clearSizes_43 : decode cX5_clearSizes 43 = .ok (.iload_n 3, 1) := by decide +kernel
theorem dX5_clearSizes_44 : decode cX5_clearSizes 44 = .ok (.ireturn, 1) := by decide +kernel
theorem dX5_staleSheets_0 : decode cX5_staleSheets 0 = .ok (.iconst 0, 1) := by decide +kernel
theorem dX5_staleSheets_1 : decode cX5_staleSheets 1 = .ok (.istore_n 1, 1) := by decide +kernel
theorem dX5_staleSheets_2 : decode cX5_staleSheets 2 = .ok (.iconst 0, 1) := by decide +kernel
theorem dX5_staleSheets_3 : decode cX5_staleSheets 3 = .ok (.istore_n 2, 1) := by decide +kernel
theorem dX5_staleSheets_4 : decode cX5_staleSheets 4 = .ok (.iload_n 2, 1) := by decide +kernel
theorem dX5_staleSheets_5 : decode cX5_staleSheets 5 = .ok (.iconst 4, 1) := by decide +kernel
theorem dX5_staleSheets_6 : decode cX5_staleSheets 6 = .ok (.if_icmp .ge 41, 3) := by decide +kernel
theorem dX5_staleSheets_9 : decode cX5_staleSheets 9 = .ok (.aload_n 0, 1) := by decide +kernel
theorem dX5_staleSheets_10 : decode cX5_staleSheets 10 = .ok (.getfield 10, 3) := by decide +kernel
theorem dX5_staleSheets_13 : decode cX5_staleSheets 13 = .ok (.getfield 159, 3) := by decide +kernel
theorem dX5_staleSheets_16 : decode cX5_staleSheets 16 = .ok (.iload_n 2, 1) := by decide +kernel
theorem dX5_staleSheets_17 : decode cX5_staleSheets 17 = .ok (.invokevirtual 276, 3) := by decide +kernel
theorem dX5_staleSheets_20 : decode cX5_staleSheets 20 = .ok (.ifCond .eq 21, 3) := by decide +kernel
theorem dX5_staleSheets_23 : decode cX5_staleSheets 23 = .ok (.aload_n 0, 1) := by decide +kernel
theorem dX5_staleSheets_24 : decode cX5_staleSheets 24 = .ok (.getfield 10, 3) := by decide +kernel
theorem dX5_staleSheets_27 : decode cX5_staleSheets 27 = .ok (.iload_n 2, 1) := by decide +kernel
theorem dX5_staleSheets_28 : decode cX5_staleSheets 28 = .ok (.aload_n 0, 1) := by decide +kernel
theorem dX5_staleSheets_29 : decode cX5_staleSheets 29 = .ok (.getfield 22, 3) := by decide +kernel
theorem dX5_staleSheets_32 : decode cX5_staleSheets 32 = .ok (.invokevirtual 183, 3) := by decide +kernel
theorem dX5_staleSheets_35 : decode cX5_staleSheets 35 = .ok (.ifCond .eq 6, 3) := by decide +kernel
theorem dX5_staleSheets_38 : decode cX5_staleSheets 38 = .ok (.iinc 1 1, 3) := by decide +kernel
theorem dX5_staleSheets_41 : decode cX5_staleSheets 41 = .ok (.iinc 2 1, 3) := by decide +kernel
theorem dX5_staleSheets_44 : decode cX5_staleSheets 44 = .ok (.goto (-40), 3) := by decide +kernel
theorem dX5_staleSheets_47 : decode cX5_staleSheets 47 = .ok (.iload_n 1, 1) := by decide +kernel
theorem dX5_staleSheets_48 : decode cX5_staleSheets 48 = .ok (.ireturn, 1) := by decide +kernel
theorem dX5_within_0 : decode cX5_within 0 = .ok (.iload_n 0, 1) := by decide +kernel
theorem dX5_within_1 : decode cX5_within 1 = .ok (.iload_n 1, 1) := by decide +kernel
theorem dX5_within_2 : decode cX5_within 2 = .ok (.if_icmp .lt 12, 3) := by decide +kernel
theorem dX5_within_5 : decode cX5_within 5 = .ok (.iload_n 0, 1) := by decide +kernel
theorem dX5_within_6 : decode cX5_within 6 = .ok (.iload_n 2, 1) := by decide +kernel
theorem dX5_within_7 : decode cX5_within 7 = .ok (.if_icmp .gt 7, 3) := by decide +kernel
theorem dX5_within_10 : decode cX5_within 10 = .ok (.iconst 1, 1) := by decide +kernel
theorem dX5_within_11 : decode cX5_within 11 = .ok (.goto 4, 3) := by decide +kernel
theorem dX5_within_14 : decode cX5_within 14 = .ok (.iconst 0, 1) := by decide +kernel
theorem dX5_within_15 : decode cX5_within 15 = .ok (.ireturn, 1) := by decide +kernel
theorem dX5_isSize_0 : decode cX5_isSize 0 = .ok (.iload_n 0, 1) := by decide +kernel
theorem dX5_isSize_1 : decode cX5_isSize 1 = .ok (.bipush 6, 2) := by decide +kernel
theorem dX5_isSize_3 : decode cX5_isSize 3 = .ok (.bipush 48, 2) := by decide +kernel
theorem dX5_isSize_5 : decode cX5_isSize 5 = .ok (.invokestatic 79, 3) := by decide +kernel
theorem dX5_isSize_8 : decode cX5_isSize 8 = .ok (.ireturn, 1) := by decide +kernel
theorem dX5_inPixels_0 : decode cX5_inPixels 0 = .ok (.iload_n 0, 1) := by decide +kernel
theorem dX5_inPixels_1 : decode cX5_inPixels 1 = .ok (.iload_n 1, 1) := by decide +kernel
theorem dX5_inPixels_2 : decode cX5_inPixels 2 = .ok (.imul, 1) := by decide +kernel
theorem dX5_inPixels_3 : decode cX5_inPixels 3 = .ok (.sipush 500, 3) := by decide +kernel
theorem dX5_inPixels_6 : decode cX5_inPixels 6 = .ok (.iadd, 1) := by decide +kernel
theorem dX5_inPixels_7 : decode cX5_inPixels 7 = .ok (.sipush 1000, 3) := by decide +kernel
theorem dX5_inPixels_10 : decode cX5_inPixels 10 = .ok (.invokestatic 279, 3) := by decide +kernel
theorem dX5_inPixels_13 : decode cX5_inPixels 13 = .ok (.ireturn, 1) := by decide +kernel
theorem dX5_cell_0 : decode cX5_cell 0 = .ok (.iload_n 1, 1) := by decide +kernel
theorem dX5_cell_1 : decode cX5_cell 1 = .ok (.ifCond .lt 15, 3) := by decide +kernel
theorem dX5_cell_4 : decode cX5_cell 4 = .ok (.iload_n 1, 1) := by decide +kernel
theorem dX5_cell_5 : decode cX5_cell 5 = .ok (.aload_n 0, 1) := by decide +kernel
theorem dX5_cell_6 : decode cX5_cell 6 = .ok (.arraylength, 1) := by decide +kernel
theorem dX5_cell_7 : decode cX5_cell 7 = .ok (.if_icmp .ge 9, 3) := by decide +kernel
theorem dX5_cell_10 : decode cX5_cell 10 = .ok (.aload_n 0, 1) := by decide +kernel
theorem dX5_cell_11 : decode cX5_cell 11 = .ok (.iload_n 1, 1) := by decide +kernel
theorem dX5_cell_12 : decode cX5_cell 12 = .ok (.iaload, 1) := by decide +kernel
theorem dX5_cell_13 : decode cX5_cell 13 = .ok (.goto 4, 3) := by decide +kernel
theorem dX5_cell_16 : decode cX5_cell 16 = .ok (.iconst 0, 1) := by decide +kernel
theorem dX5_cell_17 : decode cX5_cell 17 = .ok (.ireturn, 1) := by decide +kernel
theorem dX5_put_0 : decode cX5_put 0 = .ok (.iload_n 1, 1) := by decide +kernel
theorem dX5_put_1 : decode cX5_put 1 = .ok (.ifCond .lt 13, 3) := by decide +kernel
theorem dX5_put_4 : decode cX5_put 4 = .ok (.iload_n 1, 1) := by decide +kernel
theorem dX5_put_5 : decode cX5_put 5 = .ok (.aload_n 0, 1) := by decide +kernel
theorem dX5_put_6 : decode cX5_put 6 = .ok (.arraylength, 1) := by decide +kernel
theorem dX5_put_7 : decode cX5_put 7 = .ok (.if_icmp .ge 7, 3) := by decide +kernel
theorem dX5_put_10 : decode cX5_put 10 = .ok (.aload_n 0, 1) := by decide +kernel
theorem dX5_put_11 : decode cX5_put 11 = .ok (.iload_n 1, 1) := by decide +kernel
theorem dX5_put_12 : decode cX5_put 12 = .ok (.iload_n 2, 1) := by decide +kernel
theorem dX5_put_13 : decode cX5_put 13 = .ok (.iastore, 1) := by decide +kernel
theorem dX5_put_14 : decode cX5_put 14 = .ok (.return_, 1) := by decide +kernel
theorem dX5_copyRow_0 : decode cX5_copyRow 0 = .ok (.iconst 0, 1) := by decide +kernel
theorem dX5_copyRow_1 : decode cX5_copyRow 1 = .ok (.istore_n 2, 1) := by decide +kernel
theorem dX5_copyRow_2 : decode cX5_copyRow 2 = .ok (.iload_n 2, 1) := by decide +kernel
theorem dX5_copyRow_3 : decode cX5_copyRow 3 = .ok (.aload_n 1, 1) := by decide +kernel
theorem dX5_copyRow_4 : decode cX5_copyRow 4 = .ok (.arraylength, 1) := by decide +kernel
theorem dX5_copyRow_5 : decode cX5_copyRow 5 = .ok (.if_icmp .ge 21, 3) := by decide +kernel
theorem dX5_copyRow_8 : decode cX5_copyRow 8 = .ok (.iload_n 2, 1) := by decide +kernel
theorem dX5_copyRow_9 : decode cX5_copyRow 9 = .ok (.aload_n 0, 1) := by decide +kernel
theorem dX5_copyRow_10 : decode cX5_copyRow 10 = .ok (.arraylength, 1) := by decide +kernel
theorem dX5_copyRow_11 : decode cX5_copyRow 11 = .ok (.if_icmp .ge 15, 3) := by decide +kernel
theorem dX5_copyRow_14 : decode cX5_copyRow 14 = .ok (.aload_n 1, 1) := by decide +kernel
theorem dX5_copyRow_15 : decode cX5_copyRow 15 = .ok (.iload_n 2, 1) := by decide +kernel
theorem dX5_copyRow_16 : decode cX5_copyRow 16 = .ok (.aload_n 0, 1) := by decide +kernel
theorem dX5_copyRow_17 : decode cX5_copyRow 17 = .ok (.iload_n 2, 1) := by decide +kernel
theorem dX5_copyRow_18 : decode cX5_copyRow 18 = .ok (.iaload, 1) := by decide +kernel
theorem dX5_copyRow_19 : decode cX5_copyRow 19 = .ok (.iastore, 1) := by decide +kernel
theorem dX5_copyRow_20 : decode cX5_copyRow 20 = .ok (.iinc 2 1, 3) := by decide +kernel
theorem dX5_copyRow_23 : decode cX5_copyRow 23 = .ok (.goto (-21), 3) := by decide +kernel
theorem dX5_copyRow_26 : decode cX5_copyRow 26 = .ok (.return_, 1) := by decide +kernel
theorem dX5_bitOf_0 : decode cX5_bitOf 0 = .ok (.lload_n 0, 1) := by decide +kernel
theorem dX5_bitOf_1 : decode cX5_bitOf 1 = .ok (.iload_n 2, 1) := by decide +kernel
theorem dX5_bitOf_2 : decode cX5_bitOf 2 = .ok (.lushr, 1) := by decide +kernel
theorem dX5_bitOf_3 : decode cX5_bitOf 3 = .ok (.lconst 1, 1) := by decide +kernel
theorem dX5_bitOf_4 : decode cX5_bitOf 4 = .ok (.land, 1) := by decide +kernel
theorem dX5_bitOf_5 : decode cX5_bitOf 5 = .ok (.l2i, 1) := by decide +kernel
theorem dX5_bitOf_6 : decode cX5_bitOf 6 = .ok (.ireturn, 1) := by decide +kernel
theorem dX5_runsOf_0 : decode cX5_runsOf 0 = .ok (.lload_n 0, 1) := by decide +kernel
theorem dX5_runsOf_1 : decode cX5_runsOf 1 = .ok (.lload_n 0, 1) := by decide +kernel
theorem dX5_runsOf_2 : decode cX5_runsOf 2 = .ok (.iconst 1, 1) := by decide +kernel
theorem dX5_runsOf_3 : decode cX5_runsOf 3 = .ok (.lshl, 1) := by decide +kernel
theorem dX5_runsOf_4 : decode cX5_runsOf 4 = .ok (.ldc2_w 284, 3) := by decide +kernel
theorem dX5_runsOf_7 : decode cX5_runsOf 7 = .ok (.lxor, 1) := by decide +kernel
theorem dX5_runsOf_8 : decode cX5_runsOf 8 = .ok (.land, 1) := by decide +kernel
theorem dX5_runsOf_9 : decode cX5_runsOf 9 = .ok (.invokestatic 142, 3) := by decide +kernel
theorem dX5_runsOf_12 : decode cX5_runsOf 12 = .ok (.ireturn, 1) := by decide +kernel
theorem dX5_bitsOf_0 : decode cX5_bitsOf 0 = .ok (.fload_n 0, 1) := by decide +kernel
theorem dX5_bitsOf_1 : decode cX5_bitsOf 1 = .ok (.fstore_n 1, 1) := by decide +kernel
theorem dX5_bitsOf_2 : decode cX5_bitsOf 2 = .ok (.bipush 127, 2) := by decide +kernel
theorem dX5_bitsOf_4 : decode cX5_bitsOf 4 = .ok (.istore_n 2, 1) := by decide +kernel
theorem dX5_bitsOf_5 : decode cX5_bitsOf 5 = .ok (.fload_n 1, 1) := by decide +kernel
theorem dX5_bitsOf_6 : decode cX5_bitsOf 6 = .ok (.fconst 2, 1) := by decide +kernel
theorem dX5_bitsOf_7 : decode cX5_bitsOf 7 = .ok (.fcmp .l, 1) := by decide +kernel
theorem dX5_bitsOf_8 : decode cX5_bitsOf 8 = .ok (.ifCond .lt 20, 3) := by decide +kernel
theorem dX5_bitsOf_11 : decode cX5_bitsOf 11 = .ok (.iload_n 2, 1) := by decide +kernel
theorem dX5_bitsOf_12 : decode cX5_bitsOf 12 = .ok (.sipush 254, 3) := by decide +kernel
theorem dX5_bitsOf_15 : decode cX5_bitsOf 15 = .ok (.if_icmp .ge 13, 3) := by decide +kernel
theorem dX5_bitsOf_18 : decode cX5_bitsOf 18 = .ok (.fload_n 1, 1) := by decide +kernel
theorem dX5_bitsOf_19 : decode cX5_bitsOf 19 = .ok (.fconst 2, 1) := by decide +kernel
theorem dX5_bitsOf_20 : decode cX5_bitsOf 20 = .ok (.fdiv, 1) := by decide +kernel
theorem dX5_bitsOf_21 : decode cX5_bitsOf 21 = .ok (.fstore_n 1, 1) := by decide +kernel
theorem dX5_bitsOf_22 : decode cX5_bitsOf 22 = .ok (.iinc 2 1, 3) := by decide +kernel
theorem dX5_bitsOf_25 : decode cX5_bitsOf 25 = .ok (.goto (-20), 3) := by decide +kernel
theorem dX5_bitsOf_28 : decode cX5_bitsOf 28 = .ok (.iload_n 2, 1) := by decide +kernel
theorem dX5_bitsOf_29 : decode cX5_bitsOf 29 = .ok (.bipush 23, 2) := by decide +kernel
theorem dX5_bitsOf_31 : decode cX5_bitsOf 31 = .ok (.ishl, 1) := by decide +kernel
theorem dX5_bitsOf_32 : decode cX5_bitsOf 32 = .ok (.fload_n 1, 1) := by decide +kernel
theorem dX5_bitsOf_33 : decode cX5_bitsOf 33 = .ok (.fconst 1, 1) := by decide +kernel
theorem dX5_bitsOf_34 : decode cX5_bitsOf 34 = .ok (.fsub, 1) := by decide +kernel
theorem dX5_bitsOf_35 : decode cX5_bitsOf 35 = .ok (.ldc_w 286, 3) := by decide +kernel
theorem dX5_bitsOf_38 : decode cX5_bitsOf 38 = .ok (.fmul, 1) := by decide +kernel
theorem dX5_bitsOf_39 : decode cX5_bitsOf 39 = .ok (.f2i, 1) := by decide +kernel
theorem dX5_bitsOf_40 : decode cX5_bitsOf 40 = .ok (.ior, 1) := by decide +kernel
theorem dX5_bitsOf_41 : decode cX5_bitsOf 41 = .ok (.ireturn, 1) := by decide +kernel
theorem dX6_init_0 : decode cX6_init 0 = .ok (.aload_n 0, 1) := by decide +kernel
theorem dX6_init_1 : decode cX6_init 1 = .ok (.invokespecial 1, 3) := by decide +kernel
theorem dX6_init_4 : decode cX6_init 4 = .ok (.aload_n 0, 1) := by decide +kernel
theorem dX6_init_5 : decode cX6_init 5 = .ok (.sipush 273, 3) := by decide +kernel
theorem dX6_init_8 : decode cX6_init 8 = .ok (.newarray .int, 2) := by decide +kernel
theorem dX6_init_10 : decode cX6_init 10 = .ok (.putfield 7, 3) := by decide +kernel
theorem dX6_init_13 : decode cX6_init 13 = .ok (.aload_n 0, 1) := by decide +kernel
theorem dX6_init_14 : decode cX6_init 14 = .ok (.sipush 1092, 3) := by decide +kernel
theorem dX6_init_17 : decode cX6_init 17 = .ok (.newarray .int, 2) := by decide +kernel
theorem dX6_init_19 : decode cX6_init 19 = .ok (.putfield 13, 3) := by decide +kernel
theorem dX6_init_22 : decode cX6_init 22 = .ok (.aload_n 0, 1) := by decide +kernel
theorem dX6_init_23 : decode cX6_init 23 = .ok (.sipush 273, 3) := by decide +kernel
theorem dX6_init_26 : decode cX6_init 26 = .ok (.newarray .int, 2) := by decide +kernel
theorem dX6_init_28 : decode cX6_init 28 = .ok (.putfield 16, 3) := by decide +kernel
theorem dX6_init_31 : decode cX6_init 31 = .ok (.aload_n 0, 1) := by decide +kernel
theorem dX6_init_32 : decode cX6_init 32 = .ok (.bipush 60, 2) := by decide +kernel
theorem dX6_init_34 : decode cX6_init 34 = .ok (.newarray .int, 2) := by decide +kernel
theorem dX6_init_36 : decode cX6_init 36 = .ok (.putfield 19, 3) := by decide +kernel
theorem dX6_init_39 : decode cX6_init 39 = .ok (.aload_n 0, 1) := by decide +kernel
theorem dX6_init_40 : decode cX6_init 40 = .ok (.bipush 6, 2) := by decide +kernel
theorem dX6_init_42 : decode cX6_init 42 = .ok (.newarray .int, 2) := by decide +kernel
theorem dX6_init_44 : decode cX6_init 44 = .ok (.putfield 22, 3) := by decide +kernel
theorem dX6_init_47 : decode cX6_init 47 = .ok (.aload_n 0, 1) := by decide +kernel
theorem dX6_init_48 : decode cX6_init 48 = .ok (.bipush 6, 2) := by decide +kernel
theorem dX6_init_50 : decode cX6_init 50 = .ok (.newarray .int, 2) := by decide +kernel
theorem dX6_init_52 : decode cX6_init 52 = .ok (.putfield 25, 3) := by decide +kernel
theorem dX6_init_55 : decode cX6_init 55 = .ok (.aload_n 0, 1) := by decide +kernel
theorem dX6_init_56 : decode cX6_init 56 = .ok (.iconst 3, 1) := by decide +kernel
theorem dX6_init_57 : decode cX6_init 57 = .ok (.newarray .int, 2) := by decide +kernel
theorem dX6_init_59 : decode cX6_init 59 = .ok (.putfield 28, 3) := by decide +kernel
theorem dX6_init_62 : decode cX6_init 62 = .ok (.aload_n 0, 1) := by decide +kernel
theorem dX6_init_63 : decode cX6_init 63 = .ok (.getfield 7, 3) := by decide +kernel
theorem dX6_init_66 : decode cX6_init 66 = .ok (.iconst 5, 1) := by decide +kernel
theorem dX6_init_67 : decode cX6_init 67 = .ok (.bipush 20, 2) := by decide +kernel
theorem dX6_init_69 : decode cX6_init 69 = .ok (.iastore, 1) := by decide +kernel
theorem dX6_init_70 : decode cX6_init 70 = .ok (.aload_n 0, 1) := by decide +kernel
theorem dX6_init_71 : decode cX6_init 71 = .ok (.getfield 7, 3) := by decide +kernel
theorem dX6_init_74 : decode cX6_init 74 = .ok (.bipush 6, 2) := by decide +kernel
theorem dX6_init_76 : decode cX6_init 76 = .ok (.iconst 1, 1) := by decide +kernel
theorem dX6_init_77 : decode cX6_init 77 = .ok (.iastore, 1) := by decide +kernel
theorem dX6_init_78 : decode cX6_init 78 = .ok (.return_, 1) := by decide +kernel
theorem dX6_in_0 : decode cX6_in 0 = .ok (.iload_n 0, 1) := by decide +kernel
theorem dX6_in_1 : decode cX6_in 1 = .ok (.iload_n 1, 1) := by decide +kernel
theorem dX6_in_2 : decode cX6_in 2 = .ok (.if_icmp .lt 12, 3) := by decide +kernel
theorem dX6_in_5 : decode cX6_in 5 = .ok (.iload_n 0, 1) := by decide +kernel
theorem dX6_in_6 : decode cX6_in 6 = .ok (.iload_n 2, 1) := by decide +kernel
theorem dX6_in_7 : decode cX6_in 7 = .ok (.if_icmp .gt 7, 3) := by decide +kernel
theorem dX6_in_10 : decode cX6_in 10 = .ok (.iconst 1, 1) := by decide +kernel
theorem dX6_in_11 : decode cX6_in 11 = .ok (.goto 4, 3) := by decide +kernel
theorem dX6_in_14 : decode cX6_in 14 = .ok (.iconst 0, 1) := by decide +kernel
theorem dX6_in_15 : decode cX6_in 15 = .ok (.ireturn, 1) := by decide +kernel
theorem dX6_floor_0 : decode cX6_floor 0 = .ok (.iload_n 0, 1) := by decide +kernel
theorem dX6_floor_1 : decode cX6_floor 1 = .ok (.ifCond .lt 9, 3) := by decide +kernel
theorem dX6_floor_4 : decode cX6_floor 4 = .ok (.iload_n 0, 1) := by decide +kernel
theorem dX6_floor_5 : decode cX6_floor 5 = .ok (.iload_n 1, 1) := by decide +kernel
theorem dX6_floor_6 : decode cX6_floor 6 = .ok (.idiv, 1) := by decide +kernel
theorem dX6_floor_7 : decode cX6_floor 7 = .ok (.goto 11, 3) := by decide +kernel
theorem dX6_floor_10 : decode cX6_floor 10 = .ok (.iload_n 1, 1) := by decide +kernel
theorem dX6_floor_11 : decode cX6_floor 11 = .ok (.iconst 1, 1) := by decide +kernel
theorem dX6_floor_12 : decode cX6_floor 12 = .ok (.isub, 1) := by decide +kernel
theorem dX6_floor_13 : decode cX6_floor 13 = .ok (.iload_n 0, 1) := by decide +kernel
theorem dX6_floor_14 : decode cX6_floor 14 = .ok (.isub, 1) := by decide +kernel
theorem dX6_floor_15 : decode cX6_floor 15 = .ok (.iload_n 1, 1) := by decide +kernel
theorem dX6_floor_16 : decode cX6_floor 16 = .ok (.idiv, 1) := by decide +kernel
theorem dX6_floor_17 : decode cX6_floor 17 = .ok (.ineg, 1) := by decide +kernel
theorem dX6_floor_18 : decode cX6_floor 18 = .ok (.ireturn, 1) := by decide +kernel
theorem dX6_copies_0 : decode cX6_copies 0 = .ok (.iconst 0, 1) := by decide +kernel
theorem dX6_copies_1 : decode cX6_copies 1 = .ok (.istore_n 2, 1) := by decide +kernel
theorem dX6_copies_2 : decode cX6_copies 2 = .ok (.iload_n 2, 1) := by decide +kernel
theorem dX6_copies_3 : decode cX6_copies 3 = .ok (.sipush 273, 3) := by decide +kernel
theorem dX6_copies_6 : decode cX6_copies 6 = .ok (.if_icmp .ge 15, 3) := by decide +kernel
theorem dX6_copies_9 : decode cX6_copies 9 = .ok (.aload_n 1, 1) := by decide +kernel
theorem dX6_copies_10 : decode cX6_copies 10 = .ok (.iload_n 2, 1) := by decide +kernel
theorem dX6_copies_11 : decode cX6_copies 11 = .ok (.aload_n 0, 1) := by decide +kernel
theorem dX6_copies_12 : decode cX6_copies 12 = .ok (.iload_n 2, 1) := by decide +kernel
theorem dX6_copies_13 : decode cX6_copies 13 = .ok (.iaload, 1) := by decide +kernel
theorem dX6_copies_14 : decode cX6_copies 14 = .ok (.iastore, 1) := by decide +kernel
theorem dX6_copies_15 : decode cX6_copies 15 = .ok (.iinc 2 1, 3) := by decide +kernel
theorem dX6_copies_18 : decode cX6_copies 18 = .ok (.goto (-16), 3) := by decide +kernel
theorem dX6_copies_21 : decode cX6_copies 21 = .ok (.return_, 1) := by decide +kernel
theorem dX6_changes_0 : decode cX6_changes 0 = .ok (.aload_n 0, 1) := by decide +kernel
theorem dX6_changes_1 : decode cX6_changes 1 = .ok (.getfield 31, 3) := by decide +kernel
theorem dX6_changes_4 : decode cX6_changes 4 = .ok (.ifCond .eq 4, 3) := by decide +kernel
theorem dX6_changes_7 : decode cX6_changes 7 = .ok (.return_, 1) := by decide +kernel
theorem dX6_changes_8 : decode cX6_changes 8 = .ok (.aload_n 0, 1) := by decide +kernel
theorem dX6_changes_9 : decode cX6_changes 9 = .ok (.getfield 35, 3) := by decide +kernel
theorem dX6_changes_12 : decode cX6_changes 12 = .ok (.iconst 4, 1) := by decide +kernel
theorem dX6_changes_13 : decode cX6_changes 13 = .ok (.if_icmp .ne 44, 3) := by decide +kernel
theorem dX6_changes_16 : decode cX6_changes 16 = .ok (.iconst 0, 1) := by decide +kernel
theorem dX6_changes_17 : decode cX6_changes 17 = .ok (.istore_n 1, 1) := by decide +kernel
theorem dX6_changes_18 : decode cX6_changes 18 = .ok (.iload_n 1, 1) := by decide +kernel
theorem dX6_changes_19 : decode cX6_changes 19 = .ok (.sipush 819, 3) := by decide +kernel
theorem dX6_changes_22 : decode cX6_changes 22 = .ok (.if_icmp .ge 25, 3) := by decide +kernel
theorem dX6_changes_25 : decode cX6_changes 25 = .ok (.aload_n 0, 1) := by decide +kernel
theorem dX6_changes_26 : decode cX6_changes 26 = .ok (.getfield 13, 3) := by decide +kernel
theorem dX6_changes_29 : decode cX6_changes 29 = .ok (.iload_n 1, 1) := by decide +kernel
theorem dX6_changes_30 : decode cX6_changes 30 = .ok (.aload_n 0, 1) := by decide +kernel
theorem dX6_changes_31 : decode cX6_changes 31 = .ok (.getfield 13, 3) := by decide +kernel
theorem dX6_changes_34 : decode cX6_changes 34 = .ok (.iload_n 1, 1) := by decide +kernel
theorem dX6_changes_35 : decode cX6_changes 35 = .ok (.sipush 273, 3) := by decide +kernel
theorem dX6_changes_38 : decode cX6_changes 38 = .ok (.iadd, 1) := by decide +kernel
theorem dX6_changes_39 : decode cX6_changes 39 = .ok (.iaload, 1) := by decide +kernel
theorem dX6_changes_40 : decode cX6_changes 40 = .ok (.iastore, 1) := by decide +kernel
theorem dX6_changes_41 : decode cX6_changes 41 = .ok (.iinc 1 1, 3) := by decide +kernel
theorem dX6_changes_44 : decode cX6_changes 44 = .ok (.goto (-26), 3) := by decide +kernel
theorem dX6_changes_47 : decode cX6_changes 47 = .ok (.aload_n 0, 1) := by decide +kernel
theorem dX6_changes_48 : decode cX6_changes 48 = .ok (.dup, 1) := by decide +kernel
theorem dX6_changes_49 : decode cX6_changes 49 = .ok (.getfield 35, 3) := by decide +kernel
theorem dX6_changes_52 : decode cX6_changes 52 = .ok (.iconst 1, 1) := by decide +kernel
theorem dX6_changes_53 : decode cX6_changes 53 = .ok (.isub, 1) := by decide +kernel
theorem dX6_changes_54 : decode cX6_changes 54 = .ok (.putfield 35, 3) := by decide +kernel
theorem dX6_changes_57 : decode cX6_changes 57 = .ok (.iconst 0, 1) := by decide +kernel
theorem dX6_changes_58 : decode cX6_changes 58 = .ok (.istore_n 1, 1) := by decide +kernel
theorem dX6_changes_59 : decode cX6_changes 59 = .ok (.iload_n 1, 1) := by decide +kernel
theorem dX6_changes_60 : decode cX6_changes 60 = .ok (.sipush 273, 3) := by decide +kernel
theorem dX6_changes_63 : decode cX6_changes 63 = .ok (.if_icmp .ge 30, 3) := by decide +kernel
theorem dX6_changes_66 : decode cX6_changes 66 = .ok (.aload_n 0, 1) := by decide +kernel
theorem dX6_changes_67 : decode cX6_changes 67 = .ok (.getfield 13, 3) := by decide +kernel
theorem dX6_changes_70 : decode cX6_changes 70 = .ok (.sipush 273, 3) := by decide +kernel
theorem dX6_changes_73 : decode cX6_changes 73 = .ok (.aload_n 0, 1) := by decide +kernel
theorem dX6_changes_74 : decode cX6_changes 74 = .ok (.getfield 35, 3) := by decide +kernel
theorem dX6_changes_77 : decode cX6_changes 77 = .ok (.imul, 1) := by decide +kernel
theorem dX6_changes_78 : decode cX6_changes 78 = .ok (.iload_n 1, 1) := by decide +kernel
theorem dX6_changes_79 : decode cX6_changes 79 = .ok (.iadd, 1) := by decide +kernel
theorem dX6_changes_80 : decode cX6_changes 80 = .ok (.aload_n 0, 1) := by decide +kernel
theorem dX6_changes_81 : decode cX6_changes 81 = .ok (.getfield 7, 3) := by decide +kernel
theorem dX6_changes_84 : decode cX6_changes 84 = .ok (.iload_n 1, 1) := by decide +kernel
theorem dX6_changes_85 : decode cX6_changes 85 = .ok (.iaload, 1) := by decide +kernel
theorem dX6_changes_86 : decode cX6_changes 86 = .ok (.iastore, 1) := by decide +kernel
theorem dX6_changes_87 : decode cX6_changes 87 = .ok (.iinc 1 1, 3) := by decide +kernel
theorem dX6_changes_90 : decode cX6_changes 90 = .ok (.goto (-31), 3) := by decide +kernel
theorem dX6_changes_93 : decode cX6_changes 93 = .ok (.aload_n 0, 1) := by decide +kernel
theorem dX6_changes_94 : decode cX6_changes 94 = .ok (.dup, 1) := by decide +kernel
theorem dX6_changes_95 : decode cX6_changes 95 = .ok (.getfield 35, 3) := by decide +kernel
theorem dX6_changes_98 : decode cX6_changes 98 = .ok (.iconst 1, 1) := by decide +kernel
theorem dX6_changes_99 : decode cX6_changes 99 = .ok (.iadd, 1) := by decide +kernel
theorem dX6_changes_100 : decode cX6_changes 100 = .ok (.putfield 35, 3) := by decide +kernel
theorem dX6_changes_103 : decode cX6_changes 103 = .ok (.return_, 1) := by decide +kernel
theorem dX6_isSize_0 : decode cX6_isSize 0 = .ok (.iload_n 0, 1) := by decide +kernel
theorem dX6_isSize_1 : decode cX6_isSize 1 = .ok (.bipush 6, 2) := by decide +kernel
theorem dX6_isSize_3 : decode cX6_isSize 3 = .ok (.bipush 48, 2) := by decide +kernel
theorem dX6_isSize_5 : decode cX6_isSize 5 = .ok (.invokestatic 39, 3) := by decide +kernel
theorem dX6_isSize_8 : decode cX6_isSize 8 = .ok (.ireturn, 1) := by decide +kernel
theorem dX6_isGlyph_0 : decode cX6_isGlyph 0 = .ok (.iload_n 1, 1) := by decide +kernel
theorem dX6_isGlyph_1 : decode cX6_isGlyph 1 = .ok (.ifCond .lt 17, 3) := by decide +kernel
theorem dX6_isGlyph_4 : decode cX6_isGlyph 4 = .ok (.iload_n 1, 1) := by decide +kernel
theorem dX6_isGlyph_5 : decode cX6_isGlyph 5 = .ok (.aload_n 0, 1) := by decide +kernel
theorem dX6_isGlyph_6 : decode cX6_isGlyph 6 = .ok (.getfield 7, 3) := by decide +kernel
theorem dX6_isGlyph_9 : decode cX6_isGlyph 9 = .ok (.iconst 0, 1) := by decide +kernel
theorem dX6_isGlyph_10 : decode cX6_isGlyph 10 = .ok (.iaload, 1) := by decide +kernel
theorem dX6_isGlyph_11 : decode cX6_isGlyph 11 = .ok (.if_icmp .ge 7, 3) := by decide +kernel
theorem dX6_isGlyph_14 : decode cX6_isGlyph 14 = .ok (.iconst 1, 1) := by decide +kernel
theorem dX6_isGlyph_15 : decode cX6_isGlyph 15 = .ok (.goto 4, 3) := by decide +kernel
theorem dX6_isGlyph_18 : decode cX6_isGlyph 18 = .ok (.iconst 0, 1) := by decide +kernel
theorem dX6_isGlyph_19 : decode cX6_isGlyph 19 = .ok (.ireturn, 1) := by decide +kernel
theorem dX6_of_0 : decode cX6_of 0 = .ok (.aload_n 0, 1) := by decide +kernel
theorem dX6_of_1 : decode cX6_of 1 = .ok (.getfield 7, 3) := by decide +kernel
theorem dX6_of_4 : decode cX6_of 4 = .ok (.bipush 9, 2) := by decide +kernel
theorem dX6_of_6 : decode cX6_of 6 = .ok (.bipush 20, 2) := by decide +kernel
theorem dX6_of_8 : decode cX6_of 8 = .ok (.iload_n 1, 1) := by decide +kernel
theorem dX6_of_9 : decode cX6_of 9 = .ok (.imul, 1) := by decide +kernel
theorem dX6_of_10 : decode cX6_of 10 = .ok (.iadd, 1) := by decide +kernel
theorem dX6_of_11 : decode cX6_of 11 = .ok (.iload_n 2, 1) := by decide +kernel
theorem dX6_of_12 : decode cX6_of 12 = .ok (.iadd, 1) := by decide +kernel
theorem dX6_of_13 : decode cX6_of 13 = .ok (.iaload, 1) := by decide +kernel
theorem dX6_of_14 : decode cX6_of 14 = .ok (.ireturn, 1) := by decide +kernel
theorem dX6_isStem_0 : decode cX6_isStem 0 = .ok (.aload_n 0, 1) := by decide +kernel
theorem dX6_isStem_1 : decode cX6_isStem 1 = .ok (.iload_n 1, 1) := by decide +kernel
theorem dX6_isStem_2 : decode cX6_isStem 2 = .ok (.invokevirtual 43, 3) := by decide +kernel
theorem dX6_isStem_5 : decode cX6_isStem 5 = .ok (.ifCond .eq 21, 3) := by decide +kernel
theorem dX6_isStem_8 : decode cX6_isStem 8 = .ok (.iload_n 2, 1) := by decide +kernel
theorem dX6_isStem_9 : decode cX6_isStem 9 = .ok (.ifCond .lt 17, 3) := by decide +kernel
theorem dX6_isStem_12 : decode cX6_isStem 12 = .ok (.iload_n 2, 1) := by decide +kernel
theorem dX6_isStem_13 : decode cX6_isStem 13 = .ok (.aload_n 0, 1) := by decide +kernel
theorem dX6_isStem_14 : decode cX6_isStem 14 = .ok (.iload_n 1, 1) := by decide +kernel
theorem dX6_isStem_15 : decode cX6_isStem 15 = .ok (.iconst 1, 1) := by decide +kernel
theorem dX6_isStem_16 : decode cX6_isStem 16 = .ok (.invokevirtual 47, 3) := by decide +kernel
theorem dX6_isStem_19 : decode cX6_isStem 19 = .ok (.if_icmp .ge 7, 3) := by decide +kernel
theorem dX6_isStem_22 : decode cX6_isStem 22 = .ok (.iconst 1, 1) := by decide +kernel
theorem dX6_isStem_23 : decode cX6_isStem 23 = .ok (.goto 4, 3) := by decide +kernel
theorem dX6_isStem_26 : decode cX6_isStem 26 = .ok (.iconst 0, 1) := by decide +kernel
theorem dX6_isStem_27 : decode cX6_isStem 27 = .ok (.ireturn, 1) := by decide +kernel
theorem dX6_at_0 : decode cX6_at 0 = .ok (.bipush 9, 2) := by decide +kernel
theorem dX6_at_2 : decode cX6_at 2 = .ok (.bipush 20, 2) := by decide +kernel
theorem dX6_at_4 : decode cX6_at 4 = .ok (.iload_n 0, 1) := by decide +kernel
theorem dX6_at_5 : decode cX6_at 5 = .ok (.imul, 1) := by decide +kernel
theorem dX6_at_6 : decode cX6_at 6 = .ok (.iadd, 1) := by decide +kernel
theorem dX6_at_7 : decode cX6_at 7 = .ok (.iconst 2, 1) := by decide +kernel
theorem dX6_at_8 : decode cX6_at 8 = .ok (.iadd, 1) := by decide +kernel
theorem dX6_at_9 : decode cX6_at 9 = .ok (.iconst 3, 1) := by decide +kernel
theorem dX6_at_10 : decode cX6_at 10 = .ok (.iload_n 1, 1) := by decide +kernel
theorem dX6_at_11 : decode cX6_at 11 = .ok (.imul, 1) := by decide +kernel
theorem dX6_at_12 : decode cX6_at 12 = .ok (.iadd, 1) := by decide +kernel
theorem dX6_at_13 : decode cX6_at 13 = .ok (.iload_n 2, 1) := by decide +kernel
theorem dX6_at_14 : decode cX6_at 14 = .ok (.iadd, 1) := by decide +kernel
theorem dX6_at_15 : decode cX6_at 15 = .ok (.ireturn, 1) := by decide +kernel
theorem dX6_ofStem_0 : decode cX6_ofStem 0 = .ok (.aload_n 0, 1) := by decide +kernel
theorem dX6_ofStem_1 : decode cX6_ofStem 1 = .ok (.getfield 7, 3) := by decide +kernel
theorem dX6_ofStem_4 : decode cX6_ofStem 4 = .ok (.iload_n 1, 1) := by decide +kernel
theorem dX6_ofStem_5 : decode cX6_ofStem 5 = .ok (.iload_n 2, 1) := by decide +kernel
theorem dX6_ofStem_6 : decode cX6_ofStem 6 = .ok (.iload_n 3, 1) := by decide +kernel
theorem dX6_ofStem_7 : decode cX6_ofStem 7 = .ok (.invokestatic 51, 3) := by decide +kernel
theorem dX6_ofStem_10 : decode cX6_ofStem 10 = .ok (.iaload, 1) := by decide +kernel
theorem dX6_ofStem_11 : decode cX6_ofStem 11 = .ok (.ireturn, 1) := by decide +kernel
theorem dX6_endOf_0 : decode cX6_endOf 0 = .ok (.aload_n 0, 1) := by decide +kernel
theorem dX6_endOf_1 : decode cX6_endOf 1 = .ok (.iload_n 1, 1) := by decide +kernel
theorem dX6_endOf_2 : decode cX6_endOf 2 = .ok (.iload_n 2, 1) := by decide +kernel
theorem dX6_endOf_3 : decode cX6_endOf 3 = .ok (.iconst 0, 1) := by decide +kernel
theorem dX6_endOf_4 : decode cX6_endOf 4 = .ok (.invokevirtual 55, 3) := by decide +kernel
theorem dX6_endOf_7 : decode cX6_endOf 7 = .ok (.aload_n 0, 1) := by decide +kernel
theorem dX6_endOf_8 : decode cX6_endOf 8 = .ok (.iload_n 1, 1) := by decide +kernel
theorem dX6_endOf_9 : decode cX6_endOf 9 = .ok (.iload_n 2, 1) := by decide +kernel
theorem dX6_endOf_10 : decode cX6_endOf 10 = .ok (.iconst 1, 1) := by decide +kernel
theorem dX6_endOf_11 : decode cX6_endOf 11 = .ok (.invokevirtual 55, 3) := by decide +kernel
theorem dX6_endOf_14 : decode cX6_endOf 14 = .ok (.iadd, 1) := by decide +kernel
theorem dX6_endOf_15 : decode cX6_endOf 15 = .ok (.ireturn, 1) := by decide +kernel
theorem dX6_glyph_0 : decode cX6_glyph 0 = .ok (.iload_n 1, 1) := by decide +kernel
theorem dX6_glyph_1 : decode cX6_glyph 1 = .ok (.bipush 100, 2) := by decide +kernel
theorem dX6_glyph_3 : decode cX6_glyph 3 = .ok (.sipush 1500, 3) := by decide +kernel
theorem dX6_glyph_6 : decode cX6_glyph 6 = .ok (.invokestatic 39, 3) := by decide +kernel
theorem dX6_glyph_9 : decode cX6_glyph 9 = .ok (.ifCond .ne 6, 3) := by decide +kernel
theorem dX6_glyph_12 : decode cX6_glyph 12 = .ok (.ldc 58, 2) := by decide +kernel
theorem dX6_glyph_14 : decode cX6_glyph 14 = .ok (.ireturn, 1) := by decide +kernel
theorem dX6_glyph_15 : decode cX6_glyph 15 = .ok (.aload_n 0, 1) := by decide +kernel
theorem dX6_glyph_16 : decode cX6_glyph 16 = .ok (.getfield 7, 3) := by decide +kernel
theorem dX6_glyph_19 : decode cX6_glyph 19 = .ok (.iconst 0, 1) := by decide +kernel
theorem dX6_glyph_20 : decode cX6_glyph 20 = .ok (.iaload, 1) := by decide +kernel
theorem dX6_glyph_21 : decode cX6_glyph 21 = .ok (.istore_n 2, 1) := by decide +kernel
theorem dX6_glyph_22 : decode cX6_glyph 22 = .ok (.iload_n 2, 1) := by decide +kernel
theorem dX6_glyph_23 : decode cX6_glyph 23 = .ok (.bipush 8, 2) := by decide +kernel
theorem dX6_glyph_25 : decode cX6_glyph 25 = .ok (.if_icmp .ne 6, 3) := by decide +kernel
theorem dX6_glyph_28 : decode cX6_glyph 28 = .ok (.ldc 59, 2) := by decide +kernel
theorem dX6_glyph_30 : decode cX6_glyph 30 = .ok (.ireturn, 1) := by decide +kernel
theorem dX6_glyph_31 : decode cX6_glyph 31 = .ok (.aload_n 0, 1) := by decide +kernel
theorem dX6_glyph_32 : decode cX6_glyph 32 = .ok (.invokevirtual 60, 3) := by decide +kernel
theorem dX6_glyph_35 : decode cX6_glyph 35 = .ok (.aload_n 0, 1) := by decide +kernel
theorem dX6_glyph_36 : decode cX6_glyph 36 = .ok (.getfield 7, 3) := by decide +kernel
theorem dX6_glyph_39 : decode cX6_glyph 39 = .ok (.bipush 9, 2) := by decide +kernel
theorem dX6_glyph_41 : decode cX6_glyph 41 = .ok (.bipush 20, 2) := by decide +kernel
theorem dX6_glyph_43 : decode cX6_glyph 43 = .ok (.iload_n 2, 1) := by decide +kernel
theorem dX6_glyph_44 : decode cX6_glyph 44 = .ok (.imul, 1) := by decide +kernel
theorem dX6_glyph_45 : decode cX6_glyph 45 = .ok (.iadd, 1) := by decide +kernel
theorem dX6_glyph_46 : decode cX6_glyph 46 = .ok (.iconst 0, 1) := by decide +kernel
theorem dX6_glyph_47 : decode cX6_glyph 47 = .ok (.iadd, 1) := by decide +kernel
theorem dX6_glyph_48 : decode cX6_glyph 48 = .ok (.iload_n 1, 1) := by decide +kernel
theorem dX6_glyph_49 : decode cX6_glyph 49 = .ok (.iastore, 1) := by decide +kernel
theorem dX6_glyph_50 : decode cX6_glyph 50 = .ok (.aload_n 0, 1) := by decide +kernel
theorem dX6_glyph_51 : decode cX6_glyph 51 = .ok (.getfield 7, 3) := by decide +kernel
theorem dX6_glyph_54 : decode cX6_glyph 54 = .ok (.bipush 9, 2) := by decide +kernel
theorem dX6_glyph_56 : decode cX6_glyph 56 = .ok (.bipush 20, 2) := by decide +kernel
theorem dX6_glyph_58 : decode cX6_glyph 58 = .ok (.iload_n 2, 1) := by decide +kernel
theorem dX6_glyph_59 : decode cX6_glyph 59 = .ok (.imul, 1) := by decide +kernel
theorem dX6_glyph_60 : decode cX6_glyph 60 = .ok (.iadd, 1) := by decide +kernel
theorem dX6_glyph_61 : decode cX6_glyph 61 = .ok (.iconst 1, 1) := by decide +kernel
theorem dX6_glyph_62 : decode cX6_glyph 62 = .ok (.iadd, 1) := by decide +kernel
theorem dX6_glyph_63 : decode cX6_glyph 63 = .ok (.iconst 0, 1) := by decide +kernel
theorem dX6_glyph_64 : decode cX6_glyph 64 = .ok (.iastore, 1) := by decide +kernel
theorem dX6_glyph_65 : decode cX6_glyph 65 = .ok (.aload_n 0, 1) := by decide +kernel
theorem dX6_glyph_66 : decode cX6_glyph 66 = .ok (.getfield 7, 3) := by decide +kernel
theorem dX6_glyph_69 : decode cX6_glyph 69 = .ok (.iconst 0, 1) := by decide +kernel
theorem dX6_glyph_70 : decode cX6_glyph 70 = .ok (.dup2, 1) := by decide +kernel
theorem dX6_glyph_71 : decode cX6_glyph 71 = .ok (.iaload, 1) := by decide +kernel
theorem dX6_glyph_72 : decode cX6_glyph 72 = .ok (.iconst 1, 1) := by decide +kernel
theorem dX6_glyph_73 : decode cX6_glyph 73 = .ok (.iadd, 1) := by decide +kernel
theorem dX6_glyph_74 : decode cX6_glyph 74 = .ok (.iastore, 1) := by decide +kernel
theorem dX6_glyph_75 : decode cX6_glyph 75 = .ok (.iload_n 2, 1) := by decide +kernel
theorem dX6_glyph_76 : decode cX6_glyph 76 = .ok (.ireturn, 1) := by decide +kernel
theorem dX6_ahead_0 : decode cX6_ahead 0 = .ok (.iconst 0, 1) := by decide +kernel
theorem dX6_ahead_1 : decode cX6_ahead 1 = .ok (.istore_n 3, 1) := by decide +kernel
theorem dX6_ahead_2 : decode cX6_ahead 2 = .ok (.iload_n 3, 1) := by decide +kernel
theorem dX6_ahead_3 : decode cX6_ahead 3 = .ok (.aload_n 0, 1) := by decide +kernel
theorem dX6_ahead_4 : decode cX6_ahead 4 = .ok (.iload_n 1, 1) := by decide +kernel
theorem dX6_ahead_5 : decode cX6_ahead 5 = .ok (.iconst 1, 1) := by decide +kernel
theorem dX6_ahead_6 : decode cX6_ahead 6 = .ok (.invokevirtual 47, 3) := by decide +kernel
theorem dX6_ahead_9 : decode cX6_ahead 9 = .ok (.if_icmp .ge 20, 3) := by decide +kernel
theorem dX6_ahead_12 : decode cX6_ahead 12 = .ok (.aload_n 0, 1) := by decide +kernel
theorem dX6_ahead_13 : decode cX6_ahead 13 = .ok (.iload_n 1, 1) := by decide +kernel
theorem dX6_ahead_14 : decode cX6_ahead 14 = .ok (.iload_n 3, 1) := by decide +kernel
theorem dX6_ahead_15 : decode cX6_ahead 15 = .ok (.iconst 0, 1) := by decide +kernel
theorem dX6_ahead_16 : decode cX6_ahead 16 = .ok (.invokevirtual 55, 3) := by decide +kernel
theorem dX6_ahead_19 : decode cX6_ahead 19 = .ok (.iload_n 2, 1) := by decide +kernel
theorem dX6_ahead_20 : decode cX6_ahead 20 = .ok (.if_icmp .ge 9, 3) := by decide +kernel
theorem dX6_ahead_23 : decode cX6_ahead 23 = .ok (.iinc 3 1, 3) := by decide +kernel
theorem dX6_ahead_26 : decode cX6_ahead 26 = .ok (.goto (-24), 3) := by decide +kernel
theorem dX6_ahead_29 : decode cX6_ahead 29 = .ok (.iload_n 3, 1) := by decide +kernel
theorem dX6_ahead_30 : decode cX6_ahead 30 = .ok (.ireturn, 1) := by decide +kernel
theorem dX6_stem_0 : decode cX6_stem 0 = .ok (.aload_n 0, 1) := by decide +kernel
theorem dX6_stem_1 : decode cX6_stem 1 = .ok (.iload_n 1, 1) := by decide +kernel
theorem dX6_stem_2 : decode cX6_stem 2 = .ok (.invokevirtual 43, 3) := by decide +kernel
theorem dX6_stem_5 : decode cX6_stem 5 = .ok (.ifCond .eq 25, 3) := by decide +kernel
theorem dX6_stem_8 : decode cX6_stem 8 = .ok (.iload_n 2, 1) := by decide +kernel
theorem dX6_stem_9 : decode cX6_stem 9 = .ok (.iconst 0, 1) := by decide +kernel
theorem dX6_stem_10 : decode cX6_stem 10 = .ok (.sipush 999, 3) := by decide +kernel
theorem dX6_stem_13 : decode cX6_stem 13 = .ok (.invokestatic 39, 3) := by decide +kernel
end
section
theorem dX6_stem_16 : decode cX6_stem 16 = .ok (.ifCond .eq 14, 3) := by decide +kernel
theorem dX6_stem_19 : decode cX6_stem 19 = .ok (.iload_n 3, 1) := by decide +kernel
theorem dX6_stem_20 : decode cX6_stem 20 = .ok (.iconst 1, 1) := by decide +kernel
theorem dX6_stem_21 : decode cX6_stem 21 = .ok (.sipush 300, 3) := by decide +kernel
theorem dX6_stem_24 : decode cX6_stem 24 = .ok (.invokestatic 39, 3) := by decide +kernel
theorem dX6_stem_27 : decode cX6_stem 27 = .ok (.ifCond .ne 6, 3) := by decide +kernel
theorem dX6_stem_30 : decode cX6_stem 30 = .ok (.ldc 58, 2) := by decide +kernel
theorem dX6_stem_32 : decode cX6_stem 32 = .ok (.ireturn, 1) := by decide +kernel
theorem dX6_stem_33 : decode cX6_stem 33 = .ok (.aload_n 0, 1) := by decide +kernel
theorem dX6_stem_34 : decode cX6_stem 34 = .ok (.iload_n 1, 1) := by decide +kernel
theorem dX6_stem_35 : decode cX6_stem 35 = .ok (.iload_n 2, 1) := by decide +kernel
theorem dX6_stem_36 : decode cX6_stem 36 = .ok (.invokevirtual 63, 3) := by decide +kernel
theorem dX6_stem_39 : decode cX6_stem 39 = .ok (.istore 4, 2) := by decide +kernel
theorem dX6_stem_41 : decode cX6_stem 41 = .ok (.iload 4, 2) := by decide +kernel
theorem dX6_stem_43 : decode cX6_stem 43 = .ok (.ifCond .eq 16, 3) := by decide +kernel
theorem dX6_stem_46 : decode cX6_stem 46 = .ok (.aload_n 0, 1) := by decide +kernel
theorem dX6_stem_47 : decode cX6_stem 47 = .ok (.iload_n 1, 1) := by decide +kernel
theorem dX6_stem_48 : decode cX6_stem 48 = .ok (.iload 4, 2) := by decide +kernel
theorem dX6_stem_50 : decode cX6_stem 50 = .ok (.iconst 1, 1) := by decide +kernel
theorem dX6_stem_51 : decode cX6_stem 51 = .ok (.isub, 1) := by decide +kernel
theorem dX6_stem_52 : decode cX6_stem 52 = .ok (.invokevirtual 66, 3) := by decide +kernel
theorem dX6_stem_55 : decode cX6_stem 55 = .ok (.iload_n 2, 1) := by decide +kernel
theorem dX6_stem_56 : decode cX6_stem 56 = .ok (.if_icmp .gt 7, 3) := by decide +kernel
theorem dX6_stem_59 : decode cX6_stem 59 = .ok (.iconst 1, 1) := by decide +kernel
theorem dX6_stem_60 : decode cX6_stem 60 = .ok (.goto 4, 3) := by decide +kernel
theorem dX6_stem_63 : decode cX6_stem 63 = .ok (.iconst 0, 1) := by decide +kernel
theorem dX6_stem_64 : decode cX6_stem 64 = .ok (.istore 5, 2) := by decide +kernel
theorem dX6_stem_66 : decode cX6_stem 66 = .ok (.iload 4, 2) := by decide +kernel
theorem dX6_stem_68 : decode cX6_stem 68 = .ok (.aload_n 0, 1) := by decide +kernel
theorem dX6_stem_69 : decode cX6_stem 69 = .ok (.iload_n 1, 1) := by decide +kernel
theorem dX6_stem_70 : decode cX6_stem 70 = .ok (.iconst 1, 1) := by decide +kernel
theorem dX6_stem_71 : decode cX6_stem 71 = .ok (.invokevirtual 47, 3) := by decide +kernel
theorem dX6_stem_74 : decode cX6_stem 74 = .ok (.if_icmp .eq 17, 3) := by decide +kernel
theorem dX6_stem_77 : decode cX6_stem 77 = .ok (.iload_n 2, 1) := by decide +kernel
theorem dX6_stem_78 : decode cX6_stem 78 = .ok (.iload_n 3, 1) := by decide +kernel
theorem dX6_stem_79 : decode cX6_stem 79 = .ok (.iadd, 1) := by decide +kernel
theorem dX6_stem_80 : decode cX6_stem 80 = .ok (.aload_n 0, 1) := by decide +kernel
theorem dX6_stem_81 : decode cX6_stem 81 = .ok (.iload_n 1, 1) := by decide +kernel
theorem dX6_stem_82 : decode cX6_stem 82 = .ok (.iload 4, 2) := by decide +kernel
theorem dX6_stem_84 : decode cX6_stem 84 = .ok (.iconst 0, 1) := by decide +kernel
theorem dX6_stem_85 : decode cX6_stem 85 = .ok (.invokevirtual 55, 3) := by decide +kernel
theorem dX6_stem_88 : decode cX6_stem 88 = .ok (.if_icmp .gt 7, 3) := by decide +kernel
theorem dX6_stem_91 : decode cX6_stem 91 = .ok (.iconst 1, 1) := by decide +kernel
theorem dX6_stem_92 : decode cX6_stem 92 = .ok (.goto 4, 3) := by decide +kernel
theorem dX6_stem_95 : decode cX6_stem 95 = .ok (.iconst 0, 1) := by decide +kernel
theorem dX6_stem_96 : decode cX6_stem 96 = .ok (.istore 6, 2) := by decide +kernel
theorem dX6_stem_98 : decode cX6_stem 98 = .ok (.iload 5, 2) := by decide +kernel
theorem dX6_stem_100 : decode cX6_stem 100 = .ok (.ifCond .eq 8, 3) := by decide +kernel
theorem dX6_stem_103 : decode cX6_stem 103 = .ok (.iload 6, 2) := by decide +kernel
theorem dX6_stem_105 : decode cX6_stem 105 = .ok (.ifCond .ne 6, 3) := by decide +kernel
theorem dX6_stem_108 : decode cX6_stem 108 = .ok (.ldc 69, 2) := by decide +kernel
theorem dX6_stem_110 : decode cX6_stem 110 = .ok (.ireturn, 1) := by decide +kernel
theorem dX6_stem_111 : decode cX6_stem 111 = .ok (.aload_n 0, 1) := by decide +kernel
theorem dX6_stem_112 : decode cX6_stem 112 = .ok (.iload_n 1, 1) := by decide +kernel
theorem dX6_stem_113 : decode cX6_stem 113 = .ok (.iconst 1, 1) := by decide +kernel
theorem dX6_stem_114 : decode cX6_stem 114 = .ok (.invokevirtual 47, 3) := by decide +kernel
theorem dX6_stem_117 : decode cX6_stem 117 = .ok (.bipush 6, 2) := by decide +kernel
theorem dX6_stem_119 : decode cX6_stem 119 = .ok (.if_icmp .ne 6, 3) := by decide +kernel
theorem dX6_stem_122 : decode cX6_stem 122 = .ok (.ldc 59, 2) := by decide +kernel
theorem dX6_stem_124 : decode cX6_stem 124 = .ok (.ireturn, 1) := by decide +kernel
theorem dX6_stem_125 : decode cX6_stem 125 = .ok (.aload_n 0, 1) := by decide +kernel
theorem dX6_stem_126 : decode cX6_stem 126 = .ok (.invokevirtual 60, 3) := by decide +kernel
theorem dX6_stem_129 : decode cX6_stem 129 = .ok (.iload_n 1, 1) := by decide +kernel
theorem dX6_stem_130 : decode cX6_stem 130 = .ok (.aload_n 0, 1) := by decide +kernel
theorem dX6_stem_131 : decode cX6_stem 131 = .ok (.iload_n 1, 1) := by decide +kernel
theorem dX6_stem_132 : decode cX6_stem 132 = .ok (.iconst 1, 1) := by decide +kernel
theorem dX6_stem_133 : decode cX6_stem 133 = .ok (.invokevirtual 47, 3) := by decide +kernel
theorem dX6_stem_136 : decode cX6_stem 136 = .ok (.iconst 0, 1) := by decide +kernel
theorem dX6_stem_137 : decode cX6_stem 137 = .ok (.invokestatic 51, 3) := by decide +kernel
theorem dX6_stem_140 : decode cX6_stem 140 = .ok (.iconst 1, 1) := by decide +kernel
theorem dX6_stem_141 : decode cX6_stem 141 = .ok (.isub, 1) := by decide +kernel
theorem dX6_stem_142 : decode cX6_stem 142 = .ok (.istore 7, 2) := by decide +kernel
theorem dX6_stem_144 : decode cX6_stem 144 = .ok (.iload 7, 2) := by decide +kernel
theorem dX6_stem_146 : decode cX6_stem 146 = .ok (.iload_n 1, 1) := by decide +kernel
theorem dX6_stem_147 : decode cX6_stem 147 = .ok (.iload 4, 2) := by decide +kernel
theorem dX6_stem_149 : decode cX6_stem 149 = .ok (.iconst 0, 1) := by decide +kernel
theorem dX6_stem_150 : decode cX6_stem 150 = .ok (.invokestatic 51, 3) := by decide +kernel
theorem dX6_stem_153 : decode cX6_stem 153 = .ok (.if_icmp .lt 25, 3) := by decide +kernel
theorem dX6_stem_156 : decode cX6_stem 156 = .ok (.aload_n 0, 1) := by decide +kernel
theorem dX6_stem_157 : decode cX6_stem 157 = .ok (.getfield 7, 3) := by decide +kernel
theorem dX6_stem_160 : decode cX6_stem 160 = .ok (.iload 7, 2) := by decide +kernel
theorem dX6_stem_162 : decode cX6_stem 162 = .ok (.iconst 3, 1) := by decide +kernel
theorem dX6_stem_163 : decode cX6_stem 163 = .ok (.iadd, 1) := by decide +kernel
theorem dX6_stem_164 : decode cX6_stem 164 = .ok (.aload_n 0, 1) := by decide +kernel
theorem dX6_stem_165 : decode cX6_stem 165 = .ok (.getfield 7, 3) := by decide +kernel
theorem dX6_stem_168 : decode cX6_stem 168 = .ok (.iload 7, 2) := by decide +kernel
theorem dX6_stem_170 : decode cX6_stem 170 = .ok (.iaload, 1) := by decide +kernel
theorem dX6_stem_171 : decode cX6_stem 171 = .ok (.iastore, 1) := by decide +kernel
theorem dX6_stem_172 : decode cX6_stem 172 = .ok (.iinc 7 (-1), 3) := by decide +kernel
theorem dX6_stem_175 : decode cX6_stem 175 = .ok (.goto (-31), 3) := by decide +kernel
theorem dX6_stem_178 : decode cX6_stem 178 = .ok (.aload_n 0, 1) := by decide +kernel
theorem dX6_stem_179 : decode cX6_stem 179 = .ok (.getfield 7, 3) := by decide +kernel
theorem dX6_stem_182 : decode cX6_stem 182 = .ok (.iload_n 1, 1) := by decide +kernel
theorem dX6_stem_183 : decode cX6_stem 183 = .ok (.iload 4, 2) := by decide +kernel
theorem dX6_stem_185 : decode cX6_stem 185 = .ok (.iconst 0, 1) := by decide +kernel
theorem dX6_stem_186 : decode cX6_stem 186 = .ok (.invokestatic 51, 3) := by decide +kernel
theorem dX6_stem_189 : decode cX6_stem 189 = .ok (.iload_n 2, 1) := by decide +kernel
theorem dX6_stem_190 : decode cX6_stem 190 = .ok (.iastore, 1) := by decide +kernel
theorem dX6_stem_191 : decode cX6_stem 191 = .ok (.aload_n 0, 1) := by decide +kernel
theorem dX6_stem_192 : decode cX6_stem 192 = .ok (.getfield 7, 3) := by decide +kernel
theorem dX6_stem_195 : decode cX6_stem 195 = .ok (.iload_n 1, 1) := by decide +kernel
theorem dX6_stem_196 : decode cX6_stem 196 = .ok (.iload 4, 2) := by decide +kernel
theorem dX6_stem_198 : decode cX6_stem 198 = .ok (.iconst 1, 1) := by decide +kernel
theorem dX6_stem_199 : decode cX6_stem 199 = .ok (.invokestatic 51, 3) := by decide +kernel
theorem dX6_stem_202 : decode cX6_stem 202 = .ok (.iload_n 3, 1) := by decide +kernel
theorem dX6_stem_203 : decode cX6_stem 203 = .ok (.iastore, 1) := by decide +kernel
theorem dX6_stem_204 : decode cX6_stem 204 = .ok (.aload_n 0, 1) := by decide +kernel
theorem dX6_stem_205 : decode cX6_stem 205 = .ok (.getfield 7, 3) := by decide +kernel
theorem dX6_stem_208 : decode cX6_stem 208 = .ok (.iload_n 1, 1) := by decide +kernel
theorem dX6_stem_209 : decode cX6_stem 209 = .ok (.iload 4, 2) := by decide +kernel
theorem dX6_stem_211 : decode cX6_stem 211 = .ok (.iconst 2, 1) := by decide +kernel
theorem dX6_stem_212 : decode cX6_stem 212 = .ok (.invokestatic 51, 3) := by decide +kernel
theorem dX6_stem_215 : decode cX6_stem 215 = .ok (.iconst 0, 1) := by decide +kernel
theorem dX6_stem_216 : decode cX6_stem 216 = .ok (.iastore, 1) := by decide +kernel
theorem dX6_stem_217 : decode cX6_stem 217 = .ok (.aload_n 0, 1) := by decide +kernel
theorem dX6_stem_218 : decode cX6_stem 218 = .ok (.getfield 7, 3) := by decide +kernel
theorem dX6_stem_221 : decode cX6_stem 221 = .ok (.bipush 9, 2) := by decide +kernel
theorem dX6_stem_223 : decode cX6_stem 223 = .ok (.bipush 20, 2) := by decide +kernel
theorem dX6_stem_225 : decode cX6_stem 225 = .ok (.iload_n 1, 1) := by decide +kernel
theorem dX6_stem_226 : decode cX6_stem 226 = .ok (.imul, 1) := by decide +kernel
theorem dX6_stem_227 : decode cX6_stem 227 = .ok (.iadd, 1) := by decide +kernel
theorem dX6_stem_228 : decode cX6_stem 228 = .ok (.iconst 1, 1) := by decide +kernel
theorem dX6_stem_229 : decode cX6_stem 229 = .ok (.iadd, 1) := by decide +kernel
theorem dX6_stem_230 : decode cX6_stem 230 = .ok (.dup2, 1) := by decide +kernel
theorem dX6_stem_231 : decode cX6_stem 231 = .ok (.iaload, 1) := by decide +kernel
theorem dX6_stem_232 : decode cX6_stem 232 = .ok (.iconst 1, 1) := by decide +kernel
theorem dX6_stem_233 : decode cX6_stem 233 = .ok (.iadd, 1) := by decide +kernel
theorem dX6_stem_234 : decode cX6_stem 234 = .ok (.iastore, 1) := by decide +kernel
theorem dX6_stem_235 : decode cX6_stem 235 = .ok (.iload 4, 2) := by decide +kernel
theorem dX6_stem_237 : decode cX6_stem 237 = .ok (.ireturn, 1) := by decide +kernel
theorem dX6_cut_0 : decode cX6_cut 0 = .ok (.aload_n 0, 1) := by decide +kernel
theorem dX6_cut_1 : decode cX6_cut 1 = .ok (.iload_n 1, 1) := by decide +kernel
theorem dX6_cut_2 : decode cX6_cut 2 = .ok (.iload_n 2, 1) := by decide +kernel
theorem dX6_cut_3 : decode cX6_cut 3 = .ok (.invokevirtual 70, 3) := by decide +kernel
theorem dX6_cut_6 : decode cX6_cut 6 = .ok (.ifCond .ne 6, 3) := by decide +kernel
theorem dX6_cut_9 : decode cX6_cut 9 = .ok (.ldc 58, 2) := by decide +kernel
theorem dX6_cut_11 : decode cX6_cut 11 = .ok (.ireturn, 1) := by decide +kernel
theorem dX6_cut_12 : decode cX6_cut 12 = .ok (.aload_n 0, 1) := by decide +kernel
theorem dX6_cut_13 : decode cX6_cut 13 = .ok (.invokevirtual 60, 3) := by decide +kernel
theorem dX6_cut_16 : decode cX6_cut 16 = .ok (.aload_n 0, 1) := by decide +kernel
theorem dX6_cut_17 : decode cX6_cut 17 = .ok (.getfield 7, 3) := by decide +kernel
theorem dX6_cut_20 : decode cX6_cut 20 = .ok (.bipush 9, 2) := by decide +kernel
theorem dX6_cut_22 : decode cX6_cut 22 = .ok (.bipush 20, 2) := by decide +kernel
theorem dX6_cut_24 : decode cX6_cut 24 = .ok (.iload_n 1, 1) := by decide +kernel
theorem dX6_cut_25 : decode cX6_cut 25 = .ok (.imul, 1) := by decide +kernel
theorem dX6_cut_26 : decode cX6_cut 26 = .ok (.iadd, 1) := by decide +kernel
theorem dX6_cut_27 : decode cX6_cut 27 = .ok (.iconst 1, 1) := by decide +kernel
theorem dX6_cut_28 : decode cX6_cut 28 = .ok (.iadd, 1) := by decide +kernel
theorem dX6_cut_29 : decode cX6_cut 29 = .ok (.dup2, 1) := by decide +kernel
theorem dX6_cut_30 : decode cX6_cut 30 = .ok (.iaload, 1) := by decide +kernel
theorem dX6_cut_31 : decode cX6_cut 31 = .ok (.iconst 1, 1) := by decide +kernel
theorem dX6_cut_32 : decode cX6_cut 32 = .ok (.isub, 1) := by decide +kernel
theorem dX6_cut_33 : decode cX6_cut 33 = .ok (.iastore, 1) := by decide +kernel
theorem dX6_cut_34 : decode cX6_cut 34 = .ok (.iload_n 1, 1) := by decide +kernel
theorem dX6_cut_35 : decode cX6_cut 35 = .ok (.iload_n 2, 1) := by decide +kernel
theorem dX6_cut_36 : decode cX6_cut 36 = .ok (.iconst 0, 1) := by decide +kernel
theorem dX6_cut_37 : decode cX6_cut 37 = .ok (.invokestatic 51, 3) := by decide +kernel
theorem dX6_cut_40 : decode cX6_cut 40 = .ok (.istore_n 3, 1) := by decide +kernel
theorem dX6_cut_41 : decode cX6_cut 41 = .ok (.iload_n 3, 1) := by decide +kernel
theorem dX6_cut_42 : decode cX6_cut 42 = .ok (.iload_n 1, 1) := by decide +kernel
theorem dX6_cut_43 : decode cX6_cut 43 = .ok (.aload_n 0, 1) := by decide +kernel
theorem dX6_cut_44 : decode cX6_cut 44 = .ok (.iload_n 1, 1) := by decide +kernel
theorem dX6_cut_45 : decode cX6_cut 45 = .ok (.iconst 1, 1) := by decide +kernel
theorem dX6_cut_46 : decode cX6_cut 46 = .ok (.invokevirtual 47, 3) := by decide +kernel
theorem dX6_cut_49 : decode cX6_cut 49 = .ok (.iconst 0, 1) := by decide +kernel
theorem dX6_cut_50 : decode cX6_cut 50 = .ok (.invokestatic 51, 3) := by decide +kernel
theorem dX6_cut_53 : decode cX6_cut 53 = .ok (.if_icmp .ge 23, 3) := by decide +kernel
theorem dX6_cut_56 : decode cX6_cut 56 = .ok (.aload_n 0, 1) := by decide +kernel
theorem dX6_cut_57 : decode cX6_cut 57 = .ok (.getfield 7, 3) := by decide +kernel
theorem dX6_cut_60 : decode cX6_cut 60 = .ok (.iload_n 3, 1) := by decide +kernel
theorem dX6_cut_61 : decode cX6_cut 61 = .ok (.aload_n 0, 1) := by decide +kernel
theorem dX6_cut_62 : decode cX6_cut 62 = .ok (.getfield 7, 3) := by decide +kernel
theorem dX6_cut_65 : decode cX6_cut 65 = .ok (.iload_n 3, 1) := by decide +kernel
theorem dX6_cut_66 : decode cX6_cut 66 = .ok (.iconst 3, 1) := by decide +kernel
theorem dX6_cut_67 : decode cX6_cut 67 = .ok (.iadd, 1) := by decide +kernel
theorem dX6_cut_68 : decode cX6_cut 68 = .ok (.iaload, 1) := by decide +kernel
theorem dX6_cut_69 : decode cX6_cut 69 = .ok (.iastore, 1) := by decide +kernel
theorem dX6_cut_70 : decode cX6_cut 70 = .ok (.iinc 3 1, 3) := by decide +kernel
theorem dX6_cut_73 : decode cX6_cut 73 = .ok (.goto (-32), 3) := by decide +kernel
theorem dX6_cut_76 : decode cX6_cut 76 = .ok (.aload_n 0, 1) := by decide +kernel
theorem dX6_cut_77 : decode cX6_cut 77 = .ok (.iload_n 1, 1) := by decide +kernel
theorem dX6_cut_78 : decode cX6_cut 78 = .ok (.iconst 1, 1) := by decide +kernel
theorem dX6_cut_79 : decode cX6_cut 79 = .ok (.invokevirtual 47, 3) := by decide +kernel
theorem dX6_cut_82 : decode cX6_cut 82 = .ok (.ireturn, 1) := by decide +kernel
theorem dX6_hint_0 : decode cX6_hint 0 = .ok (.aload_n 0, 1) := by decide +kernel
theorem dX6_hint_1 : decode cX6_hint 1 = .ok (.iload_n 1, 1) := by decide +kernel
theorem dX6_hint_2 : decode cX6_hint 2 = .ok (.iload_n 2, 1) := by decide +kernel
theorem dX6_hint_3 : decode cX6_hint 3 = .ok (.invokevirtual 70, 3) := by decide +kernel
theorem dX6_hint_6 : decode cX6_hint 6 = .ok (.ifCond .eq 12, 3) := by decide +kernel
theorem dX6_hint_9 : decode cX6_hint 9 = .ok (.iload_n 3, 1) := by decide +kernel
theorem dX6_hint_10 : decode cX6_hint 10 = .ok (.iconst 0, 1) := by decide +kernel
theorem dX6_hint_11 : decode cX6_hint 11 = .ok (.iconst 3, 1) := by decide +kernel
theorem dX6_hint_12 : decode cX6_hint 12 = .ok (.invokestatic 39, 3) := by decide +kernel
theorem dX6_hint_15 : decode cX6_hint 15 = .ok (.ifCond .ne 6, 3) := by decide +kernel
theorem dX6_hint_18 : decode cX6_hint 18 = .ok (.ldc 58, 2) := by decide +kernel
theorem dX6_hint_20 : decode cX6_hint 20 = .ok (.ireturn, 1) := by decide +kernel
theorem dX6_hint_21 : decode cX6_hint 21 = .ok (.aload_n 0, 1) := by decide +kernel
theorem dX6_hint_22 : decode cX6_hint 22 = .ok (.invokevirtual 60, 3) := by decide +kernel
theorem dX6_hint_25 : decode cX6_hint 25 = .ok (.aload_n 0, 1) := by decide +kernel
theorem dX6_hint_26 : decode cX6_hint 26 = .ok (.iload_n 1, 1) := by decide +kernel
theorem dX6_hint_27 : decode cX6_hint 27 = .ok (.iload_n 2, 1) := by decide +kernel
theorem dX6_hint_28 : decode cX6_hint 28 = .ok (.iconst 2, 1) := by decide +kernel
theorem dX6_hint_29 : decode cX6_hint 29 = .ok (.invokevirtual 55, 3) := by decide +kernel
theorem dX6_hint_32 : decode cX6_hint 32 = .ok (.istore 4, 2) := by decide +kernel
theorem dX6_hint_34 : decode cX6_hint 34 = .ok (.aload_n 0, 1) := by decide +kernel
theorem dX6_hint_35 : decode cX6_hint 35 = .ok (.getfield 7, 3) := by decide +kernel
theorem dX6_hint_38 : decode cX6_hint 38 = .ok (.iload_n 1, 1) := by decide +kernel
theorem dX6_hint_39 : decode cX6_hint 39 = .ok (.iload_n 2, 1) := by decide +kernel
theorem dX6_hint_40 : decode cX6_hint 40 = .ok (.iconst 2, 1) := by decide +kernel
theorem dX6_hint_41 : decode cX6_hint 41 = .ok (.invokestatic 51, 3) := by decide +kernel
theorem dX6_hint_44 : decode cX6_hint 44 = .ok (.iload_n 3, 1) := by decide +kernel
theorem dX6_hint_45 : decode cX6_hint 45 = .ok (.iastore, 1) := by decide +kernel
theorem dX6_hint_46 : decode cX6_hint 46 = .ok (.iload 4, 2) := by decide +kernel
theorem dX6_hint_48 : decode cX6_hint 48 = .ok (.ireturn, 1) := by decide +kernel
theorem dX6_wideAt_0 : decode cX6_wideAt 0 = .ok (.iconst 0, 1) := by decide +kernel
theorem dX6_wideAt_1 : decode cX6_wideAt 1 = .ok (.istore_n 2, 1) := by decide +kernel
theorem dX6_wideAt_2 : decode cX6_wideAt 2 = .ok (.iload_n 2, 1) := by decide +kernel
theorem dX6_wideAt_3 : decode cX6_wideAt 3 = .ok (.aload_n 0, 1) := by decide +kernel
theorem dX6_wideAt_4 : decode cX6_wideAt 4 = .ok (.getfield 7, 3) := by decide +kernel
theorem dX6_wideAt_7 : decode cX6_wideAt 7 = .ok (.iconst 1, 1) := by decide +kernel
theorem dX6_wideAt_8 : decode cX6_wideAt 8 = .ok (.iaload, 1) := by decide +kernel
theorem dX6_wideAt_9 : decode cX6_wideAt 9 = .ok (.if_icmp .ge 23, 3) := by decide +kernel
theorem dX6_wideAt_12 : decode cX6_wideAt 12 = .ok (.aload_n 0, 1) := by decide +kernel
theorem dX6_wideAt_13 : decode cX6_wideAt 13 = .ok (.getfield 7, 3) := by decide +kernel
theorem dX6_wideAt_16 : decode cX6_wideAt 16 = .ok (.iconst 2, 1) := by decide +kernel
theorem dX6_wideAt_17 : decode cX6_wideAt 17 = .ok (.iload_n 2, 1) := by decide +kernel
theorem dX6_wideAt_18 : decode cX6_wideAt 18 = .ok (.iadd, 1) := by decide +kernel
theorem dX6_wideAt_19 : decode cX6_wideAt 19 = .ok (.iaload, 1) := by decide +kernel
theorem dX6_wideAt_20 : decode cX6_wideAt 20 = .ok (.iload_n 1, 1) := by decide +kernel
theorem dX6_wideAt_21 : decode cX6_wideAt 21 = .ok (.if_icmp .ne 5, 3) := by decide +kernel
theorem dX6_wideAt_24 : decode cX6_wideAt 24 = .ok (.iload_n 2, 1) := by decide +kernel
theorem dX6_wideAt_25 : decode cX6_wideAt 25 = .ok (.ireturn, 1) := by decide +kernel
theorem dX6_wideAt_26 : decode cX6_wideAt 26 = .ok (.iinc 2 1, 3) := by decide +kernel
theorem dX6_wideAt_29 : decode cX6_wideAt 29 = .ok (.goto (-27), 3) := by decide +kernel
theorem dX6_wideAt_32 : decode cX6_wideAt 32 = .ok (.ldc 74, 2) := by decide +kernel
theorem dX6_wideAt_34 : decode cX6_wideAt 34 = .ok (.ireturn, 1) := by decide +kernel
theorem dX6_size_0 : decode cX6_size 0 = .ok (.iload_n 0, 1) := by decide +kernel
theorem dX6_size_1 : decode cX6_size 1 = .ok (.ifCond .ge 8, 3) := by decide +kernel
theorem dX6_size_4 : decode cX6_size 4 = .ok (.iload_n 0, 1) := by decide +kernel
theorem dX6_size_5 : decode cX6_size 5 = .ok (.ineg, 1) := by decide +kernel
theorem dX6_size_6 : decode cX6_size 6 = .ok (.goto 4, 3) := by decide +kernel
theorem dX6_size_9 : decode cX6_size 9 = .ok (.iload_n 0, 1) := by decide +kernel
theorem dX6_size_10 : decode cX6_size 10 = .ok (.ireturn, 1) := by decide +kernel
theorem dX6_snaps_0 : decode cX6_snaps 0 = .ok (.ldc 74, 2) := by decide +kernel
theorem dX6_snaps_2 : decode cX6_snaps 2 = .ok (.istore_n 2, 1) := by decide +kernel
theorem dX6_snaps_3 : decode cX6_snaps 3 = .ok (.aload_n 0, 1) := by decide +kernel
theorem dX6_snaps_4 : decode cX6_snaps 4 = .ok (.getfield 7, 3) := by decide +kernel
theorem dX6_snaps_7 : decode cX6_snaps 7 = .ok (.iconst 5, 1) := by decide +kernel
theorem dX6_snaps_8 : decode cX6_snaps 8 = .ok (.iaload, 1) := by decide +kernel
theorem dX6_snaps_9 : decode cX6_snaps 9 = .ok (.istore_n 3, 1) := by decide +kernel
theorem dX6_snaps_10 : decode cX6_snaps 10 = .ok (.iconst 0, 1) := by decide +kernel
theorem dX6_snaps_11 : decode cX6_snaps 11 = .ok (.istore 4, 2) := by decide +kernel
theorem dX6_snaps_13 : decode cX6_snaps 13 = .ok (.iload 4, 2) := by decide +kernel
theorem dX6_snaps_15 : decode cX6_snaps 15 = .ok (.aload_n 0, 1) := by decide +kernel
theorem dX6_snaps_16 : decode cX6_snaps 16 = .ok (.getfield 7, 3) := by decide +kernel
theorem dX6_snaps_19 : decode cX6_snaps 19 = .ok (.iconst 1, 1) := by decide +kernel
theorem dX6_snaps_20 : decode cX6_snaps 20 = .ok (.iaload, 1) := by decide +kernel
theorem dX6_snaps_21 : decode cX6_snaps 21 = .ok (.if_icmp .ge 87, 3) := by decide +kernel
theorem dX6_snaps_24 : decode cX6_snaps 24 = .ok (.aload_n 0, 1) := by decide +kernel
theorem dX6_snaps_25 : decode cX6_snaps 25 = .ok (.getfield 7, 3) := by decide +kernel
theorem dX6_snaps_28 : decode cX6_snaps 28 = .ok (.iconst 2, 1) := by decide +kernel
theorem dX6_snaps_29 : decode cX6_snaps 29 = .ok (.iload 4, 2) := by decide +kernel
theorem dX6_snaps_31 : decode cX6_snaps 31 = .ok (.iadd, 1) := by decide +kernel
theorem dX6_snaps_32 : decode cX6_snaps 32 = .ok (.iaload, 1) := by decide +kernel
theorem dX6_snaps_33 : decode cX6_snaps 33 = .ok (.iload_n 1, 1) := by decide +kernel
theorem dX6_snaps_34 : decode cX6_snaps 34 = .ok (.isub, 1) := by decide +kernel
theorem dX6_snaps_35 : decode cX6_snaps 35 = .ok (.invokestatic 75, 3) := by decide +kernel
theorem dX6_snaps_38 : decode cX6_snaps 38 = .ok (.istore 5, 2) := by decide +kernel
theorem dX6_snaps_40 : decode cX6_snaps 40 = .ok (.iload_n 2, 1) := by decide +kernel
theorem dX6_snaps_41 : decode cX6_snaps 41 = .ok (.ifCond .ge 17, 3) := by decide +kernel
theorem dX6_snaps_44 : decode cX6_snaps 44 = .ok (.iload 5, 2) := by decide +kernel
theorem dX6_snaps_46 : decode cX6_snaps 46 = .ok (.iload_n 3, 1) := by decide +kernel
theorem dX6_snaps_47 : decode cX6_snaps 47 = .ok (.if_icmp .gt 7, 3) := by decide +kernel
theorem dX6_snaps_50 : decode cX6_snaps 50 = .ok (.iconst 1, 1) := by decide +kernel
theorem dX6_snaps_51 : decode cX6_snaps 51 = .ok (.goto 18, 3) := by decide +kernel
theorem dX6_snaps_54 : decode cX6_snaps 54 = .ok (.iconst 0, 1) := by decide +kernel
theorem dX6_snaps_55 : decode cX6_snaps 55 = .ok (.goto 14, 3) := by decide +kernel
theorem dX6_snaps_58 : decode cX6_snaps 58 = .ok (.iload 5, 2) := by decide +kernel
theorem dX6_snaps_60 : decode cX6_snaps 60 = .ok (.iload_n 3, 1) := by decide +kernel
theorem dX6_snaps_61 : decode cX6_snaps 61 = .ok (.if_icmp .ge 7, 3) := by decide +kernel
theorem dX6_snaps_64 : decode cX6_snaps 64 = .ok (.iconst 1, 1) := by decide +kernel
theorem dX6_snaps_65 : decode cX6_snaps 65 = .ok (.goto 4, 3) := by decide +kernel
theorem dX6_snaps_68 : decode cX6_snaps 68 = .ok (.iconst 0, 1) := by decide +kernel
theorem dX6_snaps_69 : decode cX6_snaps 69 = .ok (.istore 6, 2) := by decide +kernel
theorem dX6_snaps_71 : decode cX6_snaps 71 = .ok (.iload 6, 2) := by decide +kernel
theorem dX6_snaps_73 : decode cX6_snaps 73 = .ok (.ifCond .eq 15, 3) := by decide +kernel
theorem dX6_snaps_76 : decode cX6_snaps 76 = .ok (.aload_n 0, 1) := by decide +kernel
theorem dX6_snaps_77 : decode cX6_snaps 77 = .ok (.getfield 7, 3) := by decide +kernel
theorem dX6_snaps_80 : decode cX6_snaps 80 = .ok (.iconst 2, 1) := by decide +kernel
theorem dX6_snaps_81 : decode cX6_snaps 81 = .ok (.iload 4, 2) := by decide +kernel
theorem dX6_snaps_83 : decode cX6_snaps 83 = .ok (.iadd, 1) := by decide +kernel
theorem dX6_snaps_84 : decode cX6_snaps 84 = .ok (.iaload, 1) := by decide +kernel
theorem dX6_snaps_85 : decode cX6_snaps 85 = .ok (.goto 4, 3) := by decide +kernel
theorem dX6_snaps_88 : decode cX6_snaps 88 = .ok (.iload_n 2, 1) := by decide +kernel
theorem dX6_snaps_89 : decode cX6_snaps 89 = .ok (.istore_n 2, 1) := by decide +kernel
theorem dX6_snaps_90 : decode cX6_snaps 90 = .ok (.iload 6, 2) := by decide +kernel
theorem dX6_snaps_92 : decode cX6_snaps 92 = .ok (.ifCond .eq 8, 3) := by decide +kernel
theorem dX6_snaps_95 : decode cX6_snaps 95 = .ok (.iload 5, 2) := by decide +kernel
theorem dX6_snaps_97 : decode cX6_snaps 97 = .ok (.goto 4, 3) := by decide +kernel
theorem dX6_snaps_100 : decode cX6_snaps 100 = .ok (.iload_n 3, 1) := by decide +kernel
theorem dX6_snaps_101 : decode cX6_snaps 101 = .ok (.istore_n 3, 1) := by decide +kernel
theorem dX6_snaps_102 : decode cX6_snaps 102 = .ok (.iinc 4 1, 3) := by decide +kernel
theorem dX6_snaps_105 : decode cX6_snaps 105 = .ok (.goto (-92), 3) := by decide +kernel
theorem dX6_snaps_108 : decode cX6_snaps 108 = .ok (.iload_n 2, 1) := by decide +kernel
theorem dX6_snaps_109 : decode cX6_snaps 109 = .ok (.ireturn, 1) := by decide +kernel
theorem dX6_hinted_0 : decode cX6_hinted 0 = .ok (.aload_n 0, 1) := by decide +kernel
theorem dX6_hinted_1 : decode cX6_hinted 1 = .ok (.iload_n 1, 1) := by decide +kernel
theorem dX6_hinted_2 : decode cX6_hinted 2 = .ok (.iload_n 2, 1) := by decide +kernel
theorem dX6_hinted_3 : decode cX6_hinted 3 = .ok (.iconst 1, 1) := by decide +kernel
theorem dX6_hinted_4 : decode cX6_hinted 4 = .ok (.invokevirtual 55, 3) := by decide +kernel
theorem dX6_hinted_7 : decode cX6_hinted 7 = .ok (.istore_n 3, 1) := by decide +kernel
theorem dX6_hinted_8 : decode cX6_hinted 8 = .ok (.aload_n 0, 1) := by decide +kernel
theorem dX6_hinted_9 : decode cX6_hinted 9 = .ok (.iload_n 3, 1) := by decide +kernel
theorem dX6_hinted_10 : decode cX6_hinted 10 = .ok (.invokevirtual 79, 3) := by decide +kernel
theorem dX6_hinted_13 : decode cX6_hinted 13 = .ok (.ifCond .ge 7, 3) := by decide +kernel
theorem dX6_hinted_16 : decode cX6_hinted 16 = .ok (.iload_n 3, 1) := by decide +kernel
theorem dX6_hinted_17 : decode cX6_hinted 17 = .ok (.goto 8, 3) := by decide +kernel
theorem dX6_hinted_20 : decode cX6_hinted 20 = .ok (.aload_n 0, 1) := by decide +kernel
theorem dX6_hinted_21 : decode cX6_hinted 21 = .ok (.iload_n 3, 1) := by decide +kernel
theorem dX6_hinted_22 : decode cX6_hinted 22 = .ok (.invokevirtual 79, 3) := by decide +kernel
theorem dX6_hinted_25 : decode cX6_hinted 25 = .ok (.ireturn, 1) := by decide +kernel
theorem dX6_standard_0 : decode cX6_standard 0 = .ok (.iload_n 1, 1) := by decide +kernel
theorem dX6_standard_1 : decode cX6_standard 1 = .ok (.iconst 1, 1) := by decide +kernel
theorem dX6_standard_2 : decode cX6_standard 2 = .ok (.sipush 300, 3) := by decide +kernel
theorem dX6_standard_5 : decode cX6_standard 5 = .ok (.invokestatic 39, 3) := by decide +kernel
theorem dX6_standard_8 : decode cX6_standard 8 = .ok (.ifCond .ne 6, 3) := by decide +kernel
theorem dX6_standard_11 : decode cX6_standard 11 = .ok (.ldc 58, 2) := by decide +kernel
theorem dX6_standard_13 : decode cX6_standard 13 = .ok (.ireturn, 1) := by decide +kernel
theorem dX6_standard_14 : decode cX6_standard 14 = .ok (.aload_n 0, 1) := by decide +kernel
theorem dX6_standard_15 : decode cX6_standard 15 = .ok (.iload_n 1, 1) := by decide +kernel
theorem dX6_standard_16 : decode cX6_standard 16 = .ok (.invokevirtual 82, 3) := by decide +kernel
theorem dX6_standard_19 : decode cX6_standard 19 = .ok (.ifCond .lt 6, 3) := by decide +kernel
theorem dX6_standard_22 : decode cX6_standard 22 = .ok (.ldc 69, 2) := by decide +kernel
theorem dX6_standard_24 : decode cX6_standard 24 = .ok (.ireturn, 1) := by decide +kernel
theorem dX6_standard_25 : decode cX6_standard 25 = .ok (.aload_n 0, 1) := by decide +kernel
theorem dX6_standard_26 : decode cX6_standard 26 = .ok (.getfield 7, 3) := by decide +kernel
theorem dX6_standard_29 : decode cX6_standard 29 = .ok (.iconst 1, 1) := by decide +kernel
theorem dX6_standard_30 : decode cX6_standard 30 = .ok (.iaload, 1) := by decide +kernel
theorem dX6_standard_31 : decode cX6_standard 31 = .ok (.iconst 3, 1) := by decide +kernel
theorem dX6_standard_32 : decode cX6_standard 32 = .ok (.if_icmp .ne 6, 3) := by decide +kernel
theorem dX6_standard_35 : decode cX6_standard 35 = .ok (.ldc 59, 2) := by decide +kernel
theorem dX6_standard_37 : decode cX6_standard 37 = .ok (.ireturn, 1) := by decide +kernel
theorem dX6_standard_38 : decode cX6_standard 38 = .ok (.aload_n 0, 1) := by decide +kernel
theorem dX6_standard_39 : decode cX6_standard 39 = .ok (.invokevirtual 60, 3) := by decide +kernel
theorem dX6_standard_42 : decode cX6_standard 42 = .ok (.aload_n 0, 1) := by decide +kernel
theorem dX6_standard_43 : decode cX6_standard 43 = .ok (.getfield 7, 3) := by decide +kernel
theorem dX6_standard_46 : decode cX6_standard 46 = .ok (.iconst 1, 1) := by decide +kernel
theorem dX6_standard_47 : decode cX6_standard 47 = .ok (.iaload, 1) := by decide +kernel
theorem dX6_standard_48 : decode cX6_standard 48 = .ok (.istore_n 2, 1) := by decide +kernel
theorem dX6_standard_49 : decode cX6_standard 49 = .ok (.iload_n 2, 1) := by decide +kernel
theorem dX6_standard_50 : decode cX6_standard 50 = .ok (.ifCond .le 41, 3) := by decide +kernel
theorem dX6_standard_53 : decode cX6_standard 53 = .ok (.aload_n 0, 1) := by decide +kernel
theorem dX6_standard_54 : decode cX6_standard 54 = .ok (.getfield 7, 3) := by decide +kernel
theorem dX6_standard_57 : decode cX6_standard 57 = .ok (.iconst 2, 1) := by decide +kernel
theorem dX6_standard_58 : decode cX6_standard 58 = .ok (.iload_n 2, 1) := by decide +kernel
theorem dX6_standard_59 : decode cX6_standard 59 = .ok (.iadd, 1) := by decide +kernel
theorem dX6_standard_60 : decode cX6_standard 60 = .ok (.iconst 1, 1) := by decide +kernel
theorem dX6_standard_61 : decode cX6_standard 61 = .ok (.isub, 1) := by decide +kernel
theorem dX6_standard_62 : decode cX6_standard 62 = .ok (.iaload, 1) := by decide +kernel
theorem dX6_standard_63 : decode cX6_standard 63 = .ok (.iload_n 1, 1) := by decide +kernel
theorem dX6_standard_64 : decode cX6_standard 64 = .ok (.if_icmp .le 27, 3) := by decide +kernel
theorem dX6_standard_67 : decode cX6_standard 67 = .ok (.aload_n 0, 1) := by decide +kernel
theorem dX6_standard_68 : decode cX6_standard 68 = .ok (.getfield 7, 3) := by decide +kernel
theorem dX6_standard_71 : decode cX6_standard 71 = .ok (.iconst 2, 1) := by decide +kernel
theorem dX6_standard_72 : decode cX6_standard 72 = .ok (.iload_n 2, 1) := by decide +kernel
theorem dX6_standard_73 : decode cX6_standard 73 = .ok (.iadd, 1) := by decide +kernel
theorem dX6_standard_74 : decode cX6_standard 74 = .ok (.aload_n 0, 1) := by decide +kernel
theorem dX6_standard_75 : decode cX6_standard 75 = .ok (.getfield 7, 3) := by decide +kernel
theorem dX6_standard_78 : decode cX6_standard 78 = .ok (.iconst 2, 1) := by decide +kernel
theorem dX6_standard_79 : decode cX6_standard 79 = .ok (.iload_n 2, 1) := by decide +kernel
theorem dX6_standard_80 : decode cX6_standard 80 = .ok (.iadd, 1) := by decide +kernel
theorem dX6_standard_81 : decode cX6_standard 81 = .ok (.iconst 1, 1) := by decide +kernel
theorem dX6_standard_82 : decode cX6_standard 82 = .ok (.isub, 1) := by decide +kernel
theorem dX6_standard_83 : decode cX6_standard 83 = .ok (.iaload, 1) := by decide +kernel
theorem dX6_standard_84 : decode cX6_standard 84 = .ok (.iastore, 1) := by decide +kernel
theorem dX6_standard_85 : decode cX6_standard 85 = .ok (.iinc 2 (-1), 3) := by decide +kernel
theorem dX6_standard_88 : decode cX6_standard 88 = .ok (.goto (-39), 3) := by decide +kernel
theorem dX6_standard_91 : decode cX6_standard 91 = .ok (.aload_n 0, 1) := by decide +kernel
theorem dX6_standard_92 : decode cX6_standard 92 = .ok (.getfield 7, 3) := by decide +kernel
theorem dX6_standard_95 : decode cX6_standard 95 = .ok (.iconst 2, 1) := by decide +kernel
theorem dX6_standard_96 : decode cX6_standard 96 = .ok (.iload_n 2, 1) := by decide +kernel
theorem dX6_standard_97 : decode cX6_standard 97 = .ok (.iadd, 1) := by decide +kernel
theorem dX6_standard_98 : decode cX6_standard 98 = .ok (.iload_n 1, 1) := by decide +kernel
theorem dX6_standard_99 : decode cX6_standard 99 = .ok (.iastore, 1) := by decide +kernel
theorem dX6_standard_100 : decode cX6_standard 100 = .ok (.aload_n 0, 1) := by decide +kernel
theorem dX6_standard_101 : decode cX6_standard 101 = .ok (.getfield 7, 3) := by decide +kernel
theorem dX6_standard_104 : decode cX6_standard 104 = .ok (.iconst 1, 1) := by decide +kernel
theorem dX6_standard_105 : decode cX6_standard 105 = .ok (.dup2, 1) := by decide +kernel
theorem dX6_standard_106 : decode cX6_standard 106 = .ok (.iaload, 1) := by decide +kernel
theorem dX6_standard_107 : decode cX6_standard 107 = .ok (.iconst 1, 1) := by decide +kernel
theorem dX6_standard_108 : decode cX6_standard 108 = .ok (.iadd, 1) := by decide +kernel
theorem dX6_standard_109 : decode cX6_standard 109 = .ok (.iastore, 1) := by decide +kernel
theorem dX6_standard_110 : decode cX6_standard 110 = .ok (.iconst 0, 1) := by decide +kernel
theorem dX6_standard_111 : decode cX6_standard 111 = .ok (.istore_n 3, 1) := by decide +kernel
theorem dX6_standard_112 : decode cX6_standard 112 = .ok (.iconst 0, 1) := by decide +kernel
theorem dX6_standard_113 : decode cX6_standard 113 = .ok (.istore 4, 2) := by decide +kernel
theorem dX6_standard_115 : decode cX6_standard 115 = .ok (.iload 4, 2) := by decide +kernel
theorem dX6_standard_117 : decode cX6_standard 117 = .ok (.aload_n 0, 1) := by decide +kernel
theorem dX6_standard_118 : decode cX6_standard 118 = .ok (.getfield 7, 3) := by decide +kernel
theorem dX6_standard_121 : decode cX6_standard 121 = .ok (.iconst 0, 1) := by decide +kernel
theorem dX6_standard_122 : decode cX6_standard 122 = .ok (.iaload, 1) := by decide +kernel
theorem dX6_standard_123 : decode cX6_standard 123 = .ok (.if_icmp .ge 55, 3) := by decide +kernel
theorem dX6_standard_126 : decode cX6_standard 126 = .ok (.iconst 0, 1) := by decide +kernel
theorem dX6_standard_127 : decode cX6_standard 127 = .ok (.istore 5, 2) := by decide +kernel
theorem dX6_standard_129 : decode cX6_standard 129 = .ok (.iload 5, 2) := by decide +kernel
theorem dX6_standard_131 : decode cX6_standard 131 = .ok (.aload_n 0, 1) := by decide +kernel
theorem dX6_standard_132 : decode cX6_standard 132 = .ok (.iload 4, 2) := by decide +kernel
theorem dX6_standard_134 : decode cX6_standard 134 = .ok (.iconst 1, 1) := by decide +kernel
theorem dX6_standard_135 : decode cX6_standard 135 = .ok (.invokevirtual 47, 3) := by decide +kernel
theorem dX6_standard_138 : decode cX6_standard 138 = .ok (.if_icmp .ge 34, 3) := by decide +kernel
theorem dX6_standard_141 : decode cX6_standard 141 = .ok (.iload_n 3, 1) := by decide +kernel
theorem dX6_standard_142 : decode cX6_standard 142 = .ok (.aload_n 0, 1) := by decide +kernel
theorem dX6_standard_143 : decode cX6_standard 143 = .ok (.aload_n 0, 1) := by decide +kernel
theorem dX6_standard_144 : decode cX6_standard 144 = .ok (.iload 4, 2) := by decide +kernel
theorem dX6_standard_146 : decode cX6_standard 146 = .ok (.iload 5, 2) := by decide +kernel
theorem dX6_standard_148 : decode cX6_standard 148 = .ok (.iconst 1, 1) := by decide +kernel
theorem dX6_standard_149 : decode cX6_standard 149 = .ok (.invokevirtual 55, 3) := by decide +kernel
theorem dX6_standard_152 : decode cX6_standard 152 = .ok (.invokevirtual 79, 3) := by decide +kernel
theorem dX6_standard_155 : decode cX6_standard 155 = .ok (.iload_n 1, 1) := by decide +kernel
theorem dX6_standard_156 : decode cX6_standard 156 = .ok (.if_icmp .ne 7, 3) := by decide +kernel
theorem dX6_standard_159 : decode cX6_standard 159 = .ok (.iconst 1, 1) := by decide +kernel
theorem dX6_standard_160 : decode cX6_standard 160 = .ok (.goto 4, 3) := by decide +kernel
theorem dX6_standard_163 : decode cX6_standard 163 = .ok (.iconst 0, 1) := by decide +kernel
theorem dX6_standard_164 : decode cX6_standard 164 = .ok (.iadd, 1) := by decide +kernel
theorem dX6_standard_165 : decode cX6_standard 165 = .ok (.istore_n 3, 1) := by decide +kernel
theorem dX6_standard_166 : decode cX6_standard 166 = .ok (.iinc 5 1, 3) := by decide +kernel
theorem dX6_standard_169 : decode cX6_standard 169 = .ok (.goto (-40), 3) := by decide +kernel
theorem dX6_standard_172 : decode cX6_standard 172 = .ok (.iinc 4 1, 3) := by decide +kernel
theorem dX6_standard_175 : decode cX6_standard 175 = .ok (.goto (-60), 3) := by decide +kernel
theorem dX6_standard_178 : decode cX6_standard 178 = .ok (.iload_n 3, 1) := by decide +kernel
theorem dX6_standard_179 : decode cX6_standard 179 = .ok (.ireturn, 1) := by decide +kernel
theorem dX6_drop_0 : decode cX6_drop 0 = .ok (.iload_n 1, 1) := by decide +kernel
theorem dX6_drop_1 : decode cX6_drop 1 = .ok (.iconst 1, 1) := by decide +kernel
theorem dX6_drop_2 : decode cX6_drop 2 = .ok (.sipush 300, 3) := by decide +kernel
theorem dX6_drop_5 : decode cX6_drop 5 = .ok (.invokestatic 39, 3) := by decide +kernel
theorem dX6_drop_8 : decode cX6_drop 8 = .ok (.ifCond .ne 6, 3) := by decide +kernel
theorem dX6_drop_11 : decode cX6_drop 11 = .ok (.ldc 58, 2) := by decide +kernel
theorem dX6_drop_13 : decode cX6_drop 13 = .ok (.ireturn, 1) := by decide +kernel
theorem dX6_drop_14 : decode cX6_drop 14 = .ok (.aload_n 0, 1) := by decide +kernel
theorem dX6_drop_15 : decode cX6_drop 15 = .ok (.iload_n 1, 1) := by decide +kernel
theorem dX6_drop_16 : decode cX6_drop 16 = .ok (.invokevirtual 82, 3) := by decide +kernel
theorem dX6_drop_19 : decode cX6_drop 19 = .ok (.istore_n 2, 1) := by decide +kernel
theorem dX6_drop_20 : decode cX6_drop 20 = .ok (.iload_n 2, 1) := by decide +kernel
theorem dX6_drop_21 : decode cX6_drop 21 = .ok (.ifCond .ge 6, 3) := by decide +kernel
theorem dX6_drop_24 : decode cX6_drop 24 = .ok (.ldc 69, 2) := by decide +kernel
theorem dX6_drop_26 : decode cX6_drop 26 = .ok (.ireturn, 1) := by decide +kernel
theorem dX6_drop_27 : decode cX6_drop 27 = .ok (.aload_n 0, 1) := by decide +kernel
theorem dX6_drop_28 : decode cX6_drop 28 = .ok (.invokevirtual 60, 3) := by decide +kernel
theorem dX6_drop_31 : decode cX6_drop 31 = .ok (.aload_n 0, 1) := by decide +kernel
theorem dX6_drop_32 : decode cX6_drop 32 = .ok (.getfield 7, 3) := by decide +kernel
theorem dX6_drop_35 : decode cX6_drop 35 = .ok (.iconst 1, 1) := by decide +kernel
theorem dX6_drop_36 : decode cX6_drop 36 = .ok (.dup2, 1) := by decide +kernel
theorem dX6_drop_37 : decode cX6_drop 37 = .ok (.iaload, 1) := by decide +kernel
theorem dX6_drop_38 : decode cX6_drop 38 = .ok (.iconst 1, 1) := by decide +kernel
theorem dX6_drop_39 : decode cX6_drop 39 = .ok (.isub, 1) := by decide +kernel
theorem dX6_drop_40 : decode cX6_drop 40 = .ok (.iastore, 1) := by decide +kernel
theorem dX6_drop_41 : decode cX6_drop 41 = .ok (.iload_n 2, 1) := by decide +kernel
theorem dX6_drop_42 : decode cX6_drop 42 = .ok (.istore_n 3, 1) := by decide +kernel
theorem dX6_drop_43 : decode cX6_drop 43 = .ok (.iload_n 3, 1) := by decide +kernel
theorem dX6_drop_44 : decode cX6_drop 44 = .ok (.aload_n 0, 1) := by decide +kernel
theorem dX6_drop_45 : decode cX6_drop 45 = .ok (.getfield 7, 3) := by decide +kernel
theorem dX6_drop_48 : decode cX6_drop 48 = .ok (.iconst 1, 1) := by decide +kernel
theorem dX6_drop_49 : decode cX6_drop 49 = .ok (.iaload, 1) := by decide +kernel
theorem dX6_drop_50 : decode cX6_drop 50 = .ok (.if_icmp .ge 27, 3) := by decide +kernel
theorem dX6_drop_53 : decode cX6_drop 53 = .ok (.aload_n 0, 1) := by decide +kernel
theorem dX6_drop_54 : decode cX6_drop 54 = .ok (.getfield 7, 3) := by decide +kernel
theorem dX6_drop_57 : decode cX6_drop 57 = .ok (.iconst 2, 1) := by decide +kernel
theorem dX6_drop_58 : decode cX6_drop 58 = .ok (.iload_n 3, 1) := by decide +kernel
theorem dX6_drop_59 : decode cX6_drop 59 = .ok (.iadd, 1) := by decide +kernel
theorem dX6_drop_60 : decode cX6_drop 60 = .ok (.aload_n 0, 1) := by decide +kernel
theorem dX6_drop_61 : decode cX6_drop 61 = .ok (.getfield 7, 3) := by decide +kernel
theorem dX6_drop_64 : decode cX6_drop 64 = .ok (.iconst 2, 1) := by decide +kernel
theorem dX6_drop_65 : decode cX6_drop 65 = .ok (.iload_n 3, 1) := by decide +kernel
theorem dX6_drop_66 : decode cX6_drop 66 = .ok (.iadd, 1) := by decide +kernel
theorem dX6_drop_67 : decode cX6_drop 67 = .ok (.iconst 1, 1) := by decide +kernel
theorem dX6_drop_68 : decode cX6_drop 68 = .ok (.iadd, 1) := by decide +kernel
theorem dX6_drop_69 : decode cX6_drop 69 = .ok (.iaload, 1) := by decide +kernel
theorem dX6_drop_70 : decode cX6_drop 70 = .ok (.iastore, 1) := by decide +kernel
theorem dX6_drop_71 : decode cX6_drop 71 = .ok (.iinc 3 1, 3) := by decide +kernel
theorem dX6_drop_74 : decode cX6_drop 74 = .ok (.goto (-31), 3) := by decide +kernel
theorem dX6_drop_77 : decode cX6_drop 77 = .ok (.aload_n 0, 1) := by decide +kernel
theorem dX6_drop_78 : decode cX6_drop 78 = .ok (.getfield 7, 3) := by decide +kernel
theorem dX6_drop_81 : decode cX6_drop 81 = .ok (.iconst 1, 1) := by decide +kernel
theorem dX6_drop_82 : decode cX6_drop 82 = .ok (.iaload, 1) := by decide +kernel
theorem dX6_drop_83 : decode cX6_drop 83 = .ok (.ireturn, 1) := by decide +kernel
theorem dX6_inPixels_0 : decode cX6_inPixels 0 = .ok (.iload_n 0, 1) := by decide +kernel
theorem dX6_inPixels_1 : decode cX6_inPixels 1 = .ok (.iload_n 1, 1) := by decide +kernel
theorem dX6_inPixels_2 : decode cX6_inPixels 2 = .ok (.imul, 1) := by decide +kernel
theorem dX6_inPixels_3 : decode cX6_inPixels 3 = .ok (.sipush 500, 3) := by decide +kernel
theorem dX6_inPixels_6 : decode cX6_inPixels 6 = .ok (.iadd, 1) := by decide +kernel
theorem dX6_inPixels_7 : decode cX6_inPixels 7 = .ok (.sipush 1000, 3) := by decide +kernel
theorem dX6_inPixels_10 : decode cX6_inPixels 10 = .ok (.idiv, 1) := by decide +kernel
theorem dX6_inPixels_11 : decode cX6_inPixels 11 = .ok (.ireturn, 1) := by decide +kernel
theorem dX6_pixelsOf_0 : decode cX6_pixelsOf 0 = .ok (.aload_n 0, 1) := by decide +kernel
theorem dX6_pixelsOf_1 : decode cX6_pixelsOf 1 = .ok (.iload_n 1, 1) := by decide +kernel
theorem dX6_pixelsOf_2 : decode cX6_pixelsOf 2 = .ok (.iload_n 2, 1) := by decide +kernel
theorem dX6_pixelsOf_3 : decode cX6_pixelsOf 3 = .ok (.invokevirtual 85, 3) := by decide +kernel
theorem dX6_pixelsOf_6 : decode cX6_pixelsOf 6 = .ok (.iload_n 3, 1) := by decide +kernel
theorem dX6_pixelsOf_7 : decode cX6_pixelsOf 7 = .ok (.invokestatic 88, 3) := by decide +kernel
theorem dX6_pixelsOf_10 : decode cX6_pixelsOf 10 = .ok (.istore 4, 2) := by decide +kernel
theorem dX6_pixelsOf_12 : decode cX6_pixelsOf 12 = .ok (.iload 4, 2) := by decide +kernel
theorem dX6_pixelsOf_14 : decode cX6_pixelsOf 14 = .ok (.iconst 1, 1) := by decide +kernel
theorem dX6_pixelsOf_15 : decode cX6_pixelsOf 15 = .ok (.if_icmp .ge 7, 3) := by decide +kernel
theorem dX6_pixelsOf_18 : decode cX6_pixelsOf 18 = .ok (.iconst 1, 1) := by decide +kernel
theorem dX6_pixelsOf_19 : decode cX6_pixelsOf 19 = .ok (.goto 5, 3) := by decide +kernel
theorem dX6_pixelsOf_22 : decode cX6_pixelsOf 22 = .ok (.iload 4, 2) := by decide +kernel
theorem dX6_pixelsOf_24 : decode cX6_pixelsOf 24 = .ok (.ireturn, 1) := by decide +kernel
theorem dX6_columns_0 : decode cX6_columns 0 = .ok (.aload_n 0, 1) := by decide +kernel
theorem dX6_columns_1 : decode cX6_columns 1 = .ok (.iload_n 1, 1) := by decide +kernel
theorem dX6_columns_2 : decode cX6_columns 2 = .ok (.iconst 0, 1) := by decide +kernel
theorem dX6_columns_3 : decode cX6_columns 3 = .ok (.invokevirtual 47, 3) := by decide +kernel
theorem dX6_columns_6 : decode cX6_columns 6 = .ok (.iload_n 2, 1) := by decide +kernel
theorem dX6_columns_7 : decode cX6_columns 7 = .ok (.invokestatic 88, 3) := by decide +kernel
theorem dX6_columns_10 : decode cX6_columns 10 = .ok (.istore_n 3, 1) := by decide +kernel
theorem dX6_columns_11 : decode cX6_columns 11 = .ok (.iload_n 3, 1) := by decide +kernel
theorem dX6_columns_12 : decode cX6_columns 12 = .ok (.iconst 1, 1) := by decide +kernel
theorem dX6_columns_13 : decode cX6_columns 13 = .ok (.if_icmp .ge 7, 3) := by decide +kernel
theorem dX6_columns_16 : decode cX6_columns 16 = .ok (.iconst 1, 1) := by decide +kernel
theorem dX6_columns_17 : decode cX6_columns 17 = .ok (.goto 15, 3) := by decide +kernel
theorem dX6_columns_20 : decode cX6_columns 20 = .ok (.iload_n 3, 1) := by decide +kernel
theorem dX6_columns_21 : decode cX6_columns 21 = .ok (.bipush 64, 2) := by decide +kernel
theorem dX6_columns_23 : decode cX6_columns 23 = .ok (.if_icmp .le 8, 3) := by decide +kernel
theorem dX6_columns_26 : decode cX6_columns 26 = .ok (.bipush 64, 2) := by decide +kernel
theorem dX6_columns_28 : decode cX6_columns 28 = .ok (.goto 4, 3) := by decide +kernel
theorem dX6_columns_31 : decode cX6_columns 31 = .ok (.iload_n 3, 1) := by decide +kernel
theorem dX6_columns_32 : decode cX6_columns 32 = .ok (.ireturn, 1) := by decide +kernel
theorem dX6_rounded_0 : decode cX6_rounded 0 = .ok (.aload_n 0, 1) := by decide +kernel
theorem dX6_rounded_1 : decode cX6_rounded 1 = .ok (.iload_n 1, 1) := by decide +kernel
theorem dX6_rounded_2 : decode cX6_rounded 2 = .ok (.iload_n 2, 1) := by decide +kernel
theorem dX6_rounded_3 : decode cX6_rounded 3 = .ok (.iconst 0, 1) := by decide +kernel
theorem dX6_rounded_4 : decode cX6_rounded 4 = .ok (.invokevirtual 55, 3) := by decide +kernel
theorem dX6_rounded_7 : decode cX6_rounded 7 = .ok (.istore 4, 2) := by decide +kernel
theorem dX6_rounded_9 : decode cX6_rounded 9 = .ok (.aload_n 0, 1) := by decide +kernel
theorem dX6_rounded_10 : decode cX6_rounded 10 = .ok (.iload_n 1, 1) := by decide +kernel
theorem dX6_rounded_11 : decode cX6_rounded 11 = .ok (.iload_n 2, 1) := by decide +kernel
theorem dX6_rounded_12 : decode cX6_rounded 12 = .ok (.iconst 1, 1) := by decide +kernel
theorem dX6_rounded_13 : decode cX6_rounded 13 = .ok (.invokevirtual 55, 3) := by decide +kernel
theorem dX6_rounded_16 : decode cX6_rounded 16 = .ok (.istore 5, 2) := by decide +kernel
theorem dX6_rounded_18 : decode cX6_rounded 18 = .ok (.aload_n 0, 1) := by decide +kernel
theorem dX6_rounded_19 : decode cX6_rounded 19 = .ok (.iload_n 1, 1) := by decide +kernel
theorem dX6_rounded_20 : decode cX6_rounded 20 = .ok (.iload_n 2, 1) := by decide +kernel
theorem dX6_rounded_21 : decode cX6_rounded 21 = .ok (.iconst 2, 1) := by decide +kernel
theorem dX6_rounded_22 : decode cX6_rounded 22 = .ok (.invokevirtual 55, 3) := by decide +kernel
theorem dX6_rounded_25 : decode cX6_rounded 25 = .ok (.istore 6, 2) := by decide +kernel
theorem dX6_rounded_27 : decode cX6_rounded 27 = .ok (.iload 6, 2) := by decide +kernel
theorem dX6_rounded_29 : decode cX6_rounded 29 = .ok (.iconst 1, 1) := by decide +kernel
theorem dX6_rounded_30 : decode cX6_rounded 30 = .ok (.if_icmp .ne 26, 3) := by decide +kernel
theorem dX6_rounded_33 : decode cX6_rounded 33 = .ok (.iconst 2, 1) := by decide +kernel
theorem dX6_rounded_34 : decode cX6_rounded 34 = .ok (.iload 4, 2) := by decide +kernel
theorem dX6_rounded_36 : decode cX6_rounded 36 = .ok (.imul, 1) := by decide +kernel
theorem dX6_rounded_37 : decode cX6_rounded 37 = .ok (.iload 5, 2) := by decide +kernel
theorem dX6_rounded_39 : decode cX6_rounded 39 = .ok (.iadd, 1) := by decide +kernel
theorem dX6_rounded_40 : decode cX6_rounded 40 = .ok (.iload_n 3, 1) := by decide +kernel
theorem dX6_rounded_41 : decode cX6_rounded 41 = .ok (.invokestatic 88, 3) := by decide +kernel
theorem dX6_rounded_44 : decode cX6_rounded 44 = .ok (.aload_n 0, 1) := by decide +kernel
theorem dX6_rounded_45 : decode cX6_rounded 45 = .ok (.getfield 25, 3) := by decide +kernel
theorem dX6_rounded_48 : decode cX6_rounded 48 = .ok (.iload_n 2, 1) := by decide +kernel
theorem dX6_rounded_49 : decode cX6_rounded 49 = .ok (.iaload, 1) := by decide +kernel
theorem dX6_rounded_50 : decode cX6_rounded 50 = .ok (.isub, 1) := by decide +kernel
theorem dX6_rounded_51 : decode cX6_rounded 51 = .ok (.iconst 2, 1) := by decide +kernel
theorem dX6_rounded_52 : decode cX6_rounded 52 = .ok (.invokestatic 91, 3) := by decide +kernel
theorem dX6_rounded_55 : decode cX6_rounded 55 = .ok (.ireturn, 1) := by decide +kernel
theorem dX6_rounded_56 : decode cX6_rounded 56 = .ok (.iload 6, 2) := by decide +kernel
theorem dX6_rounded_58 : decode cX6_rounded 58 = .ok (.iconst 2, 1) := by decide +kernel
theorem dX6_rounded_59 : decode cX6_rounded 59 = .ok (.if_icmp .ne 20, 3) := by decide +kernel
theorem dX6_rounded_62 : decode cX6_rounded 62 = .ok (.iload 4, 2) := by decide +kernel
theorem dX6_rounded_64 : decode cX6_rounded 64 = .ok (.iload 5, 2) := by decide +kernel
theorem dX6_rounded_66 : decode cX6_rounded 66 = .ok (.iadd, 1) := by decide +kernel
theorem dX6_rounded_67 : decode cX6_rounded 67 = .ok (.iload_n 3, 1) := by decide +kernel
theorem dX6_rounded_68 : decode cX6_rounded 68 = .ok (.invokestatic 88, 3) := by decide +kernel
theorem dX6_rounded_71 : decode cX6_rounded 71 = .ok (.aload_n 0, 1) := by decide +kernel
theorem dX6_rounded_72 : decode cX6_rounded 72 = .ok (.getfield 25, 3) := by decide +kernel
theorem dX6_rounded_75 : decode cX6_rounded 75 = .ok (.iload_n 2, 1) := by decide +kernel
theorem dX6_rounded_76 : decode cX6_rounded 76 = .ok (.iaload, 1) := by decide +kernel
theorem dX6_rounded_77 : decode cX6_rounded 77 = .ok (.isub, 1) := by decide +kernel
theorem dX6_rounded_78 : decode cX6_rounded 78 = .ok (.ireturn, 1) := by decide +kernel
theorem dX6_rounded_79 : decode cX6_rounded 79 = .ok (.iload 6, 2) := by decide +kernel
theorem dX6_rounded_81 : decode cX6_rounded 81 = .ok (.iconst 3, 1) := by decide +kernel
theorem dX6_rounded_82 : decode cX6_rounded 82 = .ok (.if_icmp .ne 67, 3) := by decide +kernel
theorem dX6_rounded_85 : decode cX6_rounded 85 = .ok (.iload_n 2, 1) := by decide +kernel
theorem dX6_rounded_86 : decode cX6_rounded 86 = .ok (.ifCond .le 63, 3) := by decide +kernel
theorem dX6_rounded_89 : decode cX6_rounded 89 = .ok (.iload 4, 2) := by decide +kernel
theorem dX6_rounded_91 : decode cX6_rounded 91 = .ok (.aload_n 0, 1) := by decide +kernel
theorem dX6_rounded_92 : decode cX6_rounded 92 = .ok (.iload_n 1, 1) := by decide +kernel
theorem dX6_rounded_93 : decode cX6_rounded 93 = .ok (.iload_n 2, 1) := by decide +kernel
theorem dX6_rounded_94 : decode cX6_rounded 94 = .ok (.iconst 1, 1) := by decide +kernel
theorem dX6_rounded_95 : decode cX6_rounded 95 = .ok (.isub, 1) := by decide +kernel
theorem dX6_rounded_96 : decode cX6_rounded 96 = .ok (.invokevirtual 66, 3) := by decide +kernel
theorem dX6_rounded_99 : decode cX6_rounded 99 = .ok (.isub, 1) := by decide +kernel
theorem dX6_rounded_100 : decode cX6_rounded 100 = .ok (.iload_n 3, 1) := by decide +kernel
theorem dX6_rounded_101 : decode cX6_rounded 101 = .ok (.invokestatic 88, 3) := by decide +kernel
theorem dX6_rounded_104 : decode cX6_rounded 104 = .ok (.istore 7, 2) := by decide +kernel
theorem dX6_rounded_106 : decode cX6_rounded 106 = .ok (.aload_n 0, 1) := by decide +kernel
theorem dX6_rounded_107 : decode cX6_rounded 107 = .ok (.getfield 22, 3) := by decide +kernel
theorem dX6_rounded_110 : decode cX6_rounded 110 = .ok (.iload_n 2, 1) := by decide +kernel
theorem dX6_rounded_111 : decode cX6_rounded 111 = .ok (.iconst 1, 1) := by decide +kernel
theorem dX6_rounded_112 : decode cX6_rounded 112 = .ok (.isub, 1) := by decide +kernel
theorem dX6_rounded_113 : decode cX6_rounded 113 = .ok (.iaload, 1) := by decide +kernel
theorem dX6_rounded_114 : decode cX6_rounded 114 = .ok (.aload_n 0, 1) := by decide +kernel
theorem dX6_rounded_115 : decode cX6_rounded 115 = .ok (.getfield 25, 3) := by decide +kernel
theorem dX6_rounded_118 : decode cX6_rounded 118 = .ok (.iload_n 2, 1) := by decide +kernel
theorem dX6_rounded_119 : decode cX6_rounded 119 = .ok (.iconst 1, 1) := by decide +kernel
theorem dX6_rounded_120 : decode cX6_rounded 120 = .ok (.isub, 1) := by decide +kernel
theorem dX6_rounded_121 : decode cX6_rounded 121 = .ok (.iaload, 1) := by decide +kernel
theorem dX6_rounded_122 : decode cX6_rounded 122 = .ok (.iadd, 1) := by decide +kernel
theorem dX6_rounded_123 : decode cX6_rounded 123 = .ok (.iload 7, 2) := by decide +kernel
theorem dX6_rounded_125 : decode cX6_rounded 125 = .ok (.aload_n 0, 1) := by decide +kernel
theorem dX6_rounded_126 : decode cX6_rounded 126 = .ok (.getfield 7, 3) := by decide +kernel
theorem dX6_rounded_129 : decode cX6_rounded 129 = .ok (.bipush 6, 2) := by decide +kernel
theorem dX6_rounded_131 : decode cX6_rounded 131 = .ok (.iaload, 1) := by decide +kernel
theorem dX6_rounded_132 : decode cX6_rounded 132 = .ok (.if_icmp .ge 13, 3) := by decide +kernel
theorem dX6_rounded_135 : decode cX6_rounded 135 = .ok (.aload_n 0, 1) := by decide +kernel
theorem dX6_rounded_136 : decode cX6_rounded 136 = .ok (.getfield 7, 3) := by decide +kernel
theorem dX6_rounded_139 : decode cX6_rounded 139 = .ok (.bipush 6, 2) := by decide +kernel
theorem dX6_rounded_141 : decode cX6_rounded 141 = .ok (.iaload, 1) := by decide +kernel
theorem dX6_rounded_142 : decode cX6_rounded 142 = .ok (.goto 5, 3) := by decide +kernel
theorem dX6_rounded_145 : decode cX6_rounded 145 = .ok (.iload 7, 2) := by decide +kernel
theorem dX6_rounded_147 : decode cX6_rounded 147 = .ok (.iadd, 1) := by decide +kernel
theorem dX6_rounded_148 : decode cX6_rounded 148 = .ok (.ireturn, 1) := by decide +kernel
theorem dX6_rounded_149 : decode cX6_rounded 149 = .ok (.iload 4, 2) := by decide +kernel
theorem dX6_rounded_151 : decode cX6_rounded 151 = .ok (.iload_n 3, 1) := by decide +kernel
theorem dX6_rounded_152 : decode cX6_rounded 152 = .ok (.invokestatic 88, 3) := by decide +kernel
theorem dX6_rounded_155 : decode cX6_rounded 155 = .ok (.ireturn, 1) := by decide +kernel
theorem dX6_lays_0 : decode cX6_lays 0 = .ok (.aload_n 0, 1) := by decide +kernel
theorem dX6_lays_1 : decode cX6_lays 1 = .ok (.iconst 0, 1) := by decide +kernel
theorem dX6_lays_2 : decode cX6_lays 2 = .ok (.putfield 94, 3) := by decide +kernel
theorem dX6_lays_5 : decode cX6_lays 5 = .ok (.iconst 0, 1) := by decide +kernel
theorem dX6_lays_6 : decode cX6_lays 6 = .ok (.istore_n 3, 1) := by decide +kernel
theorem dX6_lays_7 : decode cX6_lays 7 = .ok (.iload_n 3, 1) := by decide +kernel
theorem dX6_lays_8 : decode cX6_lays 8 = .ok (.aload_n 0, 1) := by decide +kernel
theorem dX6_lays_9 : decode cX6_lays 9 = .ok (.iload_n 1, 1) := by decide +kernel
theorem dX6_lays_10 : decode cX6_lays 10 = .ok (.iconst 1, 1) := by decide +kernel
theorem dX6_lays_11 : decode cX6_lays 11 = .ok (.invokevirtual 47, 3) := by decide +kernel
theorem dX6_lays_14 : decode cX6_lays 14 = .ok (.if_icmp .ge 142, 3) := by decide +kernel
theorem dX6_lays_17 : decode cX6_lays 17 = .ok (.aload_n 0, 1) := by decide +kernel
theorem dX6_lays_18 : decode cX6_lays 18 = .ok (.getfield 25, 3) := by decide +kernel
theorem dX6_lays_21 : decode cX6_lays 21 = .ok (.iload_n 3, 1) := by decide +kernel
theorem dX6_lays_22 : decode cX6_lays 22 = .ok (.aload_n 0, 1) := by decide +kernel
theorem dX6_lays_23 : decode cX6_lays 23 = .ok (.iload_n 1, 1) := by decide +kernel
theorem dX6_lays_24 : decode cX6_lays 24 = .ok (.iload_n 3, 1) := by decide +kernel
theorem dX6_lays_25 : decode cX6_lays 25 = .ok (.iload_n 2, 1) := by decide +kernel
theorem dX6_lays_26 : decode cX6_lays 26 = .ok (.invokevirtual 97, 3) := by decide +kernel
theorem dX6_lays_29 : decode cX6_lays 29 = .ok (.iastore, 1) := by decide +kernel
theorem dX6_lays_30 : decode cX6_lays 30 = .ok (.aload_n 0, 1) := by decide +kernel
theorem dX6_lays_31 : decode cX6_lays 31 = .ok (.getfield 22, 3) := by decide +kernel
theorem dX6_lays_34 : decode cX6_lays 34 = .ok (.iload_n 3, 1) := by decide +kernel
theorem dX6_lays_35 : decode cX6_lays 35 = .ok (.aload_n 0, 1) := by decide +kernel
theorem dX6_lays_36 : decode cX6_lays 36 = .ok (.iload_n 1, 1) := by decide +kernel
theorem dX6_lays_37 : decode cX6_lays 37 = .ok (.iload_n 3, 1) := by decide +kernel
theorem dX6_lays_38 : decode cX6_lays 38 = .ok (.iload_n 2, 1) := by decide +kernel
theorem dX6_lays_39 : decode cX6_lays 39 = .ok (.invokevirtual 100, 3) := by decide +kernel
theorem dX6_lays_42 : decode cX6_lays 42 = .ok (.iastore, 1) := by decide +kernel
theorem dX6_lays_43 : decode cX6_lays 43 = .ok (.iload_n 3, 1) := by decide +kernel
theorem dX6_lays_44 : decode cX6_lays 44 = .ok (.ifCond .le 106, 3) := by decide +kernel
theorem dX6_lays_47 : decode cX6_lays 47 = .ok (.aload_n 0, 1) := by decide +kernel
theorem dX6_lays_48 : decode cX6_lays 48 = .ok (.iload_n 1, 1) := by decide +kernel
theorem dX6_lays_49 : decode cX6_lays 49 = .ok (.iload_n 3, 1) := by decide +kernel
theorem dX6_lays_50 : decode cX6_lays 50 = .ok (.iconst 0, 1) := by decide +kernel
theorem dX6_lays_51 : decode cX6_lays 51 = .ok (.invokevirtual 55, 3) := by decide +kernel
theorem dX6_lays_54 : decode cX6_lays 54 = .ok (.aload_n 0, 1) := by decide +kernel
theorem dX6_lays_55 : decode cX6_lays 55 = .ok (.iload_n 1, 1) := by decide +kernel
theorem dX6_lays_56 : decode cX6_lays 56 = .ok (.iload_n 3, 1) := by decide +kernel
theorem dX6_lays_57 : decode cX6_lays 57 = .ok (.iconst 1, 1) := by decide +kernel
theorem dX6_lays_58 : decode cX6_lays 58 = .ok (.isub, 1) := by decide +kernel
theorem dX6_lays_59 : decode cX6_lays 59 = .ok (.invokevirtual 66, 3) := by decide +kernel
theorem dX6_lays_62 : decode cX6_lays 62 = .ok (.isub, 1) := by decide +kernel
theorem dX6_lays_63 : decode cX6_lays 63 = .ok (.istore 4, 2) := by decide +kernel
theorem dX6_lays_65 : decode cX6_lays 65 = .ok (.aload_n 0, 1) := by decide +kernel
theorem dX6_lays_66 : decode cX6_lays 66 = .ok (.getfield 22, 3) := by decide +kernel
theorem dX6_lays_69 : decode cX6_lays 69 = .ok (.iload_n 3, 1) := by decide +kernel
theorem dX6_lays_70 : decode cX6_lays 70 = .ok (.iconst 1, 1) := by decide +kernel
theorem dX6_lays_71 : decode cX6_lays 71 = .ok (.isub, 1) := by decide +kernel
theorem dX6_lays_72 : decode cX6_lays 72 = .ok (.iaload, 1) := by decide +kernel
theorem dX6_lays_73 : decode cX6_lays 73 = .ok (.aload_n 0, 1) := by decide +kernel
theorem dX6_lays_74 : decode cX6_lays 74 = .ok (.getfield 25, 3) := by decide +kernel
theorem dX6_lays_77 : decode cX6_lays 77 = .ok (.iload_n 3, 1) := by decide +kernel
theorem dX6_lays_78 : decode cX6_lays 78 = .ok (.iconst 1, 1) := by decide +kernel
theorem dX6_lays_79 : decode cX6_lays 79 = .ok (.isub, 1) := by decide +kernel
theorem dX6_lays_80 : decode cX6_lays 80 = .ok (.iaload, 1) := by decide +kernel
theorem dX6_lays_81 : decode cX6_lays 81 = .ok (.iadd, 1) := by decide +kernel
theorem dX6_lays_82 : decode cX6_lays 82 = .ok (.iload 4, 2) := by decide +kernel
theorem dX6_lays_84 : decode cX6_lays 84 = .ok (.ifCond .le 7, 3) := by decide +kernel
theorem dX6_lays_87 : decode cX6_lays 87 = .ok (.iconst 1, 1) := by decide +kernel
theorem dX6_lays_88 : decode cX6_lays 88 = .ok (.goto 4, 3) := by decide +kernel
theorem dX6_lays_91 : decode cX6_lays 91 = .ok (.iconst 0, 1) := by decide +kernel
theorem dX6_lays_92 : decode cX6_lays 92 = .ok (.iadd, 1) := by decide +kernel
theorem dX6_lays_93 : decode cX6_lays 93 = .ok (.istore 5, 2) := by decide +kernel
theorem dX6_lays_95 : decode cX6_lays 95 = .ok (.aload_n 0, 1) := by decide +kernel
theorem dX6_lays_96 : decode cX6_lays 96 = .ok (.dup, 1) := by decide +kernel
theorem dX6_lays_97 : decode cX6_lays 97 = .ok (.getfield 94, 3) := by decide +kernel
theorem dX6_lays_100 : decode cX6_lays 100 = .ok (.aload_n 0, 1) := by decide +kernel
theorem dX6_lays_101 : decode cX6_lays 101 = .ok (.getfield 22, 3) := by decide +kernel
theorem dX6_lays_104 : decode cX6_lays 104 = .ok (.iload_n 3, 1) := by decide +kernel
theorem dX6_lays_105 : decode cX6_lays 105 = .ok (.iaload, 1) := by decide +kernel
theorem dX6_lays_106 : decode cX6_lays 106 = .ok (.iload 5, 2) := by decide +kernel
theorem dX6_lays_108 : decode cX6_lays 108 = .ok (.if_icmp .ge 9, 3) := by decide +kernel
theorem dX6_lays_111 : decode cX6_lays 111 = .ok (.iconst 1, 1) := by decide +kernel
theorem dX6_lays_112 : decode cX6_lays 112 = .ok (.iload_n 3, 1) := by decide +kernel
theorem dX6_lays_113 : decode cX6_lays 113 = .ok (.ishl, 1) := by decide +kernel
theorem dX6_lays_114 : decode cX6_lays 114 = .ok (.goto 4, 3) := by decide +kernel
theorem dX6_lays_117 : decode cX6_lays 117 = .ok (.iconst 0, 1) := by decide +kernel
theorem dX6_lays_118 : decode cX6_lays 118 = .ok (.ior, 1) := by decide +kernel
theorem dX6_lays_119 : decode cX6_lays 119 = .ok (.putfield 94, 3) := by decide +kernel
theorem dX6_lays_122 : decode cX6_lays 122 = .ok (.aload_n 0, 1) := by decide +kernel
theorem dX6_lays_123 : decode cX6_lays 123 = .ok (.getfield 22, 3) := by decide +kernel
theorem dX6_lays_126 : decode cX6_lays 126 = .ok (.iload_n 3, 1) := by decide +kernel
theorem dX6_lays_127 : decode cX6_lays 127 = .ok (.aload_n 0, 1) := by decide +kernel
theorem dX6_lays_128 : decode cX6_lays 128 = .ok (.getfield 22, 3) := by decide +kernel
theorem dX6_lays_131 : decode cX6_lays 131 = .ok (.iload_n 3, 1) := by decide +kernel
theorem dX6_lays_132 : decode cX6_lays 132 = .ok (.iaload, 1) := by decide +kernel
theorem dX6_lays_133 : decode cX6_lays 133 = .ok (.iload 5, 2) := by decide +kernel
theorem dX6_lays_135 : decode cX6_lays 135 = .ok (.if_icmp .ge 8, 3) := by decide +kernel
theorem dX6_lays_138 : decode cX6_lays 138 = .ok (.iload 5, 2) := by decide +kernel
theorem dX6_lays_140 : decode cX6_lays 140 = .ok (.goto 9, 3) := by decide +kernel
theorem dX6_lays_143 : decode cX6_lays 143 = .ok (.aload_n 0, 1) := by decide +kernel
theorem dX6_lays_144 : decode cX6_lays 144 = .ok (.getfield 22, 3) := by decide +kernel
theorem dX6_lays_147 : decode cX6_lays 147 = .ok (.iload_n 3, 1) := by decide +kernel
theorem dX6_lays_148 : decode cX6_lays 148 = .ok (.iaload, 1) := by decide +kernel
theorem dX6_lays_149 : decode cX6_lays 149 = .ok (.iastore, 1) := by decide +kernel
theorem dX6_lays_150 : decode cX6_lays 150 = .ok (.iinc 3 1, 3) := by decide +kernel
theorem dX6_lays_153 : decode cX6_lays 153 = .ok (.goto (-146), 3) := by decide +kernel
theorem dX6_lays_156 : decode cX6_lays 156 = .ok (.return_, 1) := by decide +kernel
theorem dX6_cuts_0 : decode cX6_cuts 0 = .ok (.iconst 0, 1) := by decide +kernel
theorem dX6_cuts_1 : decode cX6_cuts 1 = .ok (.istore_n 3, 1) := by decide +kernel
theorem dX6_cuts_2 : decode cX6_cuts 2 = .ok (.iconst 0, 1) := by decide +kernel
theorem dX6_cuts_3 : decode cX6_cuts 3 = .ok (.istore 4, 2) := by decide +kernel
theorem dX6_cuts_5 : decode cX6_cuts 5 = .ok (.iload 4, 2) := by decide +kernel
theorem dX6_cuts_7 : decode cX6_cuts 7 = .ok (.aload_n 0, 1) := by decide +kernel
theorem dX6_cuts_8 : decode cX6_cuts 8 = .ok (.iload_n 1, 1) := by decide +kernel
theorem dX6_cuts_9 : decode cX6_cuts 9 = .ok (.iconst 1, 1) := by decide +kernel
theorem dX6_cuts_10 : decode cX6_cuts 10 = .ok (.invokevirtual 47, 3) := by decide +kernel
theorem dX6_cuts_13 : decode cX6_cuts 13 = .ok (.if_icmp .ge 54, 3) := by decide +kernel
theorem dX6_cuts_16 : decode cX6_cuts 16 = .ok (.iload_n 3, 1) := by decide +kernel
theorem dX6_cuts_17 : decode cX6_cuts 17 = .ok (.aload_n 0, 1) := by decide +kernel
theorem dX6_cuts_18 : decode cX6_cuts 18 = .ok (.getfield 22, 3) := by decide +kernel
theorem dX6_cuts_21 : decode cX6_cuts 21 = .ok (.iload 4, 2) := by decide +kernel
theorem dX6_cuts_23 : decode cX6_cuts 23 = .ok (.iaload, 1) := by decide +kernel
theorem dX6_cuts_24 : decode cX6_cuts 24 = .ok (.ifCond .lt 27, 3) := by decide +kernel
theorem dX6_cuts_27 : decode cX6_cuts 27 = .ok (.aload_n 0, 1) := by decide +kernel
theorem dX6_cuts_28 : decode cX6_cuts 28 = .ok (.getfield 22, 3) := by decide +kernel
theorem dX6_cuts_31 : decode cX6_cuts 31 = .ok (.iload 4, 2) := by decide +kernel
theorem dX6_cuts_33 : decode cX6_cuts 33 = .ok (.iaload, 1) := by decide +kernel
theorem dX6_cuts_34 : decode cX6_cuts 34 = .ok (.aload_n 0, 1) := by decide +kernel
theorem dX6_cuts_35 : decode cX6_cuts 35 = .ok (.getfield 25, 3) := by decide +kernel
theorem dX6_cuts_38 : decode cX6_cuts 38 = .ok (.iload 4, 2) := by decide +kernel
theorem dX6_cuts_40 : decode cX6_cuts 40 = .ok (.iaload, 1) := by decide +kernel
theorem dX6_cuts_41 : decode cX6_cuts 41 = .ok (.iadd, 1) := by decide +kernel
theorem dX6_cuts_42 : decode cX6_cuts 42 = .ok (.aload_n 0, 1) := by decide +kernel
theorem dX6_cuts_43 : decode cX6_cuts 43 = .ok (.iload_n 1, 1) := by decide +kernel
theorem dX6_cuts_44 : decode cX6_cuts 44 = .ok (.iload_n 2, 1) := by decide +kernel
theorem dX6_cuts_45 : decode cX6_cuts 45 = .ok (.invokevirtual 103, 3) := by decide +kernel
theorem dX6_cuts_48 : decode cX6_cuts 48 = .ok (.if_icmp .le 10, 3) := by decide +kernel
theorem dX6_cuts_51 : decode cX6_cuts 51 = .ok (.iconst 1, 1) := by decide +kernel
theorem dX6_cuts_52 : decode cX6_cuts 52 = .ok (.iload 4, 2) := by decide +kernel
theorem dX6_cuts_54 : decode cX6_cuts 54 = .ok (.ishl, 1) := by decide +kernel
theorem dX6_cuts_55 : decode cX6_cuts 55 = .ok (.goto 4, 3) := by decide +kernel
theorem dX6_cuts_58 : decode cX6_cuts 58 = .ok (.iconst 0, 1) := by decide +kernel
theorem dX6_cuts_59 : decode cX6_cuts 59 = .ok (.ior, 1) := by decide +kernel
theorem dX6_cuts_60 : decode cX6_cuts 60 = .ok (.istore_n 3, 1) := by decide +kernel
theorem dX6_cuts_61 : decode cX6_cuts 61 = .ok (.iinc 4 1, 3) := by decide +kernel
theorem dX6_cuts_64 : decode cX6_cuts 64 = .ok (.goto (-59), 3) := by decide +kernel
theorem dX6_cuts_67 : decode cX6_cuts 67 = .ok (.iload_n 3, 1) := by decide +kernel
theorem dX6_cuts_68 : decode cX6_cuts 68 = .ok (.ireturn, 1) := by decide +kernel
theorem dX6_isClear_0 : decode cX6_isClear 0 = .ok (.aload_n 0, 1) := by decide +kernel
theorem dX6_isClear_1 : decode cX6_isClear 1 = .ok (.iload_n 1, 1) := by decide +kernel
theorem dX6_isClear_2 : decode cX6_isClear 2 = .ok (.iload_n 2, 1) := by decide +kernel
theorem dX6_isClear_3 : decode cX6_isClear 3 = .ok (.invokevirtual 106, 3) := by decide +kernel
theorem dX6_isClear_6 : decode cX6_isClear 6 = .ok (.aload_n 0, 1) := by decide +kernel
theorem dX6_isClear_7 : decode cX6_isClear 7 = .ok (.getfield 94, 3) := by decide +kernel
theorem dX6_isClear_10 : decode cX6_isClear 10 = .ok (.ifCond .ne 16, 3) := by decide +kernel
theorem dX6_isClear_13 : decode cX6_isClear 13 = .ok (.aload_n 0, 1) := by decide +kernel
theorem dX6_isClear_14 : decode cX6_isClear 14 = .ok (.iload_n 1, 1) := by decide +kernel
theorem dX6_isClear_15 : decode cX6_isClear 15 = .ok (.iload_n 2, 1) := by decide +kernel
theorem dX6_isClear_16 : decode cX6_isClear 16 = .ok (.invokevirtual 110, 3) := by decide +kernel
theorem dX6_isClear_19 : decode cX6_isClear 19 = .ok (.ifCond .ne 7, 3) := by decide +kernel
theorem dX6_isClear_22 : decode cX6_isClear 22 = .ok (.iconst 1, 1) := by decide +kernel
theorem dX6_isClear_23 : decode cX6_isClear 23 = .ok (.goto 4, 3) := by decide +kernel
theorem dX6_isClear_26 : decode cX6_isClear 26 = .ok (.iconst 0, 1) := by decide +kernel
theorem dX6_isClear_27 : decode cX6_isClear 27 = .ok (.ireturn, 1) := by decide +kernel
theorem dX6_isLit_0 : decode cX6_isLit 0 = .ok (.iconst 0, 1) := by decide +kernel
theorem dX6_isLit_1 : decode cX6_isLit 1 = .ok (.istore_n 3, 1) := by decide +kernel
theorem dX6_isLit_2 : decode cX6_isLit 2 = .ok (.iconst 0, 1) := by decide +kernel
theorem dX6_isLit_3 : decode cX6_isLit 3 = .ok (.istore 4, 2) := by decide +kernel
theorem dX6_isLit_5 : decode cX6_isLit 5 = .ok (.iload 4, 2) := by decide +kernel
theorem dX6_isLit_7 : decode cX6_isLit 7 = .ok (.aload_n 0, 1) := by decide +kernel
theorem dX6_isLit_8 : decode cX6_isLit 8 = .ok (.iload_n 1, 1) := by decide +kernel
theorem dX6_isLit_9 : decode cX6_isLit 9 = .ok (.iconst 1, 1) := by decide +kernel
theorem dX6_isLit_10 : decode cX6_isLit 10 = .ok (.invokevirtual 47, 3) := by decide +kernel
theorem dX6_isLit_13 : decode cX6_isLit 13 = .ok (.if_icmp .ge 44, 3) := by decide +kernel
theorem dX6_isLit_16 : decode cX6_isLit 16 = .ok (.iload_n 3, 1) := by decide +kernel
theorem dX6_isLit_17 : decode cX6_isLit 17 = .ok (.ifCond .ne 28, 3) := by decide +kernel
theorem dX6_isLit_20 : decode cX6_isLit 20 = .ok (.iload_n 2, 1) := by decide +kernel
theorem dX6_isLit_21 : decode cX6_isLit 21 = .ok (.aload_n 0, 1) := by decide +kernel
theorem dX6_isLit_22 : decode cX6_isLit 22 = .ok (.getfield 22, 3) := by decide +kernel
theorem dX6_isLit_25 : decode cX6_isLit 25 = .ok (.iload 4, 2) := by decide +kernel
theorem dX6_isLit_27 : decode cX6_isLit 27 = .ok (.iaload, 1) := by decide +kernel
theorem dX6_isLit_28 : decode cX6_isLit 28 = .ok (.isub, 1) := by decide +kernel
theorem dX6_isLit_29 : decode cX6_isLit 29 = .ok (.iconst 0, 1) := by decide +kernel
theorem dX6_isLit_30 : decode cX6_isLit 30 = .ok (.aload_n 0, 1) := by decide +kernel
theorem dX6_isLit_31 : decode cX6_isLit 31 = .ok (.getfield 25, 3) := by decide +kernel
theorem dX6_isLit_34 : decode cX6_isLit 34 = .ok (.iload 4, 2) := by decide +kernel
theorem dX6_isLit_36 : decode cX6_isLit 36 = .ok (.iaload, 1) := by decide +kernel
theorem dX6_isLit_37 : decode cX6_isLit 37 = .ok (.iconst 1, 1) := by decide +kernel
theorem dX6_isLit_38 : decode cX6_isLit 38 = .ok (.isub, 1) := by decide +kernel
theorem dX6_isLit_39 : decode cX6_isLit 39 = .ok (.invokestatic 39, 3) := by decide +kernel
theorem dX6_isLit_42 : decode cX6_isLit 42 = .ok (.ifCond .eq 7, 3) := by decide +kernel
theorem dX6_isLit_45 : decode cX6_isLit 45 = .ok (.iconst 1, 1) := by decide +kernel
theorem dX6_isLit_46 : decode cX6_isLit 46 = .ok (.goto 4, 3) := by decide +kernel
theorem dX6_isLit_49 : decode cX6_isLit 49 = .ok (.iconst 0, 1) := by decide +kernel
theorem dX6_isLit_50 : decode cX6_isLit 50 = .ok (.istore_n 3, 1) := by decide +kernel
theorem dX6_isLit_51 : decode cX6_isLit 51 = .ok (.iinc 4 1, 3) := by decide +kernel
theorem dX6_isLit_54 : decode cX6_isLit 54 = .ok (.goto (-49), 3) := by decide +kernel
theorem dX6_isLit_57 : decode cX6_isLit 57 = .ok (.iload_n 3, 1) := by decide +kernel
theorem dX6_isLit_58 : decode cX6_isLit 58 = .ok (.ireturn, 1) := by decide +kernel
theorem dX6_litHalf_0 : decode cX6_litHalf 0 = .ok (.iconst 0, 1) := by decide +kernel
theorem dX6_litHalf_1 : decode cX6_litHalf 1 = .ok (.istore 4, 2) := by decide +kernel
theorem dX6_litHalf_3 : decode cX6_litHalf 3 = .ok (.iconst 0, 1) := by decide +kernel
theorem dX6_litHalf_4 : decode cX6_litHalf 4 = .ok (.istore 5, 2) := by decide +kernel
theorem dX6_litHalf_6 : decode cX6_litHalf 6 = .ok (.iload 5, 2) := by decide +kernel
theorem dX6_litHalf_8 : decode cX6_litHalf 8 = .ok (.bipush 32, 2) := by decide +kernel
theorem dX6_litHalf_10 : decode cX6_litHalf 10 = .ok (.if_icmp .ge 53, 3) := by decide +kernel
theorem dX6_litHalf_13 : decode cX6_litHalf 13 = .ok (.iload 4, 2) := by decide +kernel
theorem dX6_litHalf_15 : decode cX6_litHalf 15 = .ok (.bipush 32, 2) := by decide +kernel
theorem dX6_litHalf_17 : decode cX6_litHalf 17 = .ok (.iload_n 3, 1) := by decide +kernel
theorem dX6_litHalf_18 : decode cX6_litHalf 18 = .ok (.imul, 1) := by decide +kernel
theorem dX6_litHalf_19 : decode cX6_litHalf 19 = .ok (.iload 5, 2) := by decide +kernel
theorem dX6_litHalf_21 : decode cX6_litHalf 21 = .ok (.iadd, 1) := by decide +kernel
theorem dX6_litHalf_22 : decode cX6_litHalf 22 = .ok (.aload_n 0, 1) := by decide +kernel
theorem dX6_litHalf_23 : decode cX6_litHalf 23 = .ok (.iload_n 1, 1) := by decide +kernel
theorem dX6_litHalf_24 : decode cX6_litHalf 24 = .ok (.iload_n 2, 1) := by decide +kernel
theorem dX6_litHalf_25 : decode cX6_litHalf 25 = .ok (.invokevirtual 103, 3) := by decide +kernel
theorem dX6_litHalf_28 : decode cX6_litHalf 28 = .ok (.if_icmp .ge 25, 3) := by decide +kernel
theorem dX6_litHalf_31 : decode cX6_litHalf 31 = .ok (.aload_n 0, 1) := by decide +kernel
theorem dX6_litHalf_32 : decode cX6_litHalf 32 = .ok (.iload_n 1, 1) := by decide +kernel
theorem dX6_litHalf_33 : decode cX6_litHalf 33 = .ok (.bipush 32, 2) := by decide +kernel
theorem dX6_litHalf_35 : decode cX6_litHalf 35 = .ok (.iload_n 3, 1) := by decide +kernel
theorem dX6_litHalf_36 : decode cX6_litHalf 36 = .ok (.imul, 1) := by decide +kernel
theorem dX6_litHalf_37 : decode cX6_litHalf 37 = .ok (.iload 5, 2) := by decide +kernel
theorem dX6_litHalf_39 : decode cX6_litHalf 39 = .ok (.iadd, 1) := by decide +kernel
theorem dX6_litHalf_40 : decode cX6_litHalf 40 = .ok (.invokevirtual 113, 3) := by decide +kernel
theorem dX6_litHalf_43 : decode cX6_litHalf 43 = .ok (.ifCond .eq 10, 3) := by decide +kernel
theorem dX6_litHalf_46 : decode cX6_litHalf 46 = .ok (.iconst 1, 1) := by decide +kernel
theorem dX6_litHalf_47 : decode cX6_litHalf 47 = .ok (.iload 5, 2) := by decide +kernel
theorem dX6_litHalf_49 : decode cX6_litHalf 49 = .ok (.ishl, 1) := by decide +kernel
theorem dX6_litHalf_50 : decode cX6_litHalf 50 = .ok (.goto 4, 3) := by decide +kernel
theorem dX6_litHalf_53 : decode cX6_litHalf 53 = .ok (.iconst 0, 1) := by decide +kernel
theorem dX6_litHalf_54 : decode cX6_litHalf 54 = .ok (.ior, 1) := by decide +kernel
theorem dX6_litHalf_55 : decode cX6_litHalf 55 = .ok (.istore 4, 2) := by decide +kernel
theorem dX6_litHalf_57 : decode cX6_litHalf 57 = .ok (.iinc 5 1, 3) := by decide +kernel
theorem dX6_litHalf_60 : decode cX6_litHalf 60 = .ok (.goto (-54), 3) := by decide +kernel
theorem dX6_litHalf_63 : decode cX6_litHalf 63 = .ok (.iload 4, 2) := by decide +kernel
theorem dX6_litHalf_65 : decode cX6_litHalf 65 = .ok (.ireturn, 1) := by decide +kernel
theorem dX6_ofSheet_0 : decode cX6_ofSheet 0 = .ok (.aload_n 0, 1) := by decide +kernel
theorem dX6_ofSheet_1 : decode cX6_ofSheet 1 = .ok (.getfield 7, 3) := by decide +kernel
theorem dX6_ofSheet_4 : decode cX6_ofSheet 4 = .ok (.sipush 169, 3) := by decide +kernel
theorem dX6_ofSheet_7 : decode cX6_ofSheet 7 = .ok (.bipush 10, 2) := by decide +kernel
theorem dX6_ofSheet_9 : decode cX6_ofSheet 9 = .ok (.iload_n 1, 1) := by decide +kernel
theorem dX6_ofSheet_10 : decode cX6_ofSheet 10 = .ok (.imul, 1) := by decide +kernel
theorem dX6_ofSheet_11 : decode cX6_ofSheet 11 = .ok (.iadd, 1) := by decide +kernel
theorem dX6_ofSheet_12 : decode cX6_ofSheet 12 = .ok (.iload_n 2, 1) := by decide +kernel
theorem dX6_ofSheet_13 : decode cX6_ofSheet 13 = .ok (.iadd, 1) := by decide +kernel
theorem dX6_ofSheet_14 : decode cX6_ofSheet 14 = .ok (.iaload, 1) := by decide +kernel
theorem dX6_ofSheet_15 : decode cX6_ofSheet 15 = .ok (.ireturn, 1) := by decide +kernel
theorem dX6_sheetAt_0 : decode cX6_sheetAt 0 = .ok (.iconst 0, 1) := by decide +kernel
theorem dX6_sheetAt_1 : decode cX6_sheetAt 1 = .ok (.istore_n 2, 1) := by decide +kernel
theorem dX6_sheetAt_2 : decode cX6_sheetAt 2 = .ok (.iload_n 2, 1) := by decide +kernel
theorem dX6_sheetAt_3 : decode cX6_sheetAt 3 = .ok (.aload_n 0, 1) := by decide +kernel
theorem dX6_sheetAt_4 : decode cX6_sheetAt 4 = .ok (.getfield 7, 3) := by decide +kernel
theorem dX6_sheetAt_7 : decode cX6_sheetAt 7 = .ok (.bipush 7, 2) := by decide +kernel
theorem dX6_sheetAt_9 : decode cX6_sheetAt 9 = .ok (.iaload, 1) := by decide +kernel
theorem dX6_sheetAt_10 : decode cX6_sheetAt 10 = .ok (.if_icmp .ge 21, 3) := by decide +kernel
theorem dX6_sheetAt_13 : decode cX6_sheetAt 13 = .ok (.aload_n 0, 1) := by decide +kernel
theorem dX6_sheetAt_14 : decode cX6_sheetAt 14 = .ok (.iload_n 2, 1) := by decide +kernel
theorem dX6_sheetAt_15 : decode cX6_sheetAt 15 = .ok (.iconst 0, 1) := by decide +kernel
theorem dX6_sheetAt_16 : decode cX6_sheetAt 16 = .ok (.invokevirtual 116, 3) := by decide +kernel
theorem dX6_sheetAt_19 : decode cX6_sheetAt 19 = .ok (.iload_n 1, 1) := by decide +kernel
theorem dX6_sheetAt_20 : decode cX6_sheetAt 20 = .ok (.if_icmp .ne 5, 3) := by decide +kernel
theorem dX6_sheetAt_23 : decode cX6_sheetAt 23 = .ok (.iload_n 2, 1) := by decide +kernel
theorem dX6_sheetAt_24 : decode cX6_sheetAt 24 = .ok (.ireturn, 1) := by decide +kernel
theorem dX6_sheetAt_25 : decode cX6_sheetAt 25 = .ok (.iinc 2 1, 3) := by decide +kernel
theorem dX6_sheetAt_28 : decode cX6_sheetAt 28 = .ok (.goto (-26), 3) := by decide +kernel
theorem dX6_sheetAt_31 : decode cX6_sheetAt 31 = .ok (.ldc 74, 2) := by decide +kernel
theorem dX6_sheetAt_33 : decode cX6_sheetAt 33 = .ok (.ireturn, 1) := by decide +kernel
theorem dX6_takesSheet_0 : decode cX6_takesSheet 0 = .ok (.aload_n 0, 1) := by decide +kernel
theorem dX6_takesSheet_1 : decode cX6_takesSheet 1 = .ok (.getfield 7, 3) := by decide +kernel
theorem dX6_takesSheet_4 : decode cX6_takesSheet 4 = .ok (.bipush 7, 2) := by decide +kernel
theorem dX6_takesSheet_6 : decode cX6_takesSheet 6 = .ok (.dup2, 1) := by decide +kernel
theorem dX6_takesSheet_7 : decode cX6_takesSheet 7 = .ok (.iaload, 1) := by decide +kernel
theorem dX6_takesSheet_8 : decode cX6_takesSheet 8 = .ok (.iconst 1, 1) := by decide +kernel
theorem dX6_takesSheet_9 : decode cX6_takesSheet 9 = .ok (.isub, 1) := by decide +kernel
theorem dX6_takesSheet_10 : decode cX6_takesSheet 10 = .ok (.iastore, 1) := by decide +kernel
theorem dX6_takesSheet_11 : decode cX6_takesSheet 11 = .ok (.sipush 169, 3) := by decide +kernel
theorem dX6_takesSheet_14 : decode cX6_takesSheet 14 = .ok (.bipush 10, 2) := by decide +kernel
theorem dX6_takesSheet_16 : decode cX6_takesSheet 16 = .ok (.iload_n 1, 1) := by decide +kernel
theorem dX6_takesSheet_17 : decode cX6_takesSheet 17 = .ok (.imul, 1) := by decide +kernel
theorem dX6_takesSheet_18 : decode cX6_takesSheet 18 = .ok (.iadd, 1) := by decide +kernel
theorem dX6_takesSheet_19 : decode cX6_takesSheet 19 = .ok (.istore_n 2, 1) := by decide +kernel
theorem dX6_takesSheet_20 : decode cX6_takesSheet 20 = .ok (.iload_n 2, 1) := by decide +kernel
theorem dX6_takesSheet_21 : decode cX6_takesSheet 21 = .ok (.sipush 169, 3) := by decide +kernel
theorem dX6_takesSheet_24 : decode cX6_takesSheet 24 = .ok (.bipush 10, 2) := by decide +kernel
theorem dX6_takesSheet_26 : decode cX6_takesSheet 26 = .ok (.aload_n 0, 1) := by decide +kernel
theorem dX6_takesSheet_27 : decode cX6_takesSheet 27 = .ok (.getfield 7, 3) := by decide +kernel
theorem dX6_takesSheet_30 : decode cX6_takesSheet 30 = .ok (.bipush 7, 2) := by decide +kernel
theorem dX6_takesSheet_32 : decode cX6_takesSheet 32 = .ok (.iaload, 1) := by decide +kernel
theorem dX6_takesSheet_33 : decode cX6_takesSheet 33 = .ok (.imul, 1) := by decide +kernel
theorem dX6_takesSheet_34 : decode cX6_takesSheet 34 = .ok (.iadd, 1) := by decide +kernel
theorem dX6_takesSheet_35 : decode cX6_takesSheet 35 = .ok (.if_icmp .ge 24, 3) := by decide +kernel
theorem dX6_takesSheet_38 : decode cX6_takesSheet 38 = .ok (.aload_n 0, 1) := by decide +kernel
theorem dX6_takesSheet_39 : decode cX6_takesSheet 39 = .ok (.getfield 7, 3) := by decide +kernel
theorem dX6_takesSheet_42 : decode cX6_takesSheet 42 = .ok (.iload_n 2, 1) := by decide +kernel
theorem dX6_takesSheet_43 : decode cX6_takesSheet 43 = .ok (.aload_n 0, 1) := by decide +kernel
theorem dX6_takesSheet_44 : decode cX6_takesSheet 44 = .ok (.getfield 7, 3) := by decide +kernel
theorem dX6_takesSheet_47 : decode cX6_takesSheet 47 = .ok (.iload_n 2, 1) := by decide +kernel
theorem dX6_takesSheet_48 : decode cX6_takesSheet 48 = .ok (.bipush 10, 2) := by decide +kernel
theorem dX6_takesSheet_50 : decode cX6_takesSheet 50 = .ok (.iadd, 1) := by decide +kernel
theorem dX6_takesSheet_51 : decode cX6_takesSheet 51 = .ok (.iaload, 1) := by decide +kernel
theorem dX6_takesSheet_52 : decode cX6_takesSheet 52 = .ok (.iastore, 1) := by decide +kernel
theorem dX6_takesSheet_53 : decode cX6_takesSheet 53 = .ok (.iinc 2 1, 3) := by decide +kernel
theorem dX6_takesSheet_56 : decode cX6_takesSheet 56 = .ok (.goto (-36), 3) := by decide +kernel
theorem dX6_takesSheet_59 : decode cX6_takesSheet 59 = .ok (.sipush 209, 3) := by decide +kernel
theorem dX6_takesSheet_62 : decode cX6_takesSheet 62 = .ok (.bipush 16, 2) := by decide +kernel
theorem dX6_takesSheet_64 : decode cX6_takesSheet 64 = .ok (.iload_n 1, 1) := by decide +kernel
theorem dX6_takesSheet_65 : decode cX6_takesSheet 65 = .ok (.imul, 1) := by decide +kernel
theorem dX6_takesSheet_66 : decode cX6_takesSheet 66 = .ok (.iadd, 1) := by decide +kernel
theorem dX6_takesSheet_67 : decode cX6_takesSheet 67 = .ok (.istore_n 2, 1) := by decide +kernel
theorem dX6_takesSheet_68 : decode cX6_takesSheet 68 = .ok (.iload_n 2, 1) := by decide +kernel
theorem dX6_takesSheet_69 : decode cX6_takesSheet 69 = .ok (.sipush 209, 3) := by decide +kernel
theorem dX6_takesSheet_72 : decode cX6_takesSheet 72 = .ok (.bipush 16, 2) := by decide +kernel
theorem dX6_takesSheet_74 : decode cX6_takesSheet 74 = .ok (.aload_n 0, 1) := by decide +kernel
theorem dX6_takesSheet_75 : decode cX6_takesSheet 75 = .ok (.getfield 7, 3) := by decide +kernel
theorem dX6_takesSheet_78 : decode cX6_takesSheet 78 = .ok (.bipush 7, 2) := by decide +kernel
theorem dX6_takesSheet_80 : decode cX6_takesSheet 80 = .ok (.iaload, 1) := by decide +kernel
theorem dX6_takesSheet_81 : decode cX6_takesSheet 81 = .ok (.imul, 1) := by decide +kernel
theorem dX6_takesSheet_82 : decode cX6_takesSheet 82 = .ok (.iadd, 1) := by decide +kernel
theorem dX6_takesSheet_83 : decode cX6_takesSheet 83 = .ok (.if_icmp .ge 24, 3) := by decide +kernel
theorem dX6_takesSheet_86 : decode cX6_takesSheet 86 = .ok (.aload_n 0, 1) := by decide +kernel
theorem dX6_takesSheet_87 : decode cX6_takesSheet 87 = .ok (.getfield 7, 3) := by decide +kernel
theorem dX6_takesSheet_90 : decode cX6_takesSheet 90 = .ok (.iload_n 2, 1) := by decide +kernel
theorem dX6_takesSheet_91 : decode cX6_takesSheet 91 = .ok (.aload_n 0, 1) := by decide +kernel
theorem dX6_takesSheet_92 : decode cX6_takesSheet 92 = .ok (.getfield 7, 3) := by decide +kernel
theorem dX6_takesSheet_95 : decode cX6_takesSheet 95 = .ok (.iload_n 2, 1) := by decide +kernel
theorem dX6_takesSheet_96 : decode cX6_takesSheet 96 = .ok (.bipush 16, 2) := by decide +kernel
theorem dX6_takesSheet_98 : decode cX6_takesSheet 98 = .ok (.iadd, 1) := by decide +kernel
theorem dX6_takesSheet_99 : decode cX6_takesSheet 99 = .ok (.iaload, 1) := by decide +kernel
theorem dX6_takesSheet_100 : decode cX6_takesSheet 100 = .ok (.iastore, 1) := by decide +kernel
theorem dX6_takesSheet_101 : decode cX6_takesSheet 101 = .ok (.iinc 2 1, 3) := by decide +kernel
theorem dX6_takesSheet_104 : decode cX6_takesSheet 104 = .ok (.goto (-36), 3) := by decide +kernel
theorem dX6_takesSheet_107 : decode cX6_takesSheet 107 = .ok (.return_, 1) := by decide +kernel
theorem dX6_make_0 : decode cX6_make 0 = .ok (.iload_n 1, 1) := by decide +kernel
theorem dX6_make_1 : decode cX6_make 1 = .ok (.invokestatic 119, 3) := by decide +kernel
theorem dX6_make_4 : decode cX6_make 4 = .ok (.ifCond .ne 6, 3) := by decide +kernel
theorem dX6_make_7 : decode cX6_make 7 = .ok (.ldc 58, 2) := by decide +kernel
theorem dX6_make_9 : decode cX6_make 9 = .ok (.ireturn, 1) := by decide +kernel
theorem dX6_make_10 : decode cX6_make 10 = .ok (.aload_n 0, 1) := by decide +kernel
theorem dX6_make_11 : decode cX6_make 11 = .ok (.invokevirtual 60, 3) := by decide +kernel
theorem dX6_make_14 : decode cX6_make 14 = .ok (.aload_n 0, 1) := by decide +kernel
theorem dX6_make_15 : decode cX6_make 15 = .ok (.iload_n 1, 1) := by decide +kernel
theorem dX6_make_16 : decode cX6_make 16 = .ok (.invokevirtual 122, 3) := by decide +kernel
theorem dX6_make_19 : decode cX6_make 19 = .ok (.istore_n 2, 1) := by decide +kernel
theorem dX6_make_20 : decode cX6_make 20 = .ok (.iload_n 2, 1) := by decide +kernel
theorem dX6_make_21 : decode cX6_make 21 = .ok (.ifCond .ge 14, 3) := by decide +kernel
theorem dX6_make_24 : decode cX6_make 24 = .ok (.aload_n 0, 1) := by decide +kernel
theorem dX6_make_25 : decode cX6_make 25 = .ok (.getfield 7, 3) := by decide +kernel
theorem dX6_make_28 : decode cX6_make 28 = .ok (.bipush 7, 2) := by decide +kernel
theorem dX6_make_30 : decode cX6_make 30 = .ok (.iaload, 1) := by decide +kernel
theorem dX6_make_31 : decode cX6_make 31 = .ok (.iconst 4, 1) := by decide +kernel
theorem dX6_make_32 : decode cX6_make 32 = .ok (.if_icmp .ne 16, 3) := by decide +kernel
theorem dX6_make_35 : decode cX6_make 35 = .ok (.aload_n 0, 1) := by decide +kernel
theorem dX6_make_36 : decode cX6_make 36 = .ok (.iload_n 2, 1) := by decide +kernel
theorem dX6_make_37 : decode cX6_make 37 = .ok (.ifCond .lt 7, 3) := by decide +kernel
theorem dX6_make_40 : decode cX6_make 40 = .ok (.iload_n 2, 1) := by decide +kernel
theorem dX6_make_41 : decode cX6_make 41 = .ok (.goto 4, 3) := by decide +kernel
theorem dX6_make_44 : decode cX6_make 44 = .ok (.iconst 0, 1) := by decide +kernel
theorem dX6_make_45 : decode cX6_make 45 = .ok (.invokevirtual 125, 3) := by decide +kernel
theorem dX6_make_48 : decode cX6_make 48 = .ok (.aload_n 0, 1) := by decide +kernel
theorem dX6_make_49 : decode cX6_make 49 = .ok (.getfield 7, 3) := by decide +kernel
theorem dX6_make_52 : decode cX6_make 52 = .ok (.bipush 7, 2) := by decide +kernel
theorem dX6_make_54 : decode cX6_make 54 = .ok (.iaload, 1) := by decide +kernel
theorem dX6_make_55 : decode cX6_make 55 = .ok (.istore_n 3, 1) := by decide +kernel
theorem dX6_make_56 : decode cX6_make 56 = .ok (.aload_n 0, 1) := by decide +kernel
theorem dX6_make_57 : decode cX6_make 57 = .ok (.getfield 7, 3) := by decide +kernel
theorem dX6_make_60 : decode cX6_make 60 = .ok (.sipush 169, 3) := by decide +kernel
theorem dX6_make_63 : decode cX6_make 63 = .ok (.bipush 10, 2) := by decide +kernel
theorem dX6_make_65 : decode cX6_make 65 = .ok (.iload_n 3, 1) := by decide +kernel
theorem dX6_make_66 : decode cX6_make 66 = .ok (.imul, 1) := by decide +kernel
theorem dX6_make_67 : decode cX6_make 67 = .ok (.iadd, 1) := by decide +kernel
theorem dX6_make_68 : decode cX6_make 68 = .ok (.iload_n 1, 1) := by decide +kernel
theorem dX6_make_69 : decode cX6_make 69 = .ok (.iastore, 1) := by decide +kernel
theorem dX6_make_70 : decode cX6_make 70 = .ok (.aload_n 0, 1) := by decide +kernel
theorem dX6_make_71 : decode cX6_make 71 = .ok (.getfield 7, 3) := by decide +kernel
theorem dX6_make_74 : decode cX6_make 74 = .ok (.sipush 169, 3) := by decide +kernel
theorem dX6_make_77 : decode cX6_make 77 = .ok (.bipush 10, 2) := by decide +kernel
theorem dX6_make_79 : decode cX6_make 79 = .ok (.iload_n 3, 1) := by decide +kernel
theorem dX6_make_80 : decode cX6_make 80 = .ok (.imul, 1) := by decide +kernel
theorem dX6_make_81 : decode cX6_make 81 = .ok (.iadd, 1) := by decide +kernel
theorem dX6_make_82 : decode cX6_make 82 = .ok (.iconst 1, 1) := by decide +kernel
theorem dX6_make_83 : decode cX6_make 83 = .ok (.iadd, 1) := by decide +kernel
theorem dX6_make_84 : decode cX6_make 84 = .ok (.aload_n 0, 1) := by decide +kernel
theorem dX6_make_85 : decode cX6_make 85 = .ok (.getfield 7, 3) := by decide +kernel
theorem dX6_make_88 : decode cX6_make 88 = .ok (.iconst 0, 1) := by decide +kernel
theorem dX6_make_89 : decode cX6_make 89 = .ok (.iaload, 1) := by decide +kernel
theorem dX6_make_90 : decode cX6_make 90 = .ok (.iastore, 1) := by decide +kernel
theorem dX6_make_91 : decode cX6_make 91 = .ok (.iconst 0, 1) := by decide +kernel
theorem dX6_make_92 : decode cX6_make 92 = .ok (.istore 4, 2) := by decide +kernel
theorem dX6_make_94 : decode cX6_make 94 = .ok (.iload 4, 2) := by decide +kernel
theorem dX6_make_96 : decode cX6_make 96 = .ok (.bipush 8, 2) := by decide +kernel
theorem dX6_make_98 : decode cX6_make 98 = .ok (.if_icmp .ge 145, 3) := by decide +kernel
theorem dX6_make_101 : decode cX6_make 101 = .ok (.iload 4, 2) := by decide +kernel
theorem dX6_make_103 : decode cX6_make 103 = .ok (.aload_n 0, 1) := by decide +kernel
theorem dX6_make_104 : decode cX6_make 104 = .ok (.getfield 7, 3) := by decide +kernel
theorem dX6_make_107 : decode cX6_make 107 = .ok (.iconst 0, 1) := by decide +kernel
theorem dX6_make_108 : decode cX6_make 108 = .ok (.iaload, 1) := by decide +kernel
theorem dX6_make_109 : decode cX6_make 109 = .ok (.if_icmp .ge 7, 3) := by decide +kernel
theorem dX6_make_112 : decode cX6_make 112 = .ok (.iconst 1, 1) := by decide +kernel
theorem dX6_make_113 : decode cX6_make 113 = .ok (.goto 4, 3) := by decide +kernel
theorem dX6_make_116 : decode cX6_make 116 = .ok (.iconst 0, 1) := by decide +kernel
theorem dX6_make_117 : decode cX6_make 117 = .ok (.istore 5, 2) := by decide +kernel
theorem dX6_make_119 : decode cX6_make 119 = .ok (.iload 5, 2) := by decide +kernel
theorem dX6_make_121 : decode cX6_make 121 = .ok (.ifCond .eq 10, 3) := by decide +kernel
theorem dX6_make_124 : decode cX6_make 124 = .ok (.aload_n 0, 1) := by decide +kernel
theorem dX6_make_125 : decode cX6_make 125 = .ok (.iload 4, 2) := by decide +kernel
theorem dX6_make_127 : decode cX6_make 127 = .ok (.iload_n 1, 1) := by decide +kernel
theorem dX6_make_128 : decode cX6_make 128 = .ok (.invokevirtual 106, 3) := by decide +kernel
theorem dX6_make_131 : decode cX6_make 131 = .ok (.aload_n 0, 1) := by decide +kernel
theorem dX6_make_132 : decode cX6_make 132 = .ok (.getfield 7, 3) := by decide +kernel
theorem dX6_make_135 : decode cX6_make 135 = .ok (.sipush 169, 3) := by decide +kernel
theorem dX6_make_138 : decode cX6_make 138 = .ok (.bipush 10, 2) := by decide +kernel
theorem dX6_make_140 : decode cX6_make 140 = .ok (.iload_n 3, 1) := by decide +kernel
theorem dX6_make_141 : decode cX6_make 141 = .ok (.imul, 1) := by decide +kernel
theorem dX6_make_142 : decode cX6_make 142 = .ok (.iadd, 1) := by decide +kernel
theorem dX6_make_143 : decode cX6_make 143 = .ok (.iconst 2, 1) := by decide +kernel
theorem dX6_make_144 : decode cX6_make 144 = .ok (.iadd, 1) := by decide +kernel
theorem dX6_make_145 : decode cX6_make 145 = .ok (.iload 4, 2) := by decide +kernel
theorem dX6_make_147 : decode cX6_make 147 = .ok (.iadd, 1) := by decide +kernel
theorem dX6_make_148 : decode cX6_make 148 = .ok (.iload 5, 2) := by decide +kernel
theorem dX6_make_150 : decode cX6_make 150 = .ok (.ifCond .eq 13, 3) := by decide +kernel
theorem dX6_make_153 : decode cX6_make 153 = .ok (.aload_n 0, 1) := by decide +kernel
theorem dX6_make_154 : decode cX6_make 154 = .ok (.iload 4, 2) := by decide +kernel
theorem dX6_make_156 : decode cX6_make 156 = .ok (.iload_n 1, 1) := by decide +kernel
theorem dX6_make_157 : decode cX6_make 157 = .ok (.invokevirtual 103, 3) := by decide +kernel
theorem dX6_make_160 : decode cX6_make 160 = .ok (.goto 4, 3) := by decide +kernel
theorem dX6_make_163 : decode cX6_make 163 = .ok (.iconst 0, 1) := by decide +kernel
theorem dX6_make_164 : decode cX6_make 164 = .ok (.iastore, 1) := by decide +kernel
theorem dX6_make_165 : decode cX6_make 165 = .ok (.aload_n 0, 1) := by decide +kernel
theorem dX6_make_166 : decode cX6_make 166 = .ok (.getfield 7, 3) := by decide +kernel
theorem dX6_make_169 : decode cX6_make 169 = .ok (.sipush 209, 3) := by decide +kernel
theorem dX6_make_172 : decode cX6_make 172 = .ok (.bipush 16, 2) := by decide +kernel
theorem dX6_make_174 : decode cX6_make 174 = .ok (.iload_n 3, 1) := by decide +kernel
theorem dX6_make_175 : decode cX6_make 175 = .ok (.imul, 1) := by decide +kernel
theorem dX6_make_176 : decode cX6_make 176 = .ok (.iadd, 1) := by decide +kernel
theorem dX6_make_177 : decode cX6_make 177 = .ok (.iconst 2, 1) := by decide +kernel
theorem dX6_make_178 : decode cX6_make 178 = .ok (.iload 4, 2) := by decide +kernel
theorem dX6_make_180 : decode cX6_make 180 = .ok (.imul, 1) := by decide +kernel
theorem dX6_make_181 : decode cX6_make 181 = .ok (.iadd, 1) := by decide +kernel
theorem dX6_make_182 : decode cX6_make 182 = .ok (.iload 5, 2) := by decide +kernel
theorem dX6_make_184 : decode cX6_make 184 = .ok (.ifCond .eq 14, 3) := by decide +kernel
theorem dX6_make_187 : decode cX6_make 187 = .ok (.aload_n 0, 1) := by decide +kernel
theorem dX6_make_188 : decode cX6_make 188 = .ok (.iload 4, 2) := by decide +kernel
theorem dX6_make_190 : decode cX6_make 190 = .ok (.iload_n 1, 1) := by decide +kernel
theorem dX6_make_191 : decode cX6_make 191 = .ok (.iconst 0, 1) := by decide +kernel
theorem dX6_make_192 : decode cX6_make 192 = .ok (.invokevirtual 129, 3) := by decide +kernel
theorem dX6_make_195 : decode cX6_make 195 = .ok (.goto 4, 3) := by decide +kernel
theorem dX6_make_198 : decode cX6_make 198 = .ok (.iconst 0, 1) := by decide +kernel
theorem dX6_make_199 : decode cX6_make 199 = .ok (.iastore, 1) := by decide +kernel
theorem dX6_make_200 : decode cX6_make 200 = .ok (.aload_n 0, 1) := by decide +kernel
theorem dX6_make_201 : decode cX6_make 201 = .ok (.getfield 7, 3) := by decide +kernel
theorem dX6_make_204 : decode cX6_make 204 = .ok (.sipush 209, 3) := by decide +kernel
theorem dX6_make_207 : decode cX6_make 207 = .ok (.bipush 16, 2) := by decide +kernel
theorem dX6_make_209 : decode cX6_make 209 = .ok (.iload_n 3, 1) := by decide +kernel
theorem dX6_make_210 : decode cX6_make 210 = .ok (.imul, 1) := by decide +kernel
theorem dX6_make_211 : decode cX6_make 211 = .ok (.iadd, 1) := by decide +kernel
theorem dX6_make_212 : decode cX6_make 212 = .ok (.iconst 2, 1) := by decide +kernel
theorem dX6_make_213 : decode cX6_make 213 = .ok (.iload 4, 2) := by decide +kernel
theorem dX6_make_215 : decode cX6_make 215 = .ok (.imul, 1) := by decide +kernel
theorem dX6_make_216 : decode cX6_make 216 = .ok (.iadd, 1) := by decide +kernel
theorem dX6_make_217 : decode cX6_make 217 = .ok (.iconst 1, 1) := by decide +kernel
theorem dX6_make_218 : decode cX6_make 218 = .ok (.iadd, 1) := by decide +kernel
theorem dX6_make_219 : decode cX6_make 219 = .ok (.iload 5, 2) := by decide +kernel
theorem dX6_make_221 : decode cX6_make 221 = .ok (.ifCond .eq 14, 3) := by decide +kernel
theorem dX6_make_224 : decode cX6_make 224 = .ok (.aload_n 0, 1) := by decide +kernel
theorem dX6_make_225 : decode cX6_make 225 = .ok (.iload 4, 2) := by decide +kernel
theorem dX6_make_227 : decode cX6_make 227 = .ok (.iload_n 1, 1) := by decide +kernel
theorem dX6_make_228 : decode cX6_make 228 = .ok (.iconst 1, 1) := by decide +kernel
theorem dX6_make_229 : decode cX6_make 229 = .ok (.invokevirtual 129, 3) := by decide +kernel
theorem dX6_make_232 : decode cX6_make 232 = .ok (.goto 4, 3) := by decide +kernel
theorem dX6_make_235 : decode cX6_make 235 = .ok (.iconst 0, 1) := by decide +kernel
theorem dX6_make_236 : decode cX6_make 236 = .ok (.iastore, 1) := by decide +kernel
theorem dX6_make_237 : decode cX6_make 237 = .ok (.iinc 4 1, 3) := by decide +kernel
theorem dX6_make_240 : decode cX6_make 240 = .ok (.goto (-146), 3) := by decide +kernel
theorem dX6_make_243 : decode cX6_make 243 = .ok (.aload_n 0, 1) := by decide +kernel
theorem dX6_make_244 : decode cX6_make 244 = .ok (.getfield 7, 3) := by decide +kernel
theorem dX6_make_247 : decode cX6_make 247 = .ok (.bipush 7, 2) := by decide +kernel
theorem dX6_make_249 : decode cX6_make 249 = .ok (.dup2, 1) := by decide +kernel
theorem dX6_make_250 : decode cX6_make 250 = .ok (.iaload, 1) := by decide +kernel
theorem dX6_make_251 : decode cX6_make 251 = .ok (.iconst 1, 1) := by decide +kernel
theorem dX6_make_252 : decode cX6_make 252 = .ok (.iadd, 1) := by decide +kernel
theorem dX6_make_253 : decode cX6_make 253 = .ok (.iastore, 1) := by decide +kernel
theorem dX6_make_254 : decode cX6_make 254 = .ok (.aload_n 0, 1) := by decide +kernel
theorem dX6_make_255 : decode cX6_make 255 = .ok (.getfield 7, 3) := by decide +kernel
theorem dX6_make_258 : decode cX6_make 258 = .ok (.bipush 8, 2) := by decide +kernel
theorem dX6_make_260 : decode cX6_make 260 = .ok (.dup2, 1) := by decide +kernel
theorem dX6_make_261 : decode cX6_make 261 = .ok (.iaload, 1) := by decide +kernel
theorem dX6_make_262 : decode cX6_make 262 = .ok (.iconst 1, 1) := by decide +kernel
theorem dX6_make_263 : decode cX6_make 263 = .ok (.iadd, 1) := by decide +kernel
theorem dX6_make_264 : decode cX6_make 264 = .ok (.iastore, 1) := by decide +kernel
theorem dX6_make_265 : decode cX6_make 265 = .ok (.aload_n 0, 1) := by decide +kernel
theorem dX6_make_266 : decode cX6_make 266 = .ok (.getfield 7, 3) := by decide +kernel
theorem dX6_make_269 : decode cX6_make 269 = .ok (.bipush 7, 2) := by decide +kernel
theorem dX6_make_271 : decode cX6_make 271 = .ok (.iaload, 1) := by decide +kernel
theorem dX6_make_272 : decode cX6_make 272 = .ok (.ireturn, 1) := by decide +kernel
theorem dX6_isStale_0 : decode cX6_isStale 0 = .ok (.aload_n 0, 1) := by decide +kernel
theorem dX6_isStale_1 : decode cX6_isStale 1 = .ok (.iload_n 1, 1) := by decide +kernel
theorem dX6_isStale_2 : decode cX6_isStale 2 = .ok (.iconst 0, 1) := by decide +kernel
theorem dX6_isStale_3 : decode cX6_isStale 3 = .ok (.invokevirtual 116, 3) := by decide +kernel
theorem dX6_isStale_6 : decode cX6_isStale 6 = .ok (.istore_n 2, 1) := by decide +kernel
theorem dX6_isStale_7 : decode cX6_isStale 7 = .ok (.aload_n 0, 1) := by decide +kernel
theorem dX6_isStale_8 : decode cX6_isStale 8 = .ok (.getfield 7, 3) := by decide +kernel
theorem dX6_isStale_11 : decode cX6_isStale 11 = .ok (.iconst 0, 1) := by decide +kernel
theorem dX6_isStale_12 : decode cX6_isStale 12 = .ok (.iaload, 1) := by decide +kernel
theorem dX6_isStale_13 : decode cX6_isStale 13 = .ok (.aload_n 0, 1) := by decide +kernel
theorem dX6_isStale_14 : decode cX6_isStale 14 = .ok (.iload_n 1, 1) := by decide +kernel
theorem dX6_isStale_15 : decode cX6_isStale 15 = .ok (.iconst 1, 1) := by decide +kernel
theorem dX6_isStale_16 : decode cX6_isStale 16 = .ok (.invokevirtual 116, 3) := by decide +kernel
theorem dX6_isStale_19 : decode cX6_isStale 19 = .ok (.if_icmp .le 7, 3) := by decide +kernel
theorem dX6_isStale_22 : decode cX6_isStale 22 = .ok (.iconst 1, 1) := by decide +kernel
theorem dX6_isStale_23 : decode cX6_isStale 23 = .ok (.goto 4, 3) := by decide +kernel
theorem dX6_isStale_26 : decode cX6_isStale 26 = .ok (.iconst 0, 1) := by decide +kernel
theorem dX6_isStale_27 : decode cX6_isStale 27 = .ok (.istore_n 3, 1) := by decide +kernel
theorem dX6_isStale_28 : decode cX6_isStale 28 = .ok (.iconst 0, 1) := by decide +kernel
theorem dX6_isStale_29 : decode cX6_isStale 29 = .ok (.istore 4, 2) := by decide +kernel
theorem dX6_isStale_31 : decode cX6_isStale 31 = .ok (.iload 4, 2) := by decide +kernel
theorem dX6_isStale_33 : decode cX6_isStale 33 = .ok (.aload_n 0, 1) := by decide +kernel
theorem dX6_isStale_34 : decode cX6_isStale 34 = .ok (.iload_n 1, 1) := by decide +kernel
theorem dX6_isStale_35 : decode cX6_isStale 35 = .ok (.iconst 1, 1) := by decide +kernel
theorem dX6_isStale_36 : decode cX6_isStale 36 = .ok (.invokevirtual 116, 3) := by decide +kernel
theorem dX6_isStale_39 : decode cX6_isStale 39 = .ok (.if_icmp .ge 98, 3) := by decide +kernel
theorem dX6_isStale_42 : decode cX6_isStale 42 = .ok (.aload_n 0, 1) := by decide +kernel
theorem dX6_isStale_43 : decode cX6_isStale 43 = .ok (.iload 4, 2) := by decide +kernel
theorem dX6_isStale_45 : decode cX6_isStale 45 = .ok (.iload_n 2, 1) := by decide +kernel
theorem dX6_isStale_46 : decode cX6_isStale 46 = .ok (.invokevirtual 106, 3) := by decide +kernel
theorem dX6_isStale_49 : decode cX6_isStale 49 = .ok (.sipush 209, 3) := by decide +kernel
theorem dX6_isStale_52 : decode cX6_isStale 52 = .ok (.bipush 16, 2) := by decide +kernel
theorem dX6_isStale_54 : decode cX6_isStale 54 = .ok (.iload_n 1, 1) := by decide +kernel
theorem dX6_isStale_55 : decode cX6_isStale 55 = .ok (.imul, 1) := by decide +kernel
theorem dX6_isStale_56 : decode cX6_isStale 56 = .ok (.iadd, 1) := by decide +kernel
theorem dX6_isStale_57 : decode cX6_isStale 57 = .ok (.iconst 2, 1) := by decide +kernel
theorem dX6_isStale_58 : decode cX6_isStale 58 = .ok (.iload 4, 2) := by decide +kernel
theorem dX6_isStale_60 : decode cX6_isStale 60 = .ok (.imul, 1) := by decide +kernel
theorem dX6_isStale_61 : decode cX6_isStale 61 = .ok (.iadd, 1) := by decide +kernel
theorem dX6_isStale_62 : decode cX6_isStale 62 = .ok (.istore 5, 2) := by decide +kernel
theorem dX6_isStale_64 : decode cX6_isStale 64 = .ok (.iload_n 3, 1) := by decide +kernel
theorem dX6_isStale_65 : decode cX6_isStale 65 = .ok (.ifCond .ne 60, 3) := by decide +kernel
theorem dX6_isStale_68 : decode cX6_isStale 68 = .ok (.aload_n 0, 1) := by decide +kernel
theorem dX6_isStale_69 : decode cX6_isStale 69 = .ok (.iload_n 1, 1) := by decide +kernel
theorem dX6_isStale_70 : decode cX6_isStale 70 = .ok (.iconst 2, 1) := by decide +kernel
theorem dX6_isStale_71 : decode cX6_isStale 71 = .ok (.iload 4, 2) := by decide +kernel
theorem dX6_isStale_73 : decode cX6_isStale 73 = .ok (.iadd, 1) := by decide +kernel
theorem dX6_isStale_74 : decode cX6_isStale 74 = .ok (.invokevirtual 116, 3) := by decide +kernel
theorem dX6_isStale_77 : decode cX6_isStale 77 = .ok (.aload_n 0, 1) := by decide +kernel
theorem dX6_isStale_78 : decode cX6_isStale 78 = .ok (.iload 4, 2) := by decide +kernel
theorem dX6_isStale_80 : decode cX6_isStale 80 = .ok (.iload_n 2, 1) := by decide +kernel
theorem dX6_isStale_81 : decode cX6_isStale 81 = .ok (.invokevirtual 103, 3) := by decide +kernel
theorem dX6_isStale_84 : decode cX6_isStale 84 = .ok (.if_icmp .ne 41, 3) := by decide +kernel
theorem dX6_isStale_87 : decode cX6_isStale 87 = .ok (.aload_n 0, 1) := by decide +kernel
theorem dX6_isStale_88 : decode cX6_isStale 88 = .ok (.getfield 7, 3) := by decide +kernel
theorem dX6_isStale_91 : decode cX6_isStale 91 = .ok (.iload 5, 2) := by decide +kernel
theorem dX6_isStale_93 : decode cX6_isStale 93 = .ok (.iaload, 1) := by decide +kernel
theorem dX6_isStale_94 : decode cX6_isStale 94 = .ok (.aload_n 0, 1) := by decide +kernel
theorem dX6_isStale_95 : decode cX6_isStale 95 = .ok (.iload 4, 2) := by decide +kernel
theorem dX6_isStale_97 : decode cX6_isStale 97 = .ok (.iload_n 2, 1) := by decide +kernel
theorem dX6_isStale_98 : decode cX6_isStale 98 = .ok (.iconst 0, 1) := by decide +kernel
theorem dX6_isStale_99 : decode cX6_isStale 99 = .ok (.invokevirtual 129, 3) := by decide +kernel
theorem dX6_isStale_102 : decode cX6_isStale 102 = .ok (.if_icmp .ne 23, 3) := by decide +kernel
theorem dX6_isStale_105 : decode cX6_isStale 105 = .ok (.aload_n 0, 1) := by decide +kernel
theorem dX6_isStale_106 : decode cX6_isStale 106 = .ok (.getfield 7, 3) := by decide +kernel
theorem dX6_isStale_109 : decode cX6_isStale 109 = .ok (.iload 5, 2) := by decide +kernel
theorem dX6_isStale_111 : decode cX6_isStale 111 = .ok (.iconst 1, 1) := by decide +kernel
theorem dX6_isStale_112 : decode cX6_isStale 112 = .ok (.iadd, 1) := by decide +kernel
theorem dX6_isStale_113 : decode cX6_isStale 113 = .ok (.iaload, 1) := by decide +kernel
theorem dX6_isStale_114 : decode cX6_isStale 114 = .ok (.aload_n 0, 1) := by decide +kernel
theorem dX6_isStale_115 : decode cX6_isStale 115 = .ok (.iload 4, 2) := by decide +kernel
theorem dX6_isStale_117 : decode cX6_isStale 117 = .ok (.iload_n 2, 1) := by decide +kernel
theorem dX6_isStale_118 : decode cX6_isStale 118 = .ok (.iconst 1, 1) := by decide +kernel
theorem dX6_isStale_119 : decode cX6_isStale 119 = .ok (.invokevirtual 129, 3) := by decide +kernel
theorem dX6_isStale_122 : decode cX6_isStale 122 = .ok (.if_icmp .eq 7, 3) := by decide +kernel
theorem dX6_isStale_125 : decode cX6_isStale 125 = .ok (.iconst 1, 1) := by decide +kernel
theorem dX6_isStale_126 : decode cX6_isStale 126 = .ok (.goto 4, 3) := by decide +kernel
theorem dX6_isStale_129 : decode cX6_isStale 129 = .ok (.iconst 0, 1) := by decide +kernel
theorem dX6_isStale_130 : decode cX6_isStale 130 = .ok (.istore_n 3, 1) := by decide +kernel
theorem dX6_isStale_131 : decode cX6_isStale 131 = .ok (.iinc 4 1, 3) := by decide +kernel
theorem dX6_isStale_134 : decode cX6_isStale 134 = .ok (.goto (-103), 3) := by decide +kernel
theorem dX6_isStale_137 : decode cX6_isStale 137 = .ok (.iload_n 3, 1) := by decide +kernel
theorem dX6_isStale_138 : decode cX6_isStale 138 = .ok (.ireturn, 1) := by decide +kernel
theorem dX6_ones_0 : decode cX6_ones 0 = .ok (.iconst 0, 1) := by decide +kernel
theorem dX6_ones_1 : decode cX6_ones 1 = .ok (.istore_n 1, 1) := by decide +kernel
theorem dX6_ones_2 : decode cX6_ones 2 = .ok (.iload_n 0, 1) := by decide +kernel
theorem dX6_ones_3 : decode cX6_ones 3 = .ok (.istore_n 2, 1) := by decide +kernel
theorem dX6_ones_4 : decode cX6_ones 4 = .ok (.iload_n 2, 1) := by decide +kernel
theorem dX6_ones_5 : decode cX6_ones 5 = .ok (.ifCond .eq 15, 3) := by decide +kernel
theorem dX6_ones_8 : decode cX6_ones 8 = .ok (.iinc 1 1, 3) := by decide +kernel
theorem dX6_ones_11 : decode cX6_ones 11 = .ok (.iload_n 2, 1) := by decide +kernel
theorem dX6_ones_12 : decode cX6_ones 12 = .ok (.iload_n 2, 1) := by decide +kernel
theorem dX6_ones_13 : decode cX6_ones 13 = .ok (.iconst 1, 1) := by decide +kernel
theorem dX6_ones_14 : decode cX6_ones 14 = .ok (.isub, 1) := by decide +kernel
theorem dX6_ones_15 : decode cX6_ones 15 = .ok (.iand, 1) := by decide +kernel
theorem dX6_ones_16 : decode cX6_ones 16 = .ok (.istore_n 2, 1) := by decide +kernel
theorem dX6_ones_17 : decode cX6_ones 17 = .ok (.goto (-13), 3) := by decide +kernel
theorem dX6_ones_20 : decode cX6_ones 20 = .ok (.iload_n 1, 1) := by decide +kernel
theorem dX6_ones_21 : decode cX6_ones 21 = .ok (.ireturn, 1) := by decide +kernel
theorem dX6_litIn_0 : decode cX6_litIn 0 = .ok (.iconst 0, 1) := by decide +kernel
theorem dX6_litIn_1 : decode cX6_litIn 1 = .ok (.istore_n 2, 1) := by decide +kernel
theorem dX6_litIn_2 : decode cX6_litIn 2 = .ok (.iconst 0, 1) := by decide +kernel
theorem dX6_litIn_3 : decode cX6_litIn 3 = .ok (.istore_n 3, 1) := by decide +kernel
theorem dX6_litIn_4 : decode cX6_litIn 4 = .ok (.iload_n 3, 1) := by decide +kernel
theorem dX6_litIn_5 : decode cX6_litIn 5 = .ok (.bipush 16, 2) := by decide +kernel
theorem dX6_litIn_7 : decode cX6_litIn 7 = .ok (.if_icmp .ge 30, 3) := by decide +kernel
theorem dX6_litIn_10 : decode cX6_litIn 10 = .ok (.iload_n 2, 1) := by decide +kernel
theorem dX6_litIn_11 : decode cX6_litIn 11 = .ok (.aload_n 0, 1) := by decide +kernel
theorem dX6_litIn_12 : decode cX6_litIn 12 = .ok (.getfield 7, 3) := by decide +kernel
theorem dX6_litIn_15 : decode cX6_litIn 15 = .ok (.sipush 209, 3) := by decide +kernel
theorem dX6_litIn_18 : decode cX6_litIn 18 = .ok (.bipush 16, 2) := by decide +kernel
theorem dX6_litIn_20 : decode cX6_litIn 20 = .ok (.iload_n 1, 1) := by decide +kernel
theorem dX6_litIn_21 : decode cX6_litIn 21 = .ok (.imul, 1) := by decide +kernel
theorem dX6_litIn_22 : decode cX6_litIn 22 = .ok (.iadd, 1) := by decide +kernel
theorem dX6_litIn_23 : decode cX6_litIn 23 = .ok (.iload_n 3, 1) := by decide +kernel
theorem dX6_litIn_24 : decode cX6_litIn 24 = .ok (.iadd, 1) := by decide +kernel
theorem dX6_litIn_25 : decode cX6_litIn 25 = .ok (.iaload, 1) := by decide +kernel
theorem dX6_litIn_26 : decode cX6_litIn 26 = .ok (.invokestatic 132, 3) := by decide +kernel
theorem dX6_litIn_29 : decode cX6_litIn 29 = .ok (.iadd, 1) := by decide +kernel
theorem dX6_litIn_30 : decode cX6_litIn 30 = .ok (.istore_n 2, 1) := by decide +kernel
theorem dX6_litIn_31 : decode cX6_litIn 31 = .ok (.iinc 3 1, 3) := by decide +kernel
theorem dX6_litIn_34 : decode cX6_litIn 34 = .ok (.goto (-30), 3) := by decide +kernel
theorem dX6_litIn_37 : decode cX6_litIn 37 = .ok (.iload_n 2, 1) := by decide +kernel
theorem dX6_litIn_38 : decode cX6_litIn 38 = .ok (.ireturn, 1) := by decide +kernel
theorem dX6_set_0 : decode cX6_set 0 = .ok (.iload_n 1, 1) := by decide +kernel
theorem dX6_set_1 : decode cX6_set 1 = .ok (.iconst 0, 1) := by decide +kernel
theorem dX6_set_2 : decode cX6_set 2 = .ok (.iconst 1, 1) := by decide +kernel
theorem dX6_set_3 : decode cX6_set 3 = .ok (.invokestatic 39, 3) := by decide +kernel
theorem dX6_set_6 : decode cX6_set 6 = .ok (.ifCond .eq 21, 3) := by decide +kernel
theorem dX6_set_9 : decode cX6_set 9 = .ok (.iload_n 2, 1) := by decide +kernel
theorem dX6_set_10 : decode cX6_set 10 = .ok (.iconst 0, 1) := by decide +kernel
theorem dX6_set_11 : decode cX6_set 11 = .ok (.iload_n 1, 1) := by decide +kernel
theorem dX6_set_12 : decode cX6_set 12 = .ok (.ifCond .ne 8, 3) := by decide +kernel
theorem dX6_set_15 : decode cX6_set 15 = .ok (.bipush 100, 2) := by decide +kernel
theorem dX6_set_17 : decode cX6_set 17 = .ok (.goto 4, 3) := by decide +kernel
theorem dX6_set_20 : decode cX6_set 20 = .ok (.iconst 3, 1) := by decide +kernel
theorem dX6_set_21 : decode cX6_set 21 = .ok (.invokestatic 39, 3) := by decide +kernel
theorem dX6_set_24 : decode cX6_set 24 = .ok (.ifCond .ne 6, 3) := by decide +kernel
theorem dX6_set_27 : decode cX6_set 27 = .ok (.ldc 58, 2) := by decide +kernel
theorem dX6_set_29 : decode cX6_set 29 = .ok (.ireturn, 1) := by decide +kernel
theorem dX6_set_30 : decode cX6_set 30 = .ok (.aload_n 0, 1) := by decide +kernel
theorem dX6_set_31 : decode cX6_set 31 = .ok (.invokevirtual 60, 3) := by decide +kernel
theorem dX6_set_34 : decode cX6_set 34 = .ok (.aload_n 0, 1) := by decide +kernel
theorem dX6_set_35 : decode cX6_set 35 = .ok (.getfield 7, 3) := by decide +kernel
theorem dX6_set_38 : decode cX6_set 38 = .ok (.iconst 5, 1) := by decide +kernel
theorem dX6_set_39 : decode cX6_set 39 = .ok (.iload_n 1, 1) := by decide +kernel
theorem dX6_set_40 : decode cX6_set 40 = .ok (.iadd, 1) := by decide +kernel
theorem dX6_set_41 : decode cX6_set 41 = .ok (.iaload, 1) := by decide +kernel
theorem dX6_set_42 : decode cX6_set 42 = .ok (.istore_n 3, 1) := by decide +kernel
theorem dX6_set_43 : decode cX6_set 43 = .ok (.aload_n 0, 1) := by decide +kernel
theorem dX6_set_44 : decode cX6_set 44 = .ok (.getfield 7, 3) := by decide +kernel
theorem dX6_set_47 : decode cX6_set 47 = .ok (.iconst 5, 1) := by decide +kernel
theorem dX6_set_48 : decode cX6_set 48 = .ok (.iload_n 1, 1) := by decide +kernel
theorem dX6_set_49 : decode cX6_set 49 = .ok (.iadd, 1) := by decide +kernel
theorem dX6_set_50 : decode cX6_set 50 = .ok (.iload_n 2, 1) := by decide +kernel
theorem dX6_set_51 : decode cX6_set 51 = .ok (.iastore, 1) := by decide +kernel
theorem dX6_set_52 : decode cX6_set 52 = .ok (.iload_n 3, 1) := by decide +kernel
theorem dX6_set_53 : decode cX6_set 53 = .ok (.ireturn, 1) := by decide +kernel
theorem dX6_alike_0 : decode cX6_alike 0 = .ok (.iconst 0, 1) := by decide +kernel
theorem dX6_alike_1 : decode cX6_alike 1 = .ok (.istore_n 2, 1) := by decide +kernel
theorem dX6_alike_2 : decode cX6_alike 2 = .ok (.iconst 0, 1) := by decide +kernel
theorem dX6_alike_3 : decode cX6_alike 3 = .ok (.istore_n 3, 1) := by decide +kernel
theorem dX6_alike_4 : decode cX6_alike 4 = .ok (.iload_n 3, 1) := by decide +kernel
theorem dX6_alike_5 : decode cX6_alike 5 = .ok (.aload_n 0, 1) := by decide +kernel
theorem dX6_alike_6 : decode cX6_alike 6 = .ok (.getfield 7, 3) := by decide +kernel
theorem dX6_alike_9 : decode cX6_alike 9 = .ok (.iconst 0, 1) := by decide +kernel
theorem dX6_alike_10 : decode cX6_alike 10 = .ok (.iaload, 1) := by decide +kernel
theorem dX6_alike_11 : decode cX6_alike 11 = .ok (.if_icmp .ge 48, 3) := by decide +kernel
theorem dX6_alike_14 : decode cX6_alike 14 = .ok (.iconst 0, 1) := by decide +kernel
theorem dX6_alike_15 : decode cX6_alike 15 = .ok (.istore 4, 2) := by decide +kernel
theorem dX6_alike_17 : decode cX6_alike 17 = .ok (.iload 4, 2) := by decide +kernel
theorem dX6_alike_19 : decode cX6_alike 19 = .ok (.aload_n 0, 1) := by decide +kernel
theorem dX6_alike_20 : decode cX6_alike 20 = .ok (.iload_n 3, 1) := by decide +kernel
theorem dX6_alike_21 : decode cX6_alike 21 = .ok (.iconst 1, 1) := by decide +kernel
theorem dX6_alike_22 : decode cX6_alike 22 = .ok (.invokevirtual 47, 3) := by decide +kernel
theorem dX6_alike_25 : decode cX6_alike 25 = .ok (.if_icmp .ge 28, 3) := by decide +kernel
theorem dX6_alike_28 : decode cX6_alike 28 = .ok (.iload_n 2, 1) := by decide +kernel
theorem dX6_alike_29 : decode cX6_alike 29 = .ok (.aload_n 0, 1) := by decide +kernel
theorem dX6_alike_30 : decode cX6_alike 30 = .ok (.iload_n 3, 1) := by decide +kernel
theorem dX6_alike_31 : decode cX6_alike 31 = .ok (.iload 4, 2) := by decide +kernel
theorem dX6_alike_33 : decode cX6_alike 33 = .ok (.invokevirtual 85, 3) := by decide +kernel
theorem dX6_alike_36 : decode cX6_alike 36 = .ok (.iload_n 1, 1) := by decide +kernel
theorem dX6_alike_37 : decode cX6_alike 37 = .ok (.if_icmp .ne 7, 3) := by decide +kernel
theorem dX6_alike_40 : decode cX6_alike 40 = .ok (.iconst 1, 1) := by decide +kernel
theorem dX6_alike_41 : decode cX6_alike 41 = .ok (.goto 4, 3) := by decide +kernel
theorem dX6_alike_44 : decode cX6_alike 44 = .ok (.iconst 0, 1) := by decide +kernel
theorem dX6_alike_45 : decode cX6_alike 45 = .ok (.iadd, 1) := by decide +kernel
theorem dX6_alike_46 : decode cX6_alike 46 = .ok (.istore_n 2, 1) := by decide +kernel
theorem dX6_alike_47 : decode cX6_alike 47 = .ok (.iinc 4 1, 3) := by decide +kernel
theorem dX6_alike_50 : decode cX6_alike 50 = .ok (.goto (-33), 3) := by decide +kernel
theorem dX6_alike_53 : decode cX6_alike 53 = .ok (.iinc 3 1, 3) := by decide +kernel
theorem dX6_alike_56 : decode cX6_alike 56 = .ok (.goto (-52), 3) := by decide +kernel
theorem dX6_alike_59 : decode cX6_alike 59 = .ok (.iload_n 2, 1) := by decide +kernel
theorem dX6_alike_60 : decode cX6_alike 60 = .ok (.ireturn, 1) := by decide +kernel
theorem dX6_stemOf_0 : decode cX6_stemOf 0 = .ok (.aload_n 0, 1) := by decide +kernel
theorem dX6_stemOf_1 : decode cX6_stemOf 1 = .ok (.iload_n 1, 1) := by decide +kernel
theorem dX6_stemOf_2 : decode cX6_stemOf 2 = .ok (.iload_n 2, 1) := by decide +kernel
theorem dX6_stemOf_3 : decode cX6_stemOf 3 = .ok (.invokevirtual 70, 3) := by decide +kernel
theorem dX6_stemOf_6 : decode cX6_stemOf 6 = .ok (.ifCond .eq 13, 3) := by decide +kernel
theorem dX6_stemOf_9 : decode cX6_stemOf 9 = .ok (.iload_n 3, 1) := by decide +kernel
theorem dX6_stemOf_10 : decode cX6_stemOf 10 = .ok (.iconst 0, 1) := by decide +kernel
theorem dX6_stemOf_11 : decode cX6_stemOf 11 = .ok (.bipush 6, 2) := by decide +kernel
theorem dX6_stemOf_13 : decode cX6_stemOf 13 = .ok (.invokestatic 39, 3) := by decide +kernel
theorem dX6_stemOf_16 : decode cX6_stemOf 16 = .ok (.ifCond .ne 6, 3) := by decide +kernel
theorem dX6_stemOf_19 : decode cX6_stemOf 19 = .ok (.ldc 58, 2) := by decide +kernel
theorem dX6_stemOf_21 : decode cX6_stemOf 21 = .ok (.ireturn, 1) := by decide +kernel
theorem dX6_stemOf_22 : decode cX6_stemOf 22 = .ok (.iload_n 3, 1) := by decide +kernel
theorem dX6_stemOf_23 : decode cX6_stemOf 23 = .ok (.tableswitch 85 3 6 #[29, 36, 48, 59], 29) := by decide +kernel
theorem dX6_stemOf_52 : decode cX6_stemOf 52 = .ok (.aload_n 0, 1) := by decide +kernel
theorem dX6_stemOf_53 : decode cX6_stemOf 53 = .ok (.iload_n 1, 1) := by decide +kernel
theorem dX6_stemOf_54 : decode cX6_stemOf 54 = .ok (.iload_n 2, 1) := by decide +kernel
theorem dX6_stemOf_55 : decode cX6_stemOf 55 = .ok (.invokevirtual 85, 3) := by decide +kernel
theorem dX6_stemOf_58 : decode cX6_stemOf 58 = .ok (.ireturn, 1) := by decide +kernel
theorem dX6_stemOf_59 : decode cX6_stemOf 59 = .ok (.aload_n 0, 1) := by decide +kernel
theorem dX6_stemOf_60 : decode cX6_stemOf 60 = .ok (.aload_n 0, 1) := by decide +kernel
theorem dX6_stemOf_61 : decode cX6_stemOf 61 = .ok (.iload_n 1, 1) := by decide +kernel
theorem dX6_stemOf_62 : decode cX6_stemOf 62 = .ok (.iload_n 2, 1) := by decide +kernel
theorem dX6_stemOf_63 : decode cX6_stemOf 63 = .ok (.iconst 1, 1) := by decide +kernel
theorem dX6_stemOf_64 : decode cX6_stemOf 64 = .ok (.invokevirtual 55, 3) := by decide +kernel
theorem dX6_stemOf_67 : decode cX6_stemOf 67 = .ok (.invokevirtual 79, 3) := by decide +kernel
theorem dX6_stemOf_70 : decode cX6_stemOf 70 = .ok (.ireturn, 1) := by decide +kernel
theorem dX6_stemOf_71 : decode cX6_stemOf 71 = .ok (.aload_n 0, 1) := by decide +kernel
theorem dX6_stemOf_72 : decode cX6_stemOf 72 = .ok (.aload_n 0, 1) := by decide +kernel
theorem dX6_stemOf_73 : decode cX6_stemOf 73 = .ok (.iload_n 1, 1) := by decide +kernel
theorem dX6_stemOf_74 : decode cX6_stemOf 74 = .ok (.iload_n 2, 1) := by decide +kernel
theorem dX6_stemOf_75 : decode cX6_stemOf 75 = .ok (.invokevirtual 85, 3) := by decide +kernel
theorem dX6_stemOf_78 : decode cX6_stemOf 78 = .ok (.invokevirtual 135, 3) := by decide +kernel
theorem dX6_stemOf_81 : decode cX6_stemOf 81 = .ok (.ireturn, 1) := by decide +kernel
theorem dX6_stemOf_82 : decode cX6_stemOf 82 = .ok (.iload_n 2, 1) := by decide +kernel
theorem dX6_stemOf_83 : decode cX6_stemOf 83 = .ok (.ifCond .ne 8, 3) := by decide +kernel
theorem dX6_stemOf_86 : decode cX6_stemOf 86 = .ok (.ldc 74, 2) := by decide +kernel
theorem dX6_stemOf_88 : decode cX6_stemOf 88 = .ok (.goto 19, 3) := by decide +kernel
theorem dX6_stemOf_91 : decode cX6_stemOf 91 = .ok (.aload_n 0, 1) := by decide +kernel
theorem dX6_stemOf_92 : decode cX6_stemOf 92 = .ok (.iload_n 1, 1) := by decide +kernel
theorem dX6_stemOf_93 : decode cX6_stemOf 93 = .ok (.iload_n 2, 1) := by decide +kernel
theorem dX6_stemOf_94 : decode cX6_stemOf 94 = .ok (.iconst 0, 1) := by decide +kernel
theorem dX6_stemOf_95 : decode cX6_stemOf 95 = .ok (.invokevirtual 55, 3) := by decide +kernel
theorem dX6_stemOf_98 : decode cX6_stemOf 98 = .ok (.aload_n 0, 1) := by decide +kernel
theorem dX6_stemOf_99 : decode cX6_stemOf 99 = .ok (.iload_n 1, 1) := by decide +kernel
theorem dX6_stemOf_100 : decode cX6_stemOf 100 = .ok (.iload_n 2, 1) := by decide +kernel
theorem dX6_stemOf_101 : decode cX6_stemOf 101 = .ok (.iconst 1, 1) := by decide +kernel
theorem dX6_stemOf_102 : decode cX6_stemOf 102 = .ok (.isub, 1) := by decide +kernel
theorem dX6_stemOf_103 : decode cX6_stemOf 103 = .ok (.invokevirtual 66, 3) := by decide +kernel
theorem dX6_stemOf_106 : decode cX6_stemOf 106 = .ok (.isub, 1) := by decide +kernel
theorem dX6_stemOf_107 : decode cX6_stemOf 107 = .ok (.ireturn, 1) := by decide +kernel
theorem dX6_stemOf_108 : decode cX6_stemOf 108 = .ok (.aload_n 0, 1) := by decide +kernel
theorem dX6_stemOf_109 : decode cX6_stemOf 109 = .ok (.iload_n 1, 1) := by decide +kernel
theorem dX6_stemOf_110 : decode cX6_stemOf 110 = .ok (.iload_n 2, 1) := by decide +kernel
theorem dX6_stemOf_111 : decode cX6_stemOf 111 = .ok (.iload_n 3, 1) := by decide +kernel
theorem dX6_stemOf_112 : decode cX6_stemOf 112 = .ok (.invokevirtual 55, 3) := by decide +kernel
theorem dX6_stemOf_115 : decode cX6_stemOf 115 = .ok (.ireturn, 1) := by decide +kernel
theorem dX6_pixels_0 : decode cX6_pixels 0 = .ok (.aload_n 0, 1) := by decide +kernel
theorem dX6_pixels_1 : decode cX6_pixels 1 = .ok (.iload_n 1, 1) := by decide +kernel
theorem dX6_pixels_2 : decode cX6_pixels 2 = .ok (.iload_n 2, 1) := by decide +kernel
theorem dX6_pixels_3 : decode cX6_pixels 3 = .ok (.invokevirtual 70, 3) := by decide +kernel
theorem dX6_pixels_6 : decode cX6_pixels 6 = .ok (.ifCond .eq 20, 3) := by decide +kernel
theorem dX6_pixels_9 : decode cX6_pixels 9 = .ok (.iload_n 3, 1) := by decide +kernel
theorem dX6_pixels_10 : decode cX6_pixels 10 = .ok (.invokestatic 119, 3) := by decide +kernel
theorem dX6_pixels_13 : decode cX6_pixels 13 = .ok (.ifCond .eq 13, 3) := by decide +kernel
theorem dX6_pixels_16 : decode cX6_pixels 16 = .ok (.iload 4, 2) := by decide +kernel
theorem dX6_pixels_18 : decode cX6_pixels 18 = .ok (.iconst 0, 1) := by decide +kernel
theorem dX6_pixels_19 : decode cX6_pixels 19 = .ok (.iconst 3, 1) := by decide +kernel
theorem dX6_pixels_20 : decode cX6_pixels 20 = .ok (.invokestatic 39, 3) := by decide +kernel
theorem dX6_pixels_23 : decode cX6_pixels 23 = .ok (.ifCond .ne 6, 3) := by decide +kernel
theorem dX6_pixels_26 : decode cX6_pixels 26 = .ok (.ldc 58, 2) := by decide +kernel
theorem dX6_pixels_28 : decode cX6_pixels 28 = .ok (.ireturn, 1) := by decide +kernel
theorem dX6_pixels_29 : decode cX6_pixels 29 = .ok (.aload_n 0, 1) := by decide +kernel
theorem dX6_pixels_30 : decode cX6_pixels 30 = .ok (.iload_n 1, 1) := by decide +kernel
theorem dX6_pixels_31 : decode cX6_pixels 31 = .ok (.iload_n 3, 1) := by decide +kernel
theorem dX6_pixels_32 : decode cX6_pixels 32 = .ok (.invokevirtual 106, 3) := by decide +kernel
theorem dX6_pixels_35 : decode cX6_pixels 35 = .ok (.iload 4, 2) := by decide +kernel
theorem dX6_pixels_37 : decode cX6_pixels 37 = .ok (.ifCond .ne 12, 3) := by decide +kernel
theorem dX6_pixels_40 : decode cX6_pixels 40 = .ok (.aload_n 0, 1) := by decide +kernel
theorem dX6_pixels_41 : decode cX6_pixels 41 = .ok (.getfield 22, 3) := by decide +kernel
theorem dX6_pixels_44 : decode cX6_pixels 44 = .ok (.iload_n 2, 1) := by decide +kernel
theorem dX6_pixels_45 : decode cX6_pixels 45 = .ok (.iaload, 1) := by decide +kernel
theorem dX6_pixels_46 : decode cX6_pixels 46 = .ok (.goto 41, 3) := by decide +kernel
theorem dX6_pixels_49 : decode cX6_pixels 49 = .ok (.iload 4, 2) := by decide +kernel
theorem dX6_pixels_51 : decode cX6_pixels 51 = .ok (.iconst 1, 1) := by decide +kernel
theorem dX6_pixels_52 : decode cX6_pixels 52 = .ok (.if_icmp .ne 12, 3) := by decide +kernel
theorem dX6_pixels_55 : decode cX6_pixels 55 = .ok (.aload_n 0, 1) := by decide +kernel
theorem dX6_pixels_56 : decode cX6_pixels 56 = .ok (.getfield 25, 3) := by decide +kernel
theorem dX6_pixels_59 : decode cX6_pixels 59 = .ok (.iload_n 2, 1) := by decide +kernel
theorem dX6_pixels_60 : decode cX6_pixels 60 = .ok (.iaload, 1) := by decide +kernel
theorem dX6_pixels_61 : decode cX6_pixels 61 = .ok (.goto 26, 3) := by decide +kernel
theorem dX6_pixels_64 : decode cX6_pixels 64 = .ok (.iload 4, 2) := by decide +kernel
theorem dX6_pixels_66 : decode cX6_pixels 66 = .ok (.iconst 2, 1) := by decide +kernel
theorem dX6_pixels_67 : decode cX6_pixels 67 = .ok (.if_icmp .ne 10, 3) := by decide +kernel
theorem dX6_pixels_70 : decode cX6_pixels 70 = .ok (.aload_n 0, 1) := by decide +kernel
theorem dX6_pixels_71 : decode cX6_pixels 71 = .ok (.getfield 94, 3) := by decide +kernel
theorem dX6_pixels_74 : decode cX6_pixels 74 = .ok (.goto 9, 3) := by decide +kernel
theorem dX6_pixels_77 : decode cX6_pixels 77 = .ok (.aload_n 0, 1) := by decide +kernel
theorem dX6_pixels_78 : decode cX6_pixels 78 = .ok (.iload_n 1, 1) := by decide +kernel
theorem dX6_pixels_79 : decode cX6_pixels 79 = .ok (.iload_n 3, 1) := by decide +kernel
theorem dX6_pixels_80 : decode cX6_pixels 80 = .ok (.invokevirtual 110, 3) := by decide +kernel
theorem dX6_pixels_83 : decode cX6_pixels 83 = .ok (.iload_n 2, 1) := by decide +kernel
theorem dX6_pixels_84 : decode cX6_pixels 84 = .ok (.ishr, 1) := by decide +kernel
theorem dX6_pixels_85 : decode cX6_pixels 85 = .ok (.iconst 1, 1) := by decide +kernel
theorem dX6_pixels_86 : decode cX6_pixels 86 = .ok (.iand, 1) := by decide +kernel
theorem dX6_pixels_87 : decode cX6_pixels 87 = .ok (.ireturn, 1) := by decide +kernel
theorem dX6_runsOf_0 : decode cX6_runsOf 0 = .ok (.iconst 0, 1) := by decide +kernel
theorem dX6_runsOf_1 : decode cX6_runsOf 1 = .ok (.istore_n 3, 1) := by decide +kernel
theorem dX6_runsOf_2 : decode cX6_runsOf 2 = .ok (.iconst 0, 1) := by decide +kernel
theorem dX6_runsOf_3 : decode cX6_runsOf 3 = .ok (.istore 4, 2) := by decide +kernel
theorem dX6_runsOf_5 : decode cX6_runsOf 5 = .ok (.iload 4, 2) := by decide +kernel
theorem dX6_runsOf_7 : decode cX6_runsOf 7 = .ok (.aload_n 0, 1) := by decide +kernel
theorem dX6_runsOf_8 : decode cX6_runsOf 8 = .ok (.iload_n 1, 1) := by decide +kernel
theorem dX6_runsOf_9 : decode cX6_runsOf 9 = .ok (.iload_n 2, 1) := by decide +kernel
theorem dX6_runsOf_10 : decode cX6_runsOf 10 = .ok (.invokevirtual 103, 3) := by decide +kernel
theorem dX6_runsOf_13 : decode cX6_runsOf 13 = .ok (.if_icmp .ge 44, 3) := by decide +kernel
theorem dX6_runsOf_16 : decode cX6_runsOf 16 = .ok (.iload_n 3, 1) := by decide +kernel
theorem dX6_runsOf_17 : decode cX6_runsOf 17 = .ok (.aload_n 0, 1) := by decide +kernel
theorem dX6_runsOf_18 : decode cX6_runsOf 18 = .ok (.iload_n 1, 1) := by decide +kernel
theorem dX6_runsOf_19 : decode cX6_runsOf 19 = .ok (.iload 4, 2) := by decide +kernel
theorem dX6_runsOf_21 : decode cX6_runsOf 21 = .ok (.invokevirtual 113, 3) := by decide +kernel
theorem dX6_runsOf_24 : decode cX6_runsOf 24 = .ok (.ifCond .eq 24, 3) := by decide +kernel
theorem dX6_runsOf_27 : decode cX6_runsOf 27 = .ok (.iload 4, 2) := by decide +kernel
theorem dX6_runsOf_29 : decode cX6_runsOf 29 = .ok (.ifCond .eq 15, 3) := by decide +kernel
theorem dX6_runsOf_32 : decode cX6_runsOf 32 = .ok (.aload_n 0, 1) := by decide +kernel
theorem dX6_runsOf_33 : decode cX6_runsOf 33 = .ok (.iload_n 1, 1) := by decide +kernel
theorem dX6_runsOf_34 : decode cX6_runsOf 34 = .ok (.iload 4, 2) := by decide +kernel
theorem dX6_runsOf_36 : decode cX6_runsOf 36 = .ok (.iconst 1, 1) := by decide +kernel
theorem dX6_runsOf_37 : decode cX6_runsOf 37 = .ok (.isub, 1) := by decide +kernel
theorem dX6_runsOf_38 : decode cX6_runsOf 38 = .ok (.invokevirtual 113, 3) := by decide +kernel
theorem dX6_runsOf_41 : decode cX6_runsOf 41 = .ok (.ifCond .ne 7, 3) := by decide +kernel
theorem dX6_runsOf_44 : decode cX6_runsOf 44 = .ok (.iconst 1, 1) := by decide +kernel
theorem dX6_runsOf_45 : decode cX6_runsOf 45 = .ok (.goto 4, 3) := by decide +kernel
theorem dX6_runsOf_48 : decode cX6_runsOf 48 = .ok (.iconst 0, 1) := by decide +kernel
theorem dX6_runsOf_49 : decode cX6_runsOf 49 = .ok (.iadd, 1) := by decide +kernel
theorem dX6_runsOf_50 : decode cX6_runsOf 50 = .ok (.istore_n 3, 1) := by decide +kernel
theorem dX6_runsOf_51 : decode cX6_runsOf 51 = .ok (.iinc 4 1, 3) := by decide +kernel
theorem dX6_runsOf_54 : decode cX6_runsOf 54 = .ok (.goto (-49), 3) := by decide +kernel
theorem dX6_runsOf_57 : decode cX6_runsOf 57 = .ok (.iload_n 3, 1) := by decide +kernel
theorem dX6_runsOf_58 : decode cX6_runsOf 58 = .ok (.ireturn, 1) := by decide +kernel
theorem dX6_glyphOf_0 : decode cX6_glyphOf 0 = .ok (.aload_n 0, 1) := by decide +kernel
theorem dX6_glyphOf_1 : decode cX6_glyphOf 1 = .ok (.iload_n 1, 1) := by decide +kernel
theorem dX6_glyphOf_2 : decode cX6_glyphOf 2 = .ok (.invokevirtual 43, 3) := by decide +kernel
theorem dX6_glyphOf_5 : decode cX6_glyphOf 5 = .ok (.ifCond .eq 19, 3) := by decide +kernel
theorem dX6_glyphOf_8 : decode cX6_glyphOf 8 = .ok (.iload_n 2, 1) := by decide +kernel
theorem dX6_glyphOf_9 : decode cX6_glyphOf 9 = .ok (.invokestatic 119, 3) := by decide +kernel
theorem dX6_glyphOf_12 : decode cX6_glyphOf 12 = .ok (.ifCond .eq 12, 3) := by decide +kernel
theorem dX6_glyphOf_15 : decode cX6_glyphOf 15 = .ok (.iload_n 3, 1) := by decide +kernel
theorem dX6_glyphOf_16 : decode cX6_glyphOf 16 = .ok (.iconst 0, 1) := by decide +kernel
theorem dX6_glyphOf_17 : decode cX6_glyphOf 17 = .ok (.iconst 5, 1) := by decide +kernel
theorem dX6_glyphOf_18 : decode cX6_glyphOf 18 = .ok (.invokestatic 39, 3) := by decide +kernel
theorem dX6_glyphOf_21 : decode cX6_glyphOf 21 = .ok (.ifCond .ne 6, 3) := by decide +kernel
theorem dX6_glyphOf_24 : decode cX6_glyphOf 24 = .ok (.ldc 58, 2) := by decide +kernel
theorem dX6_glyphOf_26 : decode cX6_glyphOf 26 = .ok (.ireturn, 1) := by decide +kernel
theorem dX6_glyphOf_27 : decode cX6_glyphOf 27 = .ok (.aload_n 0, 1) := by decide +kernel
theorem dX6_glyphOf_28 : decode cX6_glyphOf 28 = .ok (.iload_n 1, 1) := by decide +kernel
theorem dX6_glyphOf_29 : decode cX6_glyphOf 29 = .ok (.iload_n 2, 1) := by decide +kernel
theorem dX6_glyphOf_30 : decode cX6_glyphOf 30 = .ok (.invokevirtual 106, 3) := by decide +kernel
theorem dX6_glyphOf_33 : decode cX6_glyphOf 33 = .ok (.iload_n 3, 1) := by decide +kernel
theorem dX6_glyphOf_34 : decode cX6_glyphOf 34 = .ok (.tableswitch 90 0 4 #[34, 41, 63, 78, 83], 34) := by decide +kernel
theorem dX6_glyphOf_68 : decode cX6_glyphOf 68 = .ok (.aload_n 0, 1) := by decide +kernel
theorem dX6_glyphOf_69 : decode cX6_glyphOf 69 = .ok (.iload_n 1, 1) := by decide +kernel
theorem dX6_glyphOf_70 : decode cX6_glyphOf 70 = .ok (.iload_n 2, 1) := by decide +kernel
theorem dX6_glyphOf_71 : decode cX6_glyphOf 71 = .ok (.invokevirtual 103, 3) := by decide +kernel
theorem dX6_glyphOf_74 : decode cX6_glyphOf 74 = .ok (.ireturn, 1) := by decide +kernel
theorem dX6_glyphOf_75 : decode cX6_glyphOf 75 = .ok (.aload_n 0, 1) := by decide +kernel
theorem dX6_glyphOf_76 : decode cX6_glyphOf 76 = .ok (.iload_n 1, 1) := by decide +kernel
theorem dX6_glyphOf_77 : decode cX6_glyphOf 77 = .ok (.iload_n 2, 1) := by decide +kernel
theorem dX6_glyphOf_78 : decode cX6_glyphOf 78 = .ok (.iconst 0, 1) := by decide +kernel
theorem dX6_glyphOf_79 : decode cX6_glyphOf 79 = .ok (.invokevirtual 129, 3) := by decide +kernel
theorem dX6_glyphOf_82 : decode cX6_glyphOf 82 = .ok (.invokestatic 132, 3) := by decide +kernel
theorem dX6_glyphOf_85 : decode cX6_glyphOf 85 = .ok (.aload_n 0, 1) := by decide +kernel
theorem dX6_glyphOf_86 : decode cX6_glyphOf 86 = .ok (.iload_n 1, 1) := by decide +kernel
theorem dX6_glyphOf_87 : decode cX6_glyphOf 87 = .ok (.iload_n 2, 1) := by decide +kernel
theorem dX6_glyphOf_88 : decode cX6_glyphOf 88 = .ok (.iconst 1, 1) := by decide +kernel
theorem dX6_glyphOf_89 : decode cX6_glyphOf 89 = .ok (.invokevirtual 129, 3) := by decide +kernel
theorem dX6_glyphOf_92 : decode cX6_glyphOf 92 = .ok (.invokestatic 132, 3) := by decide +kernel
theorem dX6_glyphOf_95 : decode cX6_glyphOf 95 = .ok (.iadd, 1) := by decide +kernel
theorem dX6_glyphOf_96 : decode cX6_glyphOf 96 = .ok (.ireturn, 1) := by decide +kernel
theorem dX6_glyphOf_97 : decode cX6_glyphOf 97 = .ok (.aload_n 0, 1) := by decide +kernel
theorem dX6_glyphOf_98 : decode cX6_glyphOf 98 = .ok (.iload_n 1, 1) := by decide +kernel
theorem dX6_glyphOf_99 : decode cX6_glyphOf 99 = .ok (.iload_n 2, 1) := by decide +kernel
theorem dX6_glyphOf_100 : decode cX6_glyphOf 100 = .ok (.invokevirtual 138, 3) := by decide +kernel
theorem dX6_glyphOf_103 : decode cX6_glyphOf 103 = .ok (.ifCond .eq 7, 3) := by decide +kernel
theorem dX6_glyphOf_106 : decode cX6_glyphOf 106 = .ok (.iconst 1, 1) := by decide +kernel
theorem dX6_glyphOf_107 : decode cX6_glyphOf 107 = .ok (.goto 4, 3) := by decide +kernel
theorem dX6_glyphOf_110 : decode cX6_glyphOf 110 = .ok (.iconst 0, 1) := by decide +kernel
theorem dX6_glyphOf_111 : decode cX6_glyphOf 111 = .ok (.ireturn, 1) := by decide +kernel
theorem dX6_glyphOf_112 : decode cX6_glyphOf 112 = .ok (.aload_n 0, 1) := by decide +kernel
theorem dX6_glyphOf_113 : decode cX6_glyphOf 113 = .ok (.getfield 94, 3) := by decide +kernel
theorem dX6_glyphOf_116 : decode cX6_glyphOf 116 = .ok (.ireturn, 1) := by decide +kernel
theorem dX6_glyphOf_117 : decode cX6_glyphOf 117 = .ok (.aload_n 0, 1) := by decide +kernel
theorem dX6_glyphOf_118 : decode cX6_glyphOf 118 = .ok (.iload_n 1, 1) := by decide +kernel
theorem dX6_glyphOf_119 : decode cX6_glyphOf 119 = .ok (.iload_n 2, 1) := by decide +kernel
theorem dX6_glyphOf_120 : decode cX6_glyphOf 120 = .ok (.invokevirtual 110, 3) := by decide +kernel
theorem dX6_glyphOf_123 : decode cX6_glyphOf 123 = .ok (.ireturn, 1) := by decide +kernel
end
section
theorem dX6_glyphOf_124 : decode cX6_glyphOf 124 = .ok (.aload_n 0, 1) := by decide +kernel
theorem dX6_glyphOf_125 : decode cX6_glyphOf 125 = .ok (.iload_n 1, 1) := by decide +kernel
theorem dX6_glyphOf_126 : decode cX6_glyphOf 126 = .ok (.iload_n 2, 1) := by decide +kernel
theorem dX6_glyphOf_127 : decode cX6_glyphOf 127 = .ok (.invokevirtual 141, 3) := by decide +kernel
theorem dX6_glyphOf_130 : decode cX6_glyphOf 130 = .ok (.ireturn, 1) := by decide +kernel
theorem dX6_lit_0 : decode cX6_lit 0 = .ok (.aload_n 0, 1) := by decide +kernel
theorem dX6_lit_1 : decode cX6_lit 1 = .ok (.iload_n 1, 1) := by decide +kernel
theorem dX6_lit_2 : decode cX6_lit 2 = .ok (.invokevirtual 43, 3) := by decide +kernel
theorem dX6_lit_5 : decode cX6_lit 5 = .ok (.ifCond .eq 20, 3) := by decide +kernel
theorem dX6_lit_8 : decode cX6_lit 8 = .ok (.iload_n 2, 1) := by decide +kernel
theorem dX6_lit_9 : decode cX6_lit 9 = .ok (.invokestatic 119, 3) := by decide +kernel
theorem dX6_lit_12 : decode cX6_lit 12 = .ok (.ifCond .eq 13, 3) := by decide +kernel
theorem dX6_lit_15 : decode cX6_lit 15 = .ok (.iload_n 3, 1) := by decide +kernel
theorem dX6_lit_16 : decode cX6_lit 16 = .ok (.iconst 0, 1) := by decide +kernel
theorem dX6_lit_17 : decode cX6_lit 17 = .ok (.bipush 63, 2) := by decide +kernel
theorem dX6_lit_19 : decode cX6_lit 19 = .ok (.invokestatic 39, 3) := by decide +kernel
theorem dX6_lit_22 : decode cX6_lit 22 = .ok (.ifCond .ne 6, 3) := by decide +kernel
theorem dX6_lit_25 : decode cX6_lit 25 = .ok (.ldc 58, 2) := by decide +kernel
theorem dX6_lit_27 : decode cX6_lit 27 = .ok (.ireturn, 1) := by decide +kernel
theorem dX6_lit_28 : decode cX6_lit 28 = .ok (.aload_n 0, 1) := by decide +kernel
theorem dX6_lit_29 : decode cX6_lit 29 = .ok (.iload_n 1, 1) := by decide +kernel
theorem dX6_lit_30 : decode cX6_lit 30 = .ok (.iload_n 2, 1) := by decide +kernel
theorem dX6_lit_31 : decode cX6_lit 31 = .ok (.invokevirtual 106, 3) := by decide +kernel
theorem dX6_lit_34 : decode cX6_lit 34 = .ok (.iload_n 3, 1) := by decide +kernel
theorem dX6_lit_35 : decode cX6_lit 35 = .ok (.aload_n 0, 1) := by decide +kernel
theorem dX6_lit_36 : decode cX6_lit 36 = .ok (.iload_n 1, 1) := by decide +kernel
theorem dX6_lit_37 : decode cX6_lit 37 = .ok (.iload_n 2, 1) := by decide +kernel
theorem dX6_lit_38 : decode cX6_lit 38 = .ok (.invokevirtual 103, 3) := by decide +kernel
theorem dX6_lit_41 : decode cX6_lit 41 = .ok (.if_icmp .lt 8, 3) := by decide +kernel
theorem dX6_lit_44 : decode cX6_lit 44 = .ok (.ldc 74, 2) := by decide +kernel
theorem dX6_lit_46 : decode cX6_lit 46 = .ok (.goto 17, 3) := by decide +kernel
theorem dX6_lit_49 : decode cX6_lit 49 = .ok (.aload_n 0, 1) := by decide +kernel
theorem dX6_lit_50 : decode cX6_lit 50 = .ok (.iload_n 1, 1) := by decide +kernel
theorem dX6_lit_51 : decode cX6_lit 51 = .ok (.iload_n 3, 1) := by decide +kernel
theorem dX6_lit_52 : decode cX6_lit 52 = .ok (.invokevirtual 113, 3) := by decide +kernel
theorem dX6_lit_55 : decode cX6_lit 55 = .ok (.ifCond .eq 7, 3) := by decide +kernel
theorem dX6_lit_58 : decode cX6_lit 58 = .ok (.iconst 1, 1) := by decide +kernel
theorem dX6_lit_59 : decode cX6_lit 59 = .ok (.goto 4, 3) := by decide +kernel
theorem dX6_lit_62 : decode cX6_lit 62 = .ok (.iconst 0, 1) := by decide +kernel
theorem dX6_lit_63 : decode cX6_lit 63 = .ok (.ireturn, 1) := by decide +kernel
theorem dX6_inSheet_0 : decode cX6_inSheet 0 = .ok (.iload_n 1, 1) := by decide +kernel
theorem dX6_inSheet_1 : decode cX6_inSheet 1 = .ok (.invokestatic 119, 3) := by decide +kernel
theorem dX6_inSheet_4 : decode cX6_inSheet 4 = .ok (.ifCond .eq 23, 3) := by decide +kernel
theorem dX6_inSheet_7 : decode cX6_inSheet 7 = .ok (.iload_n 2, 1) := by decide +kernel
theorem dX6_inSheet_8 : decode cX6_inSheet 8 = .ok (.iconst 0, 1) := by decide +kernel
theorem dX6_inSheet_9 : decode cX6_inSheet 9 = .ok (.bipush 7, 2) := by decide +kernel
theorem dX6_inSheet_11 : decode cX6_inSheet 11 = .ok (.invokestatic 39, 3) := by decide +kernel
theorem dX6_inSheet_14 : decode cX6_inSheet 14 = .ok (.ifCond .eq 13, 3) := by decide +kernel
theorem dX6_inSheet_17 : decode cX6_inSheet 17 = .ok (.iload_n 3, 1) := by decide +kernel
theorem dX6_inSheet_18 : decode cX6_inSheet 18 = .ok (.iconst 0, 1) := by decide +kernel
theorem dX6_inSheet_19 : decode cX6_inSheet 19 = .ok (.bipush 63, 2) := by decide +kernel
theorem dX6_inSheet_21 : decode cX6_inSheet 21 = .ok (.invokestatic 39, 3) := by decide +kernel
theorem dX6_inSheet_24 : decode cX6_inSheet 24 = .ok (.ifCond .ne 6, 3) := by decide +kernel
theorem dX6_inSheet_27 : decode cX6_inSheet 27 = .ok (.ldc 58, 2) := by decide +kernel
theorem dX6_inSheet_29 : decode cX6_inSheet 29 = .ok (.ireturn, 1) := by decide +kernel
theorem dX6_inSheet_30 : decode cX6_inSheet 30 = .ok (.aload_n 0, 1) := by decide +kernel
theorem dX6_inSheet_31 : decode cX6_inSheet 31 = .ok (.iload_n 1, 1) := by decide +kernel
theorem dX6_inSheet_32 : decode cX6_inSheet 32 = .ok (.invokevirtual 122, 3) := by decide +kernel
theorem dX6_inSheet_35 : decode cX6_inSheet 35 = .ok (.istore 4, 2) := by decide +kernel
theorem dX6_inSheet_37 : decode cX6_inSheet 37 = .ok (.iload 4, 2) := by decide +kernel
theorem dX6_inSheet_39 : decode cX6_inSheet 39 = .ok (.ifCond .lt 16, 3) := by decide +kernel
theorem dX6_inSheet_42 : decode cX6_inSheet 42 = .ok (.iload_n 3, 1) := by decide +kernel
theorem dX6_inSheet_43 : decode cX6_inSheet 43 = .ok (.aload_n 0, 1) := by decide +kernel
theorem dX6_inSheet_44 : decode cX6_inSheet 44 = .ok (.iload 4, 2) := by decide +kernel
theorem dX6_inSheet_46 : decode cX6_inSheet 46 = .ok (.iconst 2, 1) := by decide +kernel
theorem dX6_inSheet_47 : decode cX6_inSheet 47 = .ok (.iload_n 2, 1) := by decide +kernel
theorem dX6_inSheet_48 : decode cX6_inSheet 48 = .ok (.iadd, 1) := by decide +kernel
theorem dX6_inSheet_49 : decode cX6_inSheet 49 = .ok (.invokevirtual 116, 3) := by decide +kernel
theorem dX6_inSheet_52 : decode cX6_inSheet 52 = .ok (.if_icmp .lt 6, 3) := by decide +kernel
theorem dX6_inSheet_55 : decode cX6_inSheet 55 = .ok (.ldc 74, 2) := by decide +kernel
theorem dX6_inSheet_57 : decode cX6_inSheet 57 = .ok (.ireturn, 1) := by decide +kernel
theorem dX6_inSheet_58 : decode cX6_inSheet 58 = .ok (.aload_n 0, 1) := by decide +kernel
theorem dX6_inSheet_59 : decode cX6_inSheet 59 = .ok (.getfield 7, 3) := by decide +kernel
theorem dX6_inSheet_62 : decode cX6_inSheet 62 = .ok (.sipush 209, 3) := by decide +kernel
theorem dX6_inSheet_65 : decode cX6_inSheet 65 = .ok (.bipush 16, 2) := by decide +kernel
theorem dX6_inSheet_67 : decode cX6_inSheet 67 = .ok (.iload 4, 2) := by decide +kernel
theorem dX6_inSheet_69 : decode cX6_inSheet 69 = .ok (.imul, 1) := by decide +kernel
theorem dX6_inSheet_70 : decode cX6_inSheet 70 = .ok (.iadd, 1) := by decide +kernel
theorem dX6_inSheet_71 : decode cX6_inSheet 71 = .ok (.iconst 2, 1) := by decide +kernel
theorem dX6_inSheet_72 : decode cX6_inSheet 72 = .ok (.iload_n 2, 1) := by decide +kernel
theorem dX6_inSheet_73 : decode cX6_inSheet 73 = .ok (.imul, 1) := by decide +kernel
theorem dX6_inSheet_74 : decode cX6_inSheet 74 = .ok (.iadd, 1) := by decide +kernel
theorem dX6_inSheet_75 : decode cX6_inSheet 75 = .ok (.iload_n 3, 1) := by decide +kernel
theorem dX6_inSheet_76 : decode cX6_inSheet 76 = .ok (.bipush 32, 2) := by decide +kernel
theorem dX6_inSheet_78 : decode cX6_inSheet 78 = .ok (.idiv, 1) := by decide +kernel
theorem dX6_inSheet_79 : decode cX6_inSheet 79 = .ok (.iadd, 1) := by decide +kernel
theorem dX6_inSheet_80 : decode cX6_inSheet 80 = .ok (.iaload, 1) := by decide +kernel
theorem dX6_inSheet_81 : decode cX6_inSheet 81 = .ok (.iload_n 3, 1) := by decide +kernel
theorem dX6_inSheet_82 : decode cX6_inSheet 82 = .ok (.bipush 32, 2) := by decide +kernel
theorem dX6_inSheet_84 : decode cX6_inSheet 84 = .ok (.irem, 1) := by decide +kernel
theorem dX6_inSheet_85 : decode cX6_inSheet 85 = .ok (.ishr, 1) := by decide +kernel
theorem dX6_inSheet_86 : decode cX6_inSheet 86 = .ok (.iconst 1, 1) := by decide +kernel
theorem dX6_inSheet_87 : decode cX6_inSheet 87 = .ok (.iand, 1) := by decide +kernel
theorem dX6_inSheet_88 : decode cX6_inSheet 88 = .ok (.ireturn, 1) := by decide +kernel
theorem dX6_sheetOf_0 : decode cX6_sheetOf 0 = .ok (.iload_n 1, 1) := by decide +kernel
theorem dX6_sheetOf_1 : decode cX6_sheetOf 1 = .ok (.ifCond .lt 12, 3) := by decide +kernel
theorem dX6_sheetOf_4 : decode cX6_sheetOf 4 = .ok (.iload_n 2, 1) := by decide +kernel
theorem dX6_sheetOf_5 : decode cX6_sheetOf 5 = .ok (.iconst 0, 1) := by decide +kernel
theorem dX6_sheetOf_6 : decode cX6_sheetOf 6 = .ok (.iconst 3, 1) := by decide +kernel
theorem dX6_sheetOf_7 : decode cX6_sheetOf 7 = .ok (.invokestatic 39, 3) := by decide +kernel
theorem dX6_sheetOf_10 : decode cX6_sheetOf 10 = .ok (.ifCond .ne 6, 3) := by decide +kernel
theorem dX6_sheetOf_13 : decode cX6_sheetOf 13 = .ok (.ldc 58, 2) := by decide +kernel
theorem dX6_sheetOf_15 : decode cX6_sheetOf 15 = .ok (.ireturn, 1) := by decide +kernel
theorem dX6_sheetOf_16 : decode cX6_sheetOf 16 = .ok (.iload_n 1, 1) := by decide +kernel
theorem dX6_sheetOf_17 : decode cX6_sheetOf 17 = .ok (.aload_n 0, 1) := by decide +kernel
theorem dX6_sheetOf_18 : decode cX6_sheetOf 18 = .ok (.getfield 7, 3) := by decide +kernel
theorem dX6_sheetOf_21 : decode cX6_sheetOf 21 = .ok (.bipush 7, 2) := by decide +kernel
theorem dX6_sheetOf_23 : decode cX6_sheetOf 23 = .ok (.iaload, 1) := by decide +kernel
theorem dX6_sheetOf_24 : decode cX6_sheetOf 24 = .ok (.if_icmp .lt 6, 3) := by decide +kernel
theorem dX6_sheetOf_27 : decode cX6_sheetOf 27 = .ok (.ldc 74, 2) := by decide +kernel
theorem dX6_sheetOf_29 : decode cX6_sheetOf 29 = .ok (.ireturn, 1) := by decide +kernel
theorem dX6_sheetOf_30 : decode cX6_sheetOf 30 = .ok (.iload_n 2, 1) := by decide +kernel
theorem dX6_sheetOf_31 : decode cX6_sheetOf 31 = .ok (.iconst 2, 1) := by decide +kernel
theorem dX6_sheetOf_32 : decode cX6_sheetOf 32 = .ok (.if_icmp .ge 12, 3) := by decide +kernel
theorem dX6_sheetOf_35 : decode cX6_sheetOf 35 = .ok (.aload_n 0, 1) := by decide +kernel
theorem dX6_sheetOf_36 : decode cX6_sheetOf 36 = .ok (.iload_n 1, 1) := by decide +kernel
theorem dX6_sheetOf_37 : decode cX6_sheetOf 37 = .ok (.iload_n 2, 1) := by decide +kernel
theorem dX6_sheetOf_38 : decode cX6_sheetOf 38 = .ok (.invokevirtual 116, 3) := by decide +kernel
theorem dX6_sheetOf_41 : decode cX6_sheetOf 41 = .ok (.goto 29, 3) := by decide +kernel
theorem dX6_sheetOf_44 : decode cX6_sheetOf 44 = .ok (.iload_n 2, 1) := by decide +kernel
theorem dX6_sheetOf_45 : decode cX6_sheetOf 45 = .ok (.iconst 2, 1) := by decide +kernel
theorem dX6_sheetOf_46 : decode cX6_sheetOf 46 = .ok (.if_icmp .ne 19, 3) := by decide +kernel
theorem dX6_sheetOf_49 : decode cX6_sheetOf 49 = .ok (.aload_n 0, 1) := by decide +kernel
theorem dX6_sheetOf_50 : decode cX6_sheetOf 50 = .ok (.iload_n 1, 1) := by decide +kernel
theorem dX6_sheetOf_51 : decode cX6_sheetOf 51 = .ok (.invokevirtual 144, 3) := by decide +kernel
theorem dX6_sheetOf_54 : decode cX6_sheetOf 54 = .ok (.ifCond .eq 7, 3) := by decide +kernel
theorem dX6_sheetOf_57 : decode cX6_sheetOf 57 = .ok (.iconst 1, 1) := by decide +kernel
theorem dX6_sheetOf_58 : decode cX6_sheetOf 58 = .ok (.goto 12, 3) := by decide +kernel
theorem dX6_sheetOf_61 : decode cX6_sheetOf 61 = .ok (.iconst 0, 1) := by decide +kernel
theorem dX6_sheetOf_62 : decode cX6_sheetOf 62 = .ok (.goto 8, 3) := by decide +kernel
theorem dX6_sheetOf_65 : decode cX6_sheetOf 65 = .ok (.aload_n 0, 1) := by decide +kernel
theorem dX6_sheetOf_66 : decode cX6_sheetOf 66 = .ok (.iload_n 1, 1) := by decide +kernel
theorem dX6_sheetOf_67 : decode cX6_sheetOf 67 = .ok (.invokevirtual 147, 3) := by decide +kernel
theorem dX6_sheetOf_70 : decode cX6_sheetOf 70 = .ok (.ireturn, 1) := by decide +kernel
theorem dX6_isEven_0 : decode cX6_isEven 0 = .ok (.iconst 1, 1) := by decide +kernel
theorem dX6_isEven_1 : decode cX6_isEven 1 = .ok (.istore 4, 2) := by decide +kernel
theorem dX6_isEven_3 : decode cX6_isEven 3 = .ok (.iconst 0, 1) := by decide +kernel
theorem dX6_isEven_4 : decode cX6_isEven 4 = .ok (.istore 5, 2) := by decide +kernel
theorem dX6_isEven_6 : decode cX6_isEven 6 = .ok (.iload 5, 2) := by decide +kernel
theorem dX6_isEven_8 : decode cX6_isEven 8 = .ok (.aload_n 0, 1) := by decide +kernel
theorem dX6_isEven_9 : decode cX6_isEven 9 = .ok (.getfield 7, 3) := by decide +kernel
theorem dX6_isEven_12 : decode cX6_isEven 12 = .ok (.iconst 0, 1) := by decide +kernel
theorem dX6_isEven_13 : decode cX6_isEven 13 = .ok (.iaload, 1) := by decide +kernel
theorem dX6_isEven_14 : decode cX6_isEven 14 = .ok (.if_icmp .ge 94, 3) := by decide +kernel
theorem dX6_isEven_17 : decode cX6_isEven 17 = .ok (.iconst 0, 1) := by decide +kernel
theorem dX6_isEven_18 : decode cX6_isEven 18 = .ok (.istore 6, 2) := by decide +kernel
theorem dX6_isEven_20 : decode cX6_isEven 20 = .ok (.iload 6, 2) := by decide +kernel
theorem dX6_isEven_22 : decode cX6_isEven 22 = .ok (.aload_n 0, 1) := by decide +kernel
theorem dX6_isEven_23 : decode cX6_isEven 23 = .ok (.iload 5, 2) := by decide +kernel
theorem dX6_isEven_25 : decode cX6_isEven 25 = .ok (.iconst 1, 1) := by decide +kernel
theorem dX6_isEven_26 : decode cX6_isEven 26 = .ok (.invokevirtual 47, 3) := by decide +kernel
theorem dX6_isEven_29 : decode cX6_isEven 29 = .ok (.if_icmp .ge 73, 3) := by decide +kernel
theorem dX6_isEven_32 : decode cX6_isEven 32 = .ok (.aload_n 0, 1) := by decide +kernel
theorem dX6_isEven_33 : decode cX6_isEven 33 = .ok (.iload 5, 2) := by decide +kernel
theorem dX6_isEven_35 : decode cX6_isEven 35 = .ok (.iload 6, 2) := by decide +kernel
theorem dX6_isEven_37 : decode cX6_isEven 37 = .ok (.iconst 1, 1) := by decide +kernel
theorem dX6_isEven_38 : decode cX6_isEven 38 = .ok (.invokevirtual 55, 3) := by decide +kernel
theorem dX6_isEven_41 : decode cX6_isEven 41 = .ok (.aload_n 0, 1) := by decide +kernel
theorem dX6_isEven_42 : decode cX6_isEven 42 = .ok (.iload_n 1, 1) := by decide +kernel
theorem dX6_isEven_43 : decode cX6_isEven 43 = .ok (.iload_n 2, 1) := by decide +kernel
theorem dX6_isEven_44 : decode cX6_isEven 44 = .ok (.iconst 1, 1) := by decide +kernel
theorem dX6_isEven_45 : decode cX6_isEven 45 = .ok (.invokevirtual 55, 3) := by decide +kernel
theorem dX6_isEven_48 : decode cX6_isEven 48 = .ok (.isub, 1) := by decide +kernel
theorem dX6_isEven_49 : decode cX6_isEven 49 = .ok (.invokestatic 75, 3) := by decide +kernel
theorem dX6_isEven_52 : decode cX6_isEven 52 = .ok (.istore 7, 2) := by decide +kernel
theorem dX6_isEven_54 : decode cX6_isEven 54 = .ok (.iload 4, 2) := by decide +kernel
theorem dX6_isEven_56 : decode cX6_isEven 56 = .ok (.ifCond .eq 37, 3) := by decide +kernel
theorem dX6_isEven_59 : decode cX6_isEven 59 = .ok (.iload 7, 2) := by decide +kernel
theorem dX6_isEven_61 : decode cX6_isEven 61 = .ok (.aload_n 0, 1) := by decide +kernel
theorem dX6_isEven_62 : decode cX6_isEven 62 = .ok (.getfield 7, 3) := by decide +kernel
theorem dX6_isEven_65 : decode cX6_isEven 65 = .ok (.iconst 5, 1) := by decide +kernel
theorem dX6_isEven_66 : decode cX6_isEven 66 = .ok (.iaload, 1) := by decide +kernel
theorem dX6_isEven_67 : decode cX6_isEven 67 = .ok (.if_icmp .gt 22, 3) := by decide +kernel
theorem dX6_isEven_70 : decode cX6_isEven 70 = .ok (.aload_n 0, 1) := by decide +kernel
theorem dX6_isEven_71 : decode cX6_isEven 71 = .ok (.iload 5, 2) := by decide +kernel
theorem dX6_isEven_73 : decode cX6_isEven 73 = .ok (.iload 6, 2) := by decide +kernel
theorem dX6_isEven_75 : decode cX6_isEven 75 = .ok (.iload_n 3, 1) := by decide +kernel
theorem dX6_isEven_76 : decode cX6_isEven 76 = .ok (.invokevirtual 97, 3) := by decide +kernel
theorem dX6_isEven_79 : decode cX6_isEven 79 = .ok (.aload_n 0, 1) := by decide +kernel
theorem dX6_isEven_80 : decode cX6_isEven 80 = .ok (.iload_n 1, 1) := by decide +kernel
theorem dX6_isEven_81 : decode cX6_isEven 81 = .ok (.iload_n 2, 1) := by decide +kernel
theorem dX6_isEven_82 : decode cX6_isEven 82 = .ok (.iload_n 3, 1) := by decide +kernel
theorem dX6_isEven_83 : decode cX6_isEven 83 = .ok (.invokevirtual 97, 3) := by decide +kernel
theorem dX6_isEven_86 : decode cX6_isEven 86 = .ok (.if_icmp .ne 7, 3) := by decide +kernel
theorem dX6_isEven_89 : decode cX6_isEven 89 = .ok (.iconst 1, 1) := by decide +kernel
theorem dX6_isEven_90 : decode cX6_isEven 90 = .ok (.goto 4, 3) := by decide +kernel
theorem dX6_isEven_93 : decode cX6_isEven 93 = .ok (.iconst 0, 1) := by decide +kernel
theorem dX6_isEven_94 : decode cX6_isEven 94 = .ok (.istore 4, 2) := by decide +kernel
theorem dX6_isEven_96 : decode cX6_isEven 96 = .ok (.iinc 6 1, 3) := by decide +kernel
theorem dX6_isEven_99 : decode cX6_isEven 99 = .ok (.goto (-79), 3) := by decide +kernel
theorem dX6_isEven_102 : decode cX6_isEven 102 = .ok (.iinc 5 1, 3) := by decide +kernel
theorem dX6_isEven_105 : decode cX6_isEven 105 = .ok (.goto (-99), 3) := by decide +kernel
theorem dX6_isEven_108 : decode cX6_isEven 108 = .ok (.iload 4, 2) := by decide +kernel
theorem dX6_isEven_110 : decode cX6_isEven 110 = .ok (.ireturn, 1) := by decide +kernel
theorem dX6_even_0 : decode cX6_even 0 = .ok (.iload_n 1, 1) := by decide +kernel
theorem dX6_even_1 : decode cX6_even 1 = .ok (.invokestatic 119, 3) := by decide +kernel
theorem dX6_even_4 : decode cX6_even 4 = .ok (.ifCond .ne 6, 3) := by decide +kernel
theorem dX6_even_7 : decode cX6_even 7 = .ok (.ldc 58, 2) := by decide +kernel
theorem dX6_even_9 : decode cX6_even 9 = .ok (.ireturn, 1) := by decide +kernel
theorem dX6_even_10 : decode cX6_even 10 = .ok (.iconst 1, 1) := by decide +kernel
theorem dX6_even_11 : decode cX6_even 11 = .ok (.istore_n 2, 1) := by decide +kernel
theorem dX6_even_12 : decode cX6_even 12 = .ok (.iconst 0, 1) := by decide +kernel
theorem dX6_even_13 : decode cX6_even 13 = .ok (.istore_n 3, 1) := by decide +kernel
theorem dX6_even_14 : decode cX6_even 14 = .ok (.iload_n 3, 1) := by decide +kernel
theorem dX6_even_15 : decode cX6_even 15 = .ok (.aload_n 0, 1) := by decide +kernel
theorem dX6_even_16 : decode cX6_even 16 = .ok (.getfield 7, 3) := by decide +kernel
theorem dX6_even_19 : decode cX6_even 19 = .ok (.iconst 0, 1) := by decide +kernel
theorem dX6_even_20 : decode cX6_even 20 = .ok (.iaload, 1) := by decide +kernel
theorem dX6_even_21 : decode cX6_even 21 = .ok (.if_icmp .ge 50, 3) := by decide +kernel
theorem dX6_even_24 : decode cX6_even 24 = .ok (.iconst 0, 1) := by decide +kernel
theorem dX6_even_25 : decode cX6_even 25 = .ok (.istore 4, 2) := by decide +kernel
theorem dX6_even_27 : decode cX6_even 27 = .ok (.iload 4, 2) := by decide +kernel
theorem dX6_even_29 : decode cX6_even 29 = .ok (.aload_n 0, 1) := by decide +kernel
theorem dX6_even_30 : decode cX6_even 30 = .ok (.iload_n 3, 1) := by decide +kernel
theorem dX6_even_31 : decode cX6_even 31 = .ok (.iconst 1, 1) := by decide +kernel
theorem dX6_even_32 : decode cX6_even 32 = .ok (.invokevirtual 47, 3) := by decide +kernel
theorem dX6_even_35 : decode cX6_even 35 = .ok (.if_icmp .ge 30, 3) := by decide +kernel
theorem dX6_even_38 : decode cX6_even 38 = .ok (.iload_n 2, 1) := by decide +kernel
theorem dX6_even_39 : decode cX6_even 39 = .ok (.ifCond .eq 18, 3) := by decide +kernel
theorem dX6_even_42 : decode cX6_even 42 = .ok (.aload_n 0, 1) := by decide +kernel
theorem dX6_even_43 : decode cX6_even 43 = .ok (.iload_n 3, 1) := by decide +kernel
theorem dX6_even_44 : decode cX6_even 44 = .ok (.iload 4, 2) := by decide +kernel
theorem dX6_even_46 : decode cX6_even 46 = .ok (.iload_n 1, 1) := by decide +kernel
theorem dX6_even_47 : decode cX6_even 47 = .ok (.invokevirtual 150, 3) := by decide +kernel
theorem dX6_even_50 : decode cX6_even 50 = .ok (.ifCond .eq 7, 3) := by decide +kernel
theorem dX6_even_53 : decode cX6_even 53 = .ok (.iconst 1, 1) := by decide +kernel
theorem dX6_even_54 : decode cX6_even 54 = .ok (.goto 4, 3) := by decide +kernel
theorem dX6_even_57 : decode cX6_even 57 = .ok (.iconst 0, 1) := by decide +kernel
theorem dX6_even_58 : decode cX6_even 58 = .ok (.istore_n 2, 1) := by decide +kernel
theorem dX6_even_59 : decode cX6_even 59 = .ok (.iinc 4 1, 3) := by decide +kernel
theorem dX6_even_62 : decode cX6_even 62 = .ok (.goto (-35), 3) := by decide +kernel
theorem dX6_even_65 : decode cX6_even 65 = .ok (.iinc 3 1, 3) := by decide +kernel
theorem dX6_even_68 : decode cX6_even 68 = .ok (.goto (-54), 3) := by decide +kernel
theorem dX6_even_71 : decode cX6_even 71 = .ok (.iload_n 2, 1) := by decide +kernel
theorem dX6_even_72 : decode cX6_even 72 = .ok (.ifCond .eq 7, 3) := by decide +kernel
theorem dX6_even_75 : decode cX6_even 75 = .ok (.iconst 1, 1) := by decide +kernel
theorem dX6_even_76 : decode cX6_even 76 = .ok (.goto 4, 3) := by decide +kernel
theorem dX6_even_79 : decode cX6_even 79 = .ok (.iconst 0, 1) := by decide +kernel
theorem dX6_even_80 : decode cX6_even 80 = .ok (.ireturn, 1) := by decide +kernel
theorem dX6_clear_0 : decode cX6_clear 0 = .ok (.aload_n 0, 1) := by decide +kernel
theorem dX6_clear_1 : decode cX6_clear 1 = .ok (.iload_n 1, 1) := by decide +kernel
theorem dX6_clear_2 : decode cX6_clear 2 = .ok (.invokevirtual 43, 3) := by decide +kernel
theorem dX6_clear_5 : decode cX6_clear 5 = .ok (.ifCond .ne 6, 3) := by decide +kernel
theorem dX6_clear_8 : decode cX6_clear 8 = .ok (.ldc 58, 2) := by decide +kernel
theorem dX6_clear_10 : decode cX6_clear 10 = .ok (.ireturn, 1) := by decide +kernel
theorem dX6_clear_11 : decode cX6_clear 11 = .ok (.bipush 6, 2) := by decide +kernel
theorem dX6_clear_13 : decode cX6_clear 13 = .ok (.istore_n 2, 1) := by decide +kernel
theorem dX6_clear_14 : decode cX6_clear 14 = .ok (.iload_n 2, 1) := by decide +kernel
theorem dX6_clear_15 : decode cX6_clear 15 = .ok (.bipush 48, 2) := by decide +kernel
theorem dX6_clear_17 : decode cX6_clear 17 = .ok (.if_icmp .gt 20, 3) := by decide +kernel
theorem dX6_clear_20 : decode cX6_clear 20 = .ok (.aload_n 0, 1) := by decide +kernel
theorem dX6_clear_21 : decode cX6_clear 21 = .ok (.iload_n 1, 1) := by decide +kernel
theorem dX6_clear_22 : decode cX6_clear 22 = .ok (.iload_n 2, 1) := by decide +kernel
theorem dX6_clear_23 : decode cX6_clear 23 = .ok (.invokevirtual 138, 3) := by decide +kernel
theorem dX6_clear_26 : decode cX6_clear 26 = .ok (.ifCond .eq 5, 3) := by decide +kernel
theorem dX6_clear_29 : decode cX6_clear 29 = .ok (.iload_n 2, 1) := by decide +kernel
theorem dX6_clear_30 : decode cX6_clear 30 = .ok (.ireturn, 1) := by decide +kernel
theorem dX6_clear_31 : decode cX6_clear 31 = .ok (.iinc 2 1, 3) := by decide +kernel
theorem dX6_clear_34 : decode cX6_clear 34 = .ok (.goto (-20), 3) := by decide +kernel
theorem dX6_clear_37 : decode cX6_clear 37 = .ok (.ldc 74, 2) := by decide +kernel
theorem dX6_clear_39 : decode cX6_clear 39 = .ok (.ireturn, 1) := by decide +kernel
theorem dX6_clearSizes_0 : decode cX6_clearSizes 0 = .ok (.iconst 0, 1) := by decide +kernel
theorem dX6_clearSizes_1 : decode cX6_clearSizes 1 = .ok (.istore_n 2, 1) := by decide +kernel
theorem dX6_clearSizes_2 : decode cX6_clearSizes 2 = .ok (.bipush 6, 2) := by decide +kernel
theorem dX6_clearSizes_4 : decode cX6_clearSizes 4 = .ok (.istore_n 3, 1) := by decide +kernel
theorem dX6_clearSizes_5 : decode cX6_clearSizes 5 = .ok (.iload_n 3, 1) := by decide +kernel
theorem dX6_clearSizes_6 : decode cX6_clearSizes 6 = .ok (.bipush 48, 2) := by decide +kernel
theorem dX6_clearSizes_8 : decode cX6_clearSizes 8 = .ok (.if_icmp .gt 26, 3) := by decide +kernel
theorem dX6_clearSizes_11 : decode cX6_clearSizes 11 = .ok (.iload_n 2, 1) := by decide +kernel
theorem dX6_clearSizes_12 : decode cX6_clearSizes 12 = .ok (.aload_n 0, 1) := by decide +kernel
theorem dX6_clearSizes_13 : decode cX6_clearSizes 13 = .ok (.iload_n 1, 1) := by decide +kernel
theorem dX6_clearSizes_14 : decode cX6_clearSizes 14 = .ok (.iload_n 3, 1) := by decide +kernel
theorem dX6_clearSizes_15 : decode cX6_clearSizes 15 = .ok (.invokevirtual 138, 3) := by decide +kernel
theorem dX6_clearSizes_18 : decode cX6_clearSizes 18 = .ok (.ifCond .eq 7, 3) := by decide +kernel
theorem dX6_clearSizes_21 : decode cX6_clearSizes 21 = .ok (.iconst 1, 1) := by decide +kernel
theorem dX6_clearSizes_22 : decode cX6_clearSizes 22 = .ok (.goto 4, 3) := by decide +kernel
theorem dX6_clearSizes_25 : decode cX6_clearSizes 25 = .ok (.iconst 0, 1) := by decide +kernel
theorem dX6_clearSizes_26 : decode cX6_clearSizes 26 = .ok (.iadd, 1) := by decide +kernel
theorem dX6_clearSizes_27 : decode cX6_clearSizes 27 = .ok (.istore_n 2, 1) := by decide +kernel
theorem dX6_clearSizes_28 : decode cX6_clearSizes 28 = .ok (.iinc 3 1, 3) := by decide +kernel
theorem dX6_clearSizes_31 : decode cX6_clearSizes 31 = .ok (.goto (-26), 3) := by decide +kernel
theorem dX6_clearSizes_34 : decode cX6_clearSizes 34 = .ok (.iload_n 2, 1) := by decide +kernel
theorem dX6_clearSizes_35 : decode cX6_clearSizes 35 = .ok (.ireturn, 1) := by decide +kernel
theorem dX6_best_0 : decode cX6_best 0 = .ok (.aload_n 0, 1) := by decide +kernel
theorem dX6_best_1 : decode cX6_best 1 = .ok (.iload_n 1, 1) := by decide +kernel
theorem dX6_best_2 : decode cX6_best 2 = .ok (.iload_n 2, 1) := by decide +kernel
theorem dX6_best_3 : decode cX6_best 3 = .ok (.invokevirtual 70, 3) := by decide +kernel
theorem dX6_best_6 : decode cX6_best 6 = .ok (.ifCond .eq 12, 3) := by decide +kernel
theorem dX6_best_9 : decode cX6_best 9 = .ok (.iload_n 3, 1) := by decide +kernel
theorem dX6_best_10 : decode cX6_best 10 = .ok (.iconst 0, 1) := by decide +kernel
theorem dX6_best_11 : decode cX6_best 11 = .ok (.iconst 1, 1) := by decide +kernel
theorem dX6_best_12 : decode cX6_best 12 = .ok (.invokestatic 39, 3) := by decide +kernel
theorem dX6_best_15 : decode cX6_best 15 = .ok (.ifCond .ne 6, 3) := by decide +kernel
theorem dX6_best_18 : decode cX6_best 18 = .ok (.ldc 58, 2) := by decide +kernel
theorem dX6_best_20 : decode cX6_best 20 = .ok (.ireturn, 1) := by decide +kernel
theorem dX6_best_21 : decode cX6_best 21 = .ok (.aload_n 0, 1) := by decide +kernel
theorem dX6_best_22 : decode cX6_best 22 = .ok (.iload_n 1, 1) := by decide +kernel
theorem dX6_best_23 : decode cX6_best 23 = .ok (.iload_n 2, 1) := by decide +kernel
theorem dX6_best_24 : decode cX6_best 24 = .ok (.iconst 2, 1) := by decide +kernel
theorem dX6_best_25 : decode cX6_best 25 = .ok (.invokevirtual 55, 3) := by decide +kernel
theorem dX6_best_28 : decode cX6_best 28 = .ok (.istore 4, 2) := by decide +kernel
theorem dX6_best_30 : decode cX6_best 30 = .ok (.iconst 0, 1) := by decide +kernel
theorem dX6_best_31 : decode cX6_best 31 = .ok (.istore 5, 2) := by decide +kernel
theorem dX6_best_33 : decode cX6_best 33 = .ok (.iconst 0, 1) := by decide +kernel
theorem dX6_best_34 : decode cX6_best 34 = .ok (.istore 6, 2) := by decide +kernel
theorem dX6_best_36 : decode cX6_best 36 = .ok (.iconst 0, 1) := by decide +kernel
theorem dX6_best_37 : decode cX6_best 37 = .ok (.istore 7, 2) := by decide +kernel
theorem dX6_best_39 : decode cX6_best 39 = .ok (.iload 7, 2) := by decide +kernel
theorem dX6_best_41 : decode cX6_best 41 = .ok (.iconst 4, 1) := by decide +kernel
theorem dX6_best_42 : decode cX6_best 42 = .ok (.if_icmp .ge 61, 3) := by decide +kernel
theorem dX6_best_45 : decode cX6_best 45 = .ok (.aload_n 0, 1) := by decide +kernel
theorem dX6_best_46 : decode cX6_best 46 = .ok (.getfield 7, 3) := by decide +kernel
theorem dX6_best_49 : decode cX6_best 49 = .ok (.iload_n 1, 1) := by decide +kernel
theorem dX6_best_50 : decode cX6_best 50 = .ok (.iload_n 2, 1) := by decide +kernel
theorem dX6_best_51 : decode cX6_best 51 = .ok (.iconst 2, 1) := by decide +kernel
theorem dX6_best_52 : decode cX6_best 52 = .ok (.invokestatic 51, 3) := by decide +kernel
theorem dX6_best_55 : decode cX6_best 55 = .ok (.iload 7, 2) := by decide +kernel
theorem dX6_best_57 : decode cX6_best 57 = .ok (.iastore, 1) := by decide +kernel
theorem dX6_best_58 : decode cX6_best 58 = .ok (.aload_n 0, 1) := by decide +kernel
theorem dX6_best_59 : decode cX6_best 59 = .ok (.iload_n 1, 1) := by decide +kernel
theorem dX6_best_60 : decode cX6_best 60 = .ok (.invokevirtual 153, 3) := by decide +kernel
theorem dX6_best_63 : decode cX6_best 63 = .ok (.istore 8, 2) := by decide +kernel
theorem dX6_best_65 : decode cX6_best 65 = .ok (.iload 8, 2) := by decide +kernel
theorem dX6_best_67 : decode cX6_best 67 = .ok (.iload 6, 2) := by decide +kernel
theorem dX6_best_69 : decode cX6_best 69 = .ok (.if_icmp .le 8, 3) := by decide +kernel
theorem dX6_best_72 : decode cX6_best 72 = .ok (.iload 7, 2) := by decide +kernel
theorem dX6_best_74 : decode cX6_best 74 = .ok (.goto 5, 3) := by decide +kernel
theorem dX6_best_77 : decode cX6_best 77 = .ok (.iload 5, 2) := by decide +kernel
theorem dX6_best_79 : decode cX6_best 79 = .ok (.istore 5, 2) := by decide +kernel
theorem dX6_best_81 : decode cX6_best 81 = .ok (.iload 8, 2) := by decide +kernel
theorem dX6_best_83 : decode cX6_best 83 = .ok (.iload 6, 2) := by decide +kernel
theorem dX6_best_85 : decode cX6_best 85 = .ok (.if_icmp .le 8, 3) := by decide +kernel
theorem dX6_best_88 : decode cX6_best 88 = .ok (.iload 8, 2) := by decide +kernel
theorem dX6_best_90 : decode cX6_best 90 = .ok (.goto 5, 3) := by decide +kernel
theorem dX6_best_93 : decode cX6_best 93 = .ok (.iload 6, 2) := by decide +kernel
theorem dX6_best_95 : decode cX6_best 95 = .ok (.istore 6, 2) := by decide +kernel
theorem dX6_best_97 : decode cX6_best 97 = .ok (.iinc 7 1, 3) := by decide +kernel
theorem dX6_best_100 : decode cX6_best 100 = .ok (.goto (-61), 3) := by decide +kernel
theorem dX6_best_103 : decode cX6_best 103 = .ok (.aload_n 0, 1) := by decide +kernel
theorem dX6_best_104 : decode cX6_best 104 = .ok (.getfield 7, 3) := by decide +kernel
theorem dX6_best_107 : decode cX6_best 107 = .ok (.iload_n 1, 1) := by decide +kernel
theorem dX6_best_108 : decode cX6_best 108 = .ok (.iload_n 2, 1) := by decide +kernel
theorem dX6_best_109 : decode cX6_best 109 = .ok (.iconst 2, 1) := by decide +kernel
theorem dX6_best_110 : decode cX6_best 110 = .ok (.invokestatic 51, 3) := by decide +kernel
theorem dX6_best_113 : decode cX6_best 113 = .ok (.iload 4, 2) := by decide +kernel
theorem dX6_best_115 : decode cX6_best 115 = .ok (.iastore, 1) := by decide +kernel
theorem dX6_best_116 : decode cX6_best 116 = .ok (.iload_n 3, 1) := by decide +kernel
theorem dX6_best_117 : decode cX6_best 117 = .ok (.ifCond .ne 8, 3) := by decide +kernel
theorem dX6_best_120 : decode cX6_best 120 = .ok (.iload 5, 2) := by decide +kernel
theorem dX6_best_122 : decode cX6_best 122 = .ok (.goto 5, 3) := by decide +kernel
theorem dX6_best_125 : decode cX6_best 125 = .ok (.iload 6, 2) := by decide +kernel
theorem dX6_best_127 : decode cX6_best 127 = .ok (.ireturn, 1) := by decide +kernel
theorem dX6_stems_0 : decode cX6_stems 0 = .ok (.iconst 0, 1) := by decide +kernel
theorem dX6_stems_1 : decode cX6_stems 1 = .ok (.istore_n 1, 1) := by decide +kernel
theorem dX6_stems_2 : decode cX6_stems 2 = .ok (.iconst 0, 1) := by decide +kernel
theorem dX6_stems_3 : decode cX6_stems 3 = .ok (.istore_n 2, 1) := by decide +kernel
theorem dX6_stems_4 : decode cX6_stems 4 = .ok (.iload_n 2, 1) := by decide +kernel
theorem dX6_stems_5 : decode cX6_stems 5 = .ok (.aload_n 0, 1) := by decide +kernel
theorem dX6_stems_6 : decode cX6_stems 6 = .ok (.getfield 7, 3) := by decide +kernel
theorem dX6_stems_9 : decode cX6_stems 9 = .ok (.iconst 0, 1) := by decide +kernel
theorem dX6_stems_10 : decode cX6_stems 10 = .ok (.iaload, 1) := by decide +kernel
theorem dX6_stems_11 : decode cX6_stems 11 = .ok (.if_icmp .ge 18, 3) := by decide +kernel
theorem dX6_stems_14 : decode cX6_stems 14 = .ok (.iload_n 1, 1) := by decide +kernel
theorem dX6_stems_15 : decode cX6_stems 15 = .ok (.aload_n 0, 1) := by decide +kernel
theorem dX6_stems_16 : decode cX6_stems 16 = .ok (.iload_n 2, 1) := by decide +kernel
theorem dX6_stems_17 : decode cX6_stems 17 = .ok (.iconst 1, 1) := by decide +kernel
theorem dX6_stems_18 : decode cX6_stems 18 = .ok (.invokevirtual 47, 3) := by decide +kernel
theorem dX6_stems_21 : decode cX6_stems 21 = .ok (.iadd, 1) := by decide +kernel
theorem dX6_stems_22 : decode cX6_stems 22 = .ok (.istore_n 1, 1) := by decide +kernel
theorem dX6_stems_23 : decode cX6_stems 23 = .ok (.iinc 2 1, 3) := by decide +kernel
theorem dX6_stems_26 : decode cX6_stems 26 = .ok (.goto (-22), 3) := by decide +kernel
theorem dX6_stems_29 : decode cX6_stems 29 = .ok (.iload_n 1, 1) := by decide +kernel
theorem dX6_stems_30 : decode cX6_stems 30 = .ok (.ireturn, 1) := by decide +kernel
theorem dX6_mean_0 : decode cX6_mean 0 = .ok (.iconst 0, 1) := by decide +kernel
theorem dX6_mean_1 : decode cX6_mean 1 = .ok (.istore_n 1, 1) := by decide +kernel
theorem dX6_mean_2 : decode cX6_mean 2 = .ok (.iconst 0, 1) := by decide +kernel
theorem dX6_mean_3 : decode cX6_mean 3 = .ok (.istore_n 2, 1) := by decide +kernel
theorem dX6_mean_4 : decode cX6_mean 4 = .ok (.iload_n 2, 1) := by decide +kernel
theorem dX6_mean_5 : decode cX6_mean 5 = .ok (.aload_n 0, 1) := by decide +kernel
theorem dX6_mean_6 : decode cX6_mean 6 = .ok (.getfield 7, 3) := by decide +kernel
theorem dX6_mean_9 : decode cX6_mean 9 = .ok (.iconst 0, 1) := by decide +kernel
theorem dX6_mean_10 : decode cX6_mean 10 = .ok (.iaload, 1) := by decide +kernel
theorem dX6_mean_11 : decode cX6_mean 11 = .ok (.if_icmp .ge 37, 3) := by decide +kernel
theorem dX6_mean_14 : decode cX6_mean 14 = .ok (.iconst 0, 1) := by decide +kernel
theorem dX6_mean_15 : decode cX6_mean 15 = .ok (.istore_n 3, 1) := by decide +kernel
theorem dX6_mean_16 : decode cX6_mean 16 = .ok (.iload_n 3, 1) := by decide +kernel
theorem dX6_mean_17 : decode cX6_mean 17 = .ok (.aload_n 0, 1) := by decide +kernel
theorem dX6_mean_18 : decode cX6_mean 18 = .ok (.iload_n 2, 1) := by decide +kernel
theorem dX6_mean_19 : decode cX6_mean 19 = .ok (.iconst 1, 1) := by decide +kernel
theorem dX6_mean_20 : decode cX6_mean 20 = .ok (.invokevirtual 47, 3) := by decide +kernel
theorem dX6_mean_23 : decode cX6_mean 23 = .ok (.if_icmp .ge 19, 3) := by decide +kernel
theorem dX6_mean_26 : decode cX6_mean 26 = .ok (.iload_n 1, 1) := by decide +kernel
theorem dX6_mean_27 : decode cX6_mean 27 = .ok (.aload_n 0, 1) := by decide +kernel
theorem dX6_mean_28 : decode cX6_mean 28 = .ok (.iload_n 2, 1) := by decide +kernel
theorem dX6_mean_29 : decode cX6_mean 29 = .ok (.iload_n 3, 1) := by decide +kernel
theorem dX6_mean_30 : decode cX6_mean 30 = .ok (.iconst 1, 1) := by decide +kernel
theorem dX6_mean_31 : decode cX6_mean 31 = .ok (.invokevirtual 55, 3) := by decide +kernel
theorem dX6_mean_34 : decode cX6_mean 34 = .ok (.iadd, 1) := by decide +kernel
theorem dX6_mean_35 : decode cX6_mean 35 = .ok (.istore_n 1, 1) := by decide +kernel
theorem dX6_mean_36 : decode cX6_mean 36 = .ok (.iinc 3 1, 3) := by decide +kernel
theorem dX6_mean_39 : decode cX6_mean 39 = .ok (.goto (-23), 3) := by decide +kernel
theorem dX6_mean_42 : decode cX6_mean 42 = .ok (.iinc 2 1, 3) := by decide +kernel
theorem dX6_mean_45 : decode cX6_mean 45 = .ok (.goto (-41), 3) := by decide +kernel
theorem dX6_mean_48 : decode cX6_mean 48 = .ok (.iload_n 1, 1) := by decide +kernel
theorem dX6_mean_49 : decode cX6_mean 49 = .ok (.i2f, 1) := by decide +kernel
theorem dX6_mean_50 : decode cX6_mean 50 = .ok (.aload_n 0, 1) := by decide +kernel
theorem dX6_mean_51 : decode cX6_mean 51 = .ok (.invokevirtual 156, 3) := by decide +kernel
theorem dX6_mean_54 : decode cX6_mean 54 = .ok (.ifCond .ne 7, 3) := by decide +kernel
theorem dX6_mean_57 : decode cX6_mean 57 = .ok (.iconst 1, 1) := by decide +kernel
theorem dX6_mean_58 : decode cX6_mean 58 = .ok (.goto 7, 3) := by decide +kernel
theorem dX6_mean_61 : decode cX6_mean 61 = .ok (.aload_n 0, 1) := by decide +kernel
theorem dX6_mean_62 : decode cX6_mean 62 = .ok (.invokevirtual 156, 3) := by decide +kernel
theorem dX6_mean_65 : decode cX6_mean 65 = .ok (.i2f, 1) := by decide +kernel
theorem dX6_mean_66 : decode cX6_mean 66 = .ok (.fdiv, 1) := by decide +kernel
theorem dX6_mean_67 : decode cX6_mean 67 = .ok (.fstore_n 2, 1) := by decide +kernel
theorem dX6_mean_68 : decode cX6_mean 68 = .ok (.aload_n 0, 1) := by decide +kernel
theorem dX6_mean_69 : decode cX6_mean 69 = .ok (.invokevirtual 156, 3) := by decide +kernel
theorem dX6_mean_72 : decode cX6_mean 72 = .ok (.ifCond .ne 8, 3) := by decide +kernel
theorem dX6_mean_75 : decode cX6_mean 75 = .ok (.ldc 74, 2) := by decide +kernel
theorem dX6_mean_77 : decode cX6_mean 77 = .ok (.goto 7, 3) := by decide +kernel
theorem dX6_mean_80 : decode cX6_mean 80 = .ok (.fload_n 2, 1) := by decide +kernel
theorem dX6_mean_81 : decode cX6_mean 81 = .ok (.invokestatic 160, 3) := by decide +kernel
theorem dX6_mean_84 : decode cX6_mean 84 = .ok (.ireturn, 1) := by decide +kernel
theorem dX6_stales_0 : decode cX6_stales 0 = .ok (.iconst 0, 1) := by decide +kernel
theorem dX6_stales_1 : decode cX6_stales 1 = .ok (.istore_n 1, 1) := by decide +kernel
theorem dX6_stales_2 : decode cX6_stales 2 = .ok (.iconst 0, 1) := by decide +kernel
theorem dX6_stales_3 : decode cX6_stales 3 = .ok (.istore_n 2, 1) := by decide +kernel
theorem dX6_stales_4 : decode cX6_stales 4 = .ok (.iload_n 2, 1) := by decide +kernel
theorem dX6_stales_5 : decode cX6_stales 5 = .ok (.aload_n 0, 1) := by decide +kernel
theorem dX6_stales_6 : decode cX6_stales 6 = .ok (.getfield 7, 3) := by decide +kernel
theorem dX6_stales_9 : decode cX6_stales 9 = .ok (.bipush 7, 2) := by decide +kernel
theorem dX6_stales_11 : decode cX6_stales 11 = .ok (.iaload, 1) := by decide +kernel
theorem dX6_stales_12 : decode cX6_stales 12 = .ok (.if_icmp .ge 25, 3) := by decide +kernel
theorem dX6_stales_15 : decode cX6_stales 15 = .ok (.iload_n 1, 1) := by decide +kernel
theorem dX6_stales_16 : decode cX6_stales 16 = .ok (.aload_n 0, 1) := by decide +kernel
theorem dX6_stales_17 : decode cX6_stales 17 = .ok (.iload_n 2, 1) := by decide +kernel
theorem dX6_stales_18 : decode cX6_stales 18 = .ok (.invokevirtual 144, 3) := by decide +kernel
theorem dX6_stales_21 : decode cX6_stales 21 = .ok (.ifCond .eq 7, 3) := by decide +kernel
theorem dX6_stales_24 : decode cX6_stales 24 = .ok (.iconst 1, 1) := by decide +kernel
theorem dX6_stales_25 : decode cX6_stales 25 = .ok (.goto 4, 3) := by decide +kernel
theorem dX6_stales_28 : decode cX6_stales 28 = .ok (.iconst 0, 1) := by decide +kernel
theorem dX6_stales_29 : decode cX6_stales 29 = .ok (.iadd, 1) := by decide +kernel
theorem dX6_stales_30 : decode cX6_stales 30 = .ok (.istore_n 1, 1) := by decide +kernel
theorem dX6_stales_31 : decode cX6_stales 31 = .ok (.iinc 2 1, 3) := by decide +kernel
theorem dX6_stales_34 : decode cX6_stales 34 = .ok (.goto (-30), 3) := by decide +kernel
theorem dX6_stales_37 : decode cX6_stales 37 = .ok (.iload_n 1, 1) := by decide +kernel
theorem dX6_stales_38 : decode cX6_stales 38 = .ok (.ireturn, 1) := by decide +kernel
theorem dX6_unlikeWidths_0 : decode cX6_unlikeWidths 0 = .ok (.iconst 0, 1) := by decide +kernel
theorem dX6_unlikeWidths_1 : decode cX6_unlikeWidths 1 = .ok (.istore_n 1, 1) := by decide +kernel
theorem dX6_unlikeWidths_2 : decode cX6_unlikeWidths 2 = .ok (.iconst 1, 1) := by decide +kernel
theorem dX6_unlikeWidths_3 : decode cX6_unlikeWidths 3 = .ok (.istore_n 2, 1) := by decide +kernel
theorem dX6_unlikeWidths_4 : decode cX6_unlikeWidths 4 = .ok (.iload_n 2, 1) := by decide +kernel
theorem dX6_unlikeWidths_5 : decode cX6_unlikeWidths 5 = .ok (.sipush 301, 3) := by decide +kernel
theorem dX6_unlikeWidths_8 : decode cX6_unlikeWidths 8 = .ok (.if_icmp .ge 25, 3) := by decide +kernel
theorem dX6_unlikeWidths_11 : decode cX6_unlikeWidths 11 = .ok (.iload_n 1, 1) := by decide +kernel
theorem dX6_unlikeWidths_12 : decode cX6_unlikeWidths 12 = .ok (.aload_n 0, 1) := by decide +kernel
theorem dX6_unlikeWidths_13 : decode cX6_unlikeWidths 13 = .ok (.iload_n 2, 1) := by decide +kernel
theorem dX6_unlikeWidths_14 : decode cX6_unlikeWidths 14 = .ok (.invokevirtual 135, 3) := by decide +kernel
theorem dX6_unlikeWidths_17 : decode cX6_unlikeWidths 17 = .ok (.ifCond .le 7, 3) := by decide +kernel
theorem dX6_unlikeWidths_20 : decode cX6_unlikeWidths 20 = .ok (.iconst 1, 1) := by decide +kernel
theorem dX6_unlikeWidths_21 : decode cX6_unlikeWidths 21 = .ok (.goto 4, 3) := by decide +kernel
theorem dX6_unlikeWidths_24 : decode cX6_unlikeWidths 24 = .ok (.iconst 0, 1) := by decide +kernel
theorem dX6_unlikeWidths_25 : decode cX6_unlikeWidths 25 = .ok (.iadd, 1) := by decide +kernel
theorem dX6_unlikeWidths_26 : decode cX6_unlikeWidths 26 = .ok (.istore_n 1, 1) := by decide +kernel
theorem dX6_unlikeWidths_27 : decode cX6_unlikeWidths 27 = .ok (.iinc 2 1, 3) := by decide +kernel
theorem dX6_unlikeWidths_30 : decode cX6_unlikeWidths 30 = .ok (.goto (-26), 3) := by decide +kernel
theorem dX6_unlikeWidths_33 : decode cX6_unlikeWidths 33 = .ok (.iload_n 1, 1) := by decide +kernel
theorem dX6_unlikeWidths_34 : decode cX6_unlikeWidths 34 = .ok (.ireturn, 1) := by decide +kernel
theorem dX6_count_0 : decode cX6_count 0 = .ok (.iload_n 1, 1) := by decide +kernel
theorem dX6_count_1 : decode cX6_count 1 = .ok (.tableswitch 152 0 12 #[67, 74, 79, 86, 94, 99, 104, 112, 117, 152, 122, 122, 122], 67) := by decide +kernel
theorem dX6_count_68 : decode cX6_count 68 = .ok (.aload_n 0, 1) := by decide +kernel
theorem dX6_count_69 : decode cX6_count 69 = .ok (.getfield 7, 3) := by decide +kernel
theorem dX6_count_72 : decode cX6_count 72 = .ok (.iconst 0, 1) := by decide +kernel
theorem dX6_count_73 : decode cX6_count 73 = .ok (.iaload, 1) := by decide +kernel
theorem dX6_count_74 : decode cX6_count 74 = .ok (.ireturn, 1) := by decide +kernel
theorem dX6_count_75 : decode cX6_count 75 = .ok (.aload_n 0, 1) := by decide +kernel
theorem dX6_count_76 : decode cX6_count 76 = .ok (.invokevirtual 156, 3) := by decide +kernel
theorem dX6_count_79 : decode cX6_count 79 = .ok (.ireturn, 1) := by decide +kernel
theorem dX6_count_80 : decode cX6_count 80 = .ok (.aload_n 0, 1) := by decide +kernel
theorem dX6_count_81 : decode cX6_count 81 = .ok (.getfield 7, 3) := by decide +kernel
theorem dX6_count_84 : decode cX6_count 84 = .ok (.iconst 1, 1) := by decide +kernel
theorem dX6_count_85 : decode cX6_count 85 = .ok (.iaload, 1) := by decide +kernel
theorem dX6_count_86 : decode cX6_count 86 = .ok (.ireturn, 1) := by decide +kernel
theorem dX6_count_87 : decode cX6_count 87 = .ok (.aload_n 0, 1) := by decide +kernel
theorem dX6_count_88 : decode cX6_count 88 = .ok (.getfield 7, 3) := by decide +kernel
theorem dX6_count_91 : decode cX6_count 91 = .ok (.bipush 7, 2) := by decide +kernel
theorem dX6_count_93 : decode cX6_count 93 = .ok (.iaload, 1) := by decide +kernel
theorem dX6_count_94 : decode cX6_count 94 = .ok (.ireturn, 1) := by decide +kernel
theorem dX6_count_95 : decode cX6_count 95 = .ok (.aload_n 0, 1) := by decide +kernel
theorem dX6_count_96 : decode cX6_count 96 = .ok (.invokevirtual 166, 3) := by decide +kernel
theorem dX6_count_99 : decode cX6_count 99 = .ok (.ireturn, 1) := by decide +kernel
theorem dX6_count_100 : decode cX6_count 100 = .ok (.aload_n 0, 1) := by decide +kernel
theorem dX6_count_101 : decode cX6_count 101 = .ok (.invokevirtual 169, 3) := by decide +kernel
theorem dX6_count_104 : decode cX6_count 104 = .ok (.ireturn, 1) := by decide +kernel
theorem dX6_count_105 : decode cX6_count 105 = .ok (.aload_n 0, 1) := by decide +kernel
theorem dX6_count_106 : decode cX6_count 106 = .ok (.getfield 7, 3) := by decide +kernel
theorem dX6_count_109 : decode cX6_count 109 = .ok (.bipush 8, 2) := by decide +kernel
theorem dX6_count_111 : decode cX6_count 111 = .ok (.iaload, 1) := by decide +kernel
theorem dX6_count_112 : decode cX6_count 112 = .ok (.ireturn, 1) := by decide +kernel
theorem dX6_count_113 : decode cX6_count 113 = .ok (.aload_n 0, 1) := by decide +kernel
theorem dX6_count_114 : decode cX6_count 114 = .ok (.getfield 35, 3) := by decide +kernel
theorem dX6_count_117 : decode cX6_count 117 = .ok (.ireturn, 1) := by decide +kernel
theorem dX6_count_118 : decode cX6_count 118 = .ok (.aload_n 0, 1) := by decide +kernel
theorem dX6_count_119 : decode cX6_count 119 = .ok (.getfield 172, 3) := by decide +kernel
theorem dX6_count_122 : decode cX6_count 122 = .ok (.ireturn, 1) := by decide +kernel
theorem dX6_count_123 : decode cX6_count 123 = .ok (.iload_n 1, 1) := by decide +kernel
theorem dX6_count_124 : decode cX6_count 124 = .ok (.bipush 10, 2) := by decide +kernel
theorem dX6_count_126 : decode cX6_count 126 = .ok (.isub, 1) := by decide +kernel
theorem dX6_count_127 : decode cX6_count 127 = .ok (.aload_n 0, 1) := by decide +kernel
theorem dX6_count_128 : decode cX6_count 128 = .ok (.getfield 7, 3) := by decide +kernel
theorem dX6_count_131 : decode cX6_count 131 = .ok (.iconst 1, 1) := by decide +kernel
theorem dX6_count_132 : decode cX6_count 132 = .ok (.iaload, 1) := by decide +kernel
theorem dX6_count_133 : decode cX6_count 133 = .ok (.if_icmp .ge 17, 3) := by decide +kernel
theorem dX6_count_136 : decode cX6_count 136 = .ok (.aload_n 0, 1) := by decide +kernel
theorem dX6_count_137 : decode cX6_count 137 = .ok (.getfield 7, 3) := by decide +kernel
theorem dX6_count_140 : decode cX6_count 140 = .ok (.iconst 2, 1) := by decide +kernel
theorem dX6_count_141 : decode cX6_count 141 = .ok (.iload_n 1, 1) := by decide +kernel
theorem dX6_count_142 : decode cX6_count 142 = .ok (.iadd, 1) := by decide +kernel
theorem dX6_count_143 : decode cX6_count 143 = .ok (.bipush 10, 2) := by decide +kernel
theorem dX6_count_145 : decode cX6_count 145 = .ok (.isub, 1) := by decide +kernel
theorem dX6_count_146 : decode cX6_count 146 = .ok (.iaload, 1) := by decide +kernel
theorem dX6_count_147 : decode cX6_count 147 = .ok (.goto 5, 3) := by decide +kernel
theorem dX6_count_150 : decode cX6_count 150 = .ok (.ldc 74, 2) := by decide +kernel
theorem dX6_count_152 : decode cX6_count 152 = .ok (.ireturn, 1) := by decide +kernel
theorem dX6_count_153 : decode cX6_count 153 = .ok (.iload_n 1, 1) := by decide +kernel
theorem dX6_count_154 : decode cX6_count 154 = .ok (.bipush 20, 2) := by decide +kernel
theorem dX6_count_156 : decode cX6_count 156 = .ok (.bipush 21, 2) := by decide +kernel
theorem dX6_count_158 : decode cX6_count 158 = .ok (.invokestatic 39, 3) := by decide +kernel
theorem dX6_count_161 : decode cX6_count 161 = .ok (.ifCond .eq 17, 3) := by decide +kernel
theorem dX6_count_164 : decode cX6_count 164 = .ok (.aload_n 0, 1) := by decide +kernel
theorem dX6_count_165 : decode cX6_count 165 = .ok (.getfield 7, 3) := by decide +kernel
theorem dX6_count_168 : decode cX6_count 168 = .ok (.iconst 5, 1) := by decide +kernel
theorem dX6_count_169 : decode cX6_count 169 = .ok (.iload_n 1, 1) := by decide +kernel
theorem dX6_count_170 : decode cX6_count 170 = .ok (.iadd, 1) := by decide +kernel
theorem dX6_count_171 : decode cX6_count 171 = .ok (.bipush 20, 2) := by decide +kernel
theorem dX6_count_173 : decode cX6_count 173 = .ok (.isub, 1) := by decide +kernel
theorem dX6_count_174 : decode cX6_count 174 = .ok (.iaload, 1) := by decide +kernel
theorem dX6_count_175 : decode cX6_count 175 = .ok (.goto 5, 3) := by decide +kernel
theorem dX6_count_178 : decode cX6_count 178 = .ok (.ldc 58, 2) := by decide +kernel
theorem dX6_count_180 : decode cX6_count 180 = .ok (.ireturn, 1) := by decide +kernel
theorem dX6_undo_0 : decode cX6_undo 0 = .ok (.aload_n 0, 1) := by decide +kernel
theorem dX6_undo_1 : decode cX6_undo 1 = .ok (.getfield 35, 3) := by decide +kernel
theorem dX6_undo_4 : decode cX6_undo 4 = .ok (.ifCond .ne 6, 3) := by decide +kernel
theorem dX6_undo_7 : decode cX6_undo 7 = .ok (.ldc 69, 2) := by decide +kernel
theorem dX6_undo_9 : decode cX6_undo 9 = .ok (.ireturn, 1) := by decide +kernel
theorem dX6_undo_10 : decode cX6_undo 10 = .ok (.aload_n 0, 1) := by decide +kernel
theorem dX6_undo_11 : decode cX6_undo 11 = .ok (.dup, 1) := by decide +kernel
theorem dX6_undo_12 : decode cX6_undo 12 = .ok (.getfield 35, 3) := by decide +kernel
theorem dX6_undo_15 : decode cX6_undo 15 = .ok (.iconst 1, 1) := by decide +kernel
theorem dX6_undo_16 : decode cX6_undo 16 = .ok (.isub, 1) := by decide +kernel
theorem dX6_undo_17 : decode cX6_undo 17 = .ok (.putfield 35, 3) := by decide +kernel
theorem dX6_undo_20 : decode cX6_undo 20 = .ok (.iconst 0, 1) := by decide +kernel
theorem dX6_undo_21 : decode cX6_undo 21 = .ok (.istore_n 1, 1) := by decide +kernel
theorem dX6_undo_22 : decode cX6_undo 22 = .ok (.iload_n 1, 1) := by decide +kernel
theorem dX6_undo_23 : decode cX6_undo 23 = .ok (.sipush 273, 3) := by decide +kernel
theorem dX6_undo_26 : decode cX6_undo 26 = .ok (.if_icmp .ge 30, 3) := by decide +kernel
theorem dX6_undo_29 : decode cX6_undo 29 = .ok (.aload_n 0, 1) := by decide +kernel
theorem dX6_undo_30 : decode cX6_undo 30 = .ok (.getfield 7, 3) := by decide +kernel
theorem dX6_undo_33 : decode cX6_undo 33 = .ok (.iload_n 1, 1) := by decide +kernel
theorem dX6_undo_34 : decode cX6_undo 34 = .ok (.aload_n 0, 1) := by decide +kernel
theorem dX6_undo_35 : decode cX6_undo 35 = .ok (.getfield 13, 3) := by decide +kernel
theorem dX6_undo_38 : decode cX6_undo 38 = .ok (.sipush 273, 3) := by decide +kernel
theorem dX6_undo_41 : decode cX6_undo 41 = .ok (.aload_n 0, 1) := by decide +kernel
theorem dX6_undo_42 : decode cX6_undo 42 = .ok (.getfield 35, 3) := by decide +kernel
theorem dX6_undo_45 : decode cX6_undo 45 = .ok (.imul, 1) := by decide +kernel
theorem dX6_undo_46 : decode cX6_undo 46 = .ok (.iload_n 1, 1) := by decide +kernel
theorem dX6_undo_47 : decode cX6_undo 47 = .ok (.iadd, 1) := by decide +kernel
theorem dX6_undo_48 : decode cX6_undo 48 = .ok (.iaload, 1) := by decide +kernel
theorem dX6_undo_49 : decode cX6_undo 49 = .ok (.iastore, 1) := by decide +kernel
theorem dX6_undo_50 : decode cX6_undo 50 = .ok (.iinc 1 1, 3) := by decide +kernel
theorem dX6_undo_53 : decode cX6_undo 53 = .ok (.goto (-31), 3) := by decide +kernel
theorem dX6_undo_56 : decode cX6_undo 56 = .ok (.aload_n 0, 1) := by decide +kernel
theorem dX6_undo_57 : decode cX6_undo 57 = .ok (.getfield 35, 3) := by decide +kernel
theorem dX6_undo_60 : decode cX6_undo 60 = .ok (.ireturn, 1) := by decide +kernel
theorem dX6_type_0 : decode cX6_type 0 = .ok (.iload_n 1, 1) := by decide +kernel
theorem dX6_type_1 : decode cX6_type 1 = .ok (.bipush 32, 2) := by decide +kernel
theorem dX6_type_3 : decode cX6_type 3 = .ok (.bipush 126, 2) := by decide +kernel
theorem dX6_type_5 : decode cX6_type 5 = .ok (.invokestatic 39, 3) := by decide +kernel
theorem dX6_type_8 : decode cX6_type 8 = .ok (.ifCond .ne 6, 3) := by decide +kernel
theorem dX6_type_11 : decode cX6_type 11 = .ok (.ldc 58, 2) := by decide +kernel
theorem dX6_type_13 : decode cX6_type 13 = .ok (.ireturn, 1) := by decide +kernel
theorem dX6_type_14 : decode cX6_type 14 = .ok (.aload_n 0, 1) := by decide +kernel
theorem dX6_type_15 : decode cX6_type 15 = .ok (.getfield 172, 3) := by decide +kernel
theorem dX6_type_18 : decode cX6_type 18 = .ok (.bipush 60, 2) := by decide +kernel
theorem dX6_type_20 : decode cX6_type 20 = .ok (.if_icmp .ne 6, 3) := by decide +kernel
theorem dX6_type_23 : decode cX6_type 23 = .ok (.ldc 59, 2) := by decide +kernel
theorem dX6_type_25 : decode cX6_type 25 = .ok (.ireturn, 1) := by decide +kernel
theorem dX6_type_26 : decode cX6_type 26 = .ok (.aload_n 0, 1) := by decide +kernel
theorem dX6_type_27 : decode cX6_type 27 = .ok (.getfield 19, 3) := by decide +kernel
theorem dX6_type_30 : decode cX6_type 30 = .ok (.aload_n 0, 1) := by decide +kernel
theorem dX6_type_31 : decode cX6_type 31 = .ok (.getfield 172, 3) := by decide +kernel
theorem dX6_type_34 : decode cX6_type 34 = .ok (.iload_n 1, 1) := by decide +kernel
theorem dX6_type_35 : decode cX6_type 35 = .ok (.iastore, 1) := by decide +kernel
theorem dX6_type_36 : decode cX6_type 36 = .ok (.aload_n 0, 1) := by decide +kernel
theorem dX6_type_37 : decode cX6_type 37 = .ok (.dup, 1) := by decide +kernel
theorem dX6_type_38 : decode cX6_type 38 = .ok (.getfield 172, 3) := by decide +kernel
theorem dX6_type_41 : decode cX6_type 41 = .ok (.iconst 1, 1) := by decide +kernel
theorem dX6_type_42 : decode cX6_type 42 = .ok (.iadd, 1) := by decide +kernel
theorem dX6_type_43 : decode cX6_type 43 = .ok (.putfield 172, 3) := by decide +kernel
theorem dX6_type_46 : decode cX6_type 46 = .ok (.aload_n 0, 1) := by decide +kernel
theorem dX6_type_47 : decode cX6_type 47 = .ok (.getfield 172, 3) := by decide +kernel
theorem dX6_type_50 : decode cX6_type 50 = .ok (.ireturn, 1) := by decide +kernel
theorem dX6_clearText_0 : decode cX6_clearText 0 = .ok (.aload_n 0, 1) := by decide +kernel
theorem dX6_clearText_1 : decode cX6_clearText 1 = .ok (.getfield 172, 3) := by decide +kernel
theorem dX6_clearText_4 : decode cX6_clearText 4 = .ok (.istore_n 1, 1) := by decide +kernel
theorem dX6_clearText_5 : decode cX6_clearText 5 = .ok (.aload_n 0, 1) := by decide +kernel
theorem dX6_clearText_6 : decode cX6_clearText 6 = .ok (.iconst 0, 1) := by decide +kernel
theorem dX6_clearText_7 : decode cX6_clearText 7 = .ok (.putfield 172, 3) := by decide +kernel
theorem dX6_clearText_10 : decode cX6_clearText 10 = .ok (.iload_n 1, 1) := by decide +kernel
theorem dX6_clearText_11 : decode cX6_clearText 11 = .ok (.ireturn, 1) := by decide +kernel
theorem dX6_isAt_0 : decode cX6_isAt 0 = .ok (.aload_n 0, 1) := by decide +kernel
theorem dX6_isAt_1 : decode cX6_isAt 1 = .ok (.getfield 175, 3) := by decide +kernel
theorem dX6_isAt_4 : decode cX6_isAt 4 = .ok (.aload_n 0, 1) := by decide +kernel
theorem dX6_isAt_5 : decode cX6_isAt 5 = .ok (.getfield 172, 3) := by decide +kernel
theorem dX6_isAt_8 : decode cX6_isAt 8 = .ok (.if_icmp .ge 24, 3) := by decide +kernel
theorem dX6_isAt_11 : decode cX6_isAt 11 = .ok (.aload_n 0, 1) := by decide +kernel
theorem dX6_isAt_12 : decode cX6_isAt 12 = .ok (.getfield 19, 3) := by decide +kernel
theorem dX6_isAt_15 : decode cX6_isAt 15 = .ok (.aload_n 0, 1) := by decide +kernel
theorem dX6_isAt_16 : decode cX6_isAt 16 = .ok (.getfield 175, 3) := by decide +kernel
theorem dX6_isAt_19 : decode cX6_isAt 19 = .ok (.iaload, 1) := by decide +kernel
theorem dX6_isAt_20 : decode cX6_isAt 20 = .ok (.iload_n 1, 1) := by decide +kernel
theorem dX6_isAt_21 : decode cX6_isAt 21 = .ok (.iload_n 2, 1) := by decide +kernel
theorem dX6_isAt_22 : decode cX6_isAt 22 = .ok (.invokestatic 39, 3) := by decide +kernel
theorem dX6_isAt_25 : decode cX6_isAt 25 = .ok (.ifCond .eq 7, 3) := by decide +kernel
theorem dX6_isAt_28 : decode cX6_isAt 28 = .ok (.iconst 1, 1) := by decide +kernel
theorem dX6_isAt_29 : decode cX6_isAt 29 = .ok (.goto 4, 3) := by decide +kernel
theorem dX6_isAt_32 : decode cX6_isAt 32 = .ok (.iconst 0, 1) := by decide +kernel
theorem dX6_isAt_33 : decode cX6_isAt 33 = .ok (.ireturn, 1) := by decide +kernel
theorem dX6_sign_0 : decode cX6_sign 0 = .ok (.aload_n 0, 1) := by decide +kernel
theorem dX6_sign_1 : decode cX6_sign 1 = .ok (.iload_n 1, 1) := by decide +kernel
theorem dX6_sign_2 : decode cX6_sign 2 = .ok (.iload_n 1, 1) := by decide +kernel
theorem dX6_sign_3 : decode cX6_sign 3 = .ok (.invokevirtual 178, 3) := by decide +kernel
theorem dX6_sign_6 : decode cX6_sign 6 = .ok (.istore_n 2, 1) := by decide +kernel
theorem dX6_sign_7 : decode cX6_sign 7 = .ok (.aload_n 0, 1) := by decide +kernel
theorem dX6_sign_8 : decode cX6_sign 8 = .ok (.dup, 1) := by decide +kernel
theorem dX6_sign_9 : decode cX6_sign 9 = .ok (.getfield 175, 3) := by decide +kernel
theorem dX6_sign_12 : decode cX6_sign 12 = .ok (.iload_n 2, 1) := by decide +kernel
theorem dX6_sign_13 : decode cX6_sign 13 = .ok (.ifCond .eq 7, 3) := by decide +kernel
theorem dX6_sign_16 : decode cX6_sign 16 = .ok (.iconst 1, 1) := by decide +kernel
theorem dX6_sign_17 : decode cX6_sign 17 = .ok (.goto 4, 3) := by decide +kernel
theorem dX6_sign_20 : decode cX6_sign 20 = .ok (.iconst 0, 1) := by decide +kernel
theorem dX6_sign_21 : decode cX6_sign 21 = .ok (.iadd, 1) := by decide +kernel
theorem dX6_sign_22 : decode cX6_sign 22 = .ok (.putfield 175, 3) := by decide +kernel
theorem dX6_sign_25 : decode cX6_sign 25 = .ok (.iload_n 2, 1) := by decide +kernel
theorem dX6_sign_26 : decode cX6_sign 26 = .ok (.ireturn, 1) := by decide +kernel
theorem dX6_numbered_0 : decode cX6_numbered 0 = .ok (.aload_n 0, 1) := by decide +kernel
theorem dX6_numbered_1 : decode cX6_numbered 1 = .ok (.getfield 175, 3) := by decide +kernel
theorem dX6_numbered_4 : decode cX6_numbered 4 = .ok (.istore_n 2, 1) := by decide +kernel
theorem dX6_numbered_5 : decode cX6_numbered 5 = .ok (.aload_n 0, 1) := by decide +kernel
theorem dX6_numbered_6 : decode cX6_numbered 6 = .ok (.getfield 28, 3) := by decide +kernel
theorem dX6_numbered_9 : decode cX6_numbered 9 = .ok (.iload_n 1, 1) := by decide +kernel
theorem dX6_numbered_10 : decode cX6_numbered 10 = .ok (.iconst 0, 1) := by decide +kernel
theorem dX6_numbered_11 : decode cX6_numbered 11 = .ok (.iastore, 1) := by decide +kernel
theorem dX6_numbered_12 : decode cX6_numbered 12 = .ok (.aload_n 0, 1) := by decide +kernel
theorem dX6_numbered_13 : decode cX6_numbered 13 = .ok (.bipush 48, 2) := by decide +kernel
theorem dX6_numbered_15 : decode cX6_numbered 15 = .ok (.bipush 57, 2) := by decide +kernel
theorem dX6_numbered_17 : decode cX6_numbered 17 = .ok (.invokevirtual 178, 3) := by decide +kernel
theorem dX6_numbered_20 : decode cX6_numbered 20 = .ok (.ifCond .eq 54, 3) := by decide +kernel
theorem dX6_numbered_23 : decode cX6_numbered 23 = .ok (.aload_n 0, 1) := by decide +kernel
theorem dX6_numbered_24 : decode cX6_numbered 24 = .ok (.getfield 175, 3) := by decide +kernel
theorem dX6_numbered_27 : decode cX6_numbered 27 = .ok (.iload_n 2, 1) := by decide +kernel
theorem dX6_numbered_28 : decode cX6_numbered 28 = .ok (.isub, 1) := by decide +kernel
theorem dX6_numbered_29 : decode cX6_numbered 29 = .ok (.iconst 4, 1) := by decide +kernel
theorem dX6_numbered_30 : decode cX6_numbered 30 = .ok (.if_icmp .ge 44, 3) := by decide +kernel
theorem dX6_numbered_33 : decode cX6_numbered 33 = .ok (.aload_n 0, 1) := by decide +kernel
theorem dX6_numbered_34 : decode cX6_numbered 34 = .ok (.getfield 28, 3) := by decide +kernel
theorem dX6_numbered_37 : decode cX6_numbered 37 = .ok (.iload_n 1, 1) := by decide +kernel
theorem dX6_numbered_38 : decode cX6_numbered 38 = .ok (.bipush 10, 2) := by decide +kernel
theorem dX6_numbered_40 : decode cX6_numbered 40 = .ok (.aload_n 0, 1) := by decide +kernel
theorem dX6_numbered_41 : decode cX6_numbered 41 = .ok (.getfield 28, 3) := by decide +kernel
theorem dX6_numbered_44 : decode cX6_numbered 44 = .ok (.iload_n 1, 1) := by decide +kernel
theorem dX6_numbered_45 : decode cX6_numbered 45 = .ok (.iaload, 1) := by decide +kernel
theorem dX6_numbered_46 : decode cX6_numbered 46 = .ok (.imul, 1) := by decide +kernel
theorem dX6_numbered_47 : decode cX6_numbered 47 = .ok (.aload_n 0, 1) := by decide +kernel
theorem dX6_numbered_48 : decode cX6_numbered 48 = .ok (.getfield 19, 3) := by decide +kernel
theorem dX6_numbered_51 : decode cX6_numbered 51 = .ok (.aload_n 0, 1) := by decide +kernel
theorem dX6_numbered_52 : decode cX6_numbered 52 = .ok (.getfield 175, 3) := by decide +kernel
theorem dX6_numbered_55 : decode cX6_numbered 55 = .ok (.iaload, 1) := by decide +kernel
theorem dX6_numbered_56 : decode cX6_numbered 56 = .ok (.iadd, 1) := by decide +kernel
theorem dX6_numbered_57 : decode cX6_numbered 57 = .ok (.bipush 48, 2) := by decide +kernel
theorem dX6_numbered_59 : decode cX6_numbered 59 = .ok (.isub, 1) := by decide +kernel
theorem dX6_numbered_60 : decode cX6_numbered 60 = .ok (.iastore, 1) := by decide +kernel
theorem dX6_numbered_61 : decode cX6_numbered 61 = .ok (.aload_n 0, 1) := by decide +kernel
theorem dX6_numbered_62 : decode cX6_numbered 62 = .ok (.dup, 1) := by decide +kernel
theorem dX6_numbered_63 : decode cX6_numbered 63 = .ok (.getfield 175, 3) := by decide +kernel
theorem dX6_numbered_66 : decode cX6_numbered 66 = .ok (.iconst 1, 1) := by decide +kernel
theorem dX6_numbered_67 : decode cX6_numbered 67 = .ok (.iadd, 1) := by decide +kernel
theorem dX6_numbered_68 : decode cX6_numbered 68 = .ok (.putfield 175, 3) := by decide +kernel
theorem dX6_numbered_71 : decode cX6_numbered 71 = .ok (.goto (-59), 3) := by decide +kernel
theorem dX6_numbered_74 : decode cX6_numbered 74 = .ok (.aload_n 0, 1) := by decide +kernel
theorem dX6_numbered_75 : decode cX6_numbered 75 = .ok (.getfield 175, 3) := by decide +kernel
theorem dX6_numbered_78 : decode cX6_numbered 78 = .ok (.iload_n 2, 1) := by decide +kernel
theorem dX6_numbered_79 : decode cX6_numbered 79 = .ok (.if_icmp .le 7, 3) := by decide +kernel
theorem dX6_numbered_82 : decode cX6_numbered 82 = .ok (.iconst 1, 1) := by decide +kernel
theorem dX6_numbered_83 : decode cX6_numbered 83 = .ok (.goto 4, 3) := by decide +kernel
theorem dX6_numbered_86 : decode cX6_numbered 86 = .ok (.iconst 0, 1) := by decide +kernel
theorem dX6_numbered_87 : decode cX6_numbered 87 = .ok (.ireturn, 1) := by decide +kernel
theorem dX6_numbersOf_0 : decode cX6_numbersOf 0 = .ok (.iload_n 0, 1) := by decide +kernel
theorem dX6_numbersOf_1 : decode cX6_numbersOf 1 = .ok (.bipush 115, 2) := by decide +kernel
theorem dX6_numbersOf_3 : decode cX6_numbersOf 3 = .ok (.if_icmp .eq 9, 3) := by decide +kernel
theorem dX6_numbersOf_6 : decode cX6_numbersOf 6 = .ok (.iload_n 0, 1) := by decide +kernel
theorem dX6_numbersOf_7 : decode cX6_numbersOf 7 = .ok (.bipush 104, 2) := by decide +kernel
theorem dX6_numbersOf_9 : decode cX6_numbersOf 9 = .ok (.if_icmp .ne 7, 3) := by decide +kernel
theorem dX6_numbersOf_12 : decode cX6_numbersOf 12 = .ok (.iconst 3, 1) := by decide +kernel
theorem dX6_numbersOf_13 : decode cX6_numbersOf 13 = .ok (.goto 26, 3) := by decide +kernel
theorem dX6_numbersOf_16 : decode cX6_numbersOf 16 = .ok (.iload_n 0, 1) := by decide +kernel
theorem dX6_numbersOf_17 : decode cX6_numbersOf 17 = .ok (.bipush 103, 2) := by decide +kernel
theorem dX6_numbersOf_19 : decode cX6_numbersOf 19 = .ok (.if_icmp .eq 15, 3) := by decide +kernel
theorem dX6_numbersOf_22 : decode cX6_numbersOf 22 = .ok (.iload_n 0, 1) := by decide +kernel
theorem dX6_numbersOf_23 : decode cX6_numbersOf 23 = .ok (.bipush 119, 2) := by decide +kernel
theorem dX6_numbersOf_25 : decode cX6_numbersOf 25 = .ok (.if_icmp .eq 9, 3) := by decide +kernel
theorem dX6_numbersOf_28 : decode cX6_numbersOf 28 = .ok (.iload_n 0, 1) := by decide +kernel
theorem dX6_numbersOf_29 : decode cX6_numbersOf 29 = .ok (.bipush 109, 2) := by decide +kernel
theorem dX6_numbersOf_31 : decode cX6_numbersOf 31 = .ok (.if_icmp .ne 7, 3) := by decide +kernel
theorem dX6_numbersOf_34 : decode cX6_numbersOf 34 = .ok (.iconst 1, 1) := by decide +kernel
theorem dX6_numbersOf_35 : decode cX6_numbersOf 35 = .ok (.goto 4, 3) := by decide +kernel
theorem dX6_numbersOf_38 : decode cX6_numbersOf 38 = .ok (.iconst 0, 1) := by decide +kernel
theorem dX6_numbersOf_39 : decode cX6_numbersOf 39 = .ok (.ireturn, 1) := by decide +kernel
theorem dX6_reads_0 : decode cX6_reads 0 = .ok (.aload_n 0, 1) := by decide +kernel
theorem dX6_reads_1 : decode cX6_reads 1 = .ok (.aload_n 0, 1) := by decide +kernel
theorem dX6_reads_2 : decode cX6_reads 2 = .ok (.bipush 33, 2) := by decide +kernel
theorem dX6_reads_4 : decode cX6_reads 4 = .ok (.bipush 126, 2) := by decide +kernel
theorem dX6_reads_6 : decode cX6_reads 6 = .ok (.invokevirtual 178, 3) := by decide +kernel
theorem dX6_reads_9 : decode cX6_reads 9 = .ok (.ifCond .eq 15, 3) := by decide +kernel
theorem dX6_reads_12 : decode cX6_reads 12 = .ok (.aload_n 0, 1) := by decide +kernel
theorem dX6_reads_13 : decode cX6_reads 13 = .ok (.getfield 19, 3) := by decide +kernel
theorem dX6_reads_16 : decode cX6_reads 16 = .ok (.aload_n 0, 1) := by decide +kernel
theorem dX6_reads_17 : decode cX6_reads 17 = .ok (.getfield 175, 3) := by decide +kernel
theorem dX6_reads_20 : decode cX6_reads 20 = .ok (.iaload, 1) := by decide +kernel
theorem dX6_reads_21 : decode cX6_reads 21 = .ok (.goto 4, 3) := by decide +kernel
theorem dX6_reads_24 : decode cX6_reads 24 = .ok (.iconst 0, 1) := by decide +kernel
theorem dX6_reads_25 : decode cX6_reads 25 = .ok (.putfield 181, 3) := by decide +kernel
theorem dX6_reads_28 : decode cX6_reads 28 = .ok (.aload_n 0, 1) := by decide +kernel
theorem dX6_reads_29 : decode cX6_reads 29 = .ok (.getfield 181, 3) := by decide +kernel
theorem dX6_reads_32 : decode cX6_reads 32 = .ok (.invokestatic 184, 3) := by decide +kernel
theorem dX6_reads_35 : decode cX6_reads 35 = .ok (.istore_n 1, 1) := by decide +kernel
theorem dX6_reads_36 : decode cX6_reads 36 = .ok (.iload_n 1, 1) := by decide +kernel
theorem dX6_reads_37 : decode cX6_reads 37 = .ok (.ifCond .ne 5, 3) := by decide +kernel
theorem dX6_reads_40 : decode cX6_reads 40 = .ok (.iconst 0, 1) := by decide +kernel
theorem dX6_reads_41 : decode cX6_reads 41 = .ok (.ireturn, 1) := by decide +kernel
theorem dX6_reads_42 : decode cX6_reads 42 = .ok (.aload_n 0, 1) := by decide +kernel
theorem dX6_reads_43 : decode cX6_reads 43 = .ok (.dup, 1) := by decide +kernel
theorem dX6_reads_44 : decode cX6_reads 44 = .ok (.getfield 175, 3) := by decide +kernel
theorem dX6_reads_47 : decode cX6_reads 47 = .ok (.iconst 1, 1) := by decide +kernel
theorem dX6_reads_48 : decode cX6_reads 48 = .ok (.iadd, 1) := by decide +kernel
theorem dX6_reads_49 : decode cX6_reads 49 = .ok (.putfield 175, 3) := by decide +kernel
theorem dX6_reads_52 : decode cX6_reads 52 = .ok (.aload_n 0, 1) := by decide +kernel
theorem dX6_reads_53 : decode cX6_reads 53 = .ok (.iconst 0, 1) := by decide +kernel
theorem dX6_reads_54 : decode cX6_reads 54 = .ok (.invokevirtual 187, 3) := by decide +kernel
theorem dX6_reads_57 : decode cX6_reads 57 = .ok (.istore_n 2, 1) := by decide +kernel
theorem dX6_reads_58 : decode cX6_reads 58 = .ok (.iconst 1, 1) := by decide +kernel
theorem dX6_reads_59 : decode cX6_reads 59 = .ok (.istore_n 3, 1) := by decide +kernel
theorem dX6_reads_60 : decode cX6_reads 60 = .ok (.iload_n 3, 1) := by decide +kernel
theorem dX6_reads_61 : decode cX6_reads 61 = .ok (.iload_n 1, 1) := by decide +kernel
theorem dX6_reads_62 : decode cX6_reads 62 = .ok (.if_icmp .ge 36, 3) := by decide +kernel
theorem dX6_reads_65 : decode cX6_reads 65 = .ok (.iload_n 2, 1) := by decide +kernel
theorem dX6_reads_66 : decode cX6_reads 66 = .ok (.ifCond .eq 32, 3) := by decide +kernel
theorem dX6_reads_69 : decode cX6_reads 69 = .ok (.aload_n 0, 1) := by decide +kernel
theorem dX6_reads_70 : decode cX6_reads 70 = .ok (.bipush 44, 2) := by decide +kernel
theorem dX6_reads_72 : decode cX6_reads 72 = .ok (.invokevirtual 190, 3) := by decide +kernel
theorem dX6_reads_75 : decode cX6_reads 75 = .ok (.ifCond .eq 15, 3) := by decide +kernel
theorem dX6_reads_78 : decode cX6_reads 78 = .ok (.aload_n 0, 1) := by decide +kernel
theorem dX6_reads_79 : decode cX6_reads 79 = .ok (.iload_n 3, 1) := by decide +kernel
theorem dX6_reads_80 : decode cX6_reads 80 = .ok (.invokevirtual 187, 3) := by decide +kernel
theorem dX6_reads_83 : decode cX6_reads 83 = .ok (.ifCond .eq 7, 3) := by decide +kernel
theorem dX6_reads_86 : decode cX6_reads 86 = .ok (.iconst 1, 1) := by decide +kernel
theorem dX6_reads_87 : decode cX6_reads 87 = .ok (.goto 4, 3) := by decide +kernel
theorem dX6_reads_90 : decode cX6_reads 90 = .ok (.iconst 0, 1) := by decide +kernel
theorem dX6_reads_91 : decode cX6_reads 91 = .ok (.istore_n 2, 1) := by decide +kernel
theorem dX6_reads_92 : decode cX6_reads 92 = .ok (.iinc 3 1, 3) := by decide +kernel
theorem dX6_reads_95 : decode cX6_reads 95 = .ok (.goto (-35), 3) := by decide +kernel
theorem dX6_reads_98 : decode cX6_reads 98 = .ok (.iload_n 2, 1) := by decide +kernel
theorem dX6_reads_99 : decode cX6_reads 99 = .ok (.ifCond .eq 16, 3) := by decide +kernel
theorem dX6_reads_102 : decode cX6_reads 102 = .ok (.aload_n 0, 1) := by decide +kernel
theorem dX6_reads_103 : decode cX6_reads 103 = .ok (.bipush 59, 2) := by decide +kernel
theorem dX6_reads_105 : decode cX6_reads 105 = .ok (.invokevirtual 190, 3) := by decide +kernel
theorem dX6_reads_108 : decode cX6_reads 108 = .ok (.ifCond .eq 7, 3) := by decide +kernel
theorem dX6_reads_111 : decode cX6_reads 111 = .ok (.iconst 1, 1) := by decide +kernel
theorem dX6_reads_112 : decode cX6_reads 112 = .ok (.goto 4, 3) := by decide +kernel
theorem dX6_reads_115 : decode cX6_reads 115 = .ok (.iconst 0, 1) := by decide +kernel
theorem dX6_reads_116 : decode cX6_reads 116 = .ok (.ireturn, 1) := by decide +kernel
theorem dX6_calls_0 : decode cX6_calls 0 = .ok (.aload_n 0, 1) := by decide +kernel
theorem dX6_calls_1 : decode cX6_calls 1 = .ok (.getfield 181, 3) := by decide +kernel
theorem dX6_calls_4 : decode cX6_calls 4 = .ok (.lookupswitch 112 #[(103, 44), (104, 78), (115, 55), (119, 101)], 44) := by decide +kernel
theorem dX6_calls_48 : decode cX6_calls 48 = .ok (.aload_n 0, 1) := by decide +kernel
theorem dX6_calls_49 : decode cX6_calls 49 = .ok (.aload_n 0, 1) := by decide +kernel
theorem dX6_calls_50 : decode cX6_calls 50 = .ok (.getfield 28, 3) := by decide +kernel
theorem dX6_calls_53 : decode cX6_calls 53 = .ok (.iconst 0, 1) := by decide +kernel
theorem dX6_calls_54 : decode cX6_calls 54 = .ok (.iaload, 1) := by decide +kernel
theorem dX6_calls_55 : decode cX6_calls 55 = .ok (.invokevirtual 193, 3) := by decide +kernel
theorem dX6_calls_58 : decode cX6_calls 58 = .ok (.ireturn, 1) := by decide +kernel
theorem dX6_calls_59 : decode cX6_calls 59 = .ok (.aload_n 0, 1) := by decide +kernel
theorem dX6_calls_60 : decode cX6_calls 60 = .ok (.aload_n 0, 1) := by decide +kernel
theorem dX6_calls_61 : decode cX6_calls 61 = .ok (.getfield 28, 3) := by decide +kernel
theorem dX6_calls_64 : decode cX6_calls 64 = .ok (.iconst 0, 1) := by decide +kernel
theorem dX6_calls_65 : decode cX6_calls 65 = .ok (.iaload, 1) := by decide +kernel
theorem dX6_calls_66 : decode cX6_calls 66 = .ok (.aload_n 0, 1) := by decide +kernel
theorem dX6_calls_67 : decode cX6_calls 67 = .ok (.getfield 28, 3) := by decide +kernel
theorem dX6_calls_70 : decode cX6_calls 70 = .ok (.iconst 1, 1) := by decide +kernel
theorem dX6_calls_71 : decode cX6_calls 71 = .ok (.iaload, 1) := by decide +kernel
theorem dX6_calls_72 : decode cX6_calls 72 = .ok (.aload_n 0, 1) := by decide +kernel
theorem dX6_calls_73 : decode cX6_calls 73 = .ok (.getfield 28, 3) := by decide +kernel
theorem dX6_calls_76 : decode cX6_calls 76 = .ok (.iconst 2, 1) := by decide +kernel
theorem dX6_calls_77 : decode cX6_calls 77 = .ok (.iaload, 1) := by decide +kernel
theorem dX6_calls_78 : decode cX6_calls 78 = .ok (.invokevirtual 196, 3) := by decide +kernel
theorem dX6_calls_81 : decode cX6_calls 81 = .ok (.ireturn, 1) := by decide +kernel
theorem dX6_calls_82 : decode cX6_calls 82 = .ok (.aload_n 0, 1) := by decide +kernel
theorem dX6_calls_83 : decode cX6_calls 83 = .ok (.aload_n 0, 1) := by decide +kernel
theorem dX6_calls_84 : decode cX6_calls 84 = .ok (.getfield 28, 3) := by decide +kernel
theorem dX6_calls_87 : decode cX6_calls 87 = .ok (.iconst 0, 1) := by decide +kernel
theorem dX6_calls_88 : decode cX6_calls 88 = .ok (.iaload, 1) := by decide +kernel
theorem dX6_calls_89 : decode cX6_calls 89 = .ok (.aload_n 0, 1) := by decide +kernel
theorem dX6_calls_90 : decode cX6_calls 90 = .ok (.getfield 28, 3) := by decide +kernel
theorem dX6_calls_93 : decode cX6_calls 93 = .ok (.iconst 1, 1) := by decide +kernel
theorem dX6_calls_94 : decode cX6_calls 94 = .ok (.iaload, 1) := by decide +kernel
theorem dX6_calls_95 : decode cX6_calls 95 = .ok (.aload_n 0, 1) := by decide +kernel
theorem dX6_calls_96 : decode cX6_calls 96 = .ok (.getfield 28, 3) := by decide +kernel
theorem dX6_calls_99 : decode cX6_calls 99 = .ok (.iconst 2, 1) := by decide +kernel
theorem dX6_calls_100 : decode cX6_calls 100 = .ok (.iaload, 1) := by decide +kernel
theorem dX6_calls_101 : decode cX6_calls 101 = .ok (.invokevirtual 199, 3) := by decide +kernel
theorem dX6_calls_104 : decode cX6_calls 104 = .ok (.ireturn, 1) := by decide +kernel
theorem dX6_calls_105 : decode cX6_calls 105 = .ok (.aload_n 0, 1) := by decide +kernel
theorem dX6_calls_106 : decode cX6_calls 106 = .ok (.aload_n 0, 1) := by decide +kernel
theorem dX6_calls_107 : decode cX6_calls 107 = .ok (.getfield 28, 3) := by decide +kernel
theorem dX6_calls_110 : decode cX6_calls 110 = .ok (.iconst 0, 1) := by decide +kernel
theorem dX6_calls_111 : decode cX6_calls 111 = .ok (.iaload, 1) := by decide +kernel
theorem dX6_calls_112 : decode cX6_calls 112 = .ok (.invokevirtual 202, 3) := by decide +kernel
theorem dX6_calls_115 : decode cX6_calls 115 = .ok (.ireturn, 1) := by decide +kernel
theorem dX6_calls_116 : decode cX6_calls 116 = .ok (.aload_n 0, 1) := by decide +kernel
theorem dX6_calls_117 : decode cX6_calls 117 = .ok (.aload_n 0, 1) := by decide +kernel
theorem dX6_calls_118 : decode cX6_calls 118 = .ok (.getfield 28, 3) := by decide +kernel
theorem dX6_calls_121 : decode cX6_calls 121 = .ok (.iconst 0, 1) := by decide +kernel
theorem dX6_calls_122 : decode cX6_calls 122 = .ok (.iaload, 1) := by decide +kernel
theorem dX6_calls_123 : decode cX6_calls 123 = .ok (.invokevirtual 205, 3) := by decide +kernel
theorem dX6_calls_126 : decode cX6_calls 126 = .ok (.ireturn, 1) := by decide +kernel
theorem dX6_plays_0 : decode cX6_plays 0 = .ok (.aload_n 0, 1) := by decide +kernel
theorem dX6_plays_1 : decode cX6_plays 1 = .ok (.iconst 1, 1) := by decide +kernel
theorem dX6_plays_2 : decode cX6_plays 2 = .ok (.putfield 31, 3) := by decide +kernel
theorem dX6_plays_5 : decode cX6_plays 5 = .ok (.aload_n 0, 1) := by decide +kernel
theorem dX6_plays_6 : decode cX6_plays 6 = .ok (.iconst 0, 1) := by decide +kernel
theorem dX6_plays_7 : decode cX6_plays 7 = .ok (.putfield 175, 3) := by decide +kernel
theorem dX6_plays_10 : decode cX6_plays 10 = .ok (.aload_n 0, 1) := by decide +kernel
theorem dX6_plays_11 : decode cX6_plays 11 = .ok (.iconst 0, 1) := by decide +kernel
theorem dX6_plays_12 : decode cX6_plays 12 = .ok (.putfield 208, 3) := by decide +kernel
theorem dX6_plays_15 : decode cX6_plays 15 = .ok (.aload_n 0, 1) := by decide +kernel
theorem dX6_plays_16 : decode cX6_plays 16 = .ok (.iconst 0, 1) := by decide +kernel
theorem dX6_plays_17 : decode cX6_plays 17 = .ok (.putfield 211, 3) := by decide +kernel
theorem dX6_plays_20 : decode cX6_plays 20 = .ok (.iconst 1, 1) := by decide +kernel
theorem dX6_plays_21 : decode cX6_plays 21 = .ok (.istore_n 1, 1) := by decide +kernel
theorem dX6_plays_22 : decode cX6_plays 22 = .ok (.aload_n 0, 1) := by decide +kernel
theorem dX6_plays_23 : decode cX6_plays 23 = .ok (.getfield 175, 3) := by decide +kernel
theorem dX6_plays_26 : decode cX6_plays 26 = .ok (.aload_n 0, 1) := by decide +kernel
theorem dX6_plays_27 : decode cX6_plays 27 = .ok (.getfield 172, 3) := by decide +kernel
theorem dX6_plays_30 : decode cX6_plays 30 = .ok (.if_icmp .ge 94, 3) := by decide +kernel
theorem dX6_plays_33 : decode cX6_plays 33 = .ok (.iload_n 1, 1) := by decide +kernel
theorem dX6_plays_34 : decode cX6_plays 34 = .ok (.ifCond .eq 90, 3) := by decide +kernel
theorem dX6_plays_37 : decode cX6_plays 37 = .ok (.aload_n 0, 1) := by decide +kernel
theorem dX6_plays_38 : decode cX6_plays 38 = .ok (.aload_n 0, 1) := by decide +kernel
theorem dX6_plays_39 : decode cX6_plays 39 = .ok (.getfield 175, 3) := by decide +kernel
theorem dX6_plays_42 : decode cX6_plays 42 = .ok (.putfield 208, 3) := by decide +kernel
theorem dX6_plays_45 : decode cX6_plays 45 = .ok (.aload_n 0, 1) := by decide +kernel
theorem dX6_plays_46 : decode cX6_plays 46 = .ok (.invokevirtual 214, 3) := by decide +kernel
theorem dX6_plays_49 : decode cX6_plays 49 = .ok (.istore_n 2, 1) := by decide +kernel
theorem dX6_plays_50 : decode cX6_plays 50 = .ok (.iload_n 2, 1) := by decide +kernel
theorem dX6_plays_51 : decode cX6_plays 51 = .ok (.ifCond .eq 10, 3) := by decide +kernel
theorem dX6_plays_54 : decode cX6_plays 54 = .ok (.aload_n 0, 1) := by decide +kernel
theorem dX6_plays_55 : decode cX6_plays 55 = .ok (.invokevirtual 218, 3) := by decide +kernel
theorem dX6_plays_58 : decode cX6_plays 58 = .ok (.goto 4, 3) := by decide +kernel
theorem dX6_plays_61 : decode cX6_plays 61 = .ok (.iconst 0, 1) := by decide +kernel
theorem dX6_plays_62 : decode cX6_plays 62 = .ok (.istore_n 3, 1) := by decide +kernel
theorem dX6_plays_63 : decode cX6_plays 63 = .ok (.iload_n 2, 1) := by decide +kernel
theorem dX6_plays_64 : decode cX6_plays 64 = .ok (.ifCond .eq 11, 3) := by decide +kernel
theorem dX6_plays_67 : decode cX6_plays 67 = .ok (.iload_n 3, 1) := by decide +kernel
theorem dX6_plays_68 : decode cX6_plays 68 = .ok (.ifCond .lt 7, 3) := by decide +kernel
theorem dX6_plays_71 : decode cX6_plays 71 = .ok (.iconst 1, 1) := by decide +kernel
theorem dX6_plays_72 : decode cX6_plays 72 = .ok (.goto 4, 3) := by decide +kernel
theorem dX6_plays_75 : decode cX6_plays 75 = .ok (.iconst 0, 1) := by decide +kernel
theorem dX6_plays_76 : decode cX6_plays 76 = .ok (.istore_n 1, 1) := by decide +kernel
theorem dX6_plays_77 : decode cX6_plays 77 = .ok (.aload_n 0, 1) := by decide +kernel
theorem dX6_plays_78 : decode cX6_plays 78 = .ok (.iload_n 2, 1) := by decide +kernel
theorem dX6_plays_79 : decode cX6_plays 79 = .ok (.ifCond .eq 7, 3) := by decide +kernel
theorem dX6_plays_82 : decode cX6_plays 82 = .ok (.iconst 2, 1) := by decide +kernel
theorem dX6_plays_83 : decode cX6_plays 83 = .ok (.goto 4, 3) := by decide +kernel
theorem dX6_plays_86 : decode cX6_plays 86 = .ok (.iconst 1, 1) := by decide +kernel
theorem dX6_plays_87 : decode cX6_plays 87 = .ok (.putfield 221, 3) := by decide +kernel
theorem dX6_plays_90 : decode cX6_plays 90 = .ok (.aload_n 0, 1) := by decide +kernel
theorem dX6_plays_91 : decode cX6_plays 91 = .ok (.iload_n 2, 1) := by decide +kernel
theorem dX6_plays_92 : decode cX6_plays 92 = .ok (.ifCond .eq 7, 3) := by decide +kernel
theorem dX6_plays_95 : decode cX6_plays 95 = .ok (.iload_n 3, 1) := by decide +kernel
theorem dX6_plays_96 : decode cX6_plays 96 = .ok (.goto 12, 3) := by decide +kernel
theorem dX6_plays_99 : decode cX6_plays 99 = .ok (.aload_n 0, 1) := by decide +kernel
theorem dX6_plays_100 : decode cX6_plays 100 = .ok (.getfield 175, 3) := by decide +kernel
theorem dX6_plays_103 : decode cX6_plays 103 = .ok (.aload_n 0, 1) := by decide +kernel
theorem dX6_plays_104 : decode cX6_plays 104 = .ok (.getfield 208, 3) := by decide +kernel
theorem dX6_plays_107 : decode cX6_plays 107 = .ok (.isub, 1) := by decide +kernel
theorem dX6_plays_108 : decode cX6_plays 108 = .ok (.putfield 224, 3) := by decide +kernel
theorem dX6_plays_111 : decode cX6_plays 111 = .ok (.aload_n 0, 1) := by decide +kernel
theorem dX6_plays_112 : decode cX6_plays 112 = .ok (.dup, 1) := by decide +kernel
theorem dX6_plays_113 : decode cX6_plays 113 = .ok (.getfield 211, 3) := by decide +kernel
theorem dX6_plays_116 : decode cX6_plays 116 = .ok (.iconst 1, 1) := by decide +kernel
theorem dX6_plays_117 : decode cX6_plays 117 = .ok (.iadd, 1) := by decide +kernel
theorem dX6_plays_118 : decode cX6_plays 118 = .ok (.putfield 211, 3) := by decide +kernel
theorem dX6_plays_121 : decode cX6_plays 121 = .ok (.goto (-99), 3) := by decide +kernel
theorem dX6_plays_124 : decode cX6_plays 124 = .ok (.aload_n 0, 1) := by decide +kernel
theorem dX6_plays_125 : decode cX6_plays 125 = .ok (.iconst 0, 1) := by decide +kernel
theorem dX6_plays_126 : decode cX6_plays 126 = .ok (.putfield 31, 3) := by decide +kernel
theorem dX6_plays_129 : decode cX6_plays 129 = .ok (.iload_n 1, 1) := by decide +kernel
theorem dX6_plays_130 : decode cX6_plays 130 = .ok (.ireturn, 1) := by decide +kernel
theorem dX6_fault_0 : decode cX6_fault 0 = .ok (.iload_n 1, 1) := by decide +kernel
theorem dX6_fault_1 : decode cX6_fault 1 = .ok (.iconst 0, 1) := by decide +kernel
theorem dX6_fault_2 : decode cX6_fault 2 = .ok (.iconst 2, 1) := by decide +kernel
theorem dX6_fault_3 : decode cX6_fault 3 = .ok (.invokestatic 39, 3) := by decide +kernel
theorem dX6_fault_6 : decode cX6_fault 6 = .ok (.ifCond .ne 6, 3) := by decide +kernel
theorem dX6_fault_9 : decode cX6_fault 9 = .ok (.ldc 58, 2) := by decide +kernel
theorem dX6_fault_11 : decode cX6_fault 11 = .ok (.ireturn, 1) := by decide +kernel
theorem dX6_fault_12 : decode cX6_fault 12 = .ok (.aload_n 0, 1) := by decide +kernel
theorem dX6_fault_13 : decode cX6_fault 13 = .ok (.getfield 7, 3) := by decide +kernel
theorem dX6_fault_16 : decode cX6_fault 16 = .ok (.aload_n 0, 1) := by decide +kernel
theorem dX6_fault_17 : decode cX6_fault 17 = .ok (.getfield 16, 3) := by decide +kernel
theorem dX6_fault_20 : decode cX6_fault 20 = .ok (.invokestatic 227, 3) := by decide +kernel
theorem dX6_fault_23 : decode cX6_fault 23 = .ok (.aload_n 0, 1) := by decide +kernel
theorem dX6_fault_24 : decode cX6_fault 24 = .ok (.invokevirtual 231, 3) := by decide +kernel
theorem dX6_fault_27 : decode cX6_fault 27 = .ok (.istore_n 2, 1) := by decide +kernel
theorem dX6_fault_28 : decode cX6_fault 28 = .ok (.aload_n 0, 1) := by decide +kernel
theorem dX6_fault_29 : decode cX6_fault 29 = .ok (.getfield 16, 3) := by decide +kernel
theorem dX6_fault_32 : decode cX6_fault 32 = .ok (.aload_n 0, 1) := by decide +kernel
theorem dX6_fault_33 : decode cX6_fault 33 = .ok (.getfield 7, 3) := by decide +kernel
theorem dX6_fault_36 : decode cX6_fault 36 = .ok (.invokestatic 227, 3) := by decide +kernel
theorem dX6_fault_39 : decode cX6_fault 39 = .ok (.iload_n 2, 1) := by decide +kernel
theorem dX6_fault_40 : decode cX6_fault 40 = .ok (.ifCond .eq 8, 3) := by decide +kernel
theorem dX6_fault_43 : decode cX6_fault 43 = .ok (.ldc 74, 2) := by decide +kernel
theorem dX6_fault_45 : decode cX6_fault 45 = .ok (.goto 30, 3) := by decide +kernel
theorem dX6_fault_48 : decode cX6_fault 48 = .ok (.iload_n 1, 1) := by decide +kernel
theorem dX6_fault_49 : decode cX6_fault 49 = .ok (.ifCond .ne 10, 3) := by decide +kernel
theorem dX6_fault_52 : decode cX6_fault 52 = .ok (.aload_n 0, 1) := by decide +kernel
theorem dX6_fault_53 : decode cX6_fault 53 = .ok (.getfield 208, 3) := by decide +kernel
theorem dX6_fault_56 : decode cX6_fault 56 = .ok (.goto 19, 3) := by decide +kernel
theorem dX6_fault_59 : decode cX6_fault 59 = .ok (.iload_n 1, 1) := by decide +kernel
theorem dX6_fault_60 : decode cX6_fault 60 = .ok (.iconst 1, 1) := by decide +kernel
theorem dX6_fault_61 : decode cX6_fault 61 = .ok (.if_icmp .ne 10, 3) := by decide +kernel
theorem dX6_fault_64 : decode cX6_fault 64 = .ok (.aload_n 0, 1) := by decide +kernel
theorem dX6_fault_65 : decode cX6_fault 65 = .ok (.getfield 221, 3) := by decide +kernel
theorem dX6_fault_68 : decode cX6_fault 68 = .ok (.goto 7, 3) := by decide +kernel
theorem dX6_fault_71 : decode cX6_fault 71 = .ok (.aload_n 0, 1) := by decide +kernel
theorem dX6_fault_72 : decode cX6_fault 72 = .ok (.getfield 224, 3) := by decide +kernel
theorem dX6_fault_75 : decode cX6_fault 75 = .ok (.ireturn, 1) := by decide +kernel
theorem dX6_play_0 : decode cX6_play 0 = .ok (.aload_n 0, 1) := by decide +kernel
theorem dX6_play_1 : decode cX6_play 1 = .ok (.getfield 7, 3) := by decide +kernel
theorem dX6_play_4 : decode cX6_play 4 = .ok (.aload_n 0, 1) := by decide +kernel
theorem dX6_play_5 : decode cX6_play 5 = .ok (.getfield 16, 3) := by decide +kernel
theorem dX6_play_8 : decode cX6_play 8 = .ok (.invokestatic 227, 3) := by decide +kernel
theorem dX6_play_11 : decode cX6_play 11 = .ok (.aload_n 0, 1) := by decide +kernel
theorem dX6_play_12 : decode cX6_play 12 = .ok (.invokevirtual 231, 3) := by decide +kernel
theorem dX6_play_15 : decode cX6_play 15 = .ok (.istore_n 1, 1) := by decide +kernel
theorem dX6_play_16 : decode cX6_play 16 = .ok (.aload_n 0, 1) := by decide +kernel
theorem dX6_play_17 : decode cX6_play 17 = .ok (.getfield 16, 3) := by decide +kernel
theorem dX6_play_20 : decode cX6_play 20 = .ok (.aload_n 0, 1) := by decide +kernel
theorem dX6_play_21 : decode cX6_play 21 = .ok (.getfield 7, 3) := by decide +kernel
theorem dX6_play_24 : decode cX6_play 24 = .ok (.invokestatic 227, 3) := by decide +kernel
theorem dX6_play_27 : decode cX6_play 27 = .ok (.iload_n 1, 1) := by decide +kernel
theorem dX6_play_28 : decode cX6_play 28 = .ok (.ifCond .ne 6, 3) := by decide +kernel
theorem dX6_play_31 : decode cX6_play 31 = .ok (.ldc 69, 2) := by decide +kernel
theorem dX6_play_33 : decode cX6_play 33 = .ok (.ireturn, 1) := by decide +kernel
theorem dX6_play_34 : decode cX6_play 34 = .ok (.aload_n 0, 1) := by decide +kernel
theorem dX6_play_35 : decode cX6_play 35 = .ok (.invokevirtual 60, 3) := by decide +kernel
theorem dX6_play_38 : decode cX6_play 38 = .ok (.aload_n 0, 1) := by decide +kernel
theorem dX6_play_39 : decode cX6_play 39 = .ok (.invokevirtual 231, 3) := by decide +kernel
theorem dX6_play_42 : decode cX6_play 42 = .ok (.ifCond .eq 10, 3) := by decide +kernel
theorem dX6_play_45 : decode cX6_play 45 = .ok (.aload_n 0, 1) := by decide +kernel
theorem dX6_play_46 : decode cX6_play 46 = .ok (.getfield 211, 3) := by decide +kernel
theorem dX6_play_49 : decode cX6_play 49 = .ok (.goto 5, 3) := by decide +kernel
theorem dX6_play_52 : decode cX6_play 52 = .ok (.ldc 74, 2) := by decide +kernel
theorem dX6_play_54 : decode cX6_play 54 = .ok (.ireturn, 1) := by decide +kernel
theorem dJxf58ca_isNaN_12338_0 : decode cJxf58ca_isNaN_12338 0 = .ok (.fload_n 0, 1) := by decide +kernel
theorem dJxf58ca_isNaN_12338_1 : decode cJxf58ca_isNaN_12338 1 = .ok (.fload_n 0, 1) := by decide +kernel
theorem dJxf58ca_isNaN_12338_2 : decode cJxf58ca_isNaN_12338 2 = .ok (.fcmp .l, 1) := by decide +kernel
theorem dJxf58ca_isNaN_12338_3 : decode cJxf58ca_isNaN_12338 3 = .ok (.ifCond .eq 7, 3) := by decide +kernel
theorem dJxf58ca_isNaN_12338_6 : decode cJxf58ca_isNaN_12338 6 = .ok (.iconst 1, 1) := by decide +kernel
theorem dJxf58ca_isNaN_12338_7 : decode cJxf58ca_isNaN_12338 7 = .ok (.goto 4, 3) := by decide +kernel
theorem dJxf58ca_isNaN_12338_10 : decode cJxf58ca_isNaN_12338 10 = .ok (.iconst 0, 1) := by decide +kernel
theorem dJxf58ca_isNaN_12338_11 : decode cJxf58ca_isNaN_12338 11 = .ok (.ireturn, 1) := by decide +kernel
theorem dJxf58ca_floatToIntBits_5c35a_0 : decode cJxf58ca_floatToIntBits_5c35a 0 = .ok (.fload_n 0, 1) := by decide +kernel
theorem dJxf58ca_floatToIntBits_5c35a_1 : decode cJxf58ca_floatToIntBits_5c35a 1 = .ok (.invokestatic 59, 3) := by decide +kernel
theorem dJxf58ca_floatToIntBits_5c35a_4 : decode cJxf58ca_floatToIntBits_5c35a 4 = .ok (.ifCond .ne 8, 3) := by decide +kernel
theorem dJxf58ca_floatToIntBits_5c35a_7 : decode cJxf58ca_floatToIntBits_5c35a 7 = .ok (.fload_n 0, 1) := by decide +kernel
theorem dJxf58ca_floatToIntBits_5c35a_8 : decode cJxf58ca_floatToIntBits_5c35a 8 = .ok (.invokestatic 74, 3) := by decide +kernel
theorem dJxf58ca_floatToIntBits_5c35a_11 : decode cJxf58ca_floatToIntBits_5c35a 11 = .ok (.ireturn, 1) := by decide +kernel
theorem dJxf58ca_floatToIntBits_5c35a_12 : decode cJxf58ca_floatToIntBits_5c35a 12 = .ok (.ldc 77, 2) := by decide +kernel
theorem dJxf58ca_floatToIntBits_5c35a_14 : decode cJxf58ca_floatToIntBits_5c35a 14 = .ok (.ireturn, 1) := by decide +kernel
theorem dJ13_bitCount_95d88_0 : decode cJ13_bitCount_95d88 0 = .ok (.lload_n 0, 1) := by decide +kernel
theorem dJ13_bitCount_95d88_1 : decode cJ13_bitCount_95d88 1 = .ok (.lload_n 0, 1) := by decide +kernel
theorem dJ13_bitCount_95d88_2 : decode cJ13_bitCount_95d88 2 = .ok (.iconst 1, 1) := by decide +kernel
theorem dJ13_bitCount_95d88_3 : decode cJ13_bitCount_95d88 3 = .ok (.lushr, 1) := by decide +kernel
theorem dJ13_bitCount_95d88_4 : decode cJ13_bitCount_95d88 4 = .ok (.ldc2_w 314, 3) := by decide +kernel
theorem dJ13_bitCount_95d88_7 : decode cJ13_bitCount_95d88 7 = .ok (.land, 1) := by decide +kernel
theorem dJ13_bitCount_95d88_8 : decode cJ13_bitCount_95d88 8 = .ok (.lsub, 1) := by decide +kernel
theorem dJ13_bitCount_95d88_9 : decode cJ13_bitCount_95d88 9 = .ok (.lstore_n 0, 1) := by decide +kernel
theorem dJ13_bitCount_95d88_10 : decode cJ13_bitCount_95d88 10 = .ok (.lload_n 0, 1) := by decide +kernel
theorem dJ13_bitCount_95d88_11 : decode cJ13_bitCount_95d88 11 = .ok (.ldc2_w 316, 3) := by decide +kernel
theorem dJ13_bitCount_95d88_14 : decode cJ13_bitCount_95d88 14 = .ok (.land, 1) := by decide +kernel
theorem dJ13_bitCount_95d88_15 : decode cJ13_bitCount_95d88 15 = .ok (.lload_n 0, 1) := by decide +kernel
theorem dJ13_bitCount_95d88_16 : decode cJ13_bitCount_95d88 16 = .ok (.iconst 2, 1) := by decide +kernel
theorem dJ13_bitCount_95d88_17 : decode cJ13_bitCount_95d88 17 = .ok (.lushr, 1) := by decide +kernel
theorem dJ13_bitCount_95d88_18 : decode cJ13_bitCount_95d88 18 = .ok (.ldc2_w 316, 3) := by decide +kernel
theorem dJ13_bitCount_95d88_21 : decode cJ13_bitCount_95d88 21 = .ok (.land, 1) := by decide +kernel
theorem dJ13_bitCount_95d88_22 : decode cJ13_bitCount_95d88 22 = .ok (.ladd, 1) := by decide +kernel
theorem dJ13_bitCount_95d88_23 : decode cJ13_bitCount_95d88 23 = .ok (.lstore_n 0, 1) := by decide +kernel
theorem dJ13_bitCount_95d88_24 : decode cJ13_bitCount_95d88 24 = .ok (.lload_n 0, 1) := by decide +kernel
theorem dJ13_bitCount_95d88_25 : decode cJ13_bitCount_95d88 25 = .ok (.lload_n 0, 1) := by decide +kernel
theorem dJ13_bitCount_95d88_26 : decode cJ13_bitCount_95d88 26 = .ok (.iconst 4, 1) := by decide +kernel
theorem dJ13_bitCount_95d88_27 : decode cJ13_bitCount_95d88 27 = .ok (.lushr, 1) := by decide +kernel
theorem dJ13_bitCount_95d88_28 : decode cJ13_bitCount_95d88 28 = .ok (.ladd, 1) := by decide +kernel
theorem dJ13_bitCount_95d88_29 : decode cJ13_bitCount_95d88 29 = .ok (.ldc2_w 318, 3) := by decide +kernel
theorem dJ13_bitCount_95d88_32 : decode cJ13_bitCount_95d88 32 = .ok (.land, 1) := by decide +kernel
theorem dJ13_bitCount_95d88_33 : decode cJ13_bitCount_95d88 33 = .ok (.lstore_n 0, 1) := by decide +kernel
theorem dJ13_bitCount_95d88_34 : decode cJ13_bitCount_95d88 34 = .ok (.lload_n 0, 1) := by decide +kernel
theorem dJ13_bitCount_95d88_35 : decode cJ13_bitCount_95d88 35 = .ok (.lload_n 0, 1) := by decide +kernel
theorem dJ13_bitCount_95d88_36 : decode cJ13_bitCount_95d88 36 = .ok (.bipush 8, 2) := by decide +kernel
theorem dJ13_bitCount_95d88_38 : decode cJ13_bitCount_95d88 38 = .ok (.lushr, 1) := by decide +kernel
theorem dJ13_bitCount_95d88_39 : decode cJ13_bitCount_95d88 39 = .ok (.ladd, 1) := by decide +kernel
theorem dJ13_bitCount_95d88_40 : decode cJ13_bitCount_95d88 40 = .ok (.lstore_n 0, 1) := by decide +kernel
theorem dJ13_bitCount_95d88_41 : decode cJ13_bitCount_95d88 41 = .ok (.lload_n 0, 1) := by decide +kernel
theorem dJ13_bitCount_95d88_42 : decode cJ13_bitCount_95d88 42 = .ok (.lload_n 0, 1) := by decide +kernel
theorem dJ13_bitCount_95d88_43 : decode cJ13_bitCount_95d88 43 = .ok (.bipush 16, 2) := by decide +kernel
theorem dJ13_bitCount_95d88_45 : decode cJ13_bitCount_95d88 45 = .ok (.lushr, 1) := by decide +kernel
theorem dJ13_bitCount_95d88_46 : decode cJ13_bitCount_95d88 46 = .ok (.ladd, 1) := by decide +kernel
theorem dJ13_bitCount_95d88_47 : decode cJ13_bitCount_95d88 47 = .ok (.lstore_n 0, 1) := by decide +kernel
theorem dJ13_bitCount_95d88_48 : decode cJ13_bitCount_95d88 48 = .ok (.lload_n 0, 1) := by decide +kernel
theorem dJ13_bitCount_95d88_49 : decode cJ13_bitCount_95d88 49 = .ok (.lload_n 0, 1) := by decide +kernel
theorem dJ13_bitCount_95d88_50 : decode cJ13_bitCount_95d88 50 = .ok (.bipush 32, 2) := by decide +kernel
theorem dJ13_bitCount_95d88_52 : decode cJ13_bitCount_95d88 52 = .ok (.lushr, 1) := by decide +kernel
theorem dJ13_bitCount_95d88_53 : decode cJ13_bitCount_95d88 53 = .ok (.ladd, 1) := by decide +kernel
theorem dJ13_bitCount_95d88_54 : decode cJ13_bitCount_95d88 54 = .ok (.lstore_n 0, 1) := by decide +kernel
theorem dJ13_bitCount_95d88_55 : decode cJ13_bitCount_95d88 55 = .ok (.lload_n 0, 1) := by decide +kernel
theorem dJ13_bitCount_95d88_56 : decode cJ13_bitCount_95d88 56 = .ok (.l2i, 1) := by decide +kernel
theorem dJ13_bitCount_95d88_57 : decode cJ13_bitCount_95d88 57 = .ok (.bipush 127, 2) := by decide +kernel
theorem dJ13_bitCount_95d88_59 : decode cJ13_bitCount_95d88 59 = .ok (.iand, 1) := by decide +kernel
theorem dJ13_bitCount_95d88_60 : decode cJ13_bitCount_95d88 60 = .ok (.ireturn, 1) := by decide +kernel
theorem dJ9_floorDiv_7cf53_0 : decode cJ9_floorDiv_7cf53 0 = .ok (.iload_n 0, 1) := by decide +kernel
theorem dJ9_floorDiv_7cf53_1 : decode cJ9_floorDiv_7cf53 1 = .ok (.iload_n 1, 1) := by decide +kernel
theorem dJ9_floorDiv_7cf53_2 : decode cJ9_floorDiv_7cf53 2 = .ok (.idiv, 1) := by decide +kernel
theorem dJ9_floorDiv_7cf53_3 : decode cJ9_floorDiv_7cf53 3 = .ok (.istore_n 2, 1) := by decide +kernel
theorem dJ9_floorDiv_7cf53_4 : decode cJ9_floorDiv_7cf53 4 = .ok (.iload_n 0, 1) := by decide +kernel
theorem dJ9_floorDiv_7cf53_5 : decode cJ9_floorDiv_7cf53 5 = .ok (.iload_n 1, 1) := by decide +kernel
theorem dJ9_floorDiv_7cf53_6 : decode cJ9_floorDiv_7cf53 6 = .ok (.ixor, 1) := by decide +kernel
theorem dJ9_floorDiv_7cf53_7 : decode cJ9_floorDiv_7cf53 7 = .ok (.ifCond .ge 14, 3) := by decide +kernel
theorem dJ9_floorDiv_7cf53_10 : decode cJ9_floorDiv_7cf53 10 = .ok (.iload_n 2, 1) := by decide +kernel
theorem dJ9_floorDiv_7cf53_11 : decode cJ9_floorDiv_7cf53 11 = .ok (.iload_n 1, 1) := by decide +kernel
theorem dJ9_floorDiv_7cf53_12 : decode cJ9_floorDiv_7cf53 12 = .ok (.imul, 1) := by decide +kernel
theorem dJ9_floorDiv_7cf53_13 : decode cJ9_floorDiv_7cf53 13 = .ok (.iload_n 0, 1) := by decide +kernel
theorem dJ9_floorDiv_7cf53_14 : decode cJ9_floorDiv_7cf53 14 = .ok (.if_icmp .eq 7, 3) := by decide +kernel
theorem dJ9_floorDiv_7cf53_17 : decode cJ9_floorDiv_7cf53 17 = .ok (.iload_n 2, 1) := by decide +kernel
theorem dJ9_floorDiv_7cf53_18 : decode cJ9_floorDiv_7cf53 18 = .ok (.iconst 1, 1) := by decide +kernel
theorem dJ9_floorDiv_7cf53_19 : decode cJ9_floorDiv_7cf53 19 = .ok (.isub, 1) := by decide +kernel
theorem dJ9_floorDiv_7cf53_20 : decode cJ9_floorDiv_7cf53 20 = .ok (.ireturn, 1) := by decide +kernel
theorem dJ9_floorDiv_7cf53_21 : decode cJ9_floorDiv_7cf53 21 = .ok (.iload_n 2, 1) := by decide +kernel
theorem dJ9_floorDiv_7cf53_22 : decode cJ9_floorDiv_7cf53 22 = .ok (.ireturn, 1) := by decide +kernel
theorem dJ9_floorMod_7cf53_0 : decode cJ9_floorMod_7cf53 0 = .ok (.iload_n 0, 1) := by decide +kernel
theorem dJ9_floorMod_7cf53_1 : decode cJ9_floorMod_7cf53 1 = .ok (.iload_n 1, 1) := by decide +kernel
theorem dJ9_floorMod_7cf53_2 : decode cJ9_floorMod_7cf53 2 = .ok (.irem, 1) := by decide +kernel
theorem dJ9_floorMod_7cf53_3 : decode cJ9_floorMod_7cf53 3 = .ok (.istore_n 2, 1) := by decide +kernel
theorem dJ9_floorMod_7cf53_4 : decode cJ9_floorMod_7cf53 4 = .ok (.iload_n 0, 1) := by decide +kernel
theorem dJ9_floorMod_7cf53_5 : decode cJ9_floorMod_7cf53 5 = .ok (.iload_n 1, 1) := by decide +kernel
theorem dJ9_floorMod_7cf53_6 : decode cJ9_floorMod_7cf53 6 = .ok (.ixor, 1) := by decide +kernel
theorem dJ9_floorMod_7cf53_7 : decode cJ9_floorMod_7cf53 7 = .ok (.ifCond .ge 11, 3) := by decide +kernel
theorem dJ9_floorMod_7cf53_10 : decode cJ9_floorMod_7cf53 10 = .ok (.iload_n 2, 1) := by decide +kernel
theorem dJ9_floorMod_7cf53_11 : decode cJ9_floorMod_7cf53 11 = .ok (.ifCond .eq 7, 3) := by decide +kernel
theorem dJ9_floorMod_7cf53_14 : decode cJ9_floorMod_7cf53 14 = .ok (.iload_n 2, 1) := by decide +kernel
theorem dJ9_floorMod_7cf53_15 : decode cJ9_floorMod_7cf53 15 = .ok (.iload_n 1, 1) := by decide +kernel
theorem dJ9_floorMod_7cf53_16 : decode cJ9_floorMod_7cf53 16 = .ok (.iadd, 1) := by decide +kernel
theorem dJ9_floorMod_7cf53_17 : decode cJ9_floorMod_7cf53 17 = .ok (.ireturn, 1) := by decide +kernel
theorem dJ9_floorMod_7cf53_18 : decode cJ9_floorMod_7cf53 18 = .ok (.iload_n 2, 1) := by decide +kernel
theorem dJ9_floorMod_7cf53_19 : decode cJ9_floorMod_7cf53 19 = .ok (.ireturn, 1) := by decide +kernel
theorem dJ9_abs_0f7a4_0 : decode cJ9_abs_0f7a4 0 = .ok (.iload_n 0, 1) := by decide +kernel
theorem dJ9_abs_0f7a4_1 : decode cJ9_abs_0f7a4 1 = .ok (.ifCond .ge 8, 3) := by decide +kernel
theorem dJ9_abs_0f7a4_4 : decode cJ9_abs_0f7a4 4 = .ok (.iload_n 0, 1) := by decide +kernel
theorem dJ9_abs_0f7a4_5 : decode cJ9_abs_0f7a4 5 = .ok (.ineg, 1) := by decide +kernel
theorem dJ9_abs_0f7a4_6 : decode cJ9_abs_0f7a4 6 = .ok (.goto 4, 3) := by decide +kernel
theorem dJ9_abs_0f7a4_9 : decode cJ9_abs_0f7a4 9 = .ok (.iload_n 0, 1) := by decide +kernel
theorem dJ9_abs_0f7a4_10 : decode cJ9_abs_0f7a4 10 = .ok (.ireturn, 1) := by decide +kernel
theorem dJ9_max_7cf53_0 : decode cJ9_max_7cf53 0 = .ok (.iload_n 0, 1) := by decide +kernel
theorem dJ9_max_7cf53_1 : decode cJ9_max_7cf53 1 = .ok (.iload_n 1, 1) := by decide +kernel
theorem dJ9_max_7cf53_2 : decode cJ9_max_7cf53 2 = .ok (.if_icmp .lt 7, 3) := by decide +kernel
theorem dJ9_max_7cf53_5 : decode cJ9_max_7cf53 5 = .ok (.iload_n 0, 1) := by decide +kernel
theorem dJ9_max_7cf53_6 : decode cJ9_max_7cf53 6 = .ok (.goto 4, 3) := by decide +kernel
theorem dJ9_max_7cf53_9 : decode cJ9_max_7cf53 9 = .ok (.iload_n 1, 1) := by decide +kernel
theorem dJ9_max_7cf53_10 : decode cJ9_max_7cf53 10 = .ok (.ireturn, 1) := by decide +kernel
theorem dJ9_min_7cf53_0 : decode cJ9_min_7cf53 0 = .ok (.iload_n 0, 1) := by decide +kernel
theorem dJ9_min_7cf53_1 : decode cJ9_min_7cf53 1 = .ok (.iload_n 1, 1) := by decide +kernel
theorem dJ9_min_7cf53_2 : decode cJ9_min_7cf53 2 = .ok (.if_icmp .gt 7, 3) := by decide +kernel
theorem dJ9_min_7cf53_5 : decode cJ9_min_7cf53 5 = .ok (.iload_n 0, 1) := by decide +kernel
theorem dJ9_min_7cf53_6 : decode cJ9_min_7cf53 6 = .ok (.goto 4, 3) := by decide +kernel
theorem dJ9_min_7cf53_9 : decode cJ9_min_7cf53 9 = .ok (.iload_n 1, 1) := by decide +kernel
theorem dJ9_min_7cf53_10 : decode cJ9_min_7cf53 10 = .ok (.ireturn, 1) := by decide +kernel
theorem dL_law_0 : decode cL_law 0 = .ok (.new 7, 3) := by decide +kernel
theorem dL_law_3 : decode cL_law 3 = .ok (.dup, 1) := by decide +kernel
theorem dL_law_4 : decode cL_law 4 = .ok (.invokespecial 9, 3) := by decide +kernel
theorem dL_law_7 : decode cL_law 7 = .ok (.astore_n 1, 1) := by decide +kernel
theorem dL_law_8 : decode cL_law 8 = .ok (.new 10, 3) := by decide +kernel
theorem dL_law_11 : decode cL_law 11 = .ok (.dup, 1) := by decide +kernel
theorem dL_law_12 : decode cL_law 12 = .ok (.invokespecial 12, 3) := by decide +kernel
theorem dL_law_15 : decode cL_law 15 = .ok (.astore_n 2, 1) := by decide +kernel
theorem dL_law_16 : decode cL_law 16 = .ok (.iconst 0, 1) := by decide +kernel
theorem dL_law_17 : decode cL_law 17 = .ok (.istore_n 3, 1) := by decide +kernel
theorem dL_law_18 : decode cL_law 18 = .ok (.iload_n 3, 1) := by decide +kernel
theorem dL_law_19 : decode cL_law 19 = .ok (.aload_n 0, 1) := by decide +kernel
theorem dL_law_20 : decode cL_law 20 = .ok (.arraylength, 1) := by decide +kernel
theorem dL_law_21 : decode cL_law 21 = .ok (.iconst 5, 1) := by decide +kernel
theorem dL_law_22 : decode cL_law 22 = .ok (.isub, 1) := by decide +kernel
theorem dL_law_23 : decode cL_law 23 = .ok (.if_icmp .gt 839, 3) := by decide +kernel
theorem dL_law_26 : decode cL_law 26 = .ok (.aload_n 0, 1) := by decide +kernel
theorem dL_law_27 : decode cL_law 27 = .ok (.iload_n 3, 1) := by decide +kernel
theorem dL_law_28 : decode cL_law 28 = .ok (.iaload, 1) := by decide +kernel
theorem dL_law_29 : decode cL_law 29 = .ok (.bipush 31, 2) := by decide +kernel
theorem dL_law_31 : decode cL_law 31 = .ok (.iand, 1) := by decide +kernel
theorem dL_law_32 : decode cL_law 32 = .ok (.tableswitch 824 0 23 #[112, 135, 178, 211, 254, 277, 300, 323, 356, 399, 452, 495, 538, 581, 614, 637, 660, 703, 716, 739, 752, 775, 788, 811], 112) := by decide +kernel
theorem dL_law_144 : decode cL_law 144 = .ok (.aload_n 1, 1) := by decide +kernel
theorem dL_law_145 : decode cL_law 145 = .ok (.aload_n 0, 1) := by decide +kernel
theorem dL_law_146 : decode cL_law 146 = .ok (.iload_n 3, 1) := by decide +kernel
theorem dL_law_147 : decode cL_law 147 = .ok (.iconst 1, 1) := by decide +kernel
theorem dL_law_148 : decode cL_law 148 = .ok (.iadd, 1) := by decide +kernel
theorem dL_law_149 : decode cL_law 149 = .ok (.iaload, 1) := by decide +kernel
theorem dL_law_150 : decode cL_law 150 = .ok (.invokevirtual 13, 3) := by decide +kernel
theorem dL_law_153 : decode cL_law 153 = .ok (.aload_n 2, 1) := by decide +kernel
theorem dL_law_154 : decode cL_law 154 = .ok (.aload_n 0, 1) := by decide +kernel
theorem dL_law_155 : decode cL_law 155 = .ok (.iload_n 3, 1) := by decide +kernel
theorem dL_law_156 : decode cL_law 156 = .ok (.iconst 1, 1) := by decide +kernel
theorem dL_law_157 : decode cL_law 157 = .ok (.iadd, 1) := by decide +kernel
theorem dL_law_158 : decode cL_law 158 = .ok (.iaload, 1) := by decide +kernel
theorem dL_law_159 : decode cL_law 159 = .ok (.invokevirtual 17, 3) := by decide +kernel
theorem dL_law_162 : decode cL_law 162 = .ok (.if_icmp .eq 694, 3) := by decide +kernel
theorem dL_law_165 : decode cL_law 165 = .ok (.iconst 0, 1) := by decide +kernel
theorem dL_law_166 : decode cL_law 166 = .ok (.ireturn, 1) := by decide +kernel
theorem dL_law_167 : decode cL_law 167 = .ok (.aload_n 1, 1) := by decide +kernel
theorem dL_law_168 : decode cL_law 168 = .ok (.aload_n 0, 1) := by decide +kernel
theorem dL_law_169 : decode cL_law 169 = .ok (.iload_n 3, 1) := by decide +kernel
theorem dL_law_170 : decode cL_law 170 = .ok (.iconst 1, 1) := by decide +kernel
theorem dL_law_171 : decode cL_law 171 = .ok (.iadd, 1) := by decide +kernel
theorem dL_law_172 : decode cL_law 172 = .ok (.iaload, 1) := by decide +kernel
theorem dL_law_173 : decode cL_law 173 = .ok (.aload_n 0, 1) := by decide +kernel
theorem dL_law_174 : decode cL_law 174 = .ok (.iload_n 3, 1) := by decide +kernel
theorem dL_law_175 : decode cL_law 175 = .ok (.iconst 2, 1) := by decide +kernel
theorem dL_law_176 : decode cL_law 176 = .ok (.iadd, 1) := by decide +kernel
theorem dL_law_177 : decode cL_law 177 = .ok (.iaload, 1) := by decide +kernel
theorem dL_law_178 : decode cL_law 178 = .ok (.aload_n 0, 1) := by decide +kernel
theorem dL_law_179 : decode cL_law 179 = .ok (.iload_n 3, 1) := by decide +kernel
theorem dL_law_180 : decode cL_law 180 = .ok (.iconst 3, 1) := by decide +kernel
theorem dL_law_181 : decode cL_law 181 = .ok (.iadd, 1) := by decide +kernel
theorem dL_law_182 : decode cL_law 182 = .ok (.iaload, 1) := by decide +kernel
theorem dL_law_183 : decode cL_law 183 = .ok (.invokevirtual 18, 3) := by decide +kernel
theorem dL_law_186 : decode cL_law 186 = .ok (.aload_n 2, 1) := by decide +kernel
theorem dL_law_187 : decode cL_law 187 = .ok (.aload_n 0, 1) := by decide +kernel
theorem dL_law_188 : decode cL_law 188 = .ok (.iload_n 3, 1) := by decide +kernel
theorem dL_law_189 : decode cL_law 189 = .ok (.iconst 1, 1) := by decide +kernel
theorem dL_law_190 : decode cL_law 190 = .ok (.iadd, 1) := by decide +kernel
theorem dL_law_191 : decode cL_law 191 = .ok (.iaload, 1) := by decide +kernel
theorem dL_law_192 : decode cL_law 192 = .ok (.aload_n 0, 1) := by decide +kernel
theorem dL_law_193 : decode cL_law 193 = .ok (.iload_n 3, 1) := by decide +kernel
theorem dL_law_194 : decode cL_law 194 = .ok (.iconst 2, 1) := by decide +kernel
theorem dL_law_195 : decode cL_law 195 = .ok (.iadd, 1) := by decide +kernel
theorem dL_law_196 : decode cL_law 196 = .ok (.iaload, 1) := by decide +kernel
theorem dL_law_197 : decode cL_law 197 = .ok (.aload_n 0, 1) := by decide +kernel
theorem dL_law_198 : decode cL_law 198 = .ok (.iload_n 3, 1) := by decide +kernel
theorem dL_law_199 : decode cL_law 199 = .ok (.iconst 3, 1) := by decide +kernel
theorem dL_law_200 : decode cL_law 200 = .ok (.iadd, 1) := by decide +kernel
theorem dL_law_201 : decode cL_law 201 = .ok (.iaload, 1) := by decide +kernel
theorem dL_law_202 : decode cL_law 202 = .ok (.invokevirtual 22, 3) := by decide +kernel
theorem dL_law_205 : decode cL_law 205 = .ok (.if_icmp .eq 651, 3) := by decide +kernel
theorem dL_law_208 : decode cL_law 208 = .ok (.iconst 0, 1) := by decide +kernel
theorem dL_law_209 : decode cL_law 209 = .ok (.ireturn, 1) := by decide +kernel
theorem dL_law_210 : decode cL_law 210 = .ok (.aload_n 1, 1) := by decide +kernel
theorem dL_law_211 : decode cL_law 211 = .ok (.aload_n 0, 1) := by decide +kernel
theorem dL_law_212 : decode cL_law 212 = .ok (.iload_n 3, 1) := by decide +kernel
theorem dL_law_213 : decode cL_law 213 = .ok (.iconst 1, 1) := by decide +kernel
theorem dL_law_214 : decode cL_law 214 = .ok (.iadd, 1) := by decide +kernel
theorem dL_law_215 : decode cL_law 215 = .ok (.iaload, 1) := by decide +kernel
theorem dL_law_216 : decode cL_law 216 = .ok (.aload_n 0, 1) := by decide +kernel
theorem dL_law_217 : decode cL_law 217 = .ok (.iload_n 3, 1) := by decide +kernel
theorem dL_law_218 : decode cL_law 218 = .ok (.iconst 2, 1) := by decide +kernel
theorem dL_law_219 : decode cL_law 219 = .ok (.iadd, 1) := by decide +kernel
theorem dL_law_220 : decode cL_law 220 = .ok (.iaload, 1) := by decide +kernel
theorem dL_law_221 : decode cL_law 221 = .ok (.invokevirtual 23, 3) := by decide +kernel
theorem dL_law_224 : decode cL_law 224 = .ok (.aload_n 2, 1) := by decide +kernel
theorem dL_law_225 : decode cL_law 225 = .ok (.aload_n 0, 1) := by decide +kernel
theorem dL_law_226 : decode cL_law 226 = .ok (.iload_n 3, 1) := by decide +kernel
theorem dL_law_227 : decode cL_law 227 = .ok (.iconst 1, 1) := by decide +kernel
theorem dL_law_228 : decode cL_law 228 = .ok (.iadd, 1) := by decide +kernel
theorem dL_law_229 : decode cL_law 229 = .ok (.iaload, 1) := by decide +kernel
theorem dL_law_230 : decode cL_law 230 = .ok (.aload_n 0, 1) := by decide +kernel
theorem dL_law_231 : decode cL_law 231 = .ok (.iload_n 3, 1) := by decide +kernel
theorem dL_law_232 : decode cL_law 232 = .ok (.iconst 2, 1) := by decide +kernel
theorem dL_law_233 : decode cL_law 233 = .ok (.iadd, 1) := by decide +kernel
theorem dL_law_234 : decode cL_law 234 = .ok (.iaload, 1) := by decide +kernel
theorem dL_law_235 : decode cL_law 235 = .ok (.invokevirtual 27, 3) := by decide +kernel
theorem dL_law_238 : decode cL_law 238 = .ok (.if_icmp .eq 618, 3) := by decide +kernel
theorem dL_law_241 : decode cL_law 241 = .ok (.iconst 0, 1) := by decide +kernel
theorem dL_law_242 : decode cL_law 242 = .ok (.ireturn, 1) := by decide +kernel
theorem dL_law_243 : decode cL_law 243 = .ok (.aload_n 1, 1) := by decide +kernel
theorem dL_law_244 : decode cL_law 244 = .ok (.aload_n 0, 1) := by decide +kernel
theorem dL_law_245 : decode cL_law 245 = .ok (.iload_n 3, 1) := by decide +kernel
theorem dL_law_246 : decode cL_law 246 = .ok (.iconst 1, 1) := by decide +kernel
theorem dL_law_247 : decode cL_law 247 = .ok (.iadd, 1) := by decide +kernel
theorem dL_law_248 : decode cL_law 248 = .ok (.iaload, 1) := by decide +kernel
theorem dL_law_249 : decode cL_law 249 = .ok (.aload_n 0, 1) := by decide +kernel
theorem dL_law_250 : decode cL_law 250 = .ok (.iload_n 3, 1) := by decide +kernel
theorem dL_law_251 : decode cL_law 251 = .ok (.iconst 2, 1) := by decide +kernel
theorem dL_law_252 : decode cL_law 252 = .ok (.iadd, 1) := by decide +kernel
theorem dL_law_253 : decode cL_law 253 = .ok (.iaload, 1) := by decide +kernel
theorem dL_law_254 : decode cL_law 254 = .ok (.aload_n 0, 1) := by decide +kernel
theorem dL_law_255 : decode cL_law 255 = .ok (.iload_n 3, 1) := by decide +kernel
theorem dL_law_256 : decode cL_law 256 = .ok (.iconst 3, 1) := by decide +kernel
theorem dL_law_257 : decode cL_law 257 = .ok (.iadd, 1) := by decide +kernel
theorem dL_law_258 : decode cL_law 258 = .ok (.iaload, 1) := by decide +kernel
theorem dL_law_259 : decode cL_law 259 = .ok (.invokevirtual 28, 3) := by decide +kernel
theorem dL_law_262 : decode cL_law 262 = .ok (.aload_n 2, 1) := by decide +kernel
theorem dL_law_263 : decode cL_law 263 = .ok (.aload_n 0, 1) := by decide +kernel
theorem dL_law_264 : decode cL_law 264 = .ok (.iload_n 3, 1) := by decide +kernel
theorem dL_law_265 : decode cL_law 265 = .ok (.iconst 1, 1) := by decide +kernel
theorem dL_law_266 : decode cL_law 266 = .ok (.iadd, 1) := by decide +kernel
theorem dL_law_267 : decode cL_law 267 = .ok (.iaload, 1) := by decide +kernel
theorem dL_law_268 : decode cL_law 268 = .ok (.aload_n 0, 1) := by decide +kernel
theorem dL_law_269 : decode cL_law 269 = .ok (.iload_n 3, 1) := by decide +kernel
theorem dL_law_270 : decode cL_law 270 = .ok (.iconst 2, 1) := by decide +kernel
theorem dL_law_271 : decode cL_law 271 = .ok (.iadd, 1) := by decide +kernel
theorem dL_law_272 : decode cL_law 272 = .ok (.iaload, 1) := by decide +kernel
theorem dL_law_273 : decode cL_law 273 = .ok (.aload_n 0, 1) := by decide +kernel
theorem dL_law_274 : decode cL_law 274 = .ok (.iload_n 3, 1) := by decide +kernel
theorem dL_law_275 : decode cL_law 275 = .ok (.iconst 3, 1) := by decide +kernel
theorem dL_law_276 : decode cL_law 276 = .ok (.iadd, 1) := by decide +kernel
theorem dL_law_277 : decode cL_law 277 = .ok (.iaload, 1) := by decide +kernel
theorem dL_law_278 : decode cL_law 278 = .ok (.invokevirtual 31, 3) := by decide +kernel
theorem dL_law_281 : decode cL_law 281 = .ok (.if_icmp .eq 575, 3) := by decide +kernel
theorem dL_law_284 : decode cL_law 284 = .ok (.iconst 0, 1) := by decide +kernel
theorem dL_law_285 : decode cL_law 285 = .ok (.ireturn, 1) := by decide +kernel
theorem dL_law_286 : decode cL_law 286 = .ok (.aload_n 1, 1) := by decide +kernel
theorem dL_law_287 : decode cL_law 287 = .ok (.aload_n 0, 1) := by decide +kernel
theorem dL_law_288 : decode cL_law 288 = .ok (.iload_n 3, 1) := by decide +kernel
theorem dL_law_289 : decode cL_law 289 = .ok (.iconst 1, 1) := by decide +kernel
theorem dL_law_290 : decode cL_law 290 = .ok (.iadd, 1) := by decide +kernel
theorem dL_law_291 : decode cL_law 291 = .ok (.iaload, 1) := by decide +kernel
theorem dL_law_292 : decode cL_law 292 = .ok (.invokevirtual 32, 3) := by decide +kernel
theorem dL_law_295 : decode cL_law 295 = .ok (.aload_n 2, 1) := by decide +kernel
theorem dL_law_296 : decode cL_law 296 = .ok (.aload_n 0, 1) := by decide +kernel
theorem dL_law_297 : decode cL_law 297 = .ok (.iload_n 3, 1) := by decide +kernel
theorem dL_law_298 : decode cL_law 298 = .ok (.iconst 1, 1) := by decide +kernel
theorem dL_law_299 : decode cL_law 299 = .ok (.iadd, 1) := by decide +kernel
theorem dL_law_300 : decode cL_law 300 = .ok (.iaload, 1) := by decide +kernel
theorem dL_law_301 : decode cL_law 301 = .ok (.invokevirtual 35, 3) := by decide +kernel
theorem dL_law_304 : decode cL_law 304 = .ok (.if_icmp .eq 552, 3) := by decide +kernel
theorem dL_law_307 : decode cL_law 307 = .ok (.iconst 0, 1) := by decide +kernel
theorem dL_law_308 : decode cL_law 308 = .ok (.ireturn, 1) := by decide +kernel
theorem dL_law_309 : decode cL_law 309 = .ok (.aload_n 1, 1) := by decide +kernel
theorem dL_law_310 : decode cL_law 310 = .ok (.aload_n 0, 1) := by decide +kernel
theorem dL_law_311 : decode cL_law 311 = .ok (.iload_n 3, 1) := by decide +kernel
theorem dL_law_312 : decode cL_law 312 = .ok (.iconst 1, 1) := by decide +kernel
theorem dL_law_313 : decode cL_law 313 = .ok (.iadd, 1) := by decide +kernel
theorem dL_law_314 : decode cL_law 314 = .ok (.iaload, 1) := by decide +kernel
theorem dL_law_315 : decode cL_law 315 = .ok (.invokevirtual 36, 3) := by decide +kernel
theorem dL_law_318 : decode cL_law 318 = .ok (.aload_n 2, 1) := by decide +kernel
theorem dL_law_319 : decode cL_law 319 = .ok (.aload_n 0, 1) := by decide +kernel
theorem dL_law_320 : decode cL_law 320 = .ok (.iload_n 3, 1) := by decide +kernel
theorem dL_law_321 : decode cL_law 321 = .ok (.iconst 1, 1) := by decide +kernel
theorem dL_law_322 : decode cL_law 322 = .ok (.iadd, 1) := by decide +kernel
theorem dL_law_323 : decode cL_law 323 = .ok (.iaload, 1) := by decide +kernel
theorem dL_law_324 : decode cL_law 324 = .ok (.invokevirtual 39, 3) := by decide +kernel
theorem dL_law_327 : decode cL_law 327 = .ok (.if_icmp .eq 529, 3) := by decide +kernel
theorem dL_law_330 : decode cL_law 330 = .ok (.iconst 0, 1) := by decide +kernel
theorem dL_law_331 : decode cL_law 331 = .ok (.ireturn, 1) := by decide +kernel
theorem dL_law_332 : decode cL_law 332 = .ok (.aload_n 1, 1) := by decide +kernel
theorem dL_law_333 : decode cL_law 333 = .ok (.aload_n 0, 1) := by decide +kernel
theorem dL_law_334 : decode cL_law 334 = .ok (.iload_n 3, 1) := by decide +kernel
theorem dL_law_335 : decode cL_law 335 = .ok (.iconst 1, 1) := by decide +kernel
theorem dL_law_336 : decode cL_law 336 = .ok (.iadd, 1) := by decide +kernel
theorem dL_law_337 : decode cL_law 337 = .ok (.iaload, 1) := by decide +kernel
theorem dL_law_338 : decode cL_law 338 = .ok (.invokevirtual 40, 3) := by decide +kernel
theorem dL_law_341 : decode cL_law 341 = .ok (.aload_n 2, 1) := by decide +kernel
theorem dL_law_342 : decode cL_law 342 = .ok (.aload_n 0, 1) := by decide +kernel
theorem dL_law_343 : decode cL_law 343 = .ok (.iload_n 3, 1) := by decide +kernel
theorem dL_law_344 : decode cL_law 344 = .ok (.iconst 1, 1) := by decide +kernel
theorem dL_law_345 : decode cL_law 345 = .ok (.iadd, 1) := by decide +kernel
theorem dL_law_346 : decode cL_law 346 = .ok (.iaload, 1) := by decide +kernel
theorem dL_law_347 : decode cL_law 347 = .ok (.invokevirtual 43, 3) := by decide +kernel
theorem dL_law_350 : decode cL_law 350 = .ok (.if_icmp .eq 506, 3) := by decide +kernel
theorem dL_law_353 : decode cL_law 353 = .ok (.iconst 0, 1) := by decide +kernel
theorem dL_law_354 : decode cL_law 354 = .ok (.ireturn, 1) := by decide +kernel
theorem dL_law_355 : decode cL_law 355 = .ok (.aload_n 1, 1) := by decide +kernel
theorem dL_law_356 : decode cL_law 356 = .ok (.aload_n 0, 1) := by decide +kernel
theorem dL_law_357 : decode cL_law 357 = .ok (.iload_n 3, 1) := by decide +kernel
theorem dL_law_358 : decode cL_law 358 = .ok (.iconst 1, 1) := by decide +kernel
theorem dL_law_359 : decode cL_law 359 = .ok (.iadd, 1) := by decide +kernel
theorem dL_law_360 : decode cL_law 360 = .ok (.iaload, 1) := by decide +kernel
theorem dL_law_361 : decode cL_law 361 = .ok (.aload_n 0, 1) := by decide +kernel
theorem dL_law_362 : decode cL_law 362 = .ok (.iload_n 3, 1) := by decide +kernel
theorem dL_law_363 : decode cL_law 363 = .ok (.iconst 2, 1) := by decide +kernel
theorem dL_law_364 : decode cL_law 364 = .ok (.iadd, 1) := by decide +kernel
theorem dL_law_365 : decode cL_law 365 = .ok (.iaload, 1) := by decide +kernel
theorem dL_law_366 : decode cL_law 366 = .ok (.invokevirtual 44, 3) := by decide +kernel
theorem dL_law_369 : decode cL_law 369 = .ok (.aload_n 2, 1) := by decide +kernel
theorem dL_law_370 : decode cL_law 370 = .ok (.aload_n 0, 1) := by decide +kernel
theorem dL_law_371 : decode cL_law 371 = .ok (.iload_n 3, 1) := by decide +kernel
theorem dL_law_372 : decode cL_law 372 = .ok (.iconst 1, 1) := by decide +kernel
theorem dL_law_373 : decode cL_law 373 = .ok (.iadd, 1) := by decide +kernel
theorem dL_law_374 : decode cL_law 374 = .ok (.iaload, 1) := by decide +kernel
theorem dL_law_375 : decode cL_law 375 = .ok (.aload_n 0, 1) := by decide +kernel
theorem dL_law_376 : decode cL_law 376 = .ok (.iload_n 3, 1) := by decide +kernel
theorem dL_law_377 : decode cL_law 377 = .ok (.iconst 2, 1) := by decide +kernel
theorem dL_law_378 : decode cL_law 378 = .ok (.iadd, 1) := by decide +kernel
theorem dL_law_379 : decode cL_law 379 = .ok (.iaload, 1) := by decide +kernel
theorem dL_law_380 : decode cL_law 380 = .ok (.invokevirtual 47, 3) := by decide +kernel
theorem dL_law_383 : decode cL_law 383 = .ok (.if_icmp .eq 473, 3) := by decide +kernel
theorem dL_law_386 : decode cL_law 386 = .ok (.iconst 0, 1) := by decide +kernel
theorem dL_law_387 : decode cL_law 387 = .ok (.ireturn, 1) := by decide +kernel
theorem dL_law_388 : decode cL_law 388 = .ok (.aload_n 1, 1) := by decide +kernel
theorem dL_law_389 : decode cL_law 389 = .ok (.aload_n 0, 1) := by decide +kernel
theorem dL_law_390 : decode cL_law 390 = .ok (.iload_n 3, 1) := by decide +kernel
theorem dL_law_391 : decode cL_law 391 = .ok (.iconst 1, 1) := by decide +kernel
theorem dL_law_392 : decode cL_law 392 = .ok (.iadd, 1) := by decide +kernel
theorem dL_law_393 : decode cL_law 393 = .ok (.iaload, 1) := by decide +kernel
theorem dL_law_394 : decode cL_law 394 = .ok (.aload_n 0, 1) := by decide +kernel
theorem dL_law_395 : decode cL_law 395 = .ok (.iload_n 3, 1) := by decide +kernel
theorem dL_law_396 : decode cL_law 396 = .ok (.iconst 2, 1) := by decide +kernel
theorem dL_law_397 : decode cL_law 397 = .ok (.iadd, 1) := by decide +kernel
theorem dL_law_398 : decode cL_law 398 = .ok (.iaload, 1) := by decide +kernel
theorem dL_law_399 : decode cL_law 399 = .ok (.aload_n 0, 1) := by decide +kernel
theorem dL_law_400 : decode cL_law 400 = .ok (.iload_n 3, 1) := by decide +kernel
theorem dL_law_401 : decode cL_law 401 = .ok (.iconst 3, 1) := by decide +kernel
theorem dL_law_402 : decode cL_law 402 = .ok (.iadd, 1) := by decide +kernel
theorem dL_law_403 : decode cL_law 403 = .ok (.iaload, 1) := by decide +kernel
theorem dL_law_404 : decode cL_law 404 = .ok (.invokevirtual 48, 3) := by decide +kernel
theorem dL_law_407 : decode cL_law 407 = .ok (.aload_n 2, 1) := by decide +kernel
theorem dL_law_408 : decode cL_law 408 = .ok (.aload_n 0, 1) := by decide +kernel
theorem dL_law_409 : decode cL_law 409 = .ok (.iload_n 3, 1) := by decide +kernel
theorem dL_law_410 : decode cL_law 410 = .ok (.iconst 1, 1) := by decide +kernel
theorem dL_law_411 : decode cL_law 411 = .ok (.iadd, 1) := by decide +kernel
theorem dL_law_412 : decode cL_law 412 = .ok (.iaload, 1) := by decide +kernel
theorem dL_law_413 : decode cL_law 413 = .ok (.aload_n 0, 1) := by decide +kernel
theorem dL_law_414 : decode cL_law 414 = .ok (.iload_n 3, 1) := by decide +kernel
theorem dL_law_415 : decode cL_law 415 = .ok (.iconst 2, 1) := by decide +kernel
theorem dL_law_416 : decode cL_law 416 = .ok (.iadd, 1) := by decide +kernel
theorem dL_law_417 : decode cL_law 417 = .ok (.iaload, 1) := by decide +kernel
theorem dL_law_418 : decode cL_law 418 = .ok (.aload_n 0, 1) := by decide +kernel
theorem dL_law_419 : decode cL_law 419 = .ok (.iload_n 3, 1) := by decide +kernel
theorem dL_law_420 : decode cL_law 420 = .ok (.iconst 3, 1) := by decide +kernel
theorem dL_law_421 : decode cL_law 421 = .ok (.iadd, 1) := by decide +kernel
theorem dL_law_422 : decode cL_law 422 = .ok (.iaload, 1) := by decide +kernel
theorem dL_law_423 : decode cL_law 423 = .ok (.invokevirtual 51, 3) := by decide +kernel
theorem dL_law_426 : decode cL_law 426 = .ok (.if_icmp .eq 430, 3) := by decide +kernel
theorem dL_law_429 : decode cL_law 429 = .ok (.iconst 0, 1) := by decide +kernel
theorem dL_law_430 : decode cL_law 430 = .ok (.ireturn, 1) := by decide +kernel
theorem dL_law_431 : decode cL_law 431 = .ok (.aload_n 1, 1) := by decide +kernel
theorem dL_law_432 : decode cL_law 432 = .ok (.aload_n 0, 1) := by decide +kernel
theorem dL_law_433 : decode cL_law 433 = .ok (.iload_n 3, 1) := by decide +kernel
theorem dL_law_434 : decode cL_law 434 = .ok (.iconst 1, 1) := by decide +kernel
theorem dL_law_435 : decode cL_law 435 = .ok (.iadd, 1) := by decide +kernel
theorem dL_law_436 : decode cL_law 436 = .ok (.iaload, 1) := by decide +kernel
theorem dL_law_437 : decode cL_law 437 = .ok (.aload_n 0, 1) := by decide +kernel
theorem dL_law_438 : decode cL_law 438 = .ok (.iload_n 3, 1) := by decide +kernel
theorem dL_law_439 : decode cL_law 439 = .ok (.iconst 2, 1) := by decide +kernel
theorem dL_law_440 : decode cL_law 440 = .ok (.iadd, 1) := by decide +kernel
theorem dL_law_441 : decode cL_law 441 = .ok (.iaload, 1) := by decide +kernel
theorem dL_law_442 : decode cL_law 442 = .ok (.aload_n 0, 1) := by decide +kernel
theorem dL_law_443 : decode cL_law 443 = .ok (.iload_n 3, 1) := by decide +kernel
theorem dL_law_444 : decode cL_law 444 = .ok (.iconst 3, 1) := by decide +kernel
theorem dL_law_445 : decode cL_law 445 = .ok (.iadd, 1) := by decide +kernel
theorem dL_law_446 : decode cL_law 446 = .ok (.iaload, 1) := by decide +kernel
theorem dL_law_447 : decode cL_law 447 = .ok (.aload_n 0, 1) := by decide +kernel
theorem dL_law_448 : decode cL_law 448 = .ok (.iload_n 3, 1) := by decide +kernel
theorem dL_law_449 : decode cL_law 449 = .ok (.iconst 4, 1) := by decide +kernel
theorem dL_law_450 : decode cL_law 450 = .ok (.iadd, 1) := by decide +kernel
theorem dL_law_451 : decode cL_law 451 = .ok (.iaload, 1) := by decide +kernel
theorem dL_law_452 : decode cL_law 452 = .ok (.invokevirtual 52, 3) := by decide +kernel
theorem dL_law_455 : decode cL_law 455 = .ok (.aload_n 2, 1) := by decide +kernel
theorem dL_law_456 : decode cL_law 456 = .ok (.aload_n 0, 1) := by decide +kernel
theorem dL_law_457 : decode cL_law 457 = .ok (.iload_n 3, 1) := by decide +kernel
theorem dL_law_458 : decode cL_law 458 = .ok (.iconst 1, 1) := by decide +kernel
theorem dL_law_459 : decode cL_law 459 = .ok (.iadd, 1) := by decide +kernel
theorem dL_law_460 : decode cL_law 460 = .ok (.iaload, 1) := by decide +kernel
theorem dL_law_461 : decode cL_law 461 = .ok (.aload_n 0, 1) := by decide +kernel
theorem dL_law_462 : decode cL_law 462 = .ok (.iload_n 3, 1) := by decide +kernel
theorem dL_law_463 : decode cL_law 463 = .ok (.iconst 2, 1) := by decide +kernel
theorem dL_law_464 : decode cL_law 464 = .ok (.iadd, 1) := by decide +kernel
theorem dL_law_465 : decode cL_law 465 = .ok (.iaload, 1) := by decide +kernel
theorem dL_law_466 : decode cL_law 466 = .ok (.aload_n 0, 1) := by decide +kernel
theorem dL_law_467 : decode cL_law 467 = .ok (.iload_n 3, 1) := by decide +kernel
theorem dL_law_468 : decode cL_law 468 = .ok (.iconst 3, 1) := by decide +kernel
theorem dL_law_469 : decode cL_law 469 = .ok (.iadd, 1) := by decide +kernel
theorem dL_law_470 : decode cL_law 470 = .ok (.iaload, 1) := by decide +kernel
theorem dL_law_471 : decode cL_law 471 = .ok (.aload_n 0, 1) := by decide +kernel
theorem dL_law_472 : decode cL_law 472 = .ok (.iload_n 3, 1) := by decide +kernel
theorem dL_law_473 : decode cL_law 473 = .ok (.iconst 4, 1) := by decide +kernel
theorem dL_law_474 : decode cL_law 474 = .ok (.iadd, 1) := by decide +kernel
theorem dL_law_475 : decode cL_law 475 = .ok (.iaload, 1) := by decide +kernel
theorem dL_law_476 : decode cL_law 476 = .ok (.invokevirtual 56, 3) := by decide +kernel
theorem dL_law_479 : decode cL_law 479 = .ok (.if_icmp .eq 377, 3) := by decide +kernel
theorem dL_law_482 : decode cL_law 482 = .ok (.iconst 0, 1) := by decide +kernel
theorem dL_law_483 : decode cL_law 483 = .ok (.ireturn, 1) := by decide +kernel
theorem dL_law_484 : decode cL_law 484 = .ok (.aload_n 1, 1) := by decide +kernel
theorem dL_law_485 : decode cL_law 485 = .ok (.aload_n 0, 1) := by decide +kernel
theorem dL_law_486 : decode cL_law 486 = .ok (.iload_n 3, 1) := by decide +kernel
theorem dL_law_487 : decode cL_law 487 = .ok (.iconst 1, 1) := by decide +kernel
theorem dL_law_488 : decode cL_law 488 = .ok (.iadd, 1) := by decide +kernel
theorem dL_law_489 : decode cL_law 489 = .ok (.iaload, 1) := by decide +kernel
theorem dL_law_490 : decode cL_law 490 = .ok (.aload_n 0, 1) := by decide +kernel
theorem dL_law_491 : decode cL_law 491 = .ok (.iload_n 3, 1) := by decide +kernel
theorem dL_law_492 : decode cL_law 492 = .ok (.iconst 2, 1) := by decide +kernel
theorem dL_law_493 : decode cL_law 493 = .ok (.iadd, 1) := by decide +kernel
theorem dL_law_494 : decode cL_law 494 = .ok (.iaload, 1) := by decide +kernel
theorem dL_law_495 : decode cL_law 495 = .ok (.aload_n 0, 1) := by decide +kernel
theorem dL_law_496 : decode cL_law 496 = .ok (.iload_n 3, 1) := by decide +kernel
theorem dL_law_497 : decode cL_law 497 = .ok (.iconst 3, 1) := by decide +kernel
theorem dL_law_498 : decode cL_law 498 = .ok (.iadd, 1) := by decide +kernel
theorem dL_law_499 : decode cL_law 499 = .ok (.iaload, 1) := by decide +kernel
theorem dL_law_500 : decode cL_law 500 = .ok (.invokevirtual 57, 3) := by decide +kernel
theorem dL_law_503 : decode cL_law 503 = .ok (.aload_n 2, 1) := by decide +kernel
theorem dL_law_504 : decode cL_law 504 = .ok (.aload_n 0, 1) := by decide +kernel
theorem dL_law_505 : decode cL_law 505 = .ok (.iload_n 3, 1) := by decide +kernel
theorem dL_law_506 : decode cL_law 506 = .ok (.iconst 1, 1) := by decide +kernel
theorem dL_law_507 : decode cL_law 507 = .ok (.iadd, 1) := by decide +kernel
theorem dL_law_508 : decode cL_law 508 = .ok (.iaload, 1) := by decide +kernel
theorem dL_law_509 : decode cL_law 509 = .ok (.aload_n 0, 1) := by decide +kernel
theorem dL_law_510 : decode cL_law 510 = .ok (.iload_n 3, 1) := by decide +kernel
theorem dL_law_511 : decode cL_law 511 = .ok (.iconst 2, 1) := by decide +kernel
theorem dL_law_512 : decode cL_law 512 = .ok (.iadd, 1) := by decide +kernel
theorem dL_law_513 : decode cL_law 513 = .ok (.iaload, 1) := by decide +kernel
theorem dL_law_514 : decode cL_law 514 = .ok (.aload_n 0, 1) := by decide +kernel
theorem dL_law_515 : decode cL_law 515 = .ok (.iload_n 3, 1) := by decide +kernel
theorem dL_law_516 : decode cL_law 516 = .ok (.iconst 3, 1) := by decide +kernel
theorem dL_law_517 : decode cL_law 517 = .ok (.iadd, 1) := by decide +kernel
theorem dL_law_518 : decode cL_law 518 = .ok (.iaload, 1) := by decide +kernel
theorem dL_law_519 : decode cL_law 519 = .ok (.invokevirtual 60, 3) := by decide +kernel
theorem dL_law_522 : decode cL_law 522 = .ok (.if_icmp .eq 334, 3) := by decide +kernel
theorem dL_law_525 : decode cL_law 525 = .ok (.iconst 0, 1) := by decide +kernel
theorem dL_law_526 : decode cL_law 526 = .ok (.ireturn, 1) := by decide +kernel
theorem dL_law_527 : decode cL_law 527 = .ok (.aload_n 1, 1) := by decide +kernel
theorem dL_law_528 : decode cL_law 528 = .ok (.aload_n 0, 1) := by decide +kernel
theorem dL_law_529 : decode cL_law 529 = .ok (.iload_n 3, 1) := by decide +kernel
theorem dL_law_530 : decode cL_law 530 = .ok (.iconst 1, 1) := by decide +kernel
theorem dL_law_531 : decode cL_law 531 = .ok (.iadd, 1) := by decide +kernel
theorem dL_law_532 : decode cL_law 532 = .ok (.iaload, 1) := by decide +kernel
theorem dL_law_533 : decode cL_law 533 = .ok (.aload_n 0, 1) := by decide +kernel
theorem dL_law_534 : decode cL_law 534 = .ok (.iload_n 3, 1) := by decide +kernel
theorem dL_law_535 : decode cL_law 535 = .ok (.iconst 2, 1) := by decide +kernel
theorem dL_law_536 : decode cL_law 536 = .ok (.iadd, 1) := by decide +kernel
theorem dL_law_537 : decode cL_law 537 = .ok (.iaload, 1) := by decide +kernel
theorem dL_law_538 : decode cL_law 538 = .ok (.aload_n 0, 1) := by decide +kernel
theorem dL_law_539 : decode cL_law 539 = .ok (.iload_n 3, 1) := by decide +kernel
theorem dL_law_540 : decode cL_law 540 = .ok (.iconst 3, 1) := by decide +kernel
theorem dL_law_541 : decode cL_law 541 = .ok (.iadd, 1) := by decide +kernel
theorem dL_law_542 : decode cL_law 542 = .ok (.iaload, 1) := by decide +kernel
theorem dL_law_543 : decode cL_law 543 = .ok (.invokevirtual 61, 3) := by decide +kernel
theorem dL_law_546 : decode cL_law 546 = .ok (.aload_n 2, 1) := by decide +kernel
theorem dL_law_547 : decode cL_law 547 = .ok (.aload_n 0, 1) := by decide +kernel
theorem dL_law_548 : decode cL_law 548 = .ok (.iload_n 3, 1) := by decide +kernel
theorem dL_law_549 : decode cL_law 549 = .ok (.iconst 1, 1) := by decide +kernel
theorem dL_law_550 : decode cL_law 550 = .ok (.iadd, 1) := by decide +kernel
theorem dL_law_551 : decode cL_law 551 = .ok (.iaload, 1) := by decide +kernel
theorem dL_law_552 : decode cL_law 552 = .ok (.aload_n 0, 1) := by decide +kernel
theorem dL_law_553 : decode cL_law 553 = .ok (.iload_n 3, 1) := by decide +kernel
theorem dL_law_554 : decode cL_law 554 = .ok (.iconst 2, 1) := by decide +kernel
theorem dL_law_555 : decode cL_law 555 = .ok (.iadd, 1) := by decide +kernel
theorem dL_law_556 : decode cL_law 556 = .ok (.iaload, 1) := by decide +kernel
theorem dL_law_557 : decode cL_law 557 = .ok (.aload_n 0, 1) := by decide +kernel
theorem dL_law_558 : decode cL_law 558 = .ok (.iload_n 3, 1) := by decide +kernel
theorem dL_law_559 : decode cL_law 559 = .ok (.iconst 3, 1) := by decide +kernel
theorem dL_law_560 : decode cL_law 560 = .ok (.iadd, 1) := by decide +kernel
theorem dL_law_561 : decode cL_law 561 = .ok (.iaload, 1) := by decide +kernel
theorem dL_law_562 : decode cL_law 562 = .ok (.invokevirtual 64, 3) := by decide +kernel
theorem dL_law_565 : decode cL_law 565 = .ok (.if_icmp .eq 291, 3) := by decide +kernel
theorem dL_law_568 : decode cL_law 568 = .ok (.iconst 0, 1) := by decide +kernel
theorem dL_law_569 : decode cL_law 569 = .ok (.ireturn, 1) := by decide +kernel
theorem dL_law_570 : decode cL_law 570 = .ok (.aload_n 1, 1) := by decide +kernel
theorem dL_law_571 : decode cL_law 571 = .ok (.aload_n 0, 1) := by decide +kernel
theorem dL_law_572 : decode cL_law 572 = .ok (.iload_n 3, 1) := by decide +kernel
theorem dL_law_573 : decode cL_law 573 = .ok (.iconst 1, 1) := by decide +kernel
theorem dL_law_574 : decode cL_law 574 = .ok (.iadd, 1) := by decide +kernel
theorem dL_law_575 : decode cL_law 575 = .ok (.iaload, 1) := by decide +kernel
theorem dL_law_576 : decode cL_law 576 = .ok (.aload_n 0, 1) := by decide +kernel
theorem dL_law_577 : decode cL_law 577 = .ok (.iload_n 3, 1) := by decide +kernel
theorem dL_law_578 : decode cL_law 578 = .ok (.iconst 2, 1) := by decide +kernel
theorem dL_law_579 : decode cL_law 579 = .ok (.iadd, 1) := by decide +kernel
theorem dL_law_580 : decode cL_law 580 = .ok (.iaload, 1) := by decide +kernel
theorem dL_law_581 : decode cL_law 581 = .ok (.aload_n 0, 1) := by decide +kernel
theorem dL_law_582 : decode cL_law 582 = .ok (.iload_n 3, 1) := by decide +kernel
theorem dL_law_583 : decode cL_law 583 = .ok (.iconst 3, 1) := by decide +kernel
theorem dL_law_584 : decode cL_law 584 = .ok (.iadd, 1) := by decide +kernel
theorem dL_law_585 : decode cL_law 585 = .ok (.iaload, 1) := by decide +kernel
theorem dL_law_586 : decode cL_law 586 = .ok (.invokevirtual 65, 3) := by decide +kernel
theorem dL_law_589 : decode cL_law 589 = .ok (.aload_n 2, 1) := by decide +kernel
theorem dL_law_590 : decode cL_law 590 = .ok (.aload_n 0, 1) := by decide +kernel
theorem dL_law_591 : decode cL_law 591 = .ok (.iload_n 3, 1) := by decide +kernel
theorem dL_law_592 : decode cL_law 592 = .ok (.iconst 1, 1) := by decide +kernel
theorem dL_law_593 : decode cL_law 593 = .ok (.iadd, 1) := by decide +kernel
theorem dL_law_594 : decode cL_law 594 = .ok (.iaload, 1) := by decide +kernel
theorem dL_law_595 : decode cL_law 595 = .ok (.aload_n 0, 1) := by decide +kernel
theorem dL_law_596 : decode cL_law 596 = .ok (.iload_n 3, 1) := by decide +kernel
theorem dL_law_597 : decode cL_law 597 = .ok (.iconst 2, 1) := by decide +kernel
theorem dL_law_598 : decode cL_law 598 = .ok (.iadd, 1) := by decide +kernel
theorem dL_law_599 : decode cL_law 599 = .ok (.iaload, 1) := by decide +kernel
theorem dL_law_600 : decode cL_law 600 = .ok (.aload_n 0, 1) := by decide +kernel
theorem dL_law_601 : decode cL_law 601 = .ok (.iload_n 3, 1) := by decide +kernel
end
section
theorem dL_law_602 : decode cL_law 602 = .ok (.iconst 3, 1) := by decide +kernel
theorem dL_law_603 : decode cL_law 603 = .ok (.iadd, 1) := by decide +kernel
theorem dL_law_604 : decode cL_law 604 = .ok (.iaload, 1) := by decide +kernel
theorem dL_law_605 : decode cL_law 605 = .ok (.invokevirtual 68, 3) := by decide +kernel
theorem dL_law_608 : decode cL_law 608 = .ok (.if_icmp .eq 248, 3) := by decide +kernel
theorem dL_law_611 : decode cL_law 611 = .ok (.iconst 0, 1) := by decide +kernel
theorem dL_law_612 : decode cL_law 612 = .ok (.ireturn, 1) := by decide +kernel
theorem dL_law_613 : decode cL_law 613 = .ok (.aload_n 1, 1) := by decide +kernel
theorem dL_law_614 : decode cL_law 614 = .ok (.aload_n 0, 1) := by decide +kernel
theorem dL_law_615 : decode cL_law 615 = .ok (.iload_n 3, 1) := by decide +kernel
theorem dL_law_616 : decode cL_law 616 = .ok (.iconst 1, 1) := by decide +kernel
theorem dL_law_617 : decode cL_law 617 = .ok (.iadd, 1) := by decide +kernel
theorem dL_law_618 : decode cL_law 618 = .ok (.iaload, 1) := by decide +kernel
theorem dL_law_619 : decode cL_law 619 = .ok (.aload_n 0, 1) := by decide +kernel
theorem dL_law_620 : decode cL_law 620 = .ok (.iload_n 3, 1) := by decide +kernel
theorem dL_law_621 : decode cL_law 621 = .ok (.iconst 2, 1) := by decide +kernel
theorem dL_law_622 : decode cL_law 622 = .ok (.iadd, 1) := by decide +kernel
theorem dL_law_623 : decode cL_law 623 = .ok (.iaload, 1) := by decide +kernel
theorem dL_law_624 : decode cL_law 624 = .ok (.invokevirtual 69, 3) := by decide +kernel
theorem dL_law_627 : decode cL_law 627 = .ok (.aload_n 2, 1) := by decide +kernel
theorem dL_law_628 : decode cL_law 628 = .ok (.aload_n 0, 1) := by decide +kernel
theorem dL_law_629 : decode cL_law 629 = .ok (.iload_n 3, 1) := by decide +kernel
theorem dL_law_630 : decode cL_law 630 = .ok (.iconst 1, 1) := by decide +kernel
theorem dL_law_631 : decode cL_law 631 = .ok (.iadd, 1) := by decide +kernel
theorem dL_law_632 : decode cL_law 632 = .ok (.iaload, 1) := by decide +kernel
theorem dL_law_633 : decode cL_law 633 = .ok (.aload_n 0, 1) := by decide +kernel
theorem dL_law_634 : decode cL_law 634 = .ok (.iload_n 3, 1) := by decide +kernel
theorem dL_law_635 : decode cL_law 635 = .ok (.iconst 2, 1) := by decide +kernel
theorem dL_law_636 : decode cL_law 636 = .ok (.iadd, 1) := by decide +kernel
theorem dL_law_637 : decode cL_law 637 = .ok (.iaload, 1) := by decide +kernel
theorem dL_law_638 : decode cL_law 638 = .ok (.invokevirtual 72, 3) := by decide +kernel
theorem dL_law_641 : decode cL_law 641 = .ok (.if_icmp .eq 215, 3) := by decide +kernel
theorem dL_law_644 : decode cL_law 644 = .ok (.iconst 0, 1) := by decide +kernel
theorem dL_law_645 : decode cL_law 645 = .ok (.ireturn, 1) := by decide +kernel
theorem dL_law_646 : decode cL_law 646 = .ok (.aload_n 1, 1) := by decide +kernel
theorem dL_law_647 : decode cL_law 647 = .ok (.aload_n 0, 1) := by decide +kernel
theorem dL_law_648 : decode cL_law 648 = .ok (.iload_n 3, 1) := by decide +kernel
theorem dL_law_649 : decode cL_law 649 = .ok (.iconst 1, 1) := by decide +kernel
theorem dL_law_650 : decode cL_law 650 = .ok (.iadd, 1) := by decide +kernel
theorem dL_law_651 : decode cL_law 651 = .ok (.iaload, 1) := by decide +kernel
theorem dL_law_652 : decode cL_law 652 = .ok (.invokevirtual 73, 3) := by decide +kernel
theorem dL_law_655 : decode cL_law 655 = .ok (.aload_n 2, 1) := by decide +kernel
theorem dL_law_656 : decode cL_law 656 = .ok (.aload_n 0, 1) := by decide +kernel
theorem dL_law_657 : decode cL_law 657 = .ok (.iload_n 3, 1) := by decide +kernel
theorem dL_law_658 : decode cL_law 658 = .ok (.iconst 1, 1) := by decide +kernel
theorem dL_law_659 : decode cL_law 659 = .ok (.iadd, 1) := by decide +kernel
theorem dL_law_660 : decode cL_law 660 = .ok (.iaload, 1) := by decide +kernel
theorem dL_law_661 : decode cL_law 661 = .ok (.invokevirtual 76, 3) := by decide +kernel
theorem dL_law_664 : decode cL_law 664 = .ok (.if_icmp .eq 192, 3) := by decide +kernel
theorem dL_law_667 : decode cL_law 667 = .ok (.iconst 0, 1) := by decide +kernel
theorem dL_law_668 : decode cL_law 668 = .ok (.ireturn, 1) := by decide +kernel
theorem dL_law_669 : decode cL_law 669 = .ok (.aload_n 1, 1) := by decide +kernel
theorem dL_law_670 : decode cL_law 670 = .ok (.aload_n 0, 1) := by decide +kernel
theorem dL_law_671 : decode cL_law 671 = .ok (.iload_n 3, 1) := by decide +kernel
theorem dL_law_672 : decode cL_law 672 = .ok (.iconst 1, 1) := by decide +kernel
theorem dL_law_673 : decode cL_law 673 = .ok (.iadd, 1) := by decide +kernel
theorem dL_law_674 : decode cL_law 674 = .ok (.iaload, 1) := by decide +kernel
theorem dL_law_675 : decode cL_law 675 = .ok (.invokevirtual 77, 3) := by decide +kernel
theorem dL_law_678 : decode cL_law 678 = .ok (.aload_n 2, 1) := by decide +kernel
theorem dL_law_679 : decode cL_law 679 = .ok (.aload_n 0, 1) := by decide +kernel
theorem dL_law_680 : decode cL_law 680 = .ok (.iload_n 3, 1) := by decide +kernel
theorem dL_law_681 : decode cL_law 681 = .ok (.iconst 1, 1) := by decide +kernel
theorem dL_law_682 : decode cL_law 682 = .ok (.iadd, 1) := by decide +kernel
theorem dL_law_683 : decode cL_law 683 = .ok (.iaload, 1) := by decide +kernel
theorem dL_law_684 : decode cL_law 684 = .ok (.invokevirtual 80, 3) := by decide +kernel
theorem dL_law_687 : decode cL_law 687 = .ok (.if_icmp .eq 169, 3) := by decide +kernel
theorem dL_law_690 : decode cL_law 690 = .ok (.iconst 0, 1) := by decide +kernel
theorem dL_law_691 : decode cL_law 691 = .ok (.ireturn, 1) := by decide +kernel
theorem dL_law_692 : decode cL_law 692 = .ok (.aload_n 1, 1) := by decide +kernel
theorem dL_law_693 : decode cL_law 693 = .ok (.aload_n 0, 1) := by decide +kernel
theorem dL_law_694 : decode cL_law 694 = .ok (.iload_n 3, 1) := by decide +kernel
theorem dL_law_695 : decode cL_law 695 = .ok (.iconst 1, 1) := by decide +kernel
theorem dL_law_696 : decode cL_law 696 = .ok (.iadd, 1) := by decide +kernel
theorem dL_law_697 : decode cL_law 697 = .ok (.iaload, 1) := by decide +kernel
theorem dL_law_698 : decode cL_law 698 = .ok (.aload_n 0, 1) := by decide +kernel
theorem dL_law_699 : decode cL_law 699 = .ok (.iload_n 3, 1) := by decide +kernel
theorem dL_law_700 : decode cL_law 700 = .ok (.iconst 2, 1) := by decide +kernel
theorem dL_law_701 : decode cL_law 701 = .ok (.iadd, 1) := by decide +kernel
theorem dL_law_702 : decode cL_law 702 = .ok (.iaload, 1) := by decide +kernel
theorem dL_law_703 : decode cL_law 703 = .ok (.aload_n 0, 1) := by decide +kernel
theorem dL_law_704 : decode cL_law 704 = .ok (.iload_n 3, 1) := by decide +kernel
theorem dL_law_705 : decode cL_law 705 = .ok (.iconst 3, 1) := by decide +kernel
theorem dL_law_706 : decode cL_law 706 = .ok (.iadd, 1) := by decide +kernel
theorem dL_law_707 : decode cL_law 707 = .ok (.iaload, 1) := by decide +kernel
theorem dL_law_708 : decode cL_law 708 = .ok (.invokevirtual 81, 3) := by decide +kernel
theorem dL_law_711 : decode cL_law 711 = .ok (.aload_n 2, 1) := by decide +kernel
theorem dL_law_712 : decode cL_law 712 = .ok (.aload_n 0, 1) := by decide +kernel
theorem dL_law_713 : decode cL_law 713 = .ok (.iload_n 3, 1) := by decide +kernel
theorem dL_law_714 : decode cL_law 714 = .ok (.iconst 1, 1) := by decide +kernel
theorem dL_law_715 : decode cL_law 715 = .ok (.iadd, 1) := by decide +kernel
theorem dL_law_716 : decode cL_law 716 = .ok (.iaload, 1) := by decide +kernel
theorem dL_law_717 : decode cL_law 717 = .ok (.aload_n 0, 1) := by decide +kernel
theorem dL_law_718 : decode cL_law 718 = .ok (.iload_n 3, 1) := by decide +kernel
theorem dL_law_719 : decode cL_law 719 = .ok (.iconst 2, 1) := by decide +kernel
theorem dL_law_720 : decode cL_law 720 = .ok (.iadd, 1) := by decide +kernel
theorem dL_law_721 : decode cL_law 721 = .ok (.iaload, 1) := by decide +kernel
theorem dL_law_722 : decode cL_law 722 = .ok (.aload_n 0, 1) := by decide +kernel
theorem dL_law_723 : decode cL_law 723 = .ok (.iload_n 3, 1) := by decide +kernel
theorem dL_law_724 : decode cL_law 724 = .ok (.iconst 3, 1) := by decide +kernel
theorem dL_law_725 : decode cL_law 725 = .ok (.iadd, 1) := by decide +kernel
theorem dL_law_726 : decode cL_law 726 = .ok (.iaload, 1) := by decide +kernel
theorem dL_law_727 : decode cL_law 727 = .ok (.invokevirtual 84, 3) := by decide +kernel
theorem dL_law_730 : decode cL_law 730 = .ok (.if_icmp .eq 126, 3) := by decide +kernel
theorem dL_law_733 : decode cL_law 733 = .ok (.iconst 0, 1) := by decide +kernel
theorem dL_law_734 : decode cL_law 734 = .ok (.ireturn, 1) := by decide +kernel
theorem dL_law_735 : decode cL_law 735 = .ok (.aload_n 1, 1) := by decide +kernel
theorem dL_law_736 : decode cL_law 736 = .ok (.invokevirtual 85, 3) := by decide +kernel
theorem dL_law_739 : decode cL_law 739 = .ok (.aload_n 2, 1) := by decide +kernel
theorem dL_law_740 : decode cL_law 740 = .ok (.invokevirtual 89, 3) := by decide +kernel
theorem dL_law_743 : decode cL_law 743 = .ok (.if_icmp .eq 113, 3) := by decide +kernel
theorem dL_law_746 : decode cL_law 746 = .ok (.iconst 0, 1) := by decide +kernel
theorem dL_law_747 : decode cL_law 747 = .ok (.ireturn, 1) := by decide +kernel
theorem dL_law_748 : decode cL_law 748 = .ok (.aload_n 1, 1) := by decide +kernel
theorem dL_law_749 : decode cL_law 749 = .ok (.aload_n 0, 1) := by decide +kernel
theorem dL_law_750 : decode cL_law 750 = .ok (.iload_n 3, 1) := by decide +kernel
theorem dL_law_751 : decode cL_law 751 = .ok (.iconst 1, 1) := by decide +kernel
theorem dL_law_752 : decode cL_law 752 = .ok (.iadd, 1) := by decide +kernel
theorem dL_law_753 : decode cL_law 753 = .ok (.iaload, 1) := by decide +kernel
theorem dL_law_754 : decode cL_law 754 = .ok (.invokevirtual 90, 3) := by decide +kernel
theorem dL_law_757 : decode cL_law 757 = .ok (.aload_n 2, 1) := by decide +kernel
theorem dL_law_758 : decode cL_law 758 = .ok (.aload_n 0, 1) := by decide +kernel
theorem dL_law_759 : decode cL_law 759 = .ok (.iload_n 3, 1) := by decide +kernel
theorem dL_law_760 : decode cL_law 760 = .ok (.iconst 1, 1) := by decide +kernel
theorem dL_law_761 : decode cL_law 761 = .ok (.iadd, 1) := by decide +kernel
theorem dL_law_762 : decode cL_law 762 = .ok (.iaload, 1) := by decide +kernel
theorem dL_law_763 : decode cL_law 763 = .ok (.invokevirtual 93, 3) := by decide +kernel
theorem dL_law_766 : decode cL_law 766 = .ok (.if_icmp .eq 90, 3) := by decide +kernel
theorem dL_law_769 : decode cL_law 769 = .ok (.iconst 0, 1) := by decide +kernel
theorem dL_law_770 : decode cL_law 770 = .ok (.ireturn, 1) := by decide +kernel
theorem dL_law_771 : decode cL_law 771 = .ok (.aload_n 1, 1) := by decide +kernel
theorem dL_law_772 : decode cL_law 772 = .ok (.invokevirtual 94, 3) := by decide +kernel
theorem dL_law_775 : decode cL_law 775 = .ok (.aload_n 2, 1) := by decide +kernel
theorem dL_law_776 : decode cL_law 776 = .ok (.invokevirtual 97, 3) := by decide +kernel
theorem dL_law_779 : decode cL_law 779 = .ok (.if_icmp .eq 77, 3) := by decide +kernel
theorem dL_law_782 : decode cL_law 782 = .ok (.iconst 0, 1) := by decide +kernel
theorem dL_law_783 : decode cL_law 783 = .ok (.ireturn, 1) := by decide +kernel
theorem dL_law_784 : decode cL_law 784 = .ok (.aload_n 1, 1) := by decide +kernel
theorem dL_law_785 : decode cL_law 785 = .ok (.aload_n 0, 1) := by decide +kernel
theorem dL_law_786 : decode cL_law 786 = .ok (.iload_n 3, 1) := by decide +kernel
theorem dL_law_787 : decode cL_law 787 = .ok (.iconst 1, 1) := by decide +kernel
theorem dL_law_788 : decode cL_law 788 = .ok (.iadd, 1) := by decide +kernel
theorem dL_law_789 : decode cL_law 789 = .ok (.iaload, 1) := by decide +kernel
theorem dL_law_790 : decode cL_law 790 = .ok (.invokevirtual 98, 3) := by decide +kernel
theorem dL_law_793 : decode cL_law 793 = .ok (.aload_n 2, 1) := by decide +kernel
theorem dL_law_794 : decode cL_law 794 = .ok (.aload_n 0, 1) := by decide +kernel
theorem dL_law_795 : decode cL_law 795 = .ok (.iload_n 3, 1) := by decide +kernel
theorem dL_law_796 : decode cL_law 796 = .ok (.iconst 1, 1) := by decide +kernel
theorem dL_law_797 : decode cL_law 797 = .ok (.iadd, 1) := by decide +kernel
theorem dL_law_798 : decode cL_law 798 = .ok (.iaload, 1) := by decide +kernel
theorem dL_law_799 : decode cL_law 799 = .ok (.invokevirtual 101, 3) := by decide +kernel
theorem dL_law_802 : decode cL_law 802 = .ok (.if_icmp .eq 54, 3) := by decide +kernel
theorem dL_law_805 : decode cL_law 805 = .ok (.iconst 0, 1) := by decide +kernel
theorem dL_law_806 : decode cL_law 806 = .ok (.ireturn, 1) := by decide +kernel
theorem dL_law_807 : decode cL_law 807 = .ok (.aload_n 1, 1) := by decide +kernel
theorem dL_law_808 : decode cL_law 808 = .ok (.invokevirtual 102, 3) := by decide +kernel
theorem dL_law_811 : decode cL_law 811 = .ok (.aload_n 2, 1) := by decide +kernel
theorem dL_law_812 : decode cL_law 812 = .ok (.invokevirtual 105, 3) := by decide +kernel
theorem dL_law_815 : decode cL_law 815 = .ok (.if_icmp .eq 41, 3) := by decide +kernel
theorem dL_law_818 : decode cL_law 818 = .ok (.iconst 0, 1) := by decide +kernel
theorem dL_law_819 : decode cL_law 819 = .ok (.ireturn, 1) := by decide +kernel
theorem dL_law_820 : decode cL_law 820 = .ok (.aload_n 1, 1) := by decide +kernel
theorem dL_law_821 : decode cL_law 821 = .ok (.aload_n 0, 1) := by decide +kernel
theorem dL_law_822 : decode cL_law 822 = .ok (.iload_n 3, 1) := by decide +kernel
theorem dL_law_823 : decode cL_law 823 = .ok (.iconst 1, 1) := by decide +kernel
theorem dL_law_824 : decode cL_law 824 = .ok (.iadd, 1) := by decide +kernel
theorem dL_law_825 : decode cL_law 825 = .ok (.iaload, 1) := by decide +kernel
theorem dL_law_826 : decode cL_law 826 = .ok (.invokevirtual 106, 3) := by decide +kernel
theorem dL_law_829 : decode cL_law 829 = .ok (.aload_n 2, 1) := by decide +kernel
theorem dL_law_830 : decode cL_law 830 = .ok (.aload_n 0, 1) := by decide +kernel
theorem dL_law_831 : decode cL_law 831 = .ok (.iload_n 3, 1) := by decide +kernel
theorem dL_law_832 : decode cL_law 832 = .ok (.iconst 1, 1) := by decide +kernel
theorem dL_law_833 : decode cL_law 833 = .ok (.iadd, 1) := by decide +kernel
theorem dL_law_834 : decode cL_law 834 = .ok (.iaload, 1) := by decide +kernel
theorem dL_law_835 : decode cL_law 835 = .ok (.invokevirtual 109, 3) := by decide +kernel
theorem dL_law_838 : decode cL_law 838 = .ok (.if_icmp .eq 18, 3) := by decide +kernel
theorem dL_law_841 : decode cL_law 841 = .ok (.iconst 0, 1) := by decide +kernel
theorem dL_law_842 : decode cL_law 842 = .ok (.ireturn, 1) := by decide +kernel
theorem dL_law_843 : decode cL_law 843 = .ok (.aload_n 1, 1) := by decide +kernel
theorem dL_law_844 : decode cL_law 844 = .ok (.invokevirtual 110, 3) := by decide +kernel
theorem dL_law_847 : decode cL_law 847 = .ok (.aload_n 2, 1) := by decide +kernel
theorem dL_law_848 : decode cL_law 848 = .ok (.invokevirtual 113, 3) := by decide +kernel
theorem dL_law_851 : decode cL_law 851 = .ok (.if_icmp .eq 5, 3) := by decide +kernel
theorem dL_law_854 : decode cL_law 854 = .ok (.iconst 0, 1) := by decide +kernel
theorem dL_law_855 : decode cL_law 855 = .ok (.ireturn, 1) := by decide +kernel
theorem dL_law_856 : decode cL_law 856 = .ok (.iinc 3 5, 3) := by decide +kernel
theorem dL_law_859 : decode cL_law 859 = .ok (.goto (-841), 3) := by decide +kernel
theorem dL_law_862 : decode cL_law 862 = .ok (.iconst 1, 1) := by decide +kernel
theorem dL_law_863 : decode cL_law 863 = .ok (.ireturn, 1) := by decide +kernel
end
section
/-! the machine's ints as whole numbers -/
def hIn (x : Int) : Prop := -2147483648 ≤ x ∧ x ≤ 2147483647
def hI (x : Int) : Int32 := Int32.ofInt x
def hJ (x : Int) : Int64 := Int64.ofInt x
theorem hI_add (a b : Int) : hI a + hI b = hI (a + b) := (Int32.ofInt_add a b).symm
theorem hI_sub (a b : Int) : hI a - hI b = hI (a - b) := (Int32.ofInt_sub a b).symm
theorem hI_mul (a b : Int) : hI a * hI b = hI (a * b) := (Int32.ofInt_mul a b).symm
theorem hI_neg (a : Int) : - hI a = hI (-a) := (Int32.ofInt_neg a).symm
theorem hI_toInt {a : Int} (h : hIn a) : (hI a).toInt = a := Int32.toInt_ofInt_of_le (by have := h.1; omega) (by have := h.2; omega)
theorem hI_of (x : Int32) : hI x.toInt = x := Int32.ofInt_toInt x
theorem hIn_toInt (x : Int32) : hIn x.toInt := ⟨by have := Int32.le_toInt x; omega, by have := Int32.toInt_lt x; omega⟩
theorem hJ_of (x : Int64) : hJ x.toInt = x := Int64.ofInt_toInt x
theorem hI_lt {a b : Int} (ha : hIn a) (hb : hIn b) : hI a < hI b ↔ a < b := by rw [Int32.lt_iff_toInt_lt, hI_toInt ha, hI_toInt hb]
theorem hI_le {a b : Int} (ha : hIn a) (hb : hIn b) : hI a ≤ hI b ↔ a ≤ b := by rw [Int32.le_iff_toInt_le, hI_toInt ha, hI_toInt hb]
theorem hI_eq {a b : Int} (ha : hIn a) (hb : hIn b) : hI a = hI b ↔ a = b := by rw [← Int32.toInt_inj, hI_toInt ha, hI_toInt hb]
theorem hI_0 : hI 0 = 0 := by decide
theorem hIn_0 : hIn 0 := ⟨by decide, by decide⟩
theorem hI_clamp {a : Int} (h0 : 0 ≤ a) (h : hIn a) : (hI a).toNatClampNeg = a.toNat := by
  show (hI a).toInt.toNat = a.toNat
  rw [hI_toInt h]
theorem hI_ix {k : Int} {n : Nat} (hk : 0 ≤ k ∧ k < n) (hn : n < 100000) : vp_in (hI k) n ∧ (hI k).toNatClampNeg = k.toNat := by
  have h : hIn k := ⟨by omega, by omega⟩
  have e := hI_clamp hk.1 h
  refine ⟨?_, e⟩
  unfold vp_in
  rw [e, ← hI_0, hI_lt h hIn_0]
  omega
theorem hI_div {a b : Int} (ha : hIn a) (h0 : 0 ≤ a) (hb : hIn b) (h1 : 0 < b) : hI a / hI b = hI (a / b) := by
  apply Int32.toInt_inj.mp
  have e : a.tdiv b = a / b := Int.tdiv_eq_ediv_of_nonneg h0
  have h2 : a / b ≤ a := Int.ediv_le_self b h0
  have h3 : 0 ≤ a / b := Int.ediv_nonneg h0 (Int.le_of_lt h1)
  have h4 : hIn (a / b) := ⟨by omega, by have := ha.2; omega⟩
  rw [Int32.toInt_div, hI_toInt ha, hI_toInt hb, e, hI_toInt h4]
  exact Int.bmod_eq_of_le (by have := h4.1; omega) (by have := h4.2; omega)
def iOr (a b : Int) : Int := (hI a ||| hI b).toInt
def iAnd (a b : Int) : Int := (hI a &&& hI b).toInt
def iShl (a b : Int) : Int := (hI a <<< (hI b &&& 31)).toInt
def iShr (a b : Int) : Int := (hI a >>> (hI b &&& 31)).toInt
def jOr (a b : Int) : Int := (hJ a ||| hJ b).toInt
def jAnd (a b : Int) : Int := (hJ a &&& hJ b).toInt
def jXor (a b : Int) : Int := (hJ a ^^^ hJ b).toInt
def jShl (a b : Int) : Int := (hJ a <<< ((hI b).toInt64 &&& 63)).toInt
def jUshr (a b : Int) : Int := ((hJ a).toUInt64 >>> ((hI b).toInt64.toUInt64 &&& Int64.toUInt64 63)).toInt64.toInt
def jToI (a : Int) : Int := (hJ a).toInt32.toInt
def jCmp (a b : Int) : Int := (lg_cmp (hJ a) (hJ b)).toInt
/-! memory: groups (0 to 6 fonts, 7 fit, 8 orders, 9 history, 10 model, 11 the class's object), rows of a group, places of a row; a row of longs is told at its number and 100 -/
abbrev hGM : Type := Nat → Int → Int
abbrev hS : Type := Nat → hGM
def gset (S : hS) (g : Nat) (A : hGM) : hS := fun k => if k = g then A else S k
def aset (A : hGM) (i : Nat) (k v : Int) : hGM := fun j q => if j = i ∧ q = k then v else A j q
theorem gset_at (S : hS) (g : Nat) (A : hGM) : gset S g A g = A := by simp [gset]
theorem gset_ne {S : hS} {g k : Nat} {A : hGM} (h : k ≠ g) : gset S g A k = S k := by simp [gset, h]
theorem gset_gset (S : hS) (g : Nat) (A B : hGM) : gset (gset S g A) g B = gset S g B := by
  funext k; by_cases h : k = g <;> simp [gset, h]
theorem gset_comm {S : hS} {g k : Nat} {A B : hGM} (h : k ≠ g) : gset (gset S g A) k B = gset (gset S k B) g A := by
  funext j; by_cases h1 : j = g <;> by_cases h2 : j = k <;> simp_all [gset]
theorem gset_self (S : hS) (g : Nat) : gset S g (S g) = S := by
  funext k; by_cases h : k = g <;> simp [gset, h]
theorem aset_at (A : hGM) (i : Nat) (k v : Int) : aset A i k v i k = v := by simp [aset]
theorem aset_row {A : hGM} {i j : Nat} {k v : Int} (h : j ≠ i) : aset A i k v j = A j := by funext q; simp [aset, h]
theorem aset_ne {A : hGM} {i j : Nat} {k q v : Int} (h : ¬ (j = i ∧ q = k)) : aset A i k v j q = A j q := by simp only [aset, if_neg h]
def hR (S : hS) : Prop := ∀ g i k, i < 100 → hIn (S g i k)
theorem hR_set {S : hS} (h : hR S) {g i : Nat} {k v : Int} (hv : hIn v ∨ 100 ≤ i) : hR (gset S g (aset (S g) i k v)) := by
  intro g' i' k' hi
  unfold gset
  split
  · next e =>
    unfold aset
    split
    · next e2 => rcases hv with hv | hv
                 · exact hv
                 · omega
    · subst e; exact h _ _ _ hi
  · exact h _ _ _ hi
/-! the cells -/
section
variable (ad : Nat → Nat → Nat) (cI cJ cF : ClassId)
def hCellR (g i : Nat) (r rl : Int → Int) : va_E :=
  if g < 7 then (match i with
    | 0 => .inr (1, [.int (hI (r 0)), .int (hI (r 1)), .int (hI (r 2)), .int (hI (r 3)), .ref (ad g 1), .ref (ad g 2), .ref (ad g 3), .ref (ad g 4), .ref (ad g 5), .ref (ad g 6), .ref (ad g 7)])
    | 1 => .inl (cI, 8, .inl (fun k => hI (r k)))
    | 2 => .inl (cI, 8, .inl (fun k => hI (r k)))
    | 3 => .inl (cI, 48, .inl (fun k => hI (r k)))
    | 4 => .inl (cI, 48, .inl (fun k => hI (r k)))
    | 5 => .inl (cI, 48, .inl (fun k => hI (r k)))
    | 6 => .inl (cI, 3, .inl (fun k => hI (r k)))
    | 7 => .inr (4, [.int (hI (r 0)), .ref (ad g 8), .ref (ad g 9), .ref (ad g 10), .ref (ad g 11), .ref (ad g 12)])
    | 8 => .inl (cI, 4, .inl (fun k => hI (r k)))
    | 9 => .inl (cI, 4, .inl (fun k => hI (r k)))
    | 10 => .inl (cI, 4, .inl (fun k => hI (r k)))
    | 11 => .inl (cI, 32, .inl (fun k => hI (r k)))
    | _ => .inl (cJ, 32, .inr (.inl (fun k => hJ (rl k)))))
  else if g = 7 then (match i with
    | 0 => .inr (0, [.int (hI (r 0)), .int (hI (r 1)), .int (hI (r 2)), .long (hJ (rl 0)), .ref (ad 7 1), .ref (ad 7 2), .ref (ad 7 3)])
    | 1 => .inl (cI, 6, .inl (fun k => hI (r k)))
    | 2 => .inl (cI, 6, .inl (fun k => hI (r k)))
    | _ => .inl (cI, 48, .inl (fun k => hI (r k))))
  else if g = 8 then (match i with
    | 0 => .inr (3, [.ref (ad 8 1), .int (hI (r 1)), .ref (ad 8 2), .int (hI (r 3)), .int (hI (r 4)), .int (hI (r 5)), .int (hI (r 6)), .int (hI (r 7))])
    | 1 => .inl (cI, 60, .inl (fun k => hI (r k)))
    | _ => .inl (cI, 3, .inl (fun k => hI (r k))))
  else if g = 9 then (match i with
    | 0 => .inr (2, [.ref (ad 9 1), .int (hI (r 1)), .int (hI (r 2))])
    | _ => .inl (cF, 5, .inr (.inr (.inr (.inr (fun k => some (ad (2 + k) 0)))))))
  else if g = 10 then (match i with
    | 0 => .inr (6, [.ref (ad 10 1), .ref (ad 10 2), .ref (ad 10 3), .int (hI (r 3)), .int (hI (r 4)), .ref (ad 10 4), .int (hI (r 6)), .ref (ad 10 5), .ref (ad 10 6), .int (hI (r 9)), .int (hI (r 10)), .int (hI (r 11)), .int (hI (r 12)), .int (hI (r 13)), .int (hI (r 14)), .int (hI (r 15)), .ref (ad 10 7)])
    | 1 => .inl (cI, 273, .inl (fun k => hI (r k)))
    | 2 => .inl (cI, 1092, .inl (fun k => hI (r k)))
    | 3 => .inl (cI, 273, .inl (fun k => hI (r k)))
    | 4 => .inl (cI, 60, .inl (fun k => hI (r k)))
    | 5 => .inl (cI, 6, .inl (fun k => hI (r k)))
    | 6 => .inl (cI, 6, .inl (fun k => hI (r k)))
    | _ => .inl (cI, 3, .inl (fun k => hI (r k))))
  else .inr (5, [.ref (ad 0 0), .ref (ad 1 0), .ref (ad 7 0), .ref (ad 8 0), .ref (ad 9 0)])
def hUnpos (q : Nat) : Nat × Nat := if q < 91 then (q / 13, q % 13) else if q < 95 then (7, q - 91) else if q < 98 then (8, q - 95) else if q < 100 then (9, q - 98) else if q < 108 then (10, q - 100) else (11, q - 108)
def hPos (q : Nat × Nat) : Nat := if q.1 < 7 then 13 * q.1 + q.2 else if q.1 = 7 then 91 + q.2 else if q.1 = 8 then 95 + q.2 else if q.1 = 9 then 98 + q.2 else if q.1 = 10 then 100 + q.2 else 108 + q.2
theorem hPos_un : ∀ q, q < 109 → hPos (hUnpos q) = q ∧ (hUnpos q).2 < 13 := by decide +kernel
theorem hUnpos_inj {q q' : Nat} (h : q < 109) (h' : q' < 109) (e : hUnpos q = hUnpos q') : q = q' := by
  rw [← (hPos_un q h).1, e, (hPos_un q' h').1]
def hCell (S : hS) (g i : Nat) : va_E := hCellR ad cI cJ cF g i (S g i) (S g (100 + i))
def hW (S : hS) : va_W := (List.range 109).map (fun q => (ad (hUnpos q).1 (hUnpos q).2, hCell ad cI cJ cF S (hUnpos q).1 (hUnpos q).2))
def hTys : List (ClassId × FieldType) := [(cI, .int), (cJ, .long), (cF, .object "HintedStems$Font")]
def hAd : Nat → Prop := fun a => ∃ q, q < 109 ∧ a = ad (hUnpos q).1 (hUnpos q).2
def hInj : Prop := ∀ q q' : Nat, q < 109 → q' < 109 → ad (hUnpos q).1 (hUnpos q).2 = ad (hUnpos q').1 (hUnpos q').2 → q = q'
end
def hNW (U : State) : Prop := ∀ w ∈ hNestL, va_Nw w U
theorem hNW_warm {s U : State} (hW : s.WarmedH U.vm) (h : hNW s) : hNW U := by
  intro w hw
  have h1 := h w hw
  have h2 : hNest w = true := (List.mem_filter.mp hw).2
  cases w <;> first | exact va_Nw.warmF hW h1 | exact va_Nw.warmM hW h1 | cases h2
section
variable {ad : Nat → Nat → Nat} {cI cJ cF : ClassId} {S S' : hS} {g i q : Nat}
theorem hW_at (hq : q < 109) (hu : hUnpos q = (g, i)) : (hW ad cI cJ cF S)[q]? = some (ad g i, hCell ad cI cJ cF S g i) := by
  unfold hW
  rw [List.getElem?_map, List.getElem?_range hq]
  simp only [Option.map_some, hu]
theorem hW_set (hq : q < 109) (hu : hUnpos q = (g, i)) (hs : ∀ g' i', g' ≠ g ∨ (i' ≠ i ∧ i' ≠ 100 + i) → S' g' i' = S g' i') : (hW ad cI cJ cF S).set q (ad g i, hCell ad cI cJ cF S' g i) = hW ad cI cJ cF S' := by
  apply List.ext_getElem?
  intro k
  rw [List.getElem?_set]
  by_cases hk : q = k
  · subst hk
    rw [if_pos rfl, if_pos (by simpa [hW] using hq), hW_at hq hu]
  · rw [if_neg hk]
    by_cases h9 : k < 109
    · obtain ⟨g', i', e⟩ : ∃ g' i', hUnpos k = (g', i') := ⟨_, _, rfl⟩
      rw [hW_at h9 e, hW_at h9 e]
      have b1 : i < 13 := by have := (hPos_un q hq).2; rw [hu] at this; exact this
      have b2 : i' < 13 := by have := (hPos_un k h9).2; rw [e] at this; exact this
      have hne : g' ≠ g ∨ i' ≠ i := by
        by_cases h1 : g' = g
        · right; intro h2
          subst h1; subst h2
          exact hk (hUnpos_inj hq h9 (hu.trans e.symm))
        · exact Or.inl h1
      have e1 : S' g' i' = S g' i' := hs g' i' (by rcases hne with h | h; exact Or.inl h; exact Or.inr ⟨h, by omega⟩)
      have e2 : S' g' (100 + i') = S g' (100 + i') := hs g' (100 + i') (by rcases hne with h | h; exact Or.inl h; exact Or.inr ⟨by omega, by omega⟩)
      simp only [hCell, e1, e2]
    · rw [List.getElem?_eq_none (by simp [hW]; omega), List.getElem?_eq_none (by simp [hW]; omega)]
theorem hW_D (h : hInj ad) : va_D (hAd ad) (hW ad cI cJ cF S) := by
  have key : ∀ (k : Nat) (p : Nat × va_E), (hW ad cI cJ cF S)[k]? = some p → k < 109 ∧ p.1 = ad (hUnpos k).1 (hUnpos k).2 := by
    intro k p hp
    have hk : k < 109 := by
      have := (List.getElem?_eq_some_iff.mp hp).1
      simpa [hW] using this
    rw [hW_at hk (g := (hUnpos k).1) (i := (hUnpos k).2) rfl] at hp
    exact ⟨hk, by rw [← Option.some.inj hp]⟩
  refine ⟨fun a b p q ha hb e => ?_, fun k p hp => ?_⟩
  · obtain ⟨h1, e1⟩ := key a p ha
    obtain ⟨h2, e2⟩ := key b q hb
    exact h a b h1 h2 (by rw [← e1, ← e2, e])
  · obtain ⟨h1, e1⟩ := key k p hp
    exact ⟨k, h1, e1⟩
theorem hset_else {v : Int} {k : Int} {i0 : Nat} (h : i0 = i ∨ i0 = 100 + i) : ∀ g' i', g' ≠ g ∨ (i' ≠ i ∧ i' ≠ 100 + i) → (gset S g (aset (S g) i0 k v)) g' i' = S g' i' := by
  intro g' i' h1
  unfold gset
  split
  · next e =>
    subst e
    rw [aset_row]
    rcases h1 with h1 | h1
    · exact absurd rfl h1
    · rcases h with h | h <;> omega
  · rfl
end
end
section
/-! rows over the world of whole numbers -/
section
variable (D : va_G) (ad : Nat → Nat → Nat) (cI cJ cF : ClassId)
def hE (p : Program) (s : State) (m : MethodId) (args : Array Value) (meth : Method) (c : Code) (own : String) (cc : ByteArray) (nL : Nat) (ret : Option FieldType) : Prop :=
  p.tables.exec = Jvm.exec ∧ c.code = cc ∧ c.maxLocals = nL ∧ s.vm.findClass own = some m.cls ∧ (∀ w ∈ hWall, w.before args s = true) ∧ va_K D vwCl (hTys cI cJ cF) s ∧ hNW s ∧ hInj ad ∧ meth.sig.returnType = ret ∧ meth.locks = false
def hH (S : hS) (s : State) (H : Heap) (locs : List Loc) : Prop := va_P D vwCl (hW ad cI cJ cF S) H ∧ hR S ∧ va_S (hAd ad) s.heap H locs
def hPre (S : hS) (U : State) : Prop := va_P D vwCl (hW ad cI cJ cF S) U.heap ∧ va_K D vwCl (hTys cI cJ cF) U ∧ hNW U ∧ hR S
def hEnd (S : hS) (t : State) : Prop := va_P D vwCl (hW ad cI cJ cF S) t.heap ∧ hR S
def hQi (r : Int) (S : hS) : Array Value → State → Outcome → State → Prop := va_Qi (fun (x : Int32) (_ : Unit) => x = hI r ∧ hIn r) (fun _ t => hEnd D ad cI cJ cF S t) (hAd ad)
def hQl (r : Int) (S : hS) : Array Value → State → Outcome → State → Prop := va_Ql (fun (x : Int64) (_ : Unit) => x = hJ r) (fun _ t => hEnd D ad cI cJ cF S t) (hAd ad)
def hQv (S : hS) : Array Value → State → Outcome → State → Prop := va_Qv (fun (_ : Unit) => True) (fun _ t => hEnd D ad cI cJ cF S t) (hAd ad)
def hQr (g i : Nat) (S : hS) : Array Value → State → Outcome → State → Prop := va_Qr (fun (_ : Unit) => True) (fun _ a t => a = ad g i ∧ hEnd D ad cI cJ cF S t) (hAd ad)
def hMi (l : Launch) (y : MethodName) (bytes : ByteArray) (nL : Nat) (ret : Option FieldType) (rm : Room) (vs : List Value) (S : hS) (r : Int) (S' : hS) : Prop := Met l y (.code y bytes nL ret :: hWall) rm (va_Pc vs (hPre D ad cI cJ cF S)) (hQi D ad cI cJ cF r S') 0 0 (hAd ad)
def hMl (l : Launch) (y : MethodName) (bytes : ByteArray) (nL : Nat) (rm : Room) (vs : List Value) (S : hS) (r : Int) (S' : hS) : Prop := Met l y (.code y bytes nL (some .long) :: hWall) rm (va_Pc vs (hPre D ad cI cJ cF S)) (hQl D ad cI cJ cF r S') 0 0 (hAd ad)
def hMv (l : Launch) (y : MethodName) (bytes : ByteArray) (nL : Nat) (rm : Room) (vs : List Value) (S : hS) (S' : hS) : Prop := Met l y (.code y bytes nL none :: hWall) rm (va_Pc vs (hPre D ad cI cJ cF S)) (hQv D ad cI cJ cF S') 0 0 (hAd ad)
def hMr (l : Launch) (y : MethodName) (bytes : ByteArray) (nL : Nat) (ret : Option FieldType) (rm : Room) (vs : List Value) (S : hS) (g i : Nat) (S' : hS) : Prop := Met l y (.code y bytes nL ret :: hWall) rm (va_Pc vs (hPre D ad cI cJ cF S)) (hQr D ad cI cJ cF g i S') 0 0 (hAd ad)
/-- the walk at a place: from every heap that holds the state -/
def hAt (p : Program) (l : Launch) (e : Env) (R : Room) (s : State) (m : MethodId) (args : Array Value) (below : List Frame) (meth : Method) (c : Code) (Q : State → Prop) (nL pc : Nat) (L : List (Nat × Value)) (S : hS) : Prop :=
  ∀ (H : Heap) (locs : List Loc) (ls : Array Slot), hH D ad cI cJ cF S s H locs → lv_has ls nL L → W p l e R s m args below meth c H locs 0 0 Q (F0 m pc ls [])
/-- an array of whole numbers -/
def hIA (g i n q : Nat) : Prop := q < 109 ∧ hUnpos q = (g, i) ∧ i < 13 ∧ n < 100000 ∧ ∀ r rl, hCellR ad cI cJ cF g i r rl = .inl (cI, n, .inl (fun k => hI (r k)))
end
section
variable {p : Program} {l : Launch} {e : Env} {R : Room} {s : State} {m : MethodId} {args : Array Value} {below : List Frame} {meth : Method} {c : Code} {H : Heap} {locs : List Loc} {cells slots : Nat} {Q : State → Prop}
variable {cc : ByteArray} {pc nL : Nat} {ls : Array Slot} {rest : List Value} {own : String} {ret : Option FieldType}
variable {D : va_G} {ad : Nat → Nat → Nat} {cI cJ cF : ClassId} {S S' : hS}
theorem iv_iconst (hx : p.tables.exec = Jvm.exec) (hb : c.code = cc) {n : Int} (hdg : decode cc pc = .ok (.iconst n, 1))
    (k : W p l e R s m args below meth c H locs cells slots Q (F0 m (pc + 1) ls (.int (hI n) :: rest))) : W p l e R s m args below meth c H locs cells slots Q (F0 m pc ls rest) := lv_iconst hx hb hdg rfl k
theorem iv_ldc (hx : p.tables.exec = Jvm.exec) (hb : c.code = cc) {n : Int} {index : Nat} {v : Int32} (hv : v = hI n) (hown : s.vm.findClass own = some m.cls) (hc : (Jvm.Cond.constant own index v).before args s = true) (hdg : decode cc pc = .ok (.ldc index, 2))
    (k : W p l e R s m args below meth c H locs cells slots Q (F0 m (pc + 2) ls (.int (hI n) :: rest))) : W p l e R s m args below meth c H locs cells slots Q (F0 m pc ls rest) := lv_ldc hx hb hown hc hdg (by rw [hv]; exact k)
theorem iv_iadd (hx : p.tables.exec = Jvm.exec) (hb : c.code = cc) {a b : Int} (hdg : decode cc pc = .ok (.iadd, 1))
    (k : W p l e R s m args below meth c H locs cells slots Q (F0 m (pc + 1) ls (.int (hI (a + b)) :: rest))) : W p l e R s m args below meth c H locs cells slots Q (F0 m pc ls (.int (hI b) :: .int (hI a) :: rest)) := lv_iadd hx hb hdg (by rw [hI_add]; exact k)
theorem iv_isub (hx : p.tables.exec = Jvm.exec) (hb : c.code = cc) {a b : Int} (hdg : decode cc pc = .ok (.isub, 1))
    (k : W p l e R s m args below meth c H locs cells slots Q (F0 m (pc + 1) ls (.int (hI (a - b)) :: rest))) : W p l e R s m args below meth c H locs cells slots Q (F0 m pc ls (.int (hI b) :: .int (hI a) :: rest)) := lv_isub hx hb hdg (by rw [hI_sub]; exact k)
theorem iv_imul (hx : p.tables.exec = Jvm.exec) (hb : c.code = cc) {a b : Int} (hdg : decode cc pc = .ok (.imul, 1))
    (k : W p l e R s m args below meth c H locs cells slots Q (F0 m (pc + 1) ls (.int (hI (a * b)) :: rest))) : W p l e R s m args below meth c H locs cells slots Q (F0 m pc ls (.int (hI b) :: .int (hI a) :: rest)) := lv_imul hx hb hdg (by rw [hI_mul]; exact k)
theorem iv_ineg (hx : p.tables.exec = Jvm.exec) (hb : c.code = cc) {a : Int} (hdg : decode cc pc = .ok (.ineg, 1))
    (k : W p l e R s m args below meth c H locs cells slots Q (F0 m (pc + 1) ls (.int (hI (-a)) :: rest))) : W p l e R s m args below meth c H locs cells slots Q (F0 m pc ls (.int (hI a) :: rest)) := lv_ineg hx hb hdg (by rw [hI_neg]; exact k)
theorem iv_idiv (hx : p.tables.exec = Jvm.exec) (hb : c.code = cc) {a b : Int} (ha : hIn a) (h0 : 0 ≤ a) (hb1 : hIn b) (h1 : 0 < b) (hdg : decode cc pc = .ok (.idiv, 1))
    (k : W p l e R s m args below meth c H locs cells slots Q (F0 m (pc + 1) ls (.int (hI (a / b)) :: rest))) : W p l e R s m args below meth c H locs cells slots Q (F0 m pc ls (.int (hI b) :: .int (hI a) :: rest)) :=
  lv_idiv hx hb hdg (fun h => by rw [← hI_0, hI_eq hb1 hIn_0] at h; omega) (by rw [hI_div ha h0 hb1 h1]; exact k)
theorem iv_irem (hx : p.tables.exec = Jvm.exec) (hb : c.code = cc) {a b : Int} (ha : hIn a) (h0 : 0 ≤ a) (hb1 : hIn b) (h1 : 0 < b) (hdg : decode cc pc = .ok (.irem, 1))
    (k : W p l e R s m args below meth c H locs cells slots Q (F0 m (pc + 1) ls (.int (hI (a % b)) :: rest))) : W p l e R s m args below meth c H locs cells slots Q (F0 m pc ls (.int (hI b) :: .int (hI a) :: rest)) := by
  refine lv_irem hx hb hdg (fun h => by rw [← hI_0, hI_eq hb1 hIn_0] at h; omega) ?_
  have e : a - a / b * b = a % b := by rw [Int.emod_def, Int.mul_comm b]
  rw [hI_div ha h0 hb1 h1, hI_mul, hI_sub, e]
  exact k
theorem iv_ior (hx : p.tables.exec = Jvm.exec) (hb : c.code = cc) {a b : Int} (hdg : decode cc pc = .ok (.ior, 1))
    (k : W p l e R s m args below meth c H locs cells slots Q (F0 m (pc + 1) ls (.int (hI (iOr a b)) :: rest))) : W p l e R s m args below meth c H locs cells slots Q (F0 m pc ls (.int (hI b) :: .int (hI a) :: rest)) := lv_ior hx hb hdg (by unfold iOr at k; rw [hI_of] at k; exact k)
theorem iv_iand (hx : p.tables.exec = Jvm.exec) (hb : c.code = cc) {a b : Int} (hdg : decode cc pc = .ok (.iand, 1))
    (k : W p l e R s m args below meth c H locs cells slots Q (F0 m (pc + 1) ls (.int (hI (iAnd a b)) :: rest))) : W p l e R s m args below meth c H locs cells slots Q (F0 m pc ls (.int (hI b) :: .int (hI a) :: rest)) := lv_iand hx hb hdg (by unfold iAnd at k; rw [hI_of] at k; exact k)
theorem iv_ishl (hx : p.tables.exec = Jvm.exec) (hb : c.code = cc) {a b : Int} (hdg : decode cc pc = .ok (.ishl, 1))
    (k : W p l e R s m args below meth c H locs cells slots Q (F0 m (pc + 1) ls (.int (hI (iShl a b)) :: rest))) : W p l e R s m args below meth c H locs cells slots Q (F0 m pc ls (.int (hI b) :: .int (hI a) :: rest)) := lv_ishl hx hb hdg (by unfold iShl at k; rw [hI_of] at k; exact k)
theorem iv_ishr (hx : p.tables.exec = Jvm.exec) (hb : c.code = cc) {a b : Int} (hdg : decode cc pc = .ok (.ishr, 1))
    (k : W p l e R s m args below meth c H locs cells slots Q (F0 m (pc + 1) ls (.int (hI (iShr a b)) :: rest))) : W p l e R s m args below meth c H locs cells slots Q (F0 m pc ls (.int (hI b) :: .int (hI a) :: rest)) := lv_ishr hx hb hdg (by unfold iShr at k; rw [hI_of] at k; exact k)
theorem iv_lor (hx : p.tables.exec = Jvm.exec) (hb : c.code = cc) {a b : Int} (hdg : decode cc pc = .ok (.lor, 1))
    (k : W p l e R s m args below meth c H locs cells slots Q (F0 m (pc + 1) ls (.long (hJ (jOr a b)) :: rest))) : W p l e R s m args below meth c H locs cells slots Q (F0 m pc ls (.long (hJ b) :: .long (hJ a) :: rest)) := lv_lor hx hb hdg (by unfold jOr at k; rw [hJ_of] at k; exact k)
theorem iv_land (hx : p.tables.exec = Jvm.exec) (hb : c.code = cc) {a b : Int} (hdg : decode cc pc = .ok (.land, 1))
    (k : W p l e R s m args below meth c H locs cells slots Q (F0 m (pc + 1) ls (.long (hJ (jAnd a b)) :: rest))) : W p l e R s m args below meth c H locs cells slots Q (F0 m pc ls (.long (hJ b) :: .long (hJ a) :: rest)) := lv_land hx hb hdg (by unfold jAnd at k; rw [hJ_of] at k; exact k)
theorem iv_lxor (hx : p.tables.exec = Jvm.exec) (hb : c.code = cc) {a b : Int} (hdg : decode cc pc = .ok (.lxor, 1))
    (k : W p l e R s m args below meth c H locs cells slots Q (F0 m (pc + 1) ls (.long (hJ (jXor a b)) :: rest))) : W p l e R s m args below meth c H locs cells slots Q (F0 m pc ls (.long (hJ b) :: .long (hJ a) :: rest)) := lv_lxor hx hb hdg (by unfold jXor at k; rw [hJ_of] at k; exact k)
theorem iv_lshl (hx : p.tables.exec = Jvm.exec) (hb : c.code = cc) {a b : Int} (hdg : decode cc pc = .ok (.lshl, 1))
    (k : W p l e R s m args below meth c H locs cells slots Q (F0 m (pc + 1) ls (.long (hJ (jShl a b)) :: rest))) : W p l e R s m args below meth c H locs cells slots Q (F0 m pc ls (.int (hI b) :: .long (hJ a) :: rest)) := lv_lshl hx hb hdg rfl (by unfold jShl at k; rw [hJ_of] at k; exact k)
theorem iv_lushr (hx : p.tables.exec = Jvm.exec) (hb : c.code = cc) {a b : Int} (hdg : decode cc pc = .ok (.lushr, 1))
    (k : W p l e R s m args below meth c H locs cells slots Q (F0 m (pc + 1) ls (.long (hJ (jUshr a b)) :: rest))) : W p l e R s m args below meth c H locs cells slots Q (F0 m pc ls (.int (hI b) :: .long (hJ a) :: rest)) := lv_lushr hx hb hdg rfl (by unfold jUshr at k; rw [hJ_of] at k; exact k)
theorem iv_l2i (hx : p.tables.exec = Jvm.exec) (hb : c.code = cc) {a : Int} (hdg : decode cc pc = .ok (.l2i, 1))
    (k : W p l e R s m args below meth c H locs cells slots Q (F0 m (pc + 1) ls (.int (hI (jToI a)) :: rest))) : W p l e R s m args below meth c H locs cells slots Q (F0 m pc ls (.long (hJ a) :: rest)) := lv_l2i hx hb hdg rfl (by unfold jToI at k; rw [hI_of] at k; exact k)
theorem iv_lcmp (hx : p.tables.exec = Jvm.exec) (hb : c.code = cc) {a b : Int} (hdg : decode cc pc = .ok (.lcmp, 1))
    (k : W p l e R s m args below meth c H locs cells slots Q (F0 m (pc + 1) ls (.int (hI (jCmp a b)) :: rest))) : W p l e R s m args below meth c H locs cells slots Q (F0 m pc ls (.long (hJ b) :: .long (hJ a) :: rest)) := W.lcmp hx hb hdg (by unfold jCmp at k; rw [hI_of] at k; exact k)
theorem iv_icmp_lt (hx : p.tables.exec = Jvm.exec) (hb : c.code = cc) {a b : Int} (ha : hIn a) (hb1 : hIn b) {off : Int} {tgt : Nat} (hdg : decode cc pc = .ok (.if_icmp .lt off, 3)) (ht : (pc : Int) + off = (tgt : Int))
    (kt : a < b → W p l e R s m args below meth c H locs cells slots Q (F0 m tgt ls rest)) (kf : ¬ a < b → W p l e R s m args below meth c H locs cells slots Q (F0 m (pc + 3) ls rest)) : W p l e R s m args below meth c H locs cells slots Q (F0 m pc ls (.int (hI b) :: .int (hI a) :: rest)) :=
  lv_icmp_lt hx hb hdg ht (fun h => kt ((hI_lt ha hb1).mp h)) (fun h => kf (fun q => h ((hI_lt ha hb1).mpr q)))
theorem iv_icmp_ge (hx : p.tables.exec = Jvm.exec) (hb : c.code = cc) {a b : Int} (ha : hIn a) (hb1 : hIn b) {off : Int} {tgt : Nat} (hdg : decode cc pc = .ok (.if_icmp .ge off, 3)) (ht : (pc : Int) + off = (tgt : Int))
    (kt : ¬ a < b → W p l e R s m args below meth c H locs cells slots Q (F0 m tgt ls rest)) (kf : a < b → W p l e R s m args below meth c H locs cells slots Q (F0 m (pc + 3) ls rest)) : W p l e R s m args below meth c H locs cells slots Q (F0 m pc ls (.int (hI b) :: .int (hI a) :: rest)) :=
  lv_icmp_ge hx hb hdg ht (fun h => kt (by rw [hI_le hb1 ha] at h; omega)) (fun h => kf (by rw [hI_le hb1 ha] at h; omega))
theorem iv_icmp_gt (hx : p.tables.exec = Jvm.exec) (hb : c.code = cc) {a b : Int} (ha : hIn a) (hb1 : hIn b) {off : Int} {tgt : Nat} (hdg : decode cc pc = .ok (.if_icmp .gt off, 3)) (ht : (pc : Int) + off = (tgt : Int))
    (kt : ¬ a ≤ b → W p l e R s m args below meth c H locs cells slots Q (F0 m tgt ls rest)) (kf : a ≤ b → W p l e R s m args below meth c H locs cells slots Q (F0 m (pc + 3) ls rest)) : W p l e R s m args below meth c H locs cells slots Q (F0 m pc ls (.int (hI b) :: .int (hI a) :: rest)) :=
  lv_icmp_gt hx hb hdg ht (fun h => kt (by rw [hI_lt hb1 ha] at h; omega)) (fun h => kf (by rw [hI_lt hb1 ha] at h; omega))
theorem iv_icmp_le (hx : p.tables.exec = Jvm.exec) (hb : c.code = cc) {a b : Int} (ha : hIn a) (hb1 : hIn b) {off : Int} {tgt : Nat} (hdg : decode cc pc = .ok (.if_icmp .le off, 3)) (ht : (pc : Int) + off = (tgt : Int))
    (kt : a ≤ b → W p l e R s m args below meth c H locs cells slots Q (F0 m tgt ls rest)) (kf : ¬ a ≤ b → W p l e R s m args below meth c H locs cells slots Q (F0 m (pc + 3) ls rest)) : W p l e R s m args below meth c H locs cells slots Q (F0 m pc ls (.int (hI b) :: .int (hI a) :: rest)) :=
  lv_icmp_le hx hb hdg ht (fun h => kt (by rw [hI_le ha hb1] at h; omega)) (fun h => kf (by rw [hI_le ha hb1] at h; omega))
theorem iv_icmp_eq (hx : p.tables.exec = Jvm.exec) (hb : c.code = cc) {a b : Int} (ha : hIn a) (hb1 : hIn b) {off : Int} {tgt : Nat} (hdg : decode cc pc = .ok (.if_icmp .eq off, 3)) (ht : (pc : Int) + off = (tgt : Int))
    (kt : a = b → W p l e R s m args below meth c H locs cells slots Q (F0 m tgt ls rest)) (kf : ¬ a = b → W p l e R s m args below meth c H locs cells slots Q (F0 m (pc + 3) ls rest)) : W p l e R s m args below meth c H locs cells slots Q (F0 m pc ls (.int (hI b) :: .int (hI a) :: rest)) :=
  lv_icmp_eq hx hb hdg ht (fun h => kt ((hI_eq ha hb1).mp h)) (fun h => kf (fun q => h ((hI_eq ha hb1).mpr q)))
theorem iv_icmp_ne (hx : p.tables.exec = Jvm.exec) (hb : c.code = cc) {a b : Int} (ha : hIn a) (hb1 : hIn b) {off : Int} {tgt : Nat} (hdg : decode cc pc = .ok (.if_icmp .ne off, 3)) (ht : (pc : Int) + off = (tgt : Int))
    (kt : ¬ a = b → W p l e R s m args below meth c H locs cells slots Q (F0 m tgt ls rest)) (kf : a = b → W p l e R s m args below meth c H locs cells slots Q (F0 m (pc + 3) ls rest)) : W p l e R s m args below meth c H locs cells slots Q (F0 m pc ls (.int (hI b) :: .int (hI a) :: rest)) :=
  lv_icmp_ne hx hb hdg ht (fun h => kt (fun q => h ((hI_eq ha hb1).mpr q))) (fun h => kf ((hI_eq ha hb1).mp h))
theorem iv_if_lt (hx : p.tables.exec = Jvm.exec) (hb : c.code = cc) {a : Int} (ha : hIn a) {off : Int} {tgt : Nat} (hdg : decode cc pc = .ok (.ifCond .lt off, 3)) (ht : (pc : Int) + off = (tgt : Int))
    (kt : a < 0 → W p l e R s m args below meth c H locs cells slots Q (F0 m tgt ls rest)) (kf : ¬ a < 0 → W p l e R s m args below meth c H locs cells slots Q (F0 m (pc + 3) ls rest)) : W p l e R s m args below meth c H locs cells slots Q (F0 m pc ls (.int (hI a) :: rest)) :=
  lv_if_lt hx hb hdg ht (fun h => kt ((hI_lt ha hIn_0).mp (by rw [hI_0]; exact h))) (fun h => kf (fun q => h (by rw [← hI_0]; exact (hI_lt ha hIn_0).mpr q)))
theorem iv_if_ge (hx : p.tables.exec = Jvm.exec) (hb : c.code = cc) {a : Int} (ha : hIn a) {off : Int} {tgt : Nat} (hdg : decode cc pc = .ok (.ifCond .ge off, 3)) (ht : (pc : Int) + off = (tgt : Int))
    (kt : ¬ a < 0 → W p l e R s m args below meth c H locs cells slots Q (F0 m tgt ls rest)) (kf : a < 0 → W p l e R s m args below meth c H locs cells slots Q (F0 m (pc + 3) ls rest)) : W p l e R s m args below meth c H locs cells slots Q (F0 m pc ls (.int (hI a) :: rest)) :=
  lv_if_ge hx hb hdg ht (fun h => kt (by rw [← hI_0, hI_le hIn_0 ha] at h; omega)) (fun h => kf (by rw [← hI_0, hI_le hIn_0 ha] at h; omega))
theorem iv_if_gt (hx : p.tables.exec = Jvm.exec) (hb : c.code = cc) {a : Int} (ha : hIn a) {off : Int} {tgt : Nat} (hdg : decode cc pc = .ok (.ifCond .gt off, 3)) (ht : (pc : Int) + off = (tgt : Int))
    (kt : ¬ a ≤ 0 → W p l e R s m args below meth c H locs cells slots Q (F0 m tgt ls rest)) (kf : a ≤ 0 → W p l e R s m args below meth c H locs cells slots Q (F0 m (pc + 3) ls rest)) : W p l e R s m args below meth c H locs cells slots Q (F0 m pc ls (.int (hI a) :: rest)) :=
  lv_if_gt hx hb hdg ht (fun h => kt (by rw [← hI_0, hI_lt hIn_0 ha] at h; omega)) (fun h => kf (by rw [← hI_0, hI_lt hIn_0 ha] at h; omega))
theorem iv_if_le (hx : p.tables.exec = Jvm.exec) (hb : c.code = cc) {a : Int} (ha : hIn a) {off : Int} {tgt : Nat} (hdg : decode cc pc = .ok (.ifCond .le off, 3)) (ht : (pc : Int) + off = (tgt : Int))
    (kt : a ≤ 0 → W p l e R s m args below meth c H locs cells slots Q (F0 m tgt ls rest)) (kf : ¬ a ≤ 0 → W p l e R s m args below meth c H locs cells slots Q (F0 m (pc + 3) ls rest)) : W p l e R s m args below meth c H locs cells slots Q (F0 m pc ls (.int (hI a) :: rest)) :=
  lv_if_le hx hb hdg ht (fun h => kt (by rw [← hI_0, hI_le ha hIn_0] at h; omega)) (fun h => kf (by rw [← hI_0, hI_le ha hIn_0] at h; omega))
theorem iv_if_eq (hx : p.tables.exec = Jvm.exec) (hb : c.code = cc) {a : Int} (ha : hIn a) {off : Int} {tgt : Nat} (hdg : decode cc pc = .ok (.ifCond .eq off, 3)) (ht : (pc : Int) + off = (tgt : Int))
    (kt : a = 0 → W p l e R s m args below meth c H locs cells slots Q (F0 m tgt ls rest)) (kf : ¬ a = 0 → W p l e R s m args below meth c H locs cells slots Q (F0 m (pc + 3) ls rest)) : W p l e R s m args below meth c H locs cells slots Q (F0 m pc ls (.int (hI a) :: rest)) :=
  lv_if_eq hx hb hdg ht (fun h => kt ((hI_eq ha hIn_0).mp (by rw [hI_0]; exact h))) (fun h => kf (fun q => h (by rw [← hI_0]; exact (hI_eq ha hIn_0).mpr q)))
theorem iv_if_ne (hx : p.tables.exec = Jvm.exec) (hb : c.code = cc) {a : Int} (ha : hIn a) {off : Int} {tgt : Nat} (hdg : decode cc pc = .ok (.ifCond .ne off, 3)) (ht : (pc : Int) + off = (tgt : Int))
    (kt : ¬ a = 0 → W p l e R s m args below meth c H locs cells slots Q (F0 m tgt ls rest)) (kf : a = 0 → W p l e R s m args below meth c H locs cells slots Q (F0 m (pc + 3) ls rest)) : W p l e R s m args below meth c H locs cells slots Q (F0 m pc ls (.int (hI a) :: rest)) :=
  lv_if_ne hx hb hdg ht (fun h => kt (fun q => h (by rw [← hI_0]; exact (hI_eq ha hIn_0).mpr q))) (fun h => kf ((hI_eq ha hIn_0).mp (by rw [hI_0]; exact h)))
theorem iv_iinc (hx : p.tables.exec = Jvm.exec) (hb : c.code = cc) {i k : Nat} {n a v : Int} {lv lv' : List (Nat × Value)} (hdg : decode cc pc = .ok (.iinc i n, 3)) (h : lv_has ls nL lv) (hk : lv[k]? = some (i, .int (hI a))) (hv : a + n = v) (hn : i < nL) (hl : (i, Value.int (hI v)) :: lv.filter (fun q => !(q.1 == i) && !(q.1 + 1 == i && q.2.category == 2)) = lv')
    (kk : ∀ ls' : Array Slot, lv_has ls' nL lv' → W p l e R s m args below meth c H locs cells slots Q (F0 m (pc + 3) ls' rest)) : W p l e R s m args below meth c H locs cells slots Q (F0 m pc ls rest) :=
  lv_iinc hx hb hdg h hk (by subst hv; exact hI_add a n) hn hl kk
theorem iv_get (hx : p.tables.exec = Jvm.exec) (hb : c.code = cc) {ref C : String} {T : u_T} {N ci index a : Nat} (hts : ∀ w ∈ hWall, w.before args s = true) (hin : ∀ w ∈ u_ws C T N, w ∈ hWall) (hown : s.vm.findClass own = some m.cls) (hK : va_K D vwCl (hTys cI cJ cF) s) (hP : va_P D vwCl (hW ad cI cJ cF S) H) {q0 : Nat} {fs : List Value} (he : (hW ad cI cJ cF S)[q0]? = some (a, .inr (ci, fs))) (hc : vwCl[ci]? = some (C, T, N)) (k : Nat) (hk : k < N) (hlink : (Cond.fieldLink own index ref (T k).2.1 (T k).2.2.1).before args s = true) (href : (T k).1 = ref) {v v' : Value} (hv : fs[k]? = some v) (hvv : v = v') (hdg : decode cc pc = .ok (.getfield index, 3))
    (kk : W p l e R s m args below meth c H locs cells slots Q (F0 m (pc + 3) ls (v' :: rest))) : W p l e R s m args below meth c H locs cells slots Q (F0 m pc ls (.ref a :: rest)) := by
  subst hvv
  exact va_get hx hb hts hin hown hK hP q0 he hc k hk hlink (fun x h => by rw [← href]; exact h) hv hdg kk
theorem iv_getN (hx : p.tables.exec = Jvm.exec) (hb : c.code = cc) {ref C host : String} {T : u_T} {N ci index a : Nat} (hts : ∀ w ∈ hWall, w.before args s = true) (hin : ∀ w ∈ u_ws C T N, w ∈ hWall) (hown : s.vm.findClass own = some m.cls) (hK : va_K D vwCl (hTys cI cJ cF) s) (hP : va_P D vwCl (hW ad cI cJ cF S) H) {q0 : Nat} {fs : List Value} (he : (hW ad cI cJ cF S)[q0]? = some (a, .inr (ci, fs))) (hc : vwCl[ci]? = some (C, T, N)) (k : Nat) (hk : k < N) (hlink : va_Nw (Cond.fieldLinkNest own index ref (T k).2.1 (T k).2.2.1 host) s) (href : (T k).1 = ref) {v v' : Value} (hv : fs[k]? = some v) (hvv : v = v') (hdg : decode cc pc = .ok (.getfield index, 3))
    (kk : W p l e R s m args below meth c H locs cells slots Q (F0 m (pc + 3) ls (v' :: rest))) : W p l e R s m args below meth c H locs cells slots Q (F0 m pc ls (.ref a :: rest)) := by
  subst hvv
  exact va_getN hx hb hts hin hown hK hP q0 he hc k hk (va_Nw.use rfl hlink) (fun x h => by rw [← href]; exact h) hv hdg kk
theorem iv_put (hx : p.tables.exec = Jvm.exec) (hb : c.code = cc) {ref C : String} {T : u_T} {N ci index : Nat} (hts : ∀ w ∈ hWall, w.before args s = true) (hin : ∀ w ∈ u_ws C T N, w ∈ hWall) (ty0 : Nat → FieldType) (hty : ∀ k, k < N → parseFieldDescriptor (T k).2.2.1 = some (ty0 k)) (hnm : ∀ a, a < N → ∀ b, b < N → a ≠ b → (T a).2.1 ≠ (T b).2.1) (hown : s.vm.findClass own = some m.cls) (hK : va_K D vwCl (hTys cI cJ cF) s) (hinj : hInj ad) (hh : hH D ad cI cJ cF S s H locs) {q0 g i i0 : Nat} (hq : q0 < 109) (hu : hUnpos q0 = (g, i)) (hi0 : i0 = i ∨ i0 = 100 + i) {fs : List Value} (he : (hW ad cI cJ cF S)[q0]? = some (ad g i, .inr (ci, fs))) (hc : vwCl[ci]? = some (C, T, N)) (k : Nat) (hk : k < N) (hlink : (Cond.fieldLink own index ref (T k).2.1 (T k).2.2.1).before args s = true) (href : (T k).1 = ref) (hfin : (T k).2.2.2 = false) {ty : FieldType} {v : Value} (hd : parseFieldDescriptor (T k).2.2.1 = some ty) (hn : narrow ty v = v) (hfit : fits ty v = true) (hl : k < fs.length)
    {kk x : Int} (hcell : hCell ad cI cJ cF (gset S g (aset (S g) i0 kk x)) g i = .inr (ci, fs.set k v)) (hxr : hIn x ∨ 100 ≤ i0) (hS' : gset S g (aset (S g) i0 kk x) = S') (hdg : decode cc pc = .ok (.putfield index, 3))
    (K : ∀ (H1 : Heap) (locs1 : List Loc), hH D ad cI cJ cF S' s H1 locs1 → W p l e R s m args below meth c H1 locs1 cells slots Q (F0 m (pc + 3) ls rest)) : W p l e R s m args below meth c H locs cells slots Q (F0 m pc ls (v :: .ref (ad g i) :: rest)) := by
  refine va_put hx hb hts hin ty0 hty hnm hown hK hh.1 (hW_D hinj) hh.2.2 q0 he hc k hk hlink (fun x h => by rw [← href]; exact h) hfin hd hn hfit hl hdg (fun H1 locs1 hP1 _ hS1 => K H1 locs1 ?_)
  rw [← hcell, hW_set hq hu (hset_else hi0)] at hP1
  rw [← hS']
  exact ⟨hP1, hR_set hh.2.1 hxr, hS1⟩
theorem iv_putN (hx : p.tables.exec = Jvm.exec) (hb : c.code = cc) {ref C host : String} {T : u_T} {N ci index : Nat} (hts : ∀ w ∈ hWall, w.before args s = true) (hin : ∀ w ∈ u_ws C T N, w ∈ hWall) (ty0 : Nat → FieldType) (hty : ∀ k, k < N → parseFieldDescriptor (T k).2.2.1 = some (ty0 k)) (hnm : ∀ a, a < N → ∀ b, b < N → a ≠ b → (T a).2.1 ≠ (T b).2.1) (hown : s.vm.findClass own = some m.cls) (hK : va_K D vwCl (hTys cI cJ cF) s) (hinj : hInj ad) (hh : hH D ad cI cJ cF S s H locs) {q0 g i i0 : Nat} (hq : q0 < 109) (hu : hUnpos q0 = (g, i)) (hi0 : i0 = i ∨ i0 = 100 + i) {fs : List Value} (he : (hW ad cI cJ cF S)[q0]? = some (ad g i, .inr (ci, fs))) (hc : vwCl[ci]? = some (C, T, N)) (k : Nat) (hk : k < N) (hlink : va_Nw (Cond.fieldLinkNest own index ref (T k).2.1 (T k).2.2.1 host) s) (href : (T k).1 = ref) (hfin : (T k).2.2.2 = false) {ty : FieldType} {v : Value} (hd : parseFieldDescriptor (T k).2.2.1 = some ty) (hn : narrow ty v = v) (hfit : fits ty v = true) (hl : k < fs.length)
    {kk x : Int} (hcell : hCell ad cI cJ cF (gset S g (aset (S g) i0 kk x)) g i = .inr (ci, fs.set k v)) (hxr : hIn x ∨ 100 ≤ i0) (hS' : gset S g (aset (S g) i0 kk x) = S') (hdg : decode cc pc = .ok (.putfield index, 3))
    (K : ∀ (H1 : Heap) (locs1 : List Loc), hH D ad cI cJ cF S' s H1 locs1 → W p l e R s m args below meth c H1 locs1 cells slots Q (F0 m (pc + 3) ls rest)) : W p l e R s m args below meth c H locs cells slots Q (F0 m pc ls (v :: .ref (ad g i) :: rest)) := by
  refine va_putN hx hb hts hin ty0 hty hnm hown hK hh.1 (hW_D hinj) hh.2.2 q0 he hc k hk (va_Nw.use rfl hlink) (fun x h => by rw [← href]; exact h) hfin hd hn hfit hl hdg (fun H1 locs1 hP1 _ hS1 => K H1 locs1 ?_)
  rw [← hcell, hW_set hq hu (hset_else hi0)] at hP1
  rw [← hS']
  exact ⟨hP1, hR_set hh.2.1 hxr, hS1⟩
theorem hIA.at {g i n q : Nat} (h : hIA ad cI cJ cF g i n q) : (hW ad cI cJ cF S)[q]? = some (ad g i, .inl (cI, n, .inl (fun k => hI (S g i k)))) := by
  obtain ⟨h1, h2, h3, h4, h5⟩ := h
  rw [hW_at h1 h2]
  unfold hCell
  rw [h5]
theorem iv_alen (hx : p.tables.exec = Jvm.exec) (hb : c.code = cc) (hK : va_K D vwCl (hTys cI cJ cF) s) (hP : va_P D vwCl (hW ad cI cJ cF S) H) {g i n q : Nat} (h : hIA ad cI cJ cF g i n q) (hdg : decode cc pc = .ok (.arraylength, 1))
    (k : W p l e R s m args below meth c H locs cells slots Q (F0 m (pc + 1) ls (.int (hI n) :: rest))) : W p l e R s m args below meth c H locs cells slots Q (F0 m pc ls (.ref (ad g i) :: rest)) :=
  va_alen hx hb hK hP q 0 h.at rfl rfl hdg k
theorem iv_iald (hx : p.tables.exec = Jvm.exec) (hb : c.code = cc) (hK : va_K D vwCl (hTys cI cJ cF) s) (hP : va_P D vwCl (hW ad cI cJ cF S) H) {g i n q : Nat} (h : hIA ad cI cJ cF g i n q) {k v : Int} (hk : 0 ≤ k ∧ k < n) (hv : S g i k = v) (hdg : decode cc pc = .ok (.iaload, 1))
    (kk : W p l e R s m args below meth c H locs cells slots Q (F0 m (pc + 1) ls (.int (hI v) :: rest))) : W p l e R s m args below meth c H locs cells slots Q (F0 m pc ls (.int (hI k) :: .ref (ad g i) :: rest)) := by
  obtain ⟨h1, h2⟩ := hI_ix hk h.2.2.2.1
  refine va_iald hx hb hK hP q 0 h.at rfl h1 hdg ?_
  rw [h2]
  have e : ((k.toNat : Nat) : Int) = k := Int.toNat_of_nonneg hk.1
  simp only [e, hv]
  exact kk
theorem iv_iast (hx : p.tables.exec = Jvm.exec) (hb : c.code = cc) (hK : va_K D vwCl (hTys cI cJ cF) s) (hinj : hInj ad) (hh : hH D ad cI cJ cF S s H locs) {g i n q : Nat} (h : hIA ad cI cJ cF g i n q) {k v : Int} (hk : 0 ≤ k ∧ k < n) (hv : hIn v) (hS' : gset S g (aset (S g) i k v) = S') (hdg : decode cc pc = .ok (.iastore, 1))
    (K : ∀ (H1 : Heap) (locs1 : List Loc), hH D ad cI cJ cF S' s H1 locs1 → W p l e R s m args below meth c H1 locs1 cells slots Q (F0 m (pc + 1) ls rest)) : W p l e R s m args below meth c H locs cells slots Q (F0 m pc ls (.int (hI v) :: .int (hI k) :: .ref (ad g i) :: rest)) := by
  obtain ⟨h1, h2⟩ := hI_ix hk h.2.2.2.1
  refine va_iast hx hb hK hh.1 (hW_D hinj) hh.2.2 q 0 h.at rfl h1 hdg (fun H1 locs1 hP1 _ hS1 => K H1 locs1 ?_)
  have e : ((k.toNat : Nat) : Int) = k := Int.toNat_of_nonneg hk.1
  have hc : hCell ad cI cJ cF (gset S g (aset (S g) i k v)) g i = .inl (cI, n, .inl (upd (fun k => hI (S g i k)) (hI k).toNatClampNeg (hI v))) := by
    unfold hCell
    rw [h.2.2.2.2, h2]
    congr 4
    funext j
    simp only [gset_at, upd, aset]
    by_cases hj : j = k.toNat
    · subst hj; simp [e]
    · have : ¬ ((j : Int) = k) := by omega
      simp [hj, this]
  rw [← hc, hW_set h.1 h.2.1 (hset_else (Or.inl rfl))] at hP1
  rw [← hS']
  exact ⟨hP1, hR_set hh.2.1 (Or.inl hv), hS1⟩
theorem hIn_rd {A : hGM} {g i : Nat} {k : Int} (h : hR S) (e : S g = A) (hi : i < 100) : hIn (A i k) := by rw [← e]; exact h g i k hi
end
end
section
/-! calls over the world of whole numbers -/
theorem gi_of {ws : List Cond} (h : ∀ w ∈ ws, w ∈ hWall) : GoodIn hWall ws := fun w hw => ⟨h w hw, (hWall_good w (h w hw)).2⟩
def hCbV (C : String) (y : MethodName) (b : ByteArray) (nL : Nat) (ret : Option FieldType) (n : Nat) : Prop := (y.cls = C ∧ y.cls ≠ "java/lang/invoke/MethodHandle" ∧ y.cls ≠ "java/lang/invoke/VarHandle" ∧ (parseMethodDescriptor y.desc).map (fun d => d.parameters.length) = some n) ∧ Cond.instanceMethod y ∈ hWall ∧ Cond.selects C y y ∈ hWall ∧ Cond.initialized C ∈ hWall ∧ Cond.code y b nL ret ∈ hWall
def hCbS (y : MethodName) (b : ByteArray) (nL : Nat) (ret : Option FieldType) (n : Nat) : Prop := (y.cls ≠ "java/lang/invoke/MethodHandle" ∧ y.cls ≠ "java/lang/invoke/VarHandle" ∧ (parseMethodDescriptor y.desc).map (fun d => d.parameters.length) = some n) ∧ Cond.static y ∈ hWall ∧ Cond.initialized y.cls ∈ hWall ∧ Cond.code y b nL ret ∈ hWall
theorem gi_c {y : MethodName} {b : ByteArray} {nL : Nat} {ret : Option FieldType} (h : Cond.code y b nL ret ∈ hWall) : ∀ w ∈ (Cond.code y b nL ret :: hWall), w ∈ hWall := fun w hw => (List.mem_cons.mp hw).elim (fun e => by rw [e]; exact h) id
section
variable {D : va_G} {ad : Nat → Nat → Nat} {cI cJ cF : ClassId} {S S' : hS}
theorem hNW_same {u U : State} (h : u.vm = U.vm) (hN : hNW u) : hNW U := by
  intro w hw
  have h1 := hN w hw
  have h2 : hNest w = true := (List.mem_filter.mp hw).2
  cases w <;> first | (cases h2; done) | exact va_Nw.same rfl h h1
theorem hPre_blind {vs : List Value} : FrameBlind (va_Pc vs (hPre D ad cI cJ cF S)) := fun a U g mk q => by
  obtain ⟨q0, qP, qK, qN, qR⟩ := q
  exact ⟨q0, qP, va_K.moved (u := U) (U := U.calling g mk a) (Vm.Alike.refl U.vm) qK, hNW_same (u := U) (U := U.calling g mk a) rfl qN, qR⟩
theorem hPre_at {vs : List Value} {s U : State} {H : Heap} {locs : List Loc} (hh : hH D ad cI cJ cF S s H locs) (hK : va_K D vwCl (hTys cI cJ cF) s) (hN : hNW s) (hU : U.heap = H) (hW : s.WarmedH U.vm) : va_Pc vs (hPre D ad cI cJ cF S) vs.toArray U :=
  ⟨rfl, by rw [hU]; exact hh.1, va_K.moved hW.alike hK, hNW_warm hW hN, hh.2.1⟩
variable {p : Program} {l : Launch} {e : Env} {R : Room} {s : State} {m : MethodId} {args : Array Value} {below : List Frame} {meth : Method} {c : Code} {H : Heap} {locs : List Loc} {cells slots : Nat} {Q : State → Prop}
variable {cc : ByteArray} {pc nL : Nat} {ls : Array Slot} {st rest : List Value} {own : String} {ret : Option FieldType}
theorem iv_ki {r : Int} {a : Array Value} (hr : va_Run p l e R s m args below meth c H locs cells slots 0 0 (F0 m pc ls st) rest (hQi D ad cI cJ cF r S' a) (hAd ad)) (hh : hH D ad cI cJ cF S s H locs)
    (kk : hIn r → ∀ (H1 : Heap) (locs1 : List Loc), hH D ad cI cJ cF S' s H1 locs1 → W p l e R s m args below meth c H1 locs1 cells slots Q (F0 m (pc + 3) ls (.int (hI r) :: rest))) : W p l e R s m args below meth c H locs cells slots Q (F0 m pc ls st) := by
  unfold hQi at hr
  refine va_calli hr hh.2.2 (fun q _ h => h) (fun q h => h) (fun x u t H1 locs1 ht hvm hw hB hz hk hS => ?_)
  obtain ⟨rfl, hin⟩ := hw
  exact kk hin H1 locs1 ⟨by rw [← ht]; exact hB.1, hB.2, hS⟩
theorem iv_kl {r : Int} {a : Array Value} (hr : va_Run p l e R s m args below meth c H locs cells slots 0 0 (F0 m pc ls st) rest (hQl D ad cI cJ cF r S' a) (hAd ad)) (hh : hH D ad cI cJ cF S s H locs)
    (kk : ∀ (H1 : Heap) (locs1 : List Loc), hH D ad cI cJ cF S' s H1 locs1 → W p l e R s m args below meth c H1 locs1 cells slots Q (F0 m (pc + 3) ls (.long (hJ r) :: rest))) : W p l e R s m args below meth c H locs cells slots Q (F0 m pc ls st) := by
  unfold hQl at hr
  refine va_calll hr hh.2.2 (fun q _ h => h) (fun q h => h) (fun x u t H1 locs1 ht hvm hw hB hz hk hS => ?_)
  subst hw
  exact kk H1 locs1 ⟨by rw [← ht]; exact hB.1, hB.2, hS⟩
theorem iv_kv {a : Array Value} (hr : va_Run p l e R s m args below meth c H locs cells slots 0 0 (F0 m pc ls st) rest (hQv D ad cI cJ cF S' a) (hAd ad)) (hh : hH D ad cI cJ cF S s H locs)
    (kk : ∀ (H1 : Heap) (locs1 : List Loc), hH D ad cI cJ cF S' s H1 locs1 → W p l e R s m args below meth c H1 locs1 cells slots Q (F0 m (pc + 3) ls rest)) : W p l e R s m args below meth c H locs cells slots Q (F0 m pc ls st) := by
  unfold hQv at hr
  refine va_callv hr hh.2.2 (fun q _ h => h) (fun q h => h) (fun u t H1 locs1 ht hvm hw hB hz hk hS => ?_)
  exact kk H1 locs1 ⟨by rw [← ht]; exact hB.1, hB.2, hS⟩
theorem iv_kr {g i : Nat} {a : Array Value} (hr : va_Run p l e R s m args below meth c H locs cells slots 0 0 (F0 m pc ls st) rest (hQr D ad cI cJ cF g i S' a) (hAd ad)) (hh : hH D ad cI cJ cF S s H locs)
    (kk : ∀ (H1 : Heap) (locs1 : List Loc), hH D ad cI cJ cF S' s H1 locs1 → W p l e R s m args below meth c H1 locs1 cells slots Q (F0 m (pc + 3) ls (.ref (ad g i) :: rest))) : W p l e R s m args below meth c H locs cells slots Q (F0 m pc ls st) := by
  unfold hQr at hr
  refine va_callr hr hh.2.2 (fun q _ h => h) (fun q h => h) (fun u ra t H1 locs1 ht hvm hw hB hz hk hS => ?_)
  obtain ⟨rfl, hB⟩ := hB
  exact kk H1 locs1 ⟨by rw [← ht]; exact hB.1, hB.2, hS⟩
variable {y : MethodName} {b2 : ByteArray} {nL2 n index : Nat} {ret2 : Option FieldType} {rm : Room} {As : List Value} {Qc : Array Value → State → Outcome → State → Prop}
theorem iv_rV {C : String} {gb ib q ci : Nat} {fs : List Value} {cq : vw_C} (E : hE D ad cI cJ cF p s m args meth c own cc nL ret) (hh : hH D ad cI cJ cF S s H locs)
    (hM : Met l y (.code y b2 nL2 ret2 :: hWall) rm (va_Pc (.ref (ad gb ib) :: As) (hPre D ad cI cJ cF S)) Qc 0 0 (hAd ad)) (cb : hCbV C y b2 nL2 ret2 n) (hl1 : Cond.methodLink own index y ∈ hWall)
    (hrc : rm.cells = 0) (hrs : rm.slots = 0) (hR : rm.frames + 1 ≤ R.frames ∧ 8 + (nL2 + 11) + rm.locals ≤ R.locals) (he : (hW ad cI cJ cF S)[q]? = some (ad gb ib, .inr (ci, fs))) (hc : vwCl[ci]? = some cq) (hC : cq.1 = C)
    (hn : As.length = n) (hsz : ls.size = nL) (hst : st = As.reverse ++ .ref (ad gb ib) :: rest) (hw8 : (rest.map fun v => v.category).sum ≤ 8) (hdg : decode cc pc = .ok (.invokevirtual index, 3)) (hf : cells + 0 ≤ R.cells ∧ slots + 0 ≤ R.slots) :
    va_Run p l e R s m args below meth c H locs cells slots 0 0 (F0 m pc ls st) rest (Qc (Value.ref (ad gb ib) :: As).toArray) (hAd ad) := by
  obtain ⟨hx, hb, hml, hown, hts, hK, hN, hinj, hr, hlk⟩ := E
  obtain ⟨hd, k1, k2, k3, k4⟩ := cb
  have hg : GoodIn hWall (wsV own index C y (.code y b2 nL2 ret2 :: hWall)) := gi_of (fun w hw => by
    unfold wsV at hw
    rcases List.mem_append.mp hw with h | h
    · simp only [List.mem_cons, List.mem_nil_iff, or_false] at h
      rcases h with rfl | rfl | rfl | rfl <;> assumption
    · exact gi_c k4 w h)
  subst hC
  exact va_runV ⟨hx, hb, hml, hown, hts⟩ hM (cwV n hts hg rfl hrc hrs hd hR) ⟨hPre_blind, va_recv hK hh.1 hc he, fun U hU hW => hPre_at hh hK hN hU hW⟩ rfl hn hsz hst (lv_room hw8) hdg hf
theorem iv_rS (E : hE D ad cI cJ cF p s m args meth c own cc nL ret) (hh : hH D ad cI cJ cF S s H locs)
    (hM : Met l y (.code y b2 nL2 ret2 :: hWall) rm (va_Pc As (hPre D ad cI cJ cF S)) Qc 0 0 (hAd ad)) (cb : hCbS y b2 nL2 ret2 n) (hl1 : Cond.methodLink own index y ∈ hWall)
    (hrc : rm.cells = 0) (hrs : rm.slots = 0) (hR : rm.frames + 1 ≤ R.frames ∧ 8 + (nL2 + 11) + rm.locals ≤ R.locals)
    (hn : As.length = n) (hsz : ls.size = nL) (hst : st = As.reverse ++ rest) (hw8 : (rest.map fun v => v.category).sum ≤ 8) (hdg : decode cc pc = .ok (.invokestatic index, 3)) (hf : cells + 0 ≤ R.cells ∧ slots + 0 ≤ R.slots) :
    va_Run p l e R s m args below meth c H locs cells slots 0 0 (F0 m pc ls st) rest (Qc As.toArray) (hAd ad) := by
  obtain ⟨hx, hb, hml, hown, hts, hK, hN, hinj, hr, hlk⟩ := E
  obtain ⟨hd, k1, k2, k4⟩ := cb
  have hg : GoodIn hWall (va_wsS own index y (.code y b2 nL2 ret2 :: hWall)) := gi_of (fun w hw => by
    unfold va_wsS at hw
    rcases List.mem_append.mp hw with h | h
    · simp only [List.mem_cons, List.mem_nil_iff, or_false] at h
      rcases h with rfl | rfl | rfl <;> assumption
    · exact gi_c k4 w h)
  exact va_runS ⟨hx, hb, hml, hown, hts⟩ hM (va_cwS n hts hg rfl hrc hrs hd hR) ⟨hPre_blind, fun U hU hW => hPre_at hh hK hN hU hW⟩ rfl hn hsz hst (lv_room hw8) hdg hf
theorem iv_rN {host : String} (E : hE D ad cI cJ cF p s m args meth c own cc nL ret) (hh : hH D ad cI cJ cF S s H locs)
    (hM : Met l y (.code y b2 nL2 ret2 :: hWall) rm (va_Pc As (hPre D ad cI cJ cF S)) Qc 0 0 (hAd ad)) (cb : hCbS y b2 nL2 ret2 n) (hl1 : Cond.methodLinkNest own index y host ∈ hNestL)
    (hrc : rm.cells = 0) (hrs : rm.slots = 0) (hR : rm.frames + 1 ≤ R.frames ∧ 8 + (nL2 + 11) + rm.locals ≤ R.locals)
    (hn : As.length = n) (hsz : ls.size = nL) (hst : st = As.reverse ++ rest) (hw8 : (rest.map fun v => v.category).sum ≤ 8) (hdg : decode cc pc = .ok (.invokestatic index, 3)) (hf : cells + 0 ≤ R.cells ∧ slots + 0 ≤ R.slots) :
    va_Run p l e R s m args below meth c H locs cells slots 0 0 (F0 m pc ls st) rest (Qc As.toArray) (hAd ad) := by
  obtain ⟨hx, hb, hml, hown, hts, hK, hN, hinj, hr, hlk⟩ := E
  obtain ⟨hd, k1, k2, k4⟩ := cb
  exact va_runSN ⟨hx, hb, hml, hown, hts⟩ hM ⟨va_cnB n hts (gi_of (gi_c k4)) rfl hrc hrs (hN _ hl1) (hts _ k2) hd hR, hts _ k1, trivial⟩ ⟨hPre_blind, fun U hU hW => hPre_at hh hK hN hU hW⟩ rfl hn hsz hst (lv_room hw8) hdg hf
/-- a method's end -/
theorem iv_iret {r : Int} {a : Int} (E : hE D ad cI cJ cF p s m args meth c own cc nL (some .int)) (hh : hH D ad cI cJ cF S s H locs) (ha : a = r) (hin : hIn r) (hS : S = S') (hdg : decode cc pc = .ok (.ireturn, 1)) :
    W p l e R s m args below meth c H locs 0 0 (MQ below (hQi D ad cI cJ cF r S') args s 0 0 (hAd ad)) (F0 m pc ls [.int (hI a)]) := by
  obtain ⟨hx, hb, hml, hown, hts, hK, hN, hinj, hr, hlk⟩ := E
  subst ha; subst hS
  exact W.iret hx hb hr (fun t ht hW => ⟨⟨_, (), rfl, ⟨rfl, hin⟩, by rw [ht]; exact hh.1, hh.2.1⟩, hh.2.2.F ht⟩) hh.2.2.2.2 hdg hlk
theorem iv_bret {r : Int} {a : Int} (E : hE D ad cI cJ cF p s m args meth c own cc nL (some .boolean)) (hh : hH D ad cI cJ cF S s H locs) (ha : a = r) (h01 : r = 0 ∨ r = 1) (hS : S = S') (hdg : decode cc pc = .ok (.ireturn, 1)) :
    W p l e R s m args below meth c H locs 0 0 (MQ below (hQi D ad cI cJ cF r S') args s 0 0 (hAd ad)) (F0 m pc ls [.int (hI a)]) := by
  obtain ⟨hx, hb, hml, hown, hts, hK, hN, hinj, hr, hlk⟩ := E
  subst ha; subst hS
  have hin : hIn a := by rcases h01 with rfl | rfl <;> exact ⟨by decide, by decide⟩
  exact W.zret hx hb hr (by rcases h01 with rfl | rfl <;> decide +kernel) (fun t ht hW => ⟨⟨_, (), rfl, ⟨rfl, hin⟩, by rw [ht]; exact hh.1, hh.2.1⟩, hh.2.2.F ht⟩) hh.2.2.2.2 hdg hlk
theorem iv_lret {r : Int} {a : Int} (E : hE D ad cI cJ cF p s m args meth c own cc nL (some .long)) (hh : hH D ad cI cJ cF S s H locs) (ha : a = r) (hS : S = S') (hdg : decode cc pc = .ok (.lreturn, 1)) :
    W p l e R s m args below meth c H locs 0 0 (MQ below (hQl D ad cI cJ cF r S') args s 0 0 (hAd ad)) (F0 m pc ls [.long (hJ a)]) := by
  obtain ⟨hx, hb, hml, hown, hts, hK, hN, hinj, hr, hlk⟩ := E
  subst ha; subst hS
  exact W.lret hx hb hr (fun t ht hW => ⟨⟨_, (), rfl, rfl, by rw [ht]; exact hh.1, hh.2.1⟩, hh.2.2.F ht⟩) hh.2.2.2.2 hdg hlk
theorem iv_vret (E : hE D ad cI cJ cF p s m args meth c own cc nL none) (hh : hH D ad cI cJ cF S s H locs) (hS : S = S') (hdg : decode cc pc = .ok (.return_, 1)) :
    W p l e R s m args below meth c H locs 0 0 (MQ below (hQv D ad cI cJ cF S') args s 0 0 (hAd ad)) (F0 m pc ls []) := by
  obtain ⟨hx, hb, hml, hown, hts, hK, hN, hinj, hr, hlk⟩ := E
  subst hS
  exact W.vret hx hb hr (fun t ht hW => ⟨⟨(), rfl, trivial, by rw [ht]; exact hh.1, hh.2.1⟩, hh.2.2.F ht⟩) hh.2.2.2.2 hdg hlk
theorem iv_rret {g i : Nat} {rt : FieldType} (E : hE D ad cI cJ cF p s m args meth c own cc nL (some rt)) (hrt : (∃ n, rt = .object n) ∨ ∃ t, rt = .array t) (hh : hH D ad cI cJ cF S s H locs) (hS : S = S') (hdg : decode cc pc = .ok (.areturn, 1)) :
    W p l e R s m args below meth c H locs 0 0 (MQ below (hQr D ad cI cJ cF g i S') args s 0 0 (hAd ad)) (F0 m pc ls [.ref (ad g i)]) := by
  obtain ⟨hx, hb, hml, hown, hts, hK, hN, hinj, hr, hlk⟩ := E
  subst hS
  exact W.aret hx hb hr hrt (Or.inr ⟨_, rfl⟩) (fun t ht hW => ⟨⟨(), _, rfl, trivial, rfl, by rw [ht]; exact hh.1, hh.2.1⟩, hh.2.2.F ht⟩) hh.2.2.2.2 hdg hlk
/-- a method's start -/
theorem hOf {y : MethodName} {cc : ByteArray} {maxL : Nat} {ret : Option FieldType} {rm : Room} {vs : List Value} {Qc : Array Value → State → Outcome → State → Prop} (l : Launch) (hinj : hInj ad) (hy : plainName y.cls = true) (hlen : (lg_sl vs).length ≤ maxL)
    (body : ∀ (p : Program) (e : Env) (s : State) (m : MethodId) (args : Array Value) (below : List Frame) (meth : Method) (c : Code), hE D ad cI cJ cF p s m args meth c y.cls cc maxL ret → hAt D ad cI cJ cF p l e rm s m args below meth c (MQ below Qc args s 0 0 (hAd ad)) maxL 0 (lv_args 0 vs) S) :
    Met l y (.code y cc maxL ret :: hWall) rm (va_Pc vs (hPre D ad cI cJ cF S)) Qc 0 0 (hAd ad) := by
  refine Met.ofW (cc := cc) (maxL := maxL) (ret := ret) hy rfl ?_
  intro p e s m args below meth c s₁ B hml hv
  obtain ⟨rfl, hP, hK, hN, hR⟩ := hv
  have hts := atoms_spec (ws := .code y cc maxL ret :: hWall) B.pre
  have hl := lv_entry vs (n := maxL) hlen
  rw [lg_entry_eq]
  exact body p e s m _ below meth c ⟨B.exec, B.bytes, hml, findClass_of_methodNamed B.named, fun w hw => hts w (List.mem_cons_of_mem _ hw), hK, hN, hinj, B.returns, B.notSynchronized⟩ s.heap [] _ ⟨hP, hR, va_S.rf⟩ hl
end
end
section
/-! the objects of the world, and their fields (laid by program) -/
section
variable {ad : Nat → Nat → Nat} {cI cJ cF : ClassId} {S : hS} {g : Nat}
theorem un_F (hj : g < 7) (i : Nat) (hi : i < 13) : hUnpos (13 * g + i) = (g, i) := by
  unfold hUnpos
  rw [if_pos (by omega)]
  exact Prod.ext (by show (13 * g + i) / 13 = g; omega) (by show (13 * g + i) % 13 = i; omega)
theorem un_Font (hj : g < 7) : hUnpos (13 * g) = (g, 0) := un_F hj 0 (by decide)
theorem un_Sheets (hj : g < 7) : hUnpos (13 * g + 7) = (g, 7) := un_F hj 7 (by decide)
theorem hr_Font (hj : g < 7) (r rl : Int → Int) : hCellR ad cI cJ cF g 0 r rl = .inr (1, [.int (hI (r 0)), .int (hI (r 1)), .int (hI (r 2)), .int (hI (r 3)), .ref (ad g 1), .ref (ad g 2), .ref (ad g 3), .ref (ad g 4), .ref (ad g 5), .ref (ad g 6), .ref (ad g 7)]) := by
  unfold hCellR
  rw [if_pos hj]
  rfl
theorem ob_Font (hj : g < 7) : (hW ad cI cJ cF S)[13 * g]? = some (ad g 0, .inr (1, [.int (hI (S g 0 0)), .int (hI (S g 0 1)), .int (hI (S g 0 2)), .int (hI (S g 0 3)), .ref (ad g 1), .ref (ad g 2), .ref (ad g 3), .ref (ad g 4), .ref (ad g 5), .ref (ad g 6), .ref (ad g 7)])) := by
  rw [hW_at (g := g) (i := 0) (by omega) (un_Font hj)]
  unfold hCell
  rw [hr_Font hj]
theorem pu_Font_glyphs (hj : g < 7) {x : Int} : hCell ad cI cJ cF (gset S g (aset (S g) 0 0 x)) g 0 = .inr (1, List.set [.int (hI (S g 0 0)), .int (hI (S g 0 1)), .int (hI (S g 0 2)), .int (hI (S g 0 3)), .ref (ad g 1), .ref (ad g 2), .ref (ad g 3), .ref (ad g 4), .ref (ad g 5), .ref (ad g 6), .ref (ad g 7)] 0 (.int (hI x))) := by
  unfold hCell
  rw [hr_Font hj]
  simp [gset, aset, List.set]
theorem pu_Font_standards (hj : g < 7) {x : Int} : hCell ad cI cJ cF (gset S g (aset (S g) 0 1 x)) g 0 = .inr (1, List.set [.int (hI (S g 0 0)), .int (hI (S g 0 1)), .int (hI (S g 0 2)), .int (hI (S g 0 3)), .ref (ad g 1), .ref (ad g 2), .ref (ad g 3), .ref (ad g 4), .ref (ad g 5), .ref (ad g 6), .ref (ad g 7)] 1 (.int (hI x))) := by
  unfold hCell
  rw [hr_Font hj]
  simp [gset, aset, List.set]
theorem pu_Font_cutoff (hj : g < 7) {x : Int} : hCell ad cI cJ cF (gset S g (aset (S g) 0 2 x)) g 0 = .inr (1, List.set [.int (hI (S g 0 0)), .int (hI (S g 0 1)), .int (hI (S g 0 2)), .int (hI (S g 0 3)), .ref (ad g 1), .ref (ad g 2), .ref (ad g 3), .ref (ad g 4), .ref (ad g 5), .ref (ad g 6), .ref (ad g 7)] 2 (.int (hI x))) := by
  unfold hCell
  rw [hr_Font hj]
  simp [gset, aset, List.set]
theorem pu_Font_leastGap (hj : g < 7) {x : Int} : hCell ad cI cJ cF (gset S g (aset (S g) 0 3 x)) g 0 = .inr (1, List.set [.int (hI (S g 0 0)), .int (hI (S g 0 1)), .int (hI (S g 0 2)), .int (hI (S g 0 3)), .ref (ad g 1), .ref (ad g 2), .ref (ad g 3), .ref (ad g 4), .ref (ad g 5), .ref (ad g 6), .ref (ad g 7)] 3 (.int (hI x))) := by
  unfold hCell
  rw [hr_Font hj]
  simp [gset, aset, List.set]
theorem hr_Sheets (hj : g < 7) (r rl : Int → Int) : hCellR ad cI cJ cF g 7 r rl = .inr (4, [.int (hI (r 0)), .ref (ad g 8), .ref (ad g 9), .ref (ad g 10), .ref (ad g 11), .ref (ad g 12)]) := by
  unfold hCellR
  rw [if_pos hj]
  rfl
theorem ob_Sheets (hj : g < 7) : (hW ad cI cJ cF S)[13 * g + 7]? = some (ad g 7, .inr (4, [.int (hI (S g 7 0)), .ref (ad g 8), .ref (ad g 9), .ref (ad g 10), .ref (ad g 11), .ref (ad g 12)])) := by
  rw [hW_at (g := g) (i := 7) (by omega) (un_Sheets hj)]
  unfold hCell
  rw [hr_Sheets hj]
theorem pu_Sheets_made (hj : g < 7) {x : Int} : hCell ad cI cJ cF (gset S g (aset (S g) 7 0 x)) g 7 = .inr (4, List.set [.int (hI (S g 7 0)), .ref (ad g 8), .ref (ad g 9), .ref (ad g 10), .ref (ad g 11), .ref (ad g 12)] 0 (.int (hI x))) := by
  unfold hCell
  rw [hr_Sheets hj]
  simp [gset, aset, List.set]
theorem hr_Fit (r rl : Int → Int) : hCellR ad cI cJ cF 7 0 r rl = .inr (0, [.int (hI (r 0)), .int (hI (r 1)), .int (hI (r 2)), .long (hJ (rl 0)), .ref (ad 7 1), .ref (ad 7 2), .ref (ad 7 3)]) := rfl
theorem ob_Fit : (hW ad cI cJ cF S)[91]? = some (ad 7 0, .inr (0, [.int (hI (S 7 0 0)), .int (hI (S 7 0 1)), .int (hI (S 7 0 2)), .long (hJ (S 7 100 0)), .ref (ad 7 1), .ref (ad 7 2), .ref (ad 7 3)])) := by
  rw [hW_at (g := 7) (i := 0) (by decide) rfl]
  rfl
theorem pu_Fit_columns {x : Int} : hCell ad cI cJ cF (gset S 7 (aset (S 7) 0 0 x)) 7 0 = .inr (0, List.set [.int (hI (S 7 0 0)), .int (hI (S 7 0 1)), .int (hI (S 7 0 2)), .long (hJ (S 7 100 0)), .ref (ad 7 1), .ref (ad 7 2), .ref (ad 7 3)] 0 (.int (hI x))) := by
  unfold hCell
  rw [hr_Fit]
  simp [gset, aset, List.set]
theorem pu_Fit_pushed {x : Int} : hCell ad cI cJ cF (gset S 7 (aset (S 7) 0 1 x)) 7 0 = .inr (0, List.set [.int (hI (S 7 0 0)), .int (hI (S 7 0 1)), .int (hI (S 7 0 2)), .long (hJ (S 7 100 0)), .ref (ad 7 1), .ref (ad 7 2), .ref (ad 7 3)] 1 (.int (hI x))) := by
  unfold hCell
  rw [hr_Fit]
  simp [gset, aset, List.set]
theorem pu_Fit_clipped {x : Int} : hCell ad cI cJ cF (gset S 7 (aset (S 7) 0 2 x)) 7 0 = .inr (0, List.set [.int (hI (S 7 0 0)), .int (hI (S 7 0 1)), .int (hI (S 7 0 2)), .long (hJ (S 7 100 0)), .ref (ad 7 1), .ref (ad 7 2), .ref (ad 7 3)] 2 (.int (hI x))) := by
  unfold hCell
  rw [hr_Fit]
  simp [gset, aset, List.set]
theorem pu_Fit_lit {x : Int} : hCell ad cI cJ cF (gset S 7 (aset (S 7) 100 0 x)) 7 0 = .inr (0, List.set [.int (hI (S 7 0 0)), .int (hI (S 7 0 1)), .int (hI (S 7 0 2)), .long (hJ (S 7 100 0)), .ref (ad 7 1), .ref (ad 7 2), .ref (ad 7 3)] 3 (.long (hJ x))) := by
  unfold hCell
  rw [hr_Fit]
  simp [gset, aset, List.set]
theorem hr_Orders (r rl : Int → Int) : hCellR ad cI cJ cF 8 0 r rl = .inr (3, [.ref (ad 8 1), .int (hI (r 1)), .ref (ad 8 2), .int (hI (r 3)), .int (hI (r 4)), .int (hI (r 5)), .int (hI (r 6)), .int (hI (r 7))]) := rfl
theorem ob_Orders : (hW ad cI cJ cF S)[95]? = some (ad 8 0, .inr (3, [.ref (ad 8 1), .int (hI (S 8 0 1)), .ref (ad 8 2), .int (hI (S 8 0 3)), .int (hI (S 8 0 4)), .int (hI (S 8 0 5)), .int (hI (S 8 0 6)), .int (hI (S 8 0 7))])) := by
  rw [hW_at (g := 8) (i := 0) (by decide) rfl]
  rfl
theorem pu_Orders_length {x : Int} : hCell ad cI cJ cF (gset S 8 (aset (S 8) 0 1 x)) 8 0 = .inr (3, List.set [.ref (ad 8 1), .int (hI (S 8 0 1)), .ref (ad 8 2), .int (hI (S 8 0 3)), .int (hI (S 8 0 4)), .int (hI (S 8 0 5)), .int (hI (S 8 0 6)), .int (hI (S 8 0 7))] 1 (.int (hI x))) := by
  unfold hCell
  rw [hr_Orders]
  simp [gset, aset, List.set]
theorem pu_Orders_reached {x : Int} : hCell ad cI cJ cF (gset S 8 (aset (S 8) 0 3 x)) 8 0 = .inr (3, List.set [.ref (ad 8 1), .int (hI (S 8 0 1)), .ref (ad 8 2), .int (hI (S 8 0 3)), .int (hI (S 8 0 4)), .int (hI (S 8 0 5)), .int (hI (S 8 0 6)), .int (hI (S 8 0 7))] 3 (.int (hI x))) := by
  unfold hCell
  rw [hr_Orders]
  simp [gset, aset, List.set]
theorem pu_Orders_done {x : Int} : hCell ad cI cJ cF (gset S 8 (aset (S 8) 0 4 x)) 8 0 = .inr (3, List.set [.ref (ad 8 1), .int (hI (S 8 0 1)), .ref (ad 8 2), .int (hI (S 8 0 3)), .int (hI (S 8 0 4)), .int (hI (S 8 0 5)), .int (hI (S 8 0 6)), .int (hI (S 8 0 7))] 4 (.int (hI x))) := by
  unfold hCell
  rw [hr_Orders]
  simp [gset, aset, List.set]
theorem pu_Orders_position {x : Int} : hCell ad cI cJ cF (gset S 8 (aset (S 8) 0 5 x)) 8 0 = .inr (3, List.set [.ref (ad 8 1), .int (hI (S 8 0 1)), .ref (ad 8 2), .int (hI (S 8 0 3)), .int (hI (S 8 0 4)), .int (hI (S 8 0 5)), .int (hI (S 8 0 6)), .int (hI (S 8 0 7))] 5 (.int (hI x))) := by
  unfold hCell
  rw [hr_Orders]
  simp [gset, aset, List.set]
theorem pu_Orders_reason {x : Int} : hCell ad cI cJ cF (gset S 8 (aset (S 8) 0 6 x)) 8 0 = .inr (3, List.set [.ref (ad 8 1), .int (hI (S 8 0 1)), .ref (ad 8 2), .int (hI (S 8 0 3)), .int (hI (S 8 0 4)), .int (hI (S 8 0 5)), .int (hI (S 8 0 6)), .int (hI (S 8 0 7))] 6 (.int (hI x))) := by
  unfold hCell
  rw [hr_Orders]
  simp [gset, aset, List.set]
theorem pu_Orders_cause {x : Int} : hCell ad cI cJ cF (gset S 8 (aset (S 8) 0 7 x)) 8 0 = .inr (3, List.set [.ref (ad 8 1), .int (hI (S 8 0 1)), .ref (ad 8 2), .int (hI (S 8 0 3)), .int (hI (S 8 0 4)), .int (hI (S 8 0 5)), .int (hI (S 8 0 6)), .int (hI (S 8 0 7))] 7 (.int (hI x))) := by
  unfold hCell
  rw [hr_Orders]
  simp [gset, aset, List.set]
theorem hr_Hist (r rl : Int → Int) : hCellR ad cI cJ cF 9 0 r rl = .inr (2, [.ref (ad 9 1), .int (hI (r 1)), .int (hI (r 2))]) := rfl
theorem ob_Hist : (hW ad cI cJ cF S)[98]? = some (ad 9 0, .inr (2, [.ref (ad 9 1), .int (hI (S 9 0 1)), .int (hI (S 9 0 2))])) := by
  rw [hW_at (g := 9) (i := 0) (by decide) rfl]
  rfl
theorem pu_Hist_oldest {x : Int} : hCell ad cI cJ cF (gset S 9 (aset (S 9) 0 1 x)) 9 0 = .inr (2, List.set [.ref (ad 9 1), .int (hI (S 9 0 1)), .int (hI (S 9 0 2))] 1 (.int (hI x))) := by
  unfold hCell
  rw [hr_Hist]
  simp [gset, aset, List.set]
theorem pu_Hist_kept {x : Int} : hCell ad cI cJ cF (gset S 9 (aset (S 9) 0 2 x)) 9 0 = .inr (2, List.set [.ref (ad 9 1), .int (hI (S 9 0 1)), .int (hI (S 9 0 2))] 2 (.int (hI x))) := by
  unfold hCell
  rw [hr_Hist]
  simp [gset, aset, List.set]
theorem hr_Model (r rl : Int → Int) : hCellR ad cI cJ cF 10 0 r rl = .inr (6, [.ref (ad 10 1), .ref (ad 10 2), .ref (ad 10 3), .int (hI (r 3)), .int (hI (r 4)), .ref (ad 10 4), .int (hI (r 6)), .ref (ad 10 5), .ref (ad 10 6), .int (hI (r 9)), .int (hI (r 10)), .int (hI (r 11)), .int (hI (r 12)), .int (hI (r 13)), .int (hI (r 14)), .int (hI (r 15)), .ref (ad 10 7)]) := rfl
theorem ob_Model : (hW ad cI cJ cF S)[100]? = some (ad 10 0, .inr (6, [.ref (ad 10 1), .ref (ad 10 2), .ref (ad 10 3), .int (hI (S 10 0 3)), .int (hI (S 10 0 4)), .ref (ad 10 4), .int (hI (S 10 0 6)), .ref (ad 10 5), .ref (ad 10 6), .int (hI (S 10 0 9)), .int (hI (S 10 0 10)), .int (hI (S 10 0 11)), .int (hI (S 10 0 12)), .int (hI (S 10 0 13)), .int (hI (S 10 0 14)), .int (hI (S 10 0 15)), .ref (ad 10 7)])) := by
  rw [hW_at (g := 10) (i := 0) (by decide) rfl]
  rfl
theorem pu_Model_pasts {x : Int} : hCell ad cI cJ cF (gset S 10 (aset (S 10) 0 3 x)) 10 0 = .inr (6, List.set [.ref (ad 10 1), .ref (ad 10 2), .ref (ad 10 3), .int (hI (S 10 0 3)), .int (hI (S 10 0 4)), .ref (ad 10 4), .int (hI (S 10 0 6)), .ref (ad 10 5), .ref (ad 10 6), .int (hI (S 10 0 9)), .int (hI (S 10 0 10)), .int (hI (S 10 0 11)), .int (hI (S 10 0 12)), .int (hI (S 10 0 13)), .int (hI (S 10 0 14)), .int (hI (S 10 0 15)), .ref (ad 10 7)] 3 (.int (hI x))) := by
  unfold hCell
  rw [hr_Model]
  simp [gset, aset, List.set]
theorem pu_Model_runs {x : Int} : hCell ad cI cJ cF (gset S 10 (aset (S 10) 0 4 x)) 10 0 = .inr (6, List.set [.ref (ad 10 1), .ref (ad 10 2), .ref (ad 10 3), .int (hI (S 10 0 3)), .int (hI (S 10 0 4)), .ref (ad 10 4), .int (hI (S 10 0 6)), .ref (ad 10 5), .ref (ad 10 6), .int (hI (S 10 0 9)), .int (hI (S 10 0 10)), .int (hI (S 10 0 11)), .int (hI (S 10 0 12)), .int (hI (S 10 0 13)), .int (hI (S 10 0 14)), .int (hI (S 10 0 15)), .ref (ad 10 7)] 4 (.int (hI x))) := by
  unfold hCell
  rw [hr_Model]
  simp [gset, aset, List.set]
theorem pu_Model_typed {x : Int} : hCell ad cI cJ cF (gset S 10 (aset (S 10) 0 6 x)) 10 0 = .inr (6, List.set [.ref (ad 10 1), .ref (ad 10 2), .ref (ad 10 3), .int (hI (S 10 0 3)), .int (hI (S 10 0 4)), .ref (ad 10 4), .int (hI (S 10 0 6)), .ref (ad 10 5), .ref (ad 10 6), .int (hI (S 10 0 9)), .int (hI (S 10 0 10)), .int (hI (S 10 0 11)), .int (hI (S 10 0 12)), .int (hI (S 10 0 13)), .int (hI (S 10 0 14)), .int (hI (S 10 0 15)), .ref (ad 10 7)] 6 (.int (hI x))) := by
  unfold hCell
  rw [hr_Model]
  simp [gset, aset, List.set]
theorem pu_Model_pushed {x : Int} : hCell ad cI cJ cF (gset S 10 (aset (S 10) 0 9 x)) 10 0 = .inr (6, List.set [.ref (ad 10 1), .ref (ad 10 2), .ref (ad 10 3), .int (hI (S 10 0 3)), .int (hI (S 10 0 4)), .ref (ad 10 4), .int (hI (S 10 0 6)), .ref (ad 10 5), .ref (ad 10 6), .int (hI (S 10 0 9)), .int (hI (S 10 0 10)), .int (hI (S 10 0 11)), .int (hI (S 10 0 12)), .int (hI (S 10 0 13)), .int (hI (S 10 0 14)), .int (hI (S 10 0 15)), .ref (ad 10 7)] 9 (.int (hI x))) := by
  unfold hCell
  rw [hr_Model]
  simp [gset, aset, List.set]
theorem pu_Model_spot {x : Int} : hCell ad cI cJ cF (gset S 10 (aset (S 10) 0 10 x)) 10 0 = .inr (6, List.set [.ref (ad 10 1), .ref (ad 10 2), .ref (ad 10 3), .int (hI (S 10 0 3)), .int (hI (S 10 0 4)), .ref (ad 10 4), .int (hI (S 10 0 6)), .ref (ad 10 5), .ref (ad 10 6), .int (hI (S 10 0 9)), .int (hI (S 10 0 10)), .int (hI (S 10 0 11)), .int (hI (S 10 0 12)), .int (hI (S 10 0 13)), .int (hI (S 10 0 14)), .int (hI (S 10 0 15)), .ref (ad 10 7)] 10 (.int (hI x))) := by
  unfold hCell
  rw [hr_Model]
  simp [gset, aset, List.set]
theorem pu_Model_from {x : Int} : hCell ad cI cJ cF (gset S 10 (aset (S 10) 0 11 x)) 10 0 = .inr (6, List.set [.ref (ad 10 1), .ref (ad 10 2), .ref (ad 10 3), .int (hI (S 10 0 3)), .int (hI (S 10 0 4)), .ref (ad 10 4), .int (hI (S 10 0 6)), .ref (ad 10 5), .ref (ad 10 6), .int (hI (S 10 0 9)), .int (hI (S 10 0 10)), .int (hI (S 10 0 11)), .int (hI (S 10 0 12)), .int (hI (S 10 0 13)), .int (hI (S 10 0 14)), .int (hI (S 10 0 15)), .ref (ad 10 7)] 11 (.int (hI x))) := by
  unfold hCell
  rw [hr_Model]
  simp [gset, aset, List.set]
theorem pu_Model_reason {x : Int} : hCell ad cI cJ cF (gset S 10 (aset (S 10) 0 12 x)) 10 0 = .inr (6, List.set [.ref (ad 10 1), .ref (ad 10 2), .ref (ad 10 3), .int (hI (S 10 0 3)), .int (hI (S 10 0 4)), .ref (ad 10 4), .int (hI (S 10 0 6)), .ref (ad 10 5), .ref (ad 10 6), .int (hI (S 10 0 9)), .int (hI (S 10 0 10)), .int (hI (S 10 0 11)), .int (hI (S 10 0 12)), .int (hI (S 10 0 13)), .int (hI (S 10 0 14)), .int (hI (S 10 0 15)), .ref (ad 10 7)] 12 (.int (hI x))) := by
  unfold hCell
  rw [hr_Model]
  simp [gset, aset, List.set]
theorem pu_Model_cause {x : Int} : hCell ad cI cJ cF (gset S 10 (aset (S 10) 0 13 x)) 10 0 = .inr (6, List.set [.ref (ad 10 1), .ref (ad 10 2), .ref (ad 10 3), .int (hI (S 10 0 3)), .int (hI (S 10 0 4)), .ref (ad 10 4), .int (hI (S 10 0 6)), .ref (ad 10 5), .ref (ad 10 6), .int (hI (S 10 0 9)), .int (hI (S 10 0 10)), .int (hI (S 10 0 11)), .int (hI (S 10 0 12)), .int (hI (S 10 0 13)), .int (hI (S 10 0 14)), .int (hI (S 10 0 15)), .ref (ad 10 7)] 13 (.int (hI x))) := by
  unfold hCell
  rw [hr_Model]
  simp [gset, aset, List.set]
theorem pu_Model_orders {x : Int} : hCell ad cI cJ cF (gset S 10 (aset (S 10) 0 14 x)) 10 0 = .inr (6, List.set [.ref (ad 10 1), .ref (ad 10 2), .ref (ad 10 3), .int (hI (S 10 0 3)), .int (hI (S 10 0 4)), .ref (ad 10 4), .int (hI (S 10 0 6)), .ref (ad 10 5), .ref (ad 10 6), .int (hI (S 10 0 9)), .int (hI (S 10 0 10)), .int (hI (S 10 0 11)), .int (hI (S 10 0 12)), .int (hI (S 10 0 13)), .int (hI (S 10 0 14)), .int (hI (S 10 0 15)), .ref (ad 10 7)] 14 (.int (hI x))) := by
  unfold hCell
  rw [hr_Model]
  simp [gset, aset, List.set]
theorem pu_Model_order {x : Int} : hCell ad cI cJ cF (gset S 10 (aset (S 10) 0 15 x)) 10 0 = .inr (6, List.set [.ref (ad 10 1), .ref (ad 10 2), .ref (ad 10 3), .int (hI (S 10 0 3)), .int (hI (S 10 0 4)), .ref (ad 10 4), .int (hI (S 10 0 6)), .ref (ad 10 5), .ref (ad 10 6), .int (hI (S 10 0 9)), .int (hI (S 10 0 10)), .int (hI (S 10 0 11)), .int (hI (S 10 0 12)), .int (hI (S 10 0 13)), .int (hI (S 10 0 14)), .int (hI (S 10 0 15)), .ref (ad 10 7)] 15 (.int (hI x))) := by
  unfold hCell
  rw [hr_Model]
  simp [gset, aset, List.set]
theorem hr_X (r rl : Int → Int) : hCellR ad cI cJ cF 11 0 r rl = .inr (5, [.ref (ad 0 0), .ref (ad 1 0), .ref (ad 7 0), .ref (ad 8 0), .ref (ad 9 0)]) := rfl
theorem ob_X : (hW ad cI cJ cF S)[108]? = some (ad 11 0, .inr (5, [.ref (ad 0 0), .ref (ad 1 0), .ref (ad 7 0), .ref (ad 8 0), .ref (ad 9 0)])) := by
  rw [hW_at (g := 11) (i := 0) (by decide) rfl]
  rfl
theorem ia_F_1 (hj : g < 7) : hIA ad cI cJ cF g 1 8 (13 * g + 1) := ⟨by omega, un_F hj 1 (by decide), by decide, by decide, fun r rl => by unfold hCellR; rw [if_pos hj]; rfl⟩
theorem ia_F_2 (hj : g < 7) : hIA ad cI cJ cF g 2 8 (13 * g + 2) := ⟨by omega, un_F hj 2 (by decide), by decide, by decide, fun r rl => by unfold hCellR; rw [if_pos hj]; rfl⟩
theorem ia_F_3 (hj : g < 7) : hIA ad cI cJ cF g 3 48 (13 * g + 3) := ⟨by omega, un_F hj 3 (by decide), by decide, by decide, fun r rl => by unfold hCellR; rw [if_pos hj]; rfl⟩
theorem ia_F_4 (hj : g < 7) : hIA ad cI cJ cF g 4 48 (13 * g + 4) := ⟨by omega, un_F hj 4 (by decide), by decide, by decide, fun r rl => by unfold hCellR; rw [if_pos hj]; rfl⟩
theorem ia_F_5 (hj : g < 7) : hIA ad cI cJ cF g 5 48 (13 * g + 5) := ⟨by omega, un_F hj 5 (by decide), by decide, by decide, fun r rl => by unfold hCellR; rw [if_pos hj]; rfl⟩
theorem ia_F_6 (hj : g < 7) : hIA ad cI cJ cF g 6 3 (13 * g + 6) := ⟨by omega, un_F hj 6 (by decide), by decide, by decide, fun r rl => by unfold hCellR; rw [if_pos hj]; rfl⟩
theorem ia_F_8 (hj : g < 7) : hIA ad cI cJ cF g 8 4 (13 * g + 8) := ⟨by omega, un_F hj 8 (by decide), by decide, by decide, fun r rl => by unfold hCellR; rw [if_pos hj]; rfl⟩
theorem ia_F_9 (hj : g < 7) : hIA ad cI cJ cF g 9 4 (13 * g + 9) := ⟨by omega, un_F hj 9 (by decide), by decide, by decide, fun r rl => by unfold hCellR; rw [if_pos hj]; rfl⟩
theorem ia_F_10 (hj : g < 7) : hIA ad cI cJ cF g 10 4 (13 * g + 10) := ⟨by omega, un_F hj 10 (by decide), by decide, by decide, fun r rl => by unfold hCellR; rw [if_pos hj]; rfl⟩
theorem ia_F_11 (hj : g < 7) : hIA ad cI cJ cF g 11 32 (13 * g + 11) := ⟨by omega, un_F hj 11 (by decide), by decide, by decide, fun r rl => by unfold hCellR; rw [if_pos hj]; rfl⟩
theorem ia_7_1 : hIA ad cI cJ cF 7 1 6 92 := ⟨by decide, by decide, by decide, by decide, fun r rl => rfl⟩
theorem ia_7_2 : hIA ad cI cJ cF 7 2 6 93 := ⟨by decide, by decide, by decide, by decide, fun r rl => rfl⟩
theorem ia_7_3 : hIA ad cI cJ cF 7 3 48 94 := ⟨by decide, by decide, by decide, by decide, fun r rl => rfl⟩
theorem ia_8_1 : hIA ad cI cJ cF 8 1 60 96 := ⟨by decide, by decide, by decide, by decide, fun r rl => rfl⟩
theorem ia_8_2 : hIA ad cI cJ cF 8 2 3 97 := ⟨by decide, by decide, by decide, by decide, fun r rl => rfl⟩
theorem ia_10_1 : hIA ad cI cJ cF 10 1 273 101 := ⟨by decide, by decide, by decide, by decide, fun r rl => rfl⟩
theorem ia_10_2 : hIA ad cI cJ cF 10 2 1092 102 := ⟨by decide, by decide, by decide, by decide, fun r rl => rfl⟩
theorem ia_10_3 : hIA ad cI cJ cF 10 3 273 103 := ⟨by decide, by decide, by decide, by decide, fun r rl => rfl⟩
theorem ia_10_4 : hIA ad cI cJ cF 10 4 60 104 := ⟨by decide, by decide, by decide, by decide, fun r rl => rfl⟩
theorem ia_10_5 : hIA ad cI cJ cF 10 5 6 105 := ⟨by decide, by decide, by decide, by decide, fun r rl => rfl⟩
theorem ia_10_6 : hIA ad cI cJ cF 10 6 6 106 := ⟨by decide, by decide, by decide, by decide, fun r rl => rfl⟩
theorem ia_10_7 : hIA ad cI cJ cF 10 7 3 107 := ⟨by decide, by decide, by decide, by decide, fun r rl => rfl⟩
theorem hIA_n {g i n q : Nat} (h : hIA ad cI cJ cF g i n q) : hIn (n : Int) := ⟨by omega, by have := h.2.2.2.1; omega⟩
theorem hIA_i {g i n q : Nat} (h : hIA ad cI cJ cF g i n q) : i < 100 := by have := h.2.2.1; omega
theorem hIA_lt {g i n q : Nat} (h : hIA ad cI cJ cF g i n q) : n < 100000 := h.2.2.2.1
theorem can1 {g : Nat} {A : hGM} (h : S g = A) : S = gset S g A := by rw [← h, gset_self]
theorem can2 {g k : Nat} {A B : hGM} (hn : k ≠ g) (h : S g = A) (hB : S k = B) : S = gset (gset S g A) k B := by
  rw [← can1 h]
  exact can1 hB
theorem can3 {g k n : Nat} {A B C : hGM} (hn : k ≠ g) (hn2 : n ≠ g) (hn3 : n ≠ k) (h : S g = A) (hB : S k = B) (hC : S n = C) : S = gset (gset (gset S g A) k B) n C := by
  rw [← can2 hn h hB]
  exact can1 hC
end
section
variable {p : Program} {l : Launch} {e : Env} {R : Room} {s : State} {m : MethodId} {args : Array Value} {below : List Frame} {meth : Method} {c : Code} {H : Heap} {locs : List Loc} {cells slots : Nat} {Q : State → Prop}
variable {cc : ByteArray} {pc nL : Nat} {ls : Array Slot} {rest : List Value} {own : String} {ret : Option FieldType}
variable {D : va_G} {ad : Nat → Nat → Nat} {cI cJ cF : ClassId} {S S' : hS} {g : Nat}
theorem hJA (hj : g < 7) : (hW ad cI cJ cF S)[13 * g + 12]? = some (ad g 12, .inl (cJ, 32, .inr (.inl (fun k => hJ (S g 112 k))))) := by
  rw [hW_at (g := g) (i := 12) (by omega) (un_F hj 12 (by decide))]
  unfold hCell hCellR
  rw [if_pos hj]
  rfl
theorem iv_lald (hx : p.tables.exec = Jvm.exec) (hb : c.code = cc) (hK : va_K D vwCl (hTys cI cJ cF) s) (hP : va_P D vwCl (hW ad cI cJ cF S) H) (hj : g < 7) {k v : Int} (hk : 0 ≤ k ∧ k < 32) (hv : S g 112 k = v) (hdg : decode cc pc = .ok (.laload, 1))
    (kk : W p l e R s m args below meth c H locs cells slots Q (F0 m (pc + 1) ls (.long (hJ v) :: rest))) : W p l e R s m args below meth c H locs cells slots Q (F0 m pc ls (.int (hI k) :: .ref (ad g 12) :: rest)) := by
  obtain ⟨h1, h2⟩ := hI_ix (n := 32) hk (by decide)
  refine va_lald hx hb hK hP (13 * g + 12) 1 (hJA hj) rfl h1 hdg ?_
  rw [h2]
  have e : ((k.toNat : Nat) : Int) = k := Int.toNat_of_nonneg hk.1
  simp only [e, hv]
  exact kk
theorem iv_last (hx : p.tables.exec = Jvm.exec) (hb : c.code = cc) (hK : va_K D vwCl (hTys cI cJ cF) s) (hinj : hInj ad) (hh : hH D ad cI cJ cF S s H locs) (hj : g < 7) {k v : Int} (hk : 0 ≤ k ∧ k < 32) (hS' : gset S g (aset (S g) 112 k v) = S') (hdg : decode cc pc = .ok (.lastore, 1))
    (K : ∀ (H1 : Heap) (locs1 : List Loc), hH D ad cI cJ cF S' s H1 locs1 → W p l e R s m args below meth c H1 locs1 cells slots Q (F0 m (pc + 1) ls rest)) : W p l e R s m args below meth c H locs cells slots Q (F0 m pc ls (.long (hJ v) :: .int (hI k) :: .ref (ad g 12) :: rest)) := by
  obtain ⟨h1, h2⟩ := hI_ix (n := 32) hk (by decide)
  refine va_last hx hb hK hh.1 (hW_D hinj) hh.2.2 (13 * g + 12) 1 (hJA hj) rfl h1 hdg (fun H1 locs1 hP1 _ hS1 => K H1 locs1 ?_)
  have e : ((k.toNat : Nat) : Int) = k := Int.toNat_of_nonneg hk.1
  have hc : hCell ad cI cJ cF (gset S g (aset (S g) 112 k v)) g 12 = .inl (cJ, 32, .inr (.inl (vp_updL (fun k => hJ (S g 112 k)) (hI k).toNatClampNeg (hJ v)))) := by
    unfold hCell hCellR
    rw [if_pos hj, h2]
    show Sum.inl (cJ, 32, Sum.inr (Sum.inl _)) = _
    congr 5
    funext j
    simp only [gset_at, vp_updL, aset]
    by_cases hj : j = k.toNat
    · subst hj; simp [e]
    · have : ¬ ((j : Int) = k) := by omega
      simp [hj, this]
  rw [← hc, hW_set (by omega) (un_F hj 12 (by decide)) (hset_else (Or.inr rfl))] at hP1
  rw [← hS']
  exact ⟨hP1, hR_set hh.2.1 (Or.inr (by decide)), hS1⟩
theorem iv_aald (hx : p.tables.exec = Jvm.exec) (hb : c.code = cc) (hK : va_K D vwCl (hTys cI cJ cF) s) (hP : va_P D vwCl (hW ad cI cJ cF S) H) {k : Int} (hk : 0 ≤ k ∧ k < 5) (hdg : decode cc pc = .ok (.aaload, 1))
    (kk : W p l e R s m args below meth c H locs cells slots Q (F0 m (pc + 1) ls (.ref (ad (2 + k.toNat) 0) :: rest))) : W p l e R s m args below meth c H locs cells slots Q (F0 m pc ls (.int (hI k) :: .ref (ad 9 1) :: rest)) := by
  obtain ⟨h1, h2⟩ := hI_ix (n := 5) hk (by decide)
  refine va_aldq hx hb hK hP 99 2 (hW_at (g := 9) (i := 1) (by decide) rfl) rfl h1 hdg ?_
  rw [h2]
  exact kk
end
theorem cb_X0_lay : hCbV RX0 yX0_lay cX0_lay 13 none 3 := ⟨by decide +kernel, q2_134, q2_135, q1_4, q2_136⟩
theorem cb_X0_light : hCbV RX0 yX0_light cX0_light 6 none 3 := ⟨by decide +kernel, q2_165, qs_6, q1_4, q2_166⟩
theorem cb_X0_isClear : hCbV RX0 yX0_isClear cX0_isClear 1 (some .boolean) 0 := ⟨by decide +kernel, q2_222, q2_223, q1_4, q2_224⟩
theorem cb_X0_isEven : hCbV RX0 yX0_isEven cX0_isEven 4 (some .boolean) 2 := ⟨by decide +kernel, q3_33, q3_34, q1_4, q3_35⟩
theorem cb_X0_isEvenAhead : hCbV RX0 yX0_isEvenAhead cX0_isEvenAhead 6 (some .boolean) 2 := ⟨by decide +kernel, q3_38, qs_8, q1_4, q3_39⟩
theorem cb_X0_columnsOf : hCbS yX0_columnsOf cX0_columnsOf 2 (some .int) 2 := ⟨by decide +kernel, q2_139, q1_4, q2_140⟩
theorem cb_X0_rounded : hCbS yX0_rounded cX0_rounded 6 (some .int) 4 := ⟨by decide +kernel, q2_160, q1_4, q2_161⟩
theorem cb_X1_copy : hCbV RX1 yX1_copy cX1_copy 2 none 1 := ⟨by decide +kernel, q1_233, q1_234, q1_2, q1_235⟩
theorem cb_X1_hasGlyph : hCbV RX1 yX1_hasGlyph cX1_hasGlyph 2 (some .boolean) 1 := ⟨by decide +kernel, q2_33, q2_34, q1_2, q2_35⟩
theorem cb_X1_hasStem : hCbV RX1 yX1_hasStem cX1_hasStem 3 (some .boolean) 2 := ⟨by decide +kernel, q2_61, q2_62, q1_2, q2_63⟩
theorem cb_X1_endOf : hCbV RX1 yX1_endOf cX1_endOf 2 (some .int) 1 := ⟨by decide +kernel, q2_40, q2_41, q1_2, q2_42⟩
theorem cb_X1_addGlyph : hCbV RX1 yX1_addGlyph cX1_addGlyph 3 (some .int) 1 := ⟨by decide +kernel, q2_5, q2_6, q1_2, q2_7⟩
theorem cb_X1_addStem : hCbV RX1 yX1_addStem cX1_addStem 9 (some .int) 3 := ⟨by decide +kernel, q2_29, q2_30, q1_2, q2_31⟩
theorem cb_X1_cutStem : hCbV RX1 yX1_cutStem cX1_cutStem 6 (some .int) 2 := ⟨by decide +kernel, q2_57, q2_58, q1_2, q2_59⟩
theorem cb_X1_moveStem : hCbV RX1 yX1_moveStem cX1_moveStem 3 none 2 := ⟨by decide +kernel, q2_46, qs_2, q1_2, q2_47⟩
theorem cb_X1_putStem : hCbV RX1 yX1_putStem cX1_putStem 5 none 4 := ⟨by decide +kernel, q2_50, qs_3, q1_2, q2_51⟩
theorem cb_X1_hintStem : hCbV RX1 yX1_hintStem cX1_hintStem 6 (some .int) 3 := ⟨by decide +kernel, q2_69, q2_70, q1_2, q2_71⟩
theorem cb_X1_addStandard : hCbV RX1 yX1_addStandard cX1_addStandard 3 (some .int) 1 := ⟨by decide +kernel, q2_77, q2_78, q1_2, q2_79⟩
theorem cb_X1_dropStandard : hCbV RX1 yX1_dropStandard cX1_dropStandard 4 (some .int) 1 := ⟨by decide +kernel, q2_100, q2_101, q1_2, q2_102⟩
theorem cb_X1_standardAt : hCbV RX1 yX1_standardAt cX1_standardAt 3 (some .int) 1 := ⟨by decide +kernel, q2_82, qs_4, q1_2, q2_83⟩
theorem cb_X1_changeSetting : hCbV RX1 yX1_changeSetting cX1_changeSetting 4 (some .int) 2 := ⟨by decide +kernel, q2_182, q2_183, q1_2, q2_184⟩
theorem cb_X1_makeSheet : hCbV RX1 yX1_makeSheet cX1_makeSheet 5 (some .int) 2 := ⟨by decide +kernel, q2_108, q2_109, q1_2, q2_110⟩
theorem cb_X1_isStale : hCbV RX1 yX1_isStale cX1_isStale 6 (some .boolean) 2 := ⟨by decide +kernel, q3_18, q3_19, q1_2, q3_20⟩
theorem cb_X1_snapOf : hCbV RX1 yX1_snapOf cX1_snapOf 6 (some .int) 1 := ⟨by decide +kernel, q2_89, q2_90, q1_2, q2_91⟩
theorem cb_X1_hintedWidth : hCbV RX1 yX1_hintedWidth cX1_hintedWidth 3 (some .int) 1 := ⟨by decide +kernel, q2_193, q2_194, q1_2, q2_195⟩
theorem cb_X1_wideOf : hCbV RX1 yX1_wideOf cX1_wideOf 4 (some .int) 2 := ⟨by decide +kernel, q2_154, q2_155, q1_2, q2_156⟩
theorem cb_X1_alikeWith : hCbV RX1 yX1_alikeWith cX1_alikeWith 5 (some .int) 1 := ⟨by decide +kernel, q2_199, q2_200, q1_2, q2_201⟩
theorem cb_X1_snappingTo : hCbV RX1 yX1_snappingTo cX1_snappingTo 4 (some .int) 1 := ⟨by decide +kernel, q2_86, qs_5, q1_2, q2_87⟩
theorem cb_X1_unlikeWidths : hCbV RX1 yX1_unlikeWidths cX1_unlikeWidths 3 (some .int) 0 := ⟨by decide +kernel, q3_82, q3_83, q1_2, q3_84⟩
theorem cb_X1_isAlikeAhead : hCbV RX1 yX1_isAlikeAhead cX1_isAlikeAhead 4 (some .boolean) 1 := ⟨by decide +kernel, q3_87, qs_11, q1_2, q3_88⟩
theorem cb_X1_stemsTogether : hCbV RX1 yX1_stemsTogether cX1_stemsTogether 3 (some .int) 0 := ⟨by decide +kernel, q3_60, q3_61, q1_2, q3_62⟩
theorem cb_X1_widthsTogether : hCbV RX1 yX1_widthsTogether cX1_widthsTogether 3 (some .int) 0 := ⟨by decide +kernel, q3_64, q3_65, q1_2, q3_66⟩
theorem cb_X2_note : hCbV RX2 yX2_note cX2_note 3 none 1 := ⟨by decide +kernel, q1_222, q1_223, q1_6, q1_224⟩
theorem cb_X2_keep : hCbV RX2 yX2_keep cX2_keep 1 none 0 := ⟨by decide +kernel, q2_21, q2_22, q1_6, q2_23⟩
theorem cb_X2_giveBack : hCbV RX2 yX2_giveBack cX2_giveBack 3 (some .boolean) 1 := ⟨by decide +kernel, q3_94, q3_95, q1_6, q3_96⟩
theorem cb_X2_slotAt : hCbV RX2 yX2_slotAt cX2_slotAt 3 (some (.object "HintedStems$Font")) 1 := ⟨by decide +kernel, q1_227, qs_0, q1_6, q1_228⟩
theorem cb_X3_append : hCbV RX3 yX3_append cX3_append 2 (some .boolean) 1 := ⟨by decide +kernel, q3_103, q3_104, q1_5, q3_105⟩
theorem cb_X3_run : hCbV RX3 yX3_run cX3_run 6 none 2 := ⟨by decide +kernel, q3_117, q3_118, q1_5, q3_119⟩
theorem cb_X3_tell : hCbV RX3 yX3_tell cX3_tell 4 none 3 := ⟨by decide +kernel, q3_139, qs_15, q1_5, q3_140⟩
theorem cb_X3_signAt : hCbV RX3 yX3_signAt cX3_signAt 2 (some .int) 1 := ⟨by decide +kernel, q3_126, qs_13, q1_5, q3_127⟩
theorem cb_X3_isOrder : hCbV RX3 yX3_isOrder cX3_isOrder 4 (some .boolean) 1 := ⟨by decide +kernel, q3_122, qs_12, q1_5, q3_123⟩
theorem cb_X3_numbersOf : hCbS yX3_numbersOf cX3_numbersOf 1 (some .int) 1 := ⟨by decide +kernel, q3_130, q1_5, q3_131⟩
theorem cb_X3_isNumber : hCbV RX3 yX3_isNumber cX3_isNumber 4 (some .boolean) 1 := ⟨by decide +kernel, q3_134, qs_14, q1_5, q3_135⟩
theorem cb_X3_carryOut : hCbV RX3 yX3_carryOut cX3_carryOut 5 (some .int) 3 := ⟨by decide +kernel, q3_143, qs_16, q1_5, q3_144⟩
theorem cb_X4_copy : hCbV RX4 yX4_copy cX4_copy 3 none 1 := ⟨by decide +kernel, q2_0, q2_1, q1_3, q2_2⟩
theorem cb_X4_isMade : hCbV RX4 yX4_isMade cX4_isMade 2 (some .boolean) 1 := ⟨by decide +kernel, q2_124, q2_125, q1_3, q2_126⟩
theorem cb_X4_held : hCbV RX4 yX4_held cX4_held 3 (some .int) 0 := ⟨by decide +kernel, q2_174, q2_175, q1_3, q2_176⟩
theorem cb_X4_slotOf : hCbV RX4 yX4_slotOf cX4_slotOf 3 (some .int) 1 := ⟨by decide +kernel, q2_120, q2_121, q1_3, q2_122⟩
theorem cb_X4_slotAt : hCbV RX4 yX4_slotAt cX4_slotAt 3 (some .int) 1 := ⟨by decide +kernel, q3_10, q3_11, q1_3, q3_12⟩
theorem cb_X4_olderThan : hCbV RX4 yX4_olderThan cX4_olderThan 4 (some .int) 1 := ⟨by decide +kernel, q3_15, qs_7, q1_3, q3_16⟩
theorem cb_X4_slotToMake : hCbV RX4 yX4_slotToMake cX4_slotToMake 5 (some .int) 1 := ⟨by decide +kernel, q2_116, q2_117, q1_3, q2_118⟩
theorem cb_X4_begin : hCbV RX4 yX4_begin cX4_begin 4 none 3 := ⟨by decide +kernel, q2_129, q2_130, q1_3, q2_131⟩
theorem cb_X4_keep : hCbV RX4 yX4_keep cX4_keep 5 none 3 := ⟨by decide +kernel, q2_170, q2_171, q1_3, q2_172⟩
theorem cb_X4_litAt : hCbV RX4 yX4_litAt cX4_litAt 2 (some .long) 1 := ⟨by decide +kernel, q3_2, q3_3, q1_3, q3_4⟩
theorem cb_X4_litTogether : hCbV RX4 yX4_litTogether cX4_litTogether 4 (some .int) 1 := ⟨by decide +kernel, q3_23, q3_24, q1_3, q3_25⟩
theorem cb_X5_glyph : hCbV RX5 yX5_glyph cX5_glyph 2 (some .int) 1 := ⟨by decide +kernel, q1_218, q1_219, q1_1, q1_220⟩
theorem cb_X5_stem : hCbV RX5 yX5_stem cX5_stem 4 (some .int) 3 := ⟨by decide +kernel, q2_25, q2_26, q1_1, q2_27⟩
theorem cb_X5_cut : hCbV RX5 yX5_cut cX5_cut 3 (some .int) 2 := ⟨by decide +kernel, q2_53, q2_54, q1_1, q2_55⟩
theorem cb_X5_hint : hCbV RX5 yX5_hint cX5_hint 4 (some .int) 3 := ⟨by decide +kernel, q2_65, q2_66, q1_1, q2_67⟩
theorem cb_X5_standard : hCbV RX5 yX5_standard cX5_standard 2 (some .int) 1 := ⟨by decide +kernel, q2_73, q2_74, q1_1, q2_75⟩
theorem cb_X5_drop : hCbV RX5 yX5_drop cX5_drop 2 (some .int) 1 := ⟨by decide +kernel, q2_96, q2_97, q1_1, q2_98⟩
theorem cb_X5_make : hCbV RX5 yX5_make cX5_make 2 (some .int) 1 := ⟨by decide +kernel, q2_104, q2_105, q1_1, q2_106⟩
theorem cb_X5_set : hCbV RX5 yX5_set cX5_set 3 (some .int) 2 := ⟨by decide +kernel, q2_178, q2_179, q1_1, q2_180⟩
theorem cb_X5_stemOf : hCbV RX5 yX5_stemOf cX5_stemOf 7 (some .int) 3 := ⟨by decide +kernel, q2_186, q2_187, q1_1, q2_188⟩
theorem cb_X5_pixels : hCbV RX5 yX5_pixels cX5_pixels 5 (some .int) 4 := ⟨by decide +kernel, q2_205, q2_206, q1_1, q2_207⟩
theorem cb_X5_glyphOf : hCbV RX5 yX5_glyphOf cX5_glyphOf 4 (some .int) 3 := ⟨by decide +kernel, q2_211, q2_212, q1_1, q2_213⟩
theorem cb_X5_lit : hCbV RX5 yX5_lit cX5_lit 4 (some .int) 3 := ⟨by decide +kernel, q2_230, q2_231, q1_1, q2_232⟩
theorem cb_X5_inSheet : hCbV RX5 yX5_inSheet cX5_inSheet 7 (some .int) 3 := ⟨by decide +kernel, q2_237, q2_238, q1_1, q2_239⟩
theorem cb_X5_sheetOf : hCbV RX5 yX5_sheetOf cX5_sheetOf 4 (some .int) 2 := ⟨by decide +kernel, q3_6, q3_7, q1_1, q3_8⟩
theorem cb_X5_even : hCbV RX5 yX5_even cX5_even 2 (some .int) 1 := ⟨by decide +kernel, q3_29, q3_30, q1_1, q3_31⟩
theorem cb_X5_clear : hCbV RX5 yX5_clear cX5_clear 3 (some .int) 1 := ⟨by decide +kernel, q3_42, q3_43, q1_1, q3_44⟩
theorem cb_X5_best : hCbV RX5 yX5_best cX5_best 8 (some .int) 3 := ⟨by decide +kernel, q3_46, q3_47, q1_1, q3_48⟩
theorem cb_X5_mean : hCbV RX5 yX5_mean cX5_mean 2 (some .int) 0 := ⟨by decide +kernel, q3_56, q3_57, q1_1, q3_58⟩
theorem cb_X5_count : hCbV RX5 yX5_count cX5_count 2 (some .int) 1 := ⟨by decide +kernel, q3_72, q3_73, q1_1, q3_74⟩
theorem cb_X5_undo : hCbV RX5 yX5_undo cX5_undo 1 (some .int) 0 := ⟨by decide +kernel, q3_90, q3_91, q1_1, q3_92⟩
theorem cb_X5_type : hCbV RX5 yX5_type cX5_type 2 (some .int) 1 := ⟨by decide +kernel, q3_99, q3_100, q1_1, q3_101⟩
theorem cb_X5_clearText : hCbV RX5 yX5_clearText cX5_clearText 2 (some .int) 0 := ⟨by decide +kernel, q3_109, q3_110, q1_1, q3_111⟩
theorem cb_X5_fault : hCbV RX5 yX5_fault cX5_fault 2 (some .int) 1 := ⟨by decide +kernel, q3_113, q3_114, q1_1, q3_115⟩
theorem cb_X5_play : hCbV RX5 yX5_play cX5_play 1 (some .int) 0 := ⟨by decide +kernel, q3_151, q3_152, q1_1, q3_153⟩
theorem cb_X5_settled : hCbV RX5 yX5_settled cX5_settled 2 (some .int) 1 := ⟨by decide +kernel, q2_18, qs_1, q1_1, q2_19⟩
theorem cb_X5_clearSizes : hCbV RX5 yX5_clearSizes cX5_clearSizes 5 (some .int) 2 := ⟨by decide +kernel, q3_53, qs_9, q1_1, q3_54⟩
theorem cb_X5_staleSheets : hCbV RX5 yX5_staleSheets cX5_staleSheets 3 (some .int) 0 := ⟨by decide +kernel, q3_78, qs_10, q1_1, q3_79⟩
theorem cb_X5_within : hCbS yX5_within cX5_within 3 (some .boolean) 3 := ⟨by decide +kernel, q2_9, q1_1, q2_10⟩
theorem cb_X5_isSize : hCbS yX5_isSize cX5_isSize 1 (some .boolean) 1 := ⟨by decide +kernel, q2_112, q1_1, q2_113⟩
theorem cb_X5_inPixels : hCbS yX5_inPixels cX5_inPixels 2 (some .int) 2 := ⟨by decide +kernel, q2_142, q1_1, q2_143⟩
theorem cb_X5_cell : hCbS yX5_cell cX5_cell 2 (some .int) 2 := ⟨by decide +kernel, q2_37, q1_1, q2_38⟩
theorem cb_X5_put : hCbS yX5_put cX5_put 3 none 3 := ⟨by decide +kernel, q2_14, q1_1, q2_15⟩
theorem cb_X5_copyRow : hCbS yX5_copyRow cX5_copyRow 3 none 2 := ⟨by decide +kernel, q1_237, q1_1, q1_238⟩
theorem cb_X5_bitOf : hCbS yX5_bitOf cX5_bitOf 3 (some .int) 2 := ⟨by decide +kernel, q2_234, q1_1, q2_235⟩
theorem cb_X5_runsOf : hCbS yX5_runsOf cX5_runsOf 2 (some .int) 1 := ⟨by decide +kernel, q2_226, q1_1, q2_227⟩
theorem cb_X5_bitsOf : hCbS yX5_bitsOf cX5_bitsOf 3 (some .int) 1 := ⟨by decide +kernel, q3_68, q1_1, q3_69⟩
theorem cb_X6_in : hCbS yX6_in cX6_in 3 (some .boolean) 3 := ⟨by decide +kernel, q3_217, q1_7, q3_218⟩
theorem cb_X6_floor : hCbS yX6_floor cX6_floor 2 (some .int) 2 := ⟨by decide +kernel, q4_84, q1_7, q4_85⟩
theorem cb_X6_copies : hCbS yX6_copies cX6_copies 3 none 2 := ⟨by decide +kernel, q4_220, q1_7, q4_221⟩
theorem cb_X6_changes : hCbV RX6 yX6_changes cX6_changes 2 none 0 := ⟨by decide +kernel, q3_223, qs_17, q1_7, q3_224⟩
theorem cb_X6_isSize : hCbS yX6_isSize cX6_isSize 1 (some .boolean) 1 := ⟨by decide +kernel, q4_50, q1_7, q4_51⟩
theorem cb_X6_isGlyph : hCbV RX6 yX6_isGlyph cX6_isGlyph 2 (some .boolean) 1 := ⟨by decide +kernel, q3_231, qs_18, q1_7, q3_232⟩
theorem cb_X6_of : hCbV RX6 yX6_of cX6_of 3 (some .int) 2 := ⟨by decide +kernel, q3_239, qs_20, q1_7, q4_0⟩
theorem cb_X6_isStem : hCbV RX6 yX6_isStem cX6_isStem 3 (some .boolean) 2 := ⟨by decide +kernel, q4_19, qs_23, q1_7, q4_20⟩
theorem cb_X6_at : hCbS yX6_at cX6_at 3 (some .int) 3 := ⟨by decide +kernel, q4_6, q1_7, q4_7⟩
theorem cb_X6_ofStem : hCbV RX6 yX6_ofStem cX6_ofStem 4 (some .int) 3 := ⟨by decide +kernel, q4_3, qs_21, q1_7, q4_4⟩
theorem cb_X6_endOf : hCbV RX6 yX6_endOf cX6_endOf 3 (some .int) 2 := ⟨by decide +kernel, q4_10, qs_22, q1_7, q4_11⟩
theorem cb_X6_glyph : hCbV RX6 yX6_glyph cX6_glyph 3 (some .int) 1 := ⟨by decide +kernel, q3_213, q3_214, q1_7, q3_215⟩
theorem cb_X6_ahead : hCbV RX6 yX6_ahead cX6_ahead 4 (some .int) 2 := ⟨by decide +kernel, q3_235, qs_19, q1_7, q3_236⟩
theorem cb_X6_stem : hCbV RX6 yX6_stem cX6_stem 8 (some .int) 3 := ⟨by decide +kernel, q3_226, q3_227, q1_7, q3_228⟩
theorem cb_X6_cut : hCbV RX6 yX6_cut cX6_cut 4 (some .int) 2 := ⟨by decide +kernel, q4_14, q4_15, q1_7, q4_16⟩
theorem cb_X6_hint : hCbV RX6 yX6_hint cX6_hint 5 (some .int) 3 := ⟨by decide +kernel, q4_22, q4_23, q1_7, q4_24⟩
theorem cb_X6_wideAt : hCbV RX6 yX6_wideAt cX6_wideAt 3 (some .int) 1 := ⟨by decide +kernel, q4_31, qs_24, q1_7, q4_32⟩
theorem cb_X6_size : hCbS yX6_size cX6_size 1 (some .int) 1 := ⟨by decide +kernel, q4_39, q1_7, q4_40⟩
theorem cb_X6_snaps : hCbV RX6 yX6_snaps cX6_snaps 7 (some .int) 1 := ⟨by decide +kernel, q4_36, qs_25, q1_7, q4_37⟩
theorem cb_X6_hinted : hCbV RX6 yX6_hinted cX6_hinted 4 (some .int) 2 := ⟨by decide +kernel, q4_74, qs_31, q1_7, q4_75⟩
theorem cb_X6_standard : hCbV RX6 yX6_standard cX6_standard 6 (some .int) 1 := ⟨by decide +kernel, q4_26, q4_27, q1_7, q4_28⟩
theorem cb_X6_drop : hCbV RX6 yX6_drop cX6_drop 4 (some .int) 1 := ⟨by decide +kernel, q4_42, q4_43, q1_7, q4_44⟩
theorem cb_X6_inPixels : hCbS yX6_inPixels cX6_inPixels 2 (some .int) 2 := ⟨by decide +kernel, q4_77, q1_7, q4_78⟩
theorem cb_X6_pixelsOf : hCbV RX6 yX6_pixelsOf cX6_pixelsOf 5 (some .int) 3 := ⟨by decide +kernel, q4_70, qs_30, q1_7, q4_71⟩
theorem cb_X6_columns : hCbV RX6 yX6_columns cX6_columns 4 (some .int) 2 := ⟨by decide +kernel, q4_88, qs_33, q1_7, q4_89⟩
theorem cb_X6_rounded : hCbV RX6 yX6_rounded cX6_rounded 8 (some .int) 3 := ⟨by decide +kernel, q4_81, qs_32, q1_7, q4_82⟩
theorem cb_X6_lays : hCbV RX6 yX6_lays cX6_lays 6 none 2 := ⟨by decide +kernel, q4_66, qs_29, q1_7, q4_67⟩
theorem cb_X6_cuts : hCbV RX6 yX6_cuts cX6_cuts 5 (some .int) 2 := ⟨by decide +kernel, q4_116, qs_37, q1_7, q4_117⟩
theorem cb_X6_isClear : hCbV RX6 yX6_isClear cX6_isClear 3 (some .boolean) 2 := ⟨by decide +kernel, q4_127, qs_38, q1_7, q4_128⟩
theorem cb_X6_isLit : hCbV RX6 yX6_isLit cX6_isLit 5 (some .boolean) 2 := ⟨by decide +kernel, q4_96, qs_35, q1_7, q4_97⟩
theorem cb_X6_litHalf : hCbV RX6 yX6_litHalf cX6_litHalf 6 (some .int) 3 := ⟨by decide +kernel, q4_92, qs_34, q1_7, q4_93⟩
theorem cb_X6_ofSheet : hCbV RX6 yX6_ofSheet cX6_ofSheet 3 (some .int) 2 := ⟨by decide +kernel, q4_58, qs_27, q1_7, q4_59⟩
theorem cb_X6_sheetAt : hCbV RX6 yX6_sheetAt cX6_sheetAt 3 (some .int) 1 := ⟨by decide +kernel, q4_54, qs_26, q1_7, q4_55⟩
theorem cb_X6_takesSheet : hCbV RX6 yX6_takesSheet cX6_takesSheet 3 none 1 := ⟨by decide +kernel, q4_62, qs_28, q1_7, q4_63⟩
theorem cb_X6_make : hCbV RX6 yX6_make cX6_make 6 (some .int) 1 := ⟨by decide +kernel, q4_46, q4_47, q1_7, q4_48⟩
theorem cb_X6_isStale : hCbV RX6 yX6_isStale cX6_isStale 6 (some .boolean) 1 := ⟨by decide +kernel, q4_147, qs_40, q1_7, q4_148⟩
theorem cb_X6_ones : hCbS yX6_ones cX6_ones 3 (some .int) 1 := ⟨by decide +kernel, q4_123, q1_7, q4_124⟩
theorem cb_X6_litIn : hCbV RX6 yX6_litIn cX6_litIn 4 (some .int) 1 := ⟨by decide +kernel, q4_151, qs_41, q1_7, q4_152⟩
theorem cb_X6_set : hCbV RX6 yX6_set cX6_set 4 (some .int) 2 := ⟨by decide +kernel, q4_99, q4_100, q1_7, q4_101⟩
theorem cb_X6_alike : hCbV RX6 yX6_alike cX6_alike 5 (some .int) 1 := ⟨by decide +kernel, q4_108, qs_36, q1_7, q4_109⟩
theorem cb_X6_stemOf : hCbV RX6 yX6_stemOf cX6_stemOf 4 (some .int) 3 := ⟨by decide +kernel, q4_103, q4_104, q1_7, q4_105⟩
theorem cb_X6_pixels : hCbV RX6 yX6_pixels cX6_pixels 5 (some .int) 4 := ⟨by decide +kernel, q4_111, q4_112, q1_7, q4_113⟩
theorem cb_X6_runsOf : hCbV RX6 yX6_runsOf cX6_runsOf 5 (some .int) 2 := ⟨by decide +kernel, q4_131, qs_39, q1_7, q4_132⟩
theorem cb_X6_glyphOf : hCbV RX6 yX6_glyphOf cX6_glyphOf 4 (some .int) 3 := ⟨by decide +kernel, q4_119, q4_120, q1_7, q4_121⟩
theorem cb_X6_lit : hCbV RX6 yX6_lit cX6_lit 4 (some .int) 3 := ⟨by decide +kernel, q4_134, q4_135, q1_7, q4_136⟩
theorem cb_X6_inSheet : hCbV RX6 yX6_inSheet cX6_inSheet 5 (some .int) 3 := ⟨by decide +kernel, q4_138, q4_139, q1_7, q4_140⟩
theorem cb_X6_sheetOf : hCbV RX6 yX6_sheetOf cX6_sheetOf 3 (some .int) 2 := ⟨by decide +kernel, q4_142, q4_143, q1_7, q4_144⟩
theorem cb_X6_isEven : hCbV RX6 yX6_isEven cX6_isEven 8 (some .boolean) 3 := ⟨by decide +kernel, q4_159, qs_42, q1_7, q4_160⟩
theorem cb_X6_even : hCbV RX6 yX6_even cX6_even 5 (some .int) 1 := ⟨by decide +kernel, q4_154, q4_155, q1_7, q4_156⟩
theorem cb_X6_clear : hCbV RX6 yX6_clear cX6_clear 3 (some .int) 1 := ⟨by decide +kernel, q4_162, q4_163, q1_7, q4_164⟩
theorem cb_X6_clearSizes : hCbV RX6 yX6_clearSizes cX6_clearSizes 4 (some .int) 1 := ⟨by decide +kernel, q4_171, qs_43, q1_7, q4_172⟩
theorem cb_X6_best : hCbV RX6 yX6_best cX6_best 9 (some .int) 3 := ⟨by decide +kernel, q4_166, q4_167, q1_7, q4_168⟩
theorem cb_X6_stems : hCbV RX6 yX6_stems cX6_stems 3 (some .int) 0 := ⟨by decide +kernel, q4_179, qs_44, q1_7, q4_180⟩
theorem cb_X6_mean : hCbV RX6 yX6_mean cX6_mean 4 (some .int) 0 := ⟨by decide +kernel, q4_174, q4_175, q1_7, q4_176⟩
theorem cb_X6_stales : hCbV RX6 yX6_stales cX6_stales 3 (some .int) 0 := ⟨by decide +kernel, q4_197, qs_45, q1_7, q4_198⟩
theorem cb_X6_unlikeWidths : hCbV RX6 yX6_unlikeWidths cX6_unlikeWidths 3 (some .int) 0 := ⟨by decide +kernel, q4_201, qs_46, q1_7, q4_202⟩
theorem cb_X6_count : hCbV RX6 yX6_count cX6_count 2 (some .int) 1 := ⟨by decide +kernel, q4_192, q4_193, q1_7, q4_194⟩
theorem cb_X6_undo : hCbV RX6 yX6_undo cX6_undo 2 (some .int) 0 := ⟨by decide +kernel, q4_204, q4_205, q1_7, q4_206⟩
theorem cb_X6_type : hCbV RX6 yX6_type cX6_type 2 (some .int) 1 := ⟨by decide +kernel, q4_208, q4_209, q1_7, q4_210⟩
theorem cb_X6_clearText : hCbV RX6 yX6_clearText cX6_clearText 2 (some .int) 0 := ⟨by decide +kernel, q4_212, q4_213, q1_7, q4_214⟩
theorem cb_X6_isAt : hCbV RX6 yX6_isAt cX6_isAt 3 (some .boolean) 2 := ⟨by decide +kernel, q4_232, qs_49, q1_7, q4_233⟩
theorem cb_X6_sign : hCbV RX6 yX6_sign cX6_sign 3 (some .boolean) 1 := ⟨by decide +kernel, q5_3, qs_51, q1_7, q5_4⟩
theorem cb_X6_numbered : hCbV RX6 yX6_numbered cX6_numbered 3 (some .boolean) 1 := ⟨by decide +kernel, q4_239, qs_50, q1_7, q5_0⟩
theorem cb_X6_numbersOf : hCbS yX6_numbersOf cX6_numbersOf 1 (some .int) 1 := ⟨by decide +kernel, q4_235, q1_7, q4_236⟩
theorem cb_X6_reads : hCbV RX6 yX6_reads cX6_reads 4 (some .boolean) 0 := ⟨by decide +kernel, q4_228, qs_48, q1_7, q4_229⟩
theorem cb_X6_calls : hCbV RX6 yX6_calls cX6_calls 1 (some .int) 0 := ⟨by decide +kernel, q5_7, qs_52, q1_7, q5_8⟩
theorem cb_X6_plays : hCbV RX6 yX6_plays cX6_plays 4 (some .boolean) 0 := ⟨by decide +kernel, q4_224, qs_47, q1_7, q4_225⟩
theorem cb_X6_fault : hCbV RX6 yX6_fault cX6_fault 3 (some .int) 1 := ⟨by decide +kernel, q4_216, q4_217, q1_7, q4_218⟩
theorem cb_X6_play : hCbV RX6 yX6_play cX6_play 2 (some .int) 0 := ⟨by decide +kernel, q5_15, q5_16, q1_7, q5_17⟩
theorem cb_Jxf58ca_isNaN_12338 : hCbS yJxf58ca_isNaN_12338 cJxf58ca_isNaN_12338 1 (some .boolean) 1 := ⟨by decide +kernel, q4_185, q1_10, q4_186⟩
theorem cb_Jxf58ca_floatToIntBits_5c35a : hCbS yJxf58ca_floatToIntBits_5c35a cJxf58ca_floatToIntBits_5c35a 1 (some .int) 1 := ⟨by decide +kernel, q4_182, q1_10, q4_183⟩
theorem cb_J13_bitCount_95d88 : hCbS yJ13_bitCount_95d88 cJ13_bitCount_95d88 2 (some .int) 1 := ⟨by decide +kernel, q2_216, q1_9, q2_217⟩
theorem cb_J9_floorDiv_7cf53 : hCbS yJ9_floorDiv_7cf53 cJ9_floorDiv_7cf53 3 (some .int) 2 := ⟨by decide +kernel, q2_145, q1_8, q2_146⟩
theorem cb_J9_floorMod_7cf53 : hCbS yJ9_floorMod_7cf53 cJ9_floorMod_7cf53 3 (some .int) 2 := ⟨by decide +kernel, q1_230, q1_8, q1_231⟩
theorem cb_J9_abs_0f7a4 : hCbS yJ9_abs_0f7a4 cJ9_abs_0f7a4 1 (some .int) 1 := ⟨by decide +kernel, q2_93, q1_8, q2_94⟩
theorem cb_J9_max_7cf53 : hCbS yJ9_max_7cf53 cJ9_max_7cf53 2 (some .int) 2 := ⟨by decide +kernel, q2_151, q1_8, q2_152⟩
theorem cb_J9_min_7cf53 : hCbS yJ9_min_7cf53 cJ9_min_7cf53 2 (some .int) 2 := ⟨by decide +kernel, q2_148, q1_8, q2_149⟩
end
section
/-! further rows: what the JDK's own methods need -/
def iXor (a b : Int) : Int := (hI a ^^^ hI b).toInt
theorem hJ_add (a b : Int) : hJ a + hJ b = hJ (a + b) := (Int64.ofInt_add a b).symm
theorem hJ_sub (a b : Int) : hJ a - hJ b = hJ (a - b) := (Int64.ofInt_sub a b).symm
theorem hI_tdiv {a b : Int} (ha : hIn a) (hb : hIn b) (h1 : 0 < b) : hI a / hI b = hI (a.tdiv b) := by
  apply Int32.toInt_inj.mp
  have h4 : hIn (a.tdiv b) := by
    rcases Int.le_total 0 a with h0 | h0
    · have e : a.tdiv b = a / b := Int.tdiv_eq_ediv_of_nonneg h0
      have h2 : a / b ≤ a := Int.ediv_le_self b h0
      have h3 : 0 ≤ a / b := Int.ediv_nonneg h0 (Int.le_of_lt h1)
      rw [e]; exact ⟨by omega, by have := ha.2; omega⟩
    · have e : a.tdiv b = - ((-a) / b) := by
        have := Int.tdiv_eq_ediv_of_nonneg (a := -a) (b := b) (by omega)
        rw [← this, Int.neg_tdiv]; omega
      have h2 : (-a) / b ≤ -a := Int.ediv_le_self b (by omega)
      have h3 : 0 ≤ (-a) / b := Int.ediv_nonneg (by omega) (Int.le_of_lt h1)
      rw [e]; exact ⟨by have := ha.1; omega, by omega⟩
  rw [Int32.toInt_div, hI_toInt ha, hI_toInt hb, hI_toInt h4]
  exact Int.bmod_eq_of_le (by have := h4.1; omega) (by have := h4.2; omega)
section
variable {p : Program} {l : Launch} {e : Env} {R : Room} {s : State} {m : MethodId} {args : Array Value} {below : List Frame} {meth : Method} {c : Code} {H : Heap} {locs : List Loc} {cells slots : Nat} {Q : State → Prop}
variable {cc : ByteArray} {pc nL : Nat} {ls : Array Slot} {rest : List Value}
theorem iv_idivT (hx : p.tables.exec = Jvm.exec) (hb : c.code = cc) {a b : Int} (ha : hIn a) (hb1 : hIn b) (h1 : 0 < b) (hdg : decode cc pc = .ok (.idiv, 1))
    (k : W p l e R s m args below meth c H locs cells slots Q (F0 m (pc + 1) ls (.int (hI (a.tdiv b)) :: rest))) : W p l e R s m args below meth c H locs cells slots Q (F0 m pc ls (.int (hI b) :: .int (hI a) :: rest)) :=
  lv_idiv hx hb hdg (fun h => by rw [← hI_0, hI_eq hb1 hIn_0] at h; omega) (by rw [hI_tdiv ha hb1 h1]; exact k)
theorem iv_iremT (hx : p.tables.exec = Jvm.exec) (hb : c.code = cc) {a b : Int} (ha : hIn a) (hb1 : hIn b) (h1 : 0 < b) (hdg : decode cc pc = .ok (.irem, 1))
    (k : W p l e R s m args below meth c H locs cells slots Q (F0 m (pc + 1) ls (.int (hI (a.tmod b)) :: rest))) : W p l e R s m args below meth c H locs cells slots Q (F0 m pc ls (.int (hI b) :: .int (hI a) :: rest)) := by
  refine lv_irem hx hb hdg (fun h => by rw [← hI_0, hI_eq hb1 hIn_0] at h; omega) ?_
  have e : a - a.tdiv b * b = a.tmod b := by rw [Int.tmod_def, Int.mul_comm b]
  rw [hI_tdiv ha hb1 h1, hI_mul, hI_sub, e]
  exact k
theorem iv_ixor (hx : p.tables.exec = Jvm.exec) (hb : c.code = cc) {a b : Int} (hdg : decode cc pc = .ok (.ixor, 1))
    (k : W p l e R s m args below meth c H locs cells slots Q (F0 m (pc + 1) ls (.int (hI (iXor a b)) :: rest))) : W p l e R s m args below meth c H locs cells slots Q (F0 m pc ls (.int (hI b) :: .int (hI a) :: rest)) := lv_ixor hx hb hdg (by unfold iXor at k; rw [hI_of] at k; exact k)
theorem iv_ladd (hx : p.tables.exec = Jvm.exec) (hb : c.code = cc) {a b : Int} (hdg : decode cc pc = .ok (.ladd, 1))
    (k : W p l e R s m args below meth c H locs cells slots Q (F0 m (pc + 1) ls (.long (hJ (a + b)) :: rest))) : W p l e R s m args below meth c H locs cells slots Q (F0 m pc ls (.long (hJ b) :: .long (hJ a) :: rest)) := lv_ladd hx hb hdg (by rw [hJ_add]; exact k)
theorem iv_lsub (hx : p.tables.exec = Jvm.exec) (hb : c.code = cc) {a b : Int} (hdg : decode cc pc = .ok (.lsub, 1))
    (k : W p l e R s m args below meth c H locs cells slots Q (F0 m (pc + 1) ls (.long (hJ (a - b)) :: rest))) : W p l e R s m args below meth c H locs cells slots Q (F0 m pc ls (.long (hJ b) :: .long (hJ a) :: rest)) := lv_lsub hx hb hdg (by rw [hJ_sub]; exact k)
end
section
variable {D : va_G} {ad : Nat → Nat → Nat} {cI cJ cF : ClassId} {S S' : hS}
theorem hOfF {y : MethodName} {cc : ByteArray} {maxL : Nat} {ret : Option FieldType} {rm : Room} {vs : List Value} {Qc : Array Value → State → Outcome → State → Prop} (l : Launch) (hinj : hInj ad) (hy : plainFor y = true) (hlen : (lg_sl vs).length ≤ maxL)
    (body : ∀ (p : Program) (e : Env) (s : State) (m : MethodId) (args : Array Value) (below : List Frame) (meth : Method) (c : Code), hE D ad cI cJ cF p s m args meth c y.cls cc maxL ret → hAt D ad cI cJ cF p l e rm s m args below meth c (MQ below Qc args s 0 0 (hAd ad)) maxL 0 (lv_args 0 vs) S) :
    Met l y (.code y cc maxL ret :: hWall) rm (va_Pc vs (hPre D ad cI cJ cF S)) Qc 0 0 (hAd ad) := by
  refine va_MetF (cc := cc) (maxL := maxL) (ret := ret) hy rfl ?_
  intro p e s m args below meth c s₁ B hml hv
  obtain ⟨rfl, hP, hK, hN, hR⟩ := hv
  have hts := atoms_spec (ws := .code y cc maxL ret :: hWall) B.pre
  have hl := lv_entry vs (n := maxL) hlen
  rw [lg_entry_eq]
  exact body p e s m _ below meth c ⟨B.exec, B.bytes, hml, findClass_of_methodNamed B.named, fun w hw => hts w (List.mem_cons_of_mem _ hw), hK, hN, hinj, B.returns, B.notSynchronized⟩ s.heap [] _ ⟨hP, hR, va_S.rf⟩ hl
end
end
section
def p_J9_floorDiv_7cf53 (x1 : Int) (x2 : Int) : Prop := (0 < x2 ∧ (((iXor x1 x2) < 0 → (hIn ((Int.tdiv x1 x2) * x2) ∧ ((((Int.tdiv x1 x2) * x2) = x1 → (hIn (Int.tdiv x1 x2) ∧ True)) ∧ (¬ ((Int.tdiv x1 x2) * x2) = x1 → (hIn ((Int.tdiv x1 x2) - 1) ∧ True))))) ∧ (¬ (iXor x1 x2) < 0 → (hIn (Int.tdiv x1 x2) ∧ True))))
def v_J9_floorDiv_7cf53 (x1 : Int) (x2 : Int) : Int := (if (iXor x1 x2) < 0 then (if ((Int.tdiv x1 x2) * x2) = x1 then (Int.tdiv x1 x2) else ((Int.tdiv x1 x2) - 1)) else (Int.tdiv x1 x2))
def p_J9_floorMod_7cf53 (x1 : Int) (x2 : Int) : Prop := (0 < x2 ∧ (((iXor x1 x2) < 0 → (hIn (Int.tmod x1 x2) ∧ (((Int.tmod x1 x2) = 0 → True) ∧ (¬ (Int.tmod x1 x2) = 0 → (hIn ((Int.tmod x1 x2) + x2) ∧ True))))) ∧ (¬ (iXor x1 x2) < 0 → (hIn (Int.tmod x1 x2) ∧ True))))
def v_J9_floorMod_7cf53 (x1 : Int) (x2 : Int) : Int := (if (iXor x1 x2) < 0 then (if (Int.tmod x1 x2) = 0 then (Int.tmod x1 x2) else ((Int.tmod x1 x2) + x2)) else (Int.tmod x1 x2))
def p_J9_abs_0f7a4 (x1 : Int) : Prop := ((x1 < 0 → (hIn (-x1) ∧ True)) ∧ (¬ x1 < 0 → True))
def v_J9_abs_0f7a4 (x1 : Int) : Int := (if x1 < 0 then (-x1) else x1)
def v_J9_max_7cf53 (x1 : Int) (x2 : Int) : Int := (if x1 < x2 then x2 else x1)
def v_J9_min_7cf53 (x1 : Int) (x2 : Int) : Int := (if x1 ≤ x2 then x1 else x2)
def v_J13_bitCount_95d88 (x1 : Int) : Int := (iAnd (jToI ((((jAnd (((jAnd (x1 - (jAnd (jUshr x1 1) 6148914691236517205)) 3689348814741910323) + (jAnd (jUshr (x1 - (jAnd (jUshr x1 1) 6148914691236517205)) 2) 3689348814741910323)) + (jUshr ((jAnd (x1 - (jAnd (jUshr x1 1) 6148914691236517205)) 3689348814741910323) + (jAnd (jUshr (x1 - (jAnd (jUshr x1 1) 6148914691236517205)) 2) 3689348814741910323)) 4)) 1085102592571150095) + (jUshr (jAnd (((jAnd (x1 - (jAnd (jUshr x1 1) 6148914691236517205)) 3689348814741910323) + (jAnd (jUshr (x1 - (jAnd (jUshr x1 1) 6148914691236517205)) 2) 3689348814741910323)) + (jUshr ((jAnd (x1 - (jAnd (jUshr x1 1) 6148914691236517205)) 3689348814741910323) + (jAnd (jUshr (x1 - (jAnd (jUshr x1 1) 6148914691236517205)) 2) 3689348814741910323)) 4)) 1085102592571150095) 8)) + (jUshr ((jAnd (((jAnd (x1 - (jAnd (jUshr x1 1) 6148914691236517205)) 3689348814741910323) + (jAnd (jUshr (x1 - (jAnd (jUshr x1 1) 6148914691236517205)) 2) 3689348814741910323)) + (jUshr ((jAnd (x1 - (jAnd (jUshr x1 1) 6148914691236517205)) 3689348814741910323) + (jAnd (jUshr (x1 - (jAnd (jUshr x1 1) 6148914691236517205)) 2) 3689348814741910323)) 4)) 1085102592571150095) + (jUshr (jAnd (((jAnd (x1 - (jAnd (jUshr x1 1) 6148914691236517205)) 3689348814741910323) + (jAnd (jUshr (x1 - (jAnd (jUshr x1 1) 6148914691236517205)) 2) 3689348814741910323)) + (jUshr ((jAnd (x1 - (jAnd (jUshr x1 1) 6148914691236517205)) 3689348814741910323) + (jAnd (jUshr (x1 - (jAnd (jUshr x1 1) 6148914691236517205)) 2) 3689348814741910323)) 4)) 1085102592571150095) 8)) 16)) + (jUshr (((jAnd (((jAnd (x1 - (jAnd (jUshr x1 1) 6148914691236517205)) 3689348814741910323) + (jAnd (jUshr (x1 - (jAnd (jUshr x1 1) 6148914691236517205)) 2) 3689348814741910323)) + (jUshr ((jAnd (x1 - (jAnd (jUshr x1 1) 6148914691236517205)) 3689348814741910323) + (jAnd (jUshr (x1 - (jAnd (jUshr x1 1) 6148914691236517205)) 2) 3689348814741910323)) 4)) 1085102592571150095) + (jUshr (jAnd (((jAnd (x1 - (jAnd (jUshr x1 1) 6148914691236517205)) 3689348814741910323) + (jAnd (jUshr (x1 - (jAnd (jUshr x1 1) 6148914691236517205)) 2) 3689348814741910323)) + (jUshr ((jAnd (x1 - (jAnd (jUshr x1 1) 6148914691236517205)) 3689348814741910323) + (jAnd (jUshr (x1 - (jAnd (jUshr x1 1) 6148914691236517205)) 2) 3689348814741910323)) 4)) 1085102592571150095) 8)) + (jUshr ((jAnd (((jAnd (x1 - (jAnd (jUshr x1 1) 6148914691236517205)) 3689348814741910323) + (jAnd (jUshr (x1 - (jAnd (jUshr x1 1) 6148914691236517205)) 2) 3689348814741910323)) + (jUshr ((jAnd (x1 - (jAnd (jUshr x1 1) 6148914691236517205)) 3689348814741910323) + (jAnd (jUshr (x1 - (jAnd (jUshr x1 1) 6148914691236517205)) 2) 3689348814741910323)) 4)) 1085102592571150095) + (jUshr (jAnd (((jAnd (x1 - (jAnd (jUshr x1 1) 6148914691236517205)) 3689348814741910323) + (jAnd (jUshr (x1 - (jAnd (jUshr x1 1) 6148914691236517205)) 2) 3689348814741910323)) + (jUshr ((jAnd (x1 - (jAnd (jUshr x1 1) 6148914691236517205)) 3689348814741910323) + (jAnd (jUshr (x1 - (jAnd (jUshr x1 1) 6148914691236517205)) 2) 3689348814741910323)) 4)) 1085102592571150095) 8)) 16)) 32))) 127)
end
section
section
variable {D : va_G} {ad : Nat → Nat → Nat} {cI cJ cF : ClassId}
set_option maxHeartbeats 4000000 in
set_option maxRecDepth 100000 in
theorem ok_J9_floorDiv_7cf53 (l : Launch) (hinj : hInj ad) (S : hS) (x1 : Int) (x2 : Int) (h_x1 : hIn x1) (h_x2 : hIn x2) (hp : p_J9_floorDiv_7cf53 x1 x2) : hMi D ad cI cJ cF l yJ9_floorDiv_7cf53 cJ9_floorDiv_7cf53 3 (some .int) ({ frames := 0, cells := 0, slots := 0, locals := 0 } : Room) [.int (hI x1), .int (hI x2)] S (v_J9_floorDiv_7cf53 x1 x2) S := by
  refine hOfF (S := S) l hinj (by decide +kernel) (Nat.le_of_ble_eq_true rfl) (fun p e s m args below meth c E => ?_)
  obtain ⟨hx, hb, hml, hown, hts, hK, hN, -, hr, hlk⟩ := id E
  have hown : s.vm.findClass RJ9 = some m.cls := hown
  intro H locs ls hh hl
  have hl : lv_has ls 3 [(0, .int (hI x1)), (1, .int (hI x2))] := hl
  have h := hp
  unfold p_J9_floorDiv_7cf53 at h
  refine lv_iload_n hx hb dJ9_floorDiv_7cf53_0 rfl (lv_at hl 0 rfl) ?_
  refine lv_iload_n hx hb dJ9_floorDiv_7cf53_1 rfl (lv_at hl 1 rfl) ?_
  obtain ⟨g1, h⟩ := h
  refine iv_idivT hx hb h_x1 h_x2 g1 dJ9_floorDiv_7cf53_2 ?_
  refine lv_istore_n (lv' := [(2, .int (hI (Int.tdiv x1 x2))), (0, .int (hI x1)), (1, .int (hI x2))]) hx hb dJ9_floorDiv_7cf53_3 rfl hl (by decide) rfl (fun ls hl => ?_)
  refine lv_iload_n hx hb dJ9_floorDiv_7cf53_4 rfl (lv_at hl 1 rfl) ?_
  refine lv_iload_n hx hb dJ9_floorDiv_7cf53_5 rfl (lv_at hl 2 rfl) ?_
  refine iv_ixor hx hb dJ9_floorDiv_7cf53_6 ?_
  refine iv_if_ge (tgt := 21) hx hb (hIn_toInt _) dJ9_floorDiv_7cf53_7 (by decide) (fun c2 => ?_) (fun c2 => ?_)
  · have h := h.2 c2
    refine lv_iload_n hx hb dJ9_floorDiv_7cf53_21 rfl (lv_at hl 0 rfl) ?_
    obtain ⟨g3, h⟩ := h
    exact iv_iret E hh (by unfold v_J9_floorDiv_7cf53; rw [if_neg c2]) (by rw [← show (Int.tdiv x1 x2) = v_J9_floorDiv_7cf53 x1 x2 from (by unfold v_J9_floorDiv_7cf53; rw [if_neg c2])]; exact g3) rfl dJ9_floorDiv_7cf53_22
  · have h := h.1 c2
    refine lv_iload_n hx hb dJ9_floorDiv_7cf53_10 rfl (lv_at hl 0 rfl) ?_
    refine lv_iload_n hx hb dJ9_floorDiv_7cf53_11 rfl (lv_at hl 2 rfl) ?_
    refine iv_imul hx hb dJ9_floorDiv_7cf53_12 ?_
    refine lv_iload_n hx hb dJ9_floorDiv_7cf53_13 rfl (lv_at hl 1 rfl) ?_
    obtain ⟨g4, h⟩ := h
    refine iv_icmp_eq (tgt := 21) hx hb g4 h_x1 dJ9_floorDiv_7cf53_14 (by decide) (fun c5 => ?_) (fun c5 => ?_)
    · have h := h.1 c5
      refine lv_iload_n hx hb dJ9_floorDiv_7cf53_21 rfl (lv_at hl 0 rfl) ?_
      obtain ⟨g6, h⟩ := h
      exact iv_iret E hh (by unfold v_J9_floorDiv_7cf53; rw [if_pos c2, if_pos c5]) (by rw [← show (Int.tdiv x1 x2) = v_J9_floorDiv_7cf53 x1 x2 from (by unfold v_J9_floorDiv_7cf53; rw [if_pos c2, if_pos c5])]; exact g6) rfl dJ9_floorDiv_7cf53_22
    · have h := h.2 c5
      refine lv_iload_n hx hb dJ9_floorDiv_7cf53_17 rfl (lv_at hl 0 rfl) ?_
      refine iv_iconst hx hb dJ9_floorDiv_7cf53_18 ?_
      refine iv_isub hx hb dJ9_floorDiv_7cf53_19 ?_
      obtain ⟨g7, h⟩ := h
      exact iv_iret E hh (by unfold v_J9_floorDiv_7cf53; rw [if_pos c2, if_neg c5]) (by rw [← show ((Int.tdiv x1 x2) - 1) = v_J9_floorDiv_7cf53 x1 x2 from (by unfold v_J9_floorDiv_7cf53; rw [if_pos c2, if_neg c5])]; exact g7) rfl dJ9_floorDiv_7cf53_20
set_option maxHeartbeats 4000000 in
set_option maxRecDepth 100000 in
theorem ok_J9_floorMod_7cf53 (l : Launch) (hinj : hInj ad) (S : hS) (x1 : Int) (x2 : Int) (h_x1 : hIn x1) (h_x2 : hIn x2) (hp : p_J9_floorMod_7cf53 x1 x2) : hMi D ad cI cJ cF l yJ9_floorMod_7cf53 cJ9_floorMod_7cf53 3 (some .int) ({ frames := 0, cells := 0, slots := 0, locals := 0 } : Room) [.int (hI x1), .int (hI x2)] S (v_J9_floorMod_7cf53 x1 x2) S := by
  refine hOfF (S := S) l hinj (by decide +kernel) (Nat.le_of_ble_eq_true rfl) (fun p e s m args below meth c E => ?_)
  obtain ⟨hx, hb, hml, hown, hts, hK, hN, -, hr, hlk⟩ := id E
  have hown : s.vm.findClass RJ9 = some m.cls := hown
  intro H locs ls hh hl
  have hl : lv_has ls 3 [(0, .int (hI x1)), (1, .int (hI x2))] := hl
  have h := hp
  unfold p_J9_floorMod_7cf53 at h
  refine lv_iload_n hx hb dJ9_floorMod_7cf53_0 rfl (lv_at hl 0 rfl) ?_
  refine lv_iload_n hx hb dJ9_floorMod_7cf53_1 rfl (lv_at hl 1 rfl) ?_
  obtain ⟨g1, h⟩ := h
  refine iv_iremT hx hb h_x1 h_x2 g1 dJ9_floorMod_7cf53_2 ?_
  refine lv_istore_n (lv' := [(2, .int (hI (Int.tmod x1 x2))), (0, .int (hI x1)), (1, .int (hI x2))]) hx hb dJ9_floorMod_7cf53_3 rfl hl (by decide) rfl (fun ls hl => ?_)
  refine lv_iload_n hx hb dJ9_floorMod_7cf53_4 rfl (lv_at hl 1 rfl) ?_
  refine lv_iload_n hx hb dJ9_floorMod_7cf53_5 rfl (lv_at hl 2 rfl) ?_
  refine iv_ixor hx hb dJ9_floorMod_7cf53_6 ?_
  refine iv_if_ge (tgt := 18) hx hb (hIn_toInt _) dJ9_floorMod_7cf53_7 (by decide) (fun c2 => ?_) (fun c2 => ?_)
  · have h := h.2 c2
    refine lv_iload_n hx hb dJ9_floorMod_7cf53_18 rfl (lv_at hl 0 rfl) ?_
    obtain ⟨g3, h⟩ := h
    exact iv_iret E hh (by unfold v_J9_floorMod_7cf53; rw [if_neg c2]) (by rw [← show (Int.tmod x1 x2) = v_J9_floorMod_7cf53 x1 x2 from (by unfold v_J9_floorMod_7cf53; rw [if_neg c2])]; exact g3) rfl dJ9_floorMod_7cf53_19
  · have h := h.1 c2
    refine lv_iload_n hx hb dJ9_floorMod_7cf53_10 rfl (lv_at hl 0 rfl) ?_
    obtain ⟨g4, h⟩ := h
    refine iv_if_eq (tgt := 18) hx hb g4 dJ9_floorMod_7cf53_11 (by decide) (fun c5 => ?_) (fun c5 => ?_)
    · have h := h.1 c5
      refine lv_iload_n hx hb dJ9_floorMod_7cf53_18 rfl (lv_at hl 0 rfl) ?_
      exact iv_iret E hh (by unfold v_J9_floorMod_7cf53; rw [if_pos c2, if_pos c5]) (by rw [← show (Int.tmod x1 x2) = v_J9_floorMod_7cf53 x1 x2 from (by unfold v_J9_floorMod_7cf53; rw [if_pos c2, if_pos c5])]; exact g4) rfl dJ9_floorMod_7cf53_19
    · have h := h.2 c5
      refine lv_iload_n hx hb dJ9_floorMod_7cf53_14 rfl (lv_at hl 0 rfl) ?_
      refine lv_iload_n hx hb dJ9_floorMod_7cf53_15 rfl (lv_at hl 2 rfl) ?_
      refine iv_iadd hx hb dJ9_floorMod_7cf53_16 ?_
      obtain ⟨g6, h⟩ := h
      exact iv_iret E hh (by unfold v_J9_floorMod_7cf53; rw [if_pos c2, if_neg c5]) (by rw [← show ((Int.tmod x1 x2) + x2) = v_J9_floorMod_7cf53 x1 x2 from (by unfold v_J9_floorMod_7cf53; rw [if_pos c2, if_neg c5])]; exact g6) rfl dJ9_floorMod_7cf53_17
set_option maxHeartbeats 4000000 in
set_option maxRecDepth 100000 in
theorem ok_J9_abs_0f7a4 (l : Launch) (hinj : hInj ad) (S : hS) (x1 : Int) (h_x1 : hIn x1) (hp : p_J9_abs_0f7a4 x1) : hMi D ad cI cJ cF l yJ9_abs_0f7a4 cJ9_abs_0f7a4 1 (some .int) ({ frames := 0, cells := 0, slots := 0, locals := 0 } : Room) [.int (hI x1)] S (v_J9_abs_0f7a4 x1) S := by
  refine hOfF (S := S) l hinj (by decide +kernel) (Nat.le_of_ble_eq_true rfl) (fun p e s m args below meth c E => ?_)
  obtain ⟨hx, hb, hml, hown, hts, hK, hN, -, hr, hlk⟩ := id E
  have hown : s.vm.findClass RJ9 = some m.cls := hown
  intro H locs ls hh hl
  have hl : lv_has ls 1 [(0, .int (hI x1))] := hl
  have h := hp
  unfold p_J9_abs_0f7a4 at h
  refine lv_iload_n hx hb dJ9_abs_0f7a4_0 rfl (lv_at hl 0 rfl) ?_
  refine iv_if_ge (tgt := 9) hx hb h_x1 dJ9_abs_0f7a4_1 (by decide) (fun c1 => ?_) (fun c1 => ?_)
  · have h := h.2 c1
    refine lv_iload_n hx hb dJ9_abs_0f7a4_9 rfl (lv_at hl 0 rfl) ?_
    exact iv_iret E hh (by unfold v_J9_abs_0f7a4; rw [if_neg c1]) (by rw [← show x1 = v_J9_abs_0f7a4 x1 from (by unfold v_J9_abs_0f7a4; rw [if_neg c1])]; exact h_x1) rfl dJ9_abs_0f7a4_10
  · have h := h.1 c1
    refine lv_iload_n hx hb dJ9_abs_0f7a4_4 rfl (lv_at hl 0 rfl) ?_
    refine iv_ineg hx hb dJ9_abs_0f7a4_5 ?_
    refine lv_goto (tgt := 10) hx hb dJ9_abs_0f7a4_6 (by decide) ?_
    obtain ⟨g2, h⟩ := h
    exact iv_iret E hh (by unfold v_J9_abs_0f7a4; rw [if_pos c1]) (by rw [← show (-x1) = v_J9_abs_0f7a4 x1 from (by unfold v_J9_abs_0f7a4; rw [if_pos c1])]; exact g2) rfl dJ9_abs_0f7a4_10
set_option maxHeartbeats 4000000 in
set_option maxRecDepth 100000 in
theorem ok_J9_max_7cf53 (l : Launch) (hinj : hInj ad) (S : hS) (x1 : Int) (x2 : Int) (h_x1 : hIn x1) (h_x2 : hIn x2) : hMi D ad cI cJ cF l yJ9_max_7cf53 cJ9_max_7cf53 2 (some .int) ({ frames := 0, cells := 0, slots := 0, locals := 0 } : Room) [.int (hI x1), .int (hI x2)] S (v_J9_max_7cf53 x1 x2) S := by
  refine hOfF (S := S) l hinj (by decide +kernel) (Nat.le_of_ble_eq_true rfl) (fun p e s m args below meth c E => ?_)
  obtain ⟨hx, hb, hml, hown, hts, hK, hN, -, hr, hlk⟩ := id E
  have hown : s.vm.findClass RJ9 = some m.cls := hown
  intro H locs ls hh hl
  have hl : lv_has ls 2 [(0, .int (hI x1)), (1, .int (hI x2))] := hl
  refine lv_iload_n hx hb dJ9_max_7cf53_0 rfl (lv_at hl 0 rfl) ?_
  refine lv_iload_n hx hb dJ9_max_7cf53_1 rfl (lv_at hl 1 rfl) ?_
  refine iv_icmp_lt (tgt := 9) hx hb h_x1 h_x2 dJ9_max_7cf53_2 (by decide) (fun c1 => ?_) (fun c1 => ?_)
  · refine lv_iload_n hx hb dJ9_max_7cf53_9 rfl (lv_at hl 1 rfl) ?_
    exact iv_iret E hh (by unfold v_J9_max_7cf53; rw [if_pos c1]) (by rw [← show x2 = v_J9_max_7cf53 x1 x2 from (by unfold v_J9_max_7cf53; rw [if_pos c1])]; exact h_x2) rfl dJ9_max_7cf53_10
  · refine lv_iload_n hx hb dJ9_max_7cf53_5 rfl (lv_at hl 0 rfl) ?_
    refine lv_goto (tgt := 10) hx hb dJ9_max_7cf53_6 (by decide) ?_
    exact iv_iret E hh (by unfold v_J9_max_7cf53; rw [if_neg c1]) (by rw [← show x1 = v_J9_max_7cf53 x1 x2 from (by unfold v_J9_max_7cf53; rw [if_neg c1])]; exact h_x1) rfl dJ9_max_7cf53_10
set_option maxHeartbeats 4000000 in
set_option maxRecDepth 100000 in
theorem ok_J9_min_7cf53 (l : Launch) (hinj : hInj ad) (S : hS) (x1 : Int) (x2 : Int) (h_x1 : hIn x1) (h_x2 : hIn x2) : hMi D ad cI cJ cF l yJ9_min_7cf53 cJ9_min_7cf53 2 (some .int) ({ frames := 0, cells := 0, slots := 0, locals := 0 } : Room) [.int (hI x1), .int (hI x2)] S (v_J9_min_7cf53 x1 x2) S := by
  refine hOfF (S := S) l hinj (by decide +kernel) (Nat.le_of_ble_eq_true rfl) (fun p e s m args below meth c E => ?_)
  obtain ⟨hx, hb, hml, hown, hts, hK, hN, -, hr, hlk⟩ := id E
  have hown : s.vm.findClass RJ9 = some m.cls := hown
  intro H locs ls hh hl
  have hl : lv_has ls 2 [(0, .int (hI x1)), (1, .int (hI x2))] := hl
  refine lv_iload_n hx hb dJ9_min_7cf53_0 rfl (lv_at hl 0 rfl) ?_
  refine lv_iload_n hx hb dJ9_min_7cf53_1 rfl (lv_at hl 1 rfl) ?_
  refine iv_icmp_gt (tgt := 9) hx hb h_x1 h_x2 dJ9_min_7cf53_2 (by decide) (fun c1 => ?_) (fun c1 => ?_)
  · refine lv_iload_n hx hb dJ9_min_7cf53_9 rfl (lv_at hl 1 rfl) ?_
    exact iv_iret E hh (by unfold v_J9_min_7cf53; rw [if_neg c1]) (by rw [← show x2 = v_J9_min_7cf53 x1 x2 from (by unfold v_J9_min_7cf53; rw [if_neg c1])]; exact h_x2) rfl dJ9_min_7cf53_10
  · refine lv_iload_n hx hb dJ9_min_7cf53_5 rfl (lv_at hl 0 rfl) ?_
    refine lv_goto (tgt := 10) hx hb dJ9_min_7cf53_6 (by decide) ?_
    exact iv_iret E hh (by unfold v_J9_min_7cf53; rw [if_pos c1]) (by rw [← show x1 = v_J9_min_7cf53 x1 x2 from (by unfold v_J9_min_7cf53; rw [if_pos c1])]; exact h_x1) rfl dJ9_min_7cf53_10
set_option maxHeartbeats 4000000 in
set_option maxRecDepth 100000 in
theorem ok_J13_bitCount_95d88 (l : Launch) (hinj : hInj ad) (S : hS) (x1 : Int) : hMi D ad cI cJ cF l yJ13_bitCount_95d88 cJ13_bitCount_95d88 2 (some .int) ({ frames := 0, cells := 0, slots := 0, locals := 0 } : Room) [.long (hJ x1)] S (v_J13_bitCount_95d88 x1) S := by
  refine hOfF (S := S) l hinj (by decide +kernel) (Nat.le_of_ble_eq_true rfl) (fun p e s m args below meth c E => ?_)
  obtain ⟨hx, hb, hml, hown, hts, hK, hN, -, hr, hlk⟩ := id E
  have hown : s.vm.findClass RJ13 = some m.cls := hown
  intro H locs ls hh hl
  have hl : lv_has ls 2 [(0, .long (hJ x1))] := hl
  refine lv_lload_n hx hb dJ13_bitCount_95d88_0 rfl (lv_at hl 0 rfl) ?_
  refine lv_lload_n hx hb dJ13_bitCount_95d88_1 rfl (lv_at hl 0 rfl) ?_
  refine iv_iconst hx hb dJ13_bitCount_95d88_2 ?_
  refine iv_lushr hx hb dJ13_bitCount_95d88_3 ?_
  refine lv_ldc2 (v := hJ 6148914691236517205) hx hb hown (show _ from (by rw [show hJ 6148914691236517205 = (6148914691236517205 : Int64) from by decide +kernel]; exact hts _ q2_218)) dJ13_bitCount_95d88_4 ?_
  refine iv_land hx hb dJ13_bitCount_95d88_7 ?_
  refine iv_lsub hx hb dJ13_bitCount_95d88_8 ?_
  refine lv_lstore_n (lv' := [(0, .long (hJ (x1 - (jAnd (jUshr x1 1) 6148914691236517205))))]) hx hb dJ13_bitCount_95d88_9 rfl hl (by decide) rfl (fun ls hl => ?_)
  refine lv_lload_n hx hb dJ13_bitCount_95d88_10 rfl (lv_at hl 0 rfl) ?_
  refine lv_ldc2 (v := hJ 3689348814741910323) hx hb hown (show _ from (by rw [show hJ 3689348814741910323 = (3689348814741910323 : Int64) from by decide +kernel]; exact hts _ q2_219)) dJ13_bitCount_95d88_11 ?_
  refine iv_land hx hb dJ13_bitCount_95d88_14 ?_
  refine lv_lload_n hx hb dJ13_bitCount_95d88_15 rfl (lv_at hl 0 rfl) ?_
  refine iv_iconst hx hb dJ13_bitCount_95d88_16 ?_
  refine iv_lushr hx hb dJ13_bitCount_95d88_17 ?_
  refine lv_ldc2 (v := hJ 3689348814741910323) hx hb hown (show _ from (by rw [show hJ 3689348814741910323 = (3689348814741910323 : Int64) from by decide +kernel]; exact hts _ q2_219)) dJ13_bitCount_95d88_18 ?_
  refine iv_land hx hb dJ13_bitCount_95d88_21 ?_
  refine iv_ladd hx hb dJ13_bitCount_95d88_22 ?_
  refine lv_lstore_n (lv' := [(0, .long (hJ ((jAnd (x1 - (jAnd (jUshr x1 1) 6148914691236517205)) 3689348814741910323) + (jAnd (jUshr (x1 - (jAnd (jUshr x1 1) 6148914691236517205)) 2) 3689348814741910323))))]) hx hb dJ13_bitCount_95d88_23 rfl hl (by decide) rfl (fun ls hl => ?_)
  refine lv_lload_n hx hb dJ13_bitCount_95d88_24 rfl (lv_at hl 0 rfl) ?_
  refine lv_lload_n hx hb dJ13_bitCount_95d88_25 rfl (lv_at hl 0 rfl) ?_
  refine iv_iconst hx hb dJ13_bitCount_95d88_26 ?_
  refine iv_lushr hx hb dJ13_bitCount_95d88_27 ?_
  refine iv_ladd hx hb dJ13_bitCount_95d88_28 ?_
  refine lv_ldc2 (v := hJ 1085102592571150095) hx hb hown (show _ from (by rw [show hJ 1085102592571150095 = (1085102592571150095 : Int64) from by decide +kernel]; exact hts _ q2_220)) dJ13_bitCount_95d88_29 ?_
  refine iv_land hx hb dJ13_bitCount_95d88_32 ?_
  refine lv_lstore_n (lv' := [(0, .long (hJ (jAnd (((jAnd (x1 - (jAnd (jUshr x1 1) 6148914691236517205)) 3689348814741910323) + (jAnd (jUshr (x1 - (jAnd (jUshr x1 1) 6148914691236517205)) 2) 3689348814741910323)) + (jUshr ((jAnd (x1 - (jAnd (jUshr x1 1) 6148914691236517205)) 3689348814741910323) + (jAnd (jUshr (x1 - (jAnd (jUshr x1 1) 6148914691236517205)) 2) 3689348814741910323)) 4)) 1085102592571150095)))]) hx hb dJ13_bitCount_95d88_33 rfl hl (by decide) rfl (fun ls hl => ?_)
  refine lv_lload_n hx hb dJ13_bitCount_95d88_34 rfl (lv_at hl 0 rfl) ?_
  refine lv_lload_n hx hb dJ13_bitCount_95d88_35 rfl (lv_at hl 0 rfl) ?_
  refine lv_bipush (v := hI 8) hx hb dJ13_bitCount_95d88_36 (by decide) ?_
  refine iv_lushr hx hb dJ13_bitCount_95d88_38 ?_
  refine iv_ladd hx hb dJ13_bitCount_95d88_39 ?_
  refine lv_lstore_n (lv' := [(0, .long (hJ ((jAnd (((jAnd (x1 - (jAnd (jUshr x1 1) 6148914691236517205)) 3689348814741910323) + (jAnd (jUshr (x1 - (jAnd (jUshr x1 1) 6148914691236517205)) 2) 3689348814741910323)) + (jUshr ((jAnd (x1 - (jAnd (jUshr x1 1) 6148914691236517205)) 3689348814741910323) + (jAnd (jUshr (x1 - (jAnd (jUshr x1 1) 6148914691236517205)) 2) 3689348814741910323)) 4)) 1085102592571150095) + (jUshr (jAnd (((jAnd (x1 - (jAnd (jUshr x1 1) 6148914691236517205)) 3689348814741910323) + (jAnd (jUshr (x1 - (jAnd (jUshr x1 1) 6148914691236517205)) 2) 3689348814741910323)) + (jUshr ((jAnd (x1 - (jAnd (jUshr x1 1) 6148914691236517205)) 3689348814741910323) + (jAnd (jUshr (x1 - (jAnd (jUshr x1 1) 6148914691236517205)) 2) 3689348814741910323)) 4)) 1085102592571150095) 8))))]) hx hb dJ13_bitCount_95d88_40 rfl hl (by decide) rfl (fun ls hl => ?_)
  refine lv_lload_n hx hb dJ13_bitCount_95d88_41 rfl (lv_at hl 0 rfl) ?_
  refine lv_lload_n hx hb dJ13_bitCount_95d88_42 rfl (lv_at hl 0 rfl) ?_
  refine lv_bipush (v := hI 16) hx hb dJ13_bitCount_95d88_43 (by decide) ?_
  refine iv_lushr hx hb dJ13_bitCount_95d88_45 ?_
  refine iv_ladd hx hb dJ13_bitCount_95d88_46 ?_
  refine lv_lstore_n (lv' := [(0, .long (hJ (((jAnd (((jAnd (x1 - (jAnd (jUshr x1 1) 6148914691236517205)) 3689348814741910323) + (jAnd (jUshr (x1 - (jAnd (jUshr x1 1) 6148914691236517205)) 2) 3689348814741910323)) + (jUshr ((jAnd (x1 - (jAnd (jUshr x1 1) 6148914691236517205)) 3689348814741910323) + (jAnd (jUshr (x1 - (jAnd (jUshr x1 1) 6148914691236517205)) 2) 3689348814741910323)) 4)) 1085102592571150095) + (jUshr (jAnd (((jAnd (x1 - (jAnd (jUshr x1 1) 6148914691236517205)) 3689348814741910323) + (jAnd (jUshr (x1 - (jAnd (jUshr x1 1) 6148914691236517205)) 2) 3689348814741910323)) + (jUshr ((jAnd (x1 - (jAnd (jUshr x1 1) 6148914691236517205)) 3689348814741910323) + (jAnd (jUshr (x1 - (jAnd (jUshr x1 1) 6148914691236517205)) 2) 3689348814741910323)) 4)) 1085102592571150095) 8)) + (jUshr ((jAnd (((jAnd (x1 - (jAnd (jUshr x1 1) 6148914691236517205)) 3689348814741910323) + (jAnd (jUshr (x1 - (jAnd (jUshr x1 1) 6148914691236517205)) 2) 3689348814741910323)) + (jUshr ((jAnd (x1 - (jAnd (jUshr x1 1) 6148914691236517205)) 3689348814741910323) + (jAnd (jUshr (x1 - (jAnd (jUshr x1 1) 6148914691236517205)) 2) 3689348814741910323)) 4)) 1085102592571150095) + (jUshr (jAnd (((jAnd (x1 - (jAnd (jUshr x1 1) 6148914691236517205)) 3689348814741910323) + (jAnd (jUshr (x1 - (jAnd (jUshr x1 1) 6148914691236517205)) 2) 3689348814741910323)) + (jUshr ((jAnd (x1 - (jAnd (jUshr x1 1) 6148914691236517205)) 3689348814741910323) + (jAnd (jUshr (x1 - (jAnd (jUshr x1 1) 6148914691236517205)) 2) 3689348814741910323)) 4)) 1085102592571150095) 8)) 16))))]) hx hb dJ13_bitCount_95d88_47 rfl hl (by decide) rfl (fun ls hl => ?_)
  refine lv_lload_n hx hb dJ13_bitCount_95d88_48 rfl (lv_at hl 0 rfl) ?_
  refine lv_lload_n hx hb dJ13_bitCount_95d88_49 rfl (lv_at hl 0 rfl) ?_
  refine lv_bipush (v := hI 32) hx hb dJ13_bitCount_95d88_50 (by decide) ?_
  refine iv_lushr hx hb dJ13_bitCount_95d88_52 ?_
  refine iv_ladd hx hb dJ13_bitCount_95d88_53 ?_
  refine lv_lstore_n (lv' := [(0, .long (hJ ((((jAnd (((jAnd (x1 - (jAnd (jUshr x1 1) 6148914691236517205)) 3689348814741910323) + (jAnd (jUshr (x1 - (jAnd (jUshr x1 1) 6148914691236517205)) 2) 3689348814741910323)) + (jUshr ((jAnd (x1 - (jAnd (jUshr x1 1) 6148914691236517205)) 3689348814741910323) + (jAnd (jUshr (x1 - (jAnd (jUshr x1 1) 6148914691236517205)) 2) 3689348814741910323)) 4)) 1085102592571150095) + (jUshr (jAnd (((jAnd (x1 - (jAnd (jUshr x1 1) 6148914691236517205)) 3689348814741910323) + (jAnd (jUshr (x1 - (jAnd (jUshr x1 1) 6148914691236517205)) 2) 3689348814741910323)) + (jUshr ((jAnd (x1 - (jAnd (jUshr x1 1) 6148914691236517205)) 3689348814741910323) + (jAnd (jUshr (x1 - (jAnd (jUshr x1 1) 6148914691236517205)) 2) 3689348814741910323)) 4)) 1085102592571150095) 8)) + (jUshr ((jAnd (((jAnd (x1 - (jAnd (jUshr x1 1) 6148914691236517205)) 3689348814741910323) + (jAnd (jUshr (x1 - (jAnd (jUshr x1 1) 6148914691236517205)) 2) 3689348814741910323)) + (jUshr ((jAnd (x1 - (jAnd (jUshr x1 1) 6148914691236517205)) 3689348814741910323) + (jAnd (jUshr (x1 - (jAnd (jUshr x1 1) 6148914691236517205)) 2) 3689348814741910323)) 4)) 1085102592571150095) + (jUshr (jAnd (((jAnd (x1 - (jAnd (jUshr x1 1) 6148914691236517205)) 3689348814741910323) + (jAnd (jUshr (x1 - (jAnd (jUshr x1 1) 6148914691236517205)) 2) 3689348814741910323)) + (jUshr ((jAnd (x1 - (jAnd (jUshr x1 1) 6148914691236517205)) 3689348814741910323) + (jAnd (jUshr (x1 - (jAnd (jUshr x1 1) 6148914691236517205)) 2) 3689348814741910323)) 4)) 1085102592571150095) 8)) 16)) + (jUshr (((jAnd (((jAnd (x1 - (jAnd (jUshr x1 1) 6148914691236517205)) 3689348814741910323) + (jAnd (jUshr (x1 - (jAnd (jUshr x1 1) 6148914691236517205)) 2) 3689348814741910323)) + (jUshr ((jAnd (x1 - (jAnd (jUshr x1 1) 6148914691236517205)) 3689348814741910323) + (jAnd (jUshr (x1 - (jAnd (jUshr x1 1) 6148914691236517205)) 2) 3689348814741910323)) 4)) 1085102592571150095) + (jUshr (jAnd (((jAnd (x1 - (jAnd (jUshr x1 1) 6148914691236517205)) 3689348814741910323) + (jAnd (jUshr (x1 - (jAnd (jUshr x1 1) 6148914691236517205)) 2) 3689348814741910323)) + (jUshr ((jAnd (x1 - (jAnd (jUshr x1 1) 6148914691236517205)) 3689348814741910323) + (jAnd (jUshr (x1 - (jAnd (jUshr x1 1) 6148914691236517205)) 2) 3689348814741910323)) 4)) 1085102592571150095) 8)) + (jUshr ((jAnd (((jAnd (x1 - (jAnd (jUshr x1 1) 6148914691236517205)) 3689348814741910323) + (jAnd (jUshr (x1 - (jAnd (jUshr x1 1) 6148914691236517205)) 2) 3689348814741910323)) + (jUshr ((jAnd (x1 - (jAnd (jUshr x1 1) 6148914691236517205)) 3689348814741910323) + (jAnd (jUshr (x1 - (jAnd (jUshr x1 1) 6148914691236517205)) 2) 3689348814741910323)) 4)) 1085102592571150095) + (jUshr (jAnd (((jAnd (x1 - (jAnd (jUshr x1 1) 6148914691236517205)) 3689348814741910323) + (jAnd (jUshr (x1 - (jAnd (jUshr x1 1) 6148914691236517205)) 2) 3689348814741910323)) + (jUshr ((jAnd (x1 - (jAnd (jUshr x1 1) 6148914691236517205)) 3689348814741910323) + (jAnd (jUshr (x1 - (jAnd (jUshr x1 1) 6148914691236517205)) 2) 3689348814741910323)) 4)) 1085102592571150095) 8)) 16)) 32))))]) hx hb dJ13_bitCount_95d88_54 rfl hl (by decide) rfl (fun ls hl => ?_)
  refine lv_lload_n hx hb dJ13_bitCount_95d88_55 rfl (lv_at hl 0 rfl) ?_
  refine iv_l2i hx hb dJ13_bitCount_95d88_56 ?_
  refine lv_bipush (v := hI 127) hx hb dJ13_bitCount_95d88_57 (by decide) ?_
  refine iv_iand hx hb dJ13_bitCount_95d88_59 ?_
  exact iv_iret E hh rfl (by rw [← show (iAnd (jToI ((((jAnd (((jAnd (x1 - (jAnd (jUshr x1 1) 6148914691236517205)) 3689348814741910323) + (jAnd (jUshr (x1 - (jAnd (jUshr x1 1) 6148914691236517205)) 2) 3689348814741910323)) + (jUshr ((jAnd (x1 - (jAnd (jUshr x1 1) 6148914691236517205)) 3689348814741910323) + (jAnd (jUshr (x1 - (jAnd (jUshr x1 1) 6148914691236517205)) 2) 3689348814741910323)) 4)) 1085102592571150095) + (jUshr (jAnd (((jAnd (x1 - (jAnd (jUshr x1 1) 6148914691236517205)) 3689348814741910323) + (jAnd (jUshr (x1 - (jAnd (jUshr x1 1) 6148914691236517205)) 2) 3689348814741910323)) + (jUshr ((jAnd (x1 - (jAnd (jUshr x1 1) 6148914691236517205)) 3689348814741910323) + (jAnd (jUshr (x1 - (jAnd (jUshr x1 1) 6148914691236517205)) 2) 3689348814741910323)) 4)) 1085102592571150095) 8)) + (jUshr ((jAnd (((jAnd (x1 - (jAnd (jUshr x1 1) 6148914691236517205)) 3689348814741910323) + (jAnd (jUshr (x1 - (jAnd (jUshr x1 1) 6148914691236517205)) 2) 3689348814741910323)) + (jUshr ((jAnd (x1 - (jAnd (jUshr x1 1) 6148914691236517205)) 3689348814741910323) + (jAnd (jUshr (x1 - (jAnd (jUshr x1 1) 6148914691236517205)) 2) 3689348814741910323)) 4)) 1085102592571150095) + (jUshr (jAnd (((jAnd (x1 - (jAnd (jUshr x1 1) 6148914691236517205)) 3689348814741910323) + (jAnd (jUshr (x1 - (jAnd (jUshr x1 1) 6148914691236517205)) 2) 3689348814741910323)) + (jUshr ((jAnd (x1 - (jAnd (jUshr x1 1) 6148914691236517205)) 3689348814741910323) + (jAnd (jUshr (x1 - (jAnd (jUshr x1 1) 6148914691236517205)) 2) 3689348814741910323)) 4)) 1085102592571150095) 8)) 16)) + (jUshr (((jAnd (((jAnd (x1 - (jAnd (jUshr x1 1) 6148914691236517205)) 3689348814741910323) + (jAnd (jUshr (x1 - (jAnd (jUshr x1 1) 6148914691236517205)) 2) 3689348814741910323)) + (jUshr ((jAnd (x1 - (jAnd (jUshr x1 1) 6148914691236517205)) 3689348814741910323) + (jAnd (jUshr (x1 - (jAnd (jUshr x1 1) 6148914691236517205)) 2) 3689348814741910323)) 4)) 1085102592571150095) + (jUshr (jAnd (((jAnd (x1 - (jAnd (jUshr x1 1) 6148914691236517205)) 3689348814741910323) + (jAnd (jUshr (x1 - (jAnd (jUshr x1 1) 6148914691236517205)) 2) 3689348814741910323)) + (jUshr ((jAnd (x1 - (jAnd (jUshr x1 1) 6148914691236517205)) 3689348814741910323) + (jAnd (jUshr (x1 - (jAnd (jUshr x1 1) 6148914691236517205)) 2) 3689348814741910323)) 4)) 1085102592571150095) 8)) + (jUshr ((jAnd (((jAnd (x1 - (jAnd (jUshr x1 1) 6148914691236517205)) 3689348814741910323) + (jAnd (jUshr (x1 - (jAnd (jUshr x1 1) 6148914691236517205)) 2) 3689348814741910323)) + (jUshr ((jAnd (x1 - (jAnd (jUshr x1 1) 6148914691236517205)) 3689348814741910323) + (jAnd (jUshr (x1 - (jAnd (jUshr x1 1) 6148914691236517205)) 2) 3689348814741910323)) 4)) 1085102592571150095) + (jUshr (jAnd (((jAnd (x1 - (jAnd (jUshr x1 1) 6148914691236517205)) 3689348814741910323) + (jAnd (jUshr (x1 - (jAnd (jUshr x1 1) 6148914691236517205)) 2) 3689348814741910323)) + (jUshr ((jAnd (x1 - (jAnd (jUshr x1 1) 6148914691236517205)) 3689348814741910323) + (jAnd (jUshr (x1 - (jAnd (jUshr x1 1) 6148914691236517205)) 2) 3689348814741910323)) 4)) 1085102592571150095) 8)) 16)) 32))) 127) = v_J13_bitCount_95d88 x1 from rfl]; exact (hIn_toInt _)) rfl dJ13_bitCount_95d88_60
end
end
section
def v_X5_within (value : Int) (least : Int) (greatest : Int) : Int := (if value < least then 0 else (if value ≤ greatest then 1 else 0))
theorem z_X5_within (value : Int) (least : Int) (greatest : Int) : v_X5_within value least greatest = 0 ∨ v_X5_within value least greatest = 1 := by
  unfold v_X5_within
  (repeat' split) <;> first | exact Or.inl rfl | exact Or.inr rfl
def v_X5_isSize (size : Int) : Int := (v_X5_within size 6 48)
theorem z_X5_isSize (size : Int) : v_X5_isSize size = 0 ∨ v_X5_isSize size = 1 := by
  unfold v_X5_isSize
  (repeat' split) <;> first | exact Or.inl rfl | exact Or.inr rfl | exact z_X5_within _ _ _
def p_X5_inPixels (units : Int) (size : Int) : Prop := (hIn ((units * size) + 500) ∧ (p_J9_floorDiv_7cf53 ((units * size) + 500) 1000 ∧ True))
def v_X5_inPixels (units : Int) (size : Int) : Int := (v_J9_floorDiv_7cf53 ((units * size) + 500) 1000)
def v_X5_cell (A : hGM) (i : Nat) (n : Nat) (index : Int) : Int := (if index < 0 then 0 else (if index < (n : Int) then (A i index) else 0))
def m_X5_put (A : hGM) (i : Nat) (n : Nat) (index : Int) (value : Int) : hGM := (if index < 0 then A else (if index < (n : Int) then (aset A i index value) else A))
-- WANTING: X5_copyRow over (A : hGM) (B : hGM) (i1 : Nat) (n1 : Nat) (i2 : Nat) (n2 : Nat)
def p_X5_copyRow (A : hGM) (B : hGM) (i1 : Nat) (n1 : Nat) (i2 : Nat) (n2 : Nat) : Prop := True
def m_X5_copyRow (A : hGM) (B : hGM) (i1 : Nat) (n1 : Nat) (i2 : Nat) (n2 : Nat) : hGM := A
set_option maxHeartbeats 4000000 in
theorem x_X5_copyRow (A : hGM) (B : hGM) (i1 : Nat) (n1 : Nat) (i2 : Nat) (n2 : Nat) (h_n1 : n1 < 100000) (h_n2 : n2 < 100000) (hRA : ∀ (i : Nat) (k : Int), i < 100 → hIn (A i k)) (hRB : ∀ (i : Nat) (k : Int), i < 100 → hIn (B i k)) (hp : p_X5_copyRow A B i1 n1 i2 n2) (B2 : Int → hGM → Prop) (Po : hGM → Prop) 
  (r2 : ∀ (y2 : Int) (A1 : hGM), hIn y2 → ((∀ (i : Nat) (k : Int), i < 100 → hIn (A1 i k)) → ((y2 < (n2 : Int) → ((y2 < (n1 : Int) → ((0 ≤ y2 ∧ y2 < (n1 : Int)) ∧ ((0 ≤ y2 ∧ y2 < (n2 : Int)) ∧ (B2 (y2 + 1) (aset A1 i2 y2 (B i1 y2)))))) ∧ (¬ y2 < (n1 : Int) → (Po A1)))) ∧ (¬ y2 < (n2 : Int) → (Po A1)))) → (B2 y2 A1)) 
  (hpost : Po (m_X5_copyRow A B i1 n1 i2 n2)) : (B2 0 A) := by
  sorry
def v_X5_bitOf (bits : Int) (index : Int) : Int := (jToI (jAnd (jUshr bits index) 1))
def v_X5_runsOf (bits : Int) : Int := (v_J13_bitCount_95d88 (jAnd bits (jXor (jShl bits 1) (-1))))
end
section
section
variable {D : va_G} {ad : Nat → Nat → Nat} {cI cJ cF : ClassId}
set_option maxHeartbeats 4000000 in
set_option maxRecDepth 100000 in
theorem ok_X5_within (l : Launch) (hinj : hInj ad) (S : hS) (value : Int) (least : Int) (greatest : Int) (h_value : hIn value) (h_least : hIn least) (h_greatest : hIn greatest) : hMi D ad cI cJ cF l yX5_within cX5_within 3 (some .boolean) ({ frames := 0, cells := 0, slots := 0, locals := 0 } : Room) [.int (hI value), .int (hI least), .int (hI greatest)] S (v_X5_within value least greatest) S := by
  refine hOf (S := S) l hinj (by decide +kernel) (Nat.le_of_ble_eq_true rfl) (fun p e s m args below meth c E => ?_)
  obtain ⟨hx, hb, hml, hown, hts, hK, hN, -, hr, hlk⟩ := id E
  have hown : s.vm.findClass RX5 = some m.cls := hown
  intro H locs ls hh hl
  have hl : lv_has ls 3 [(0, .int (hI value)), (1, .int (hI least)), (2, .int (hI greatest))] := hl
  refine lv_iload_n hx hb dX5_within_0 rfl (lv_at hl 0 rfl) ?_
  refine lv_iload_n hx hb dX5_within_1 rfl (lv_at hl 1 rfl) ?_
  refine iv_icmp_lt (tgt := 14) hx hb h_value h_least dX5_within_2 (by decide) (fun c1 => ?_) (fun c1 => ?_)
  · refine iv_iconst hx hb dX5_within_14 ?_
    exact iv_bret E hh (by unfold v_X5_within; rw [if_pos c1]) (by rw [← show 0 = v_X5_within value least greatest from (by unfold v_X5_within; rw [if_pos c1])]; exact (Or.inl rfl)) rfl dX5_within_15
  · refine lv_iload_n hx hb dX5_within_5 rfl (lv_at hl 0 rfl) ?_
    refine lv_iload_n hx hb dX5_within_6 rfl (lv_at hl 2 rfl) ?_
    refine iv_icmp_gt (tgt := 14) hx hb h_value h_greatest dX5_within_7 (by decide) (fun c2 => ?_) (fun c2 => ?_)
    · refine iv_iconst hx hb dX5_within_14 ?_
      exact iv_bret E hh (by unfold v_X5_within; rw [if_neg c1, if_neg c2]) (by rw [← show 0 = v_X5_within value least greatest from (by unfold v_X5_within; rw [if_neg c1, if_neg c2])]; exact (Or.inl rfl)) rfl dX5_within_15
    · refine iv_iconst hx hb dX5_within_10 ?_
      refine lv_goto (tgt := 15) hx hb dX5_within_11 (by decide) ?_
      exact iv_bret E hh (by unfold v_X5_within; rw [if_neg c1, if_pos c2]) (by rw [← show 1 = v_X5_within value least greatest from (by unfold v_X5_within; rw [if_neg c1, if_pos c2])]; exact (Or.inr rfl)) rfl dX5_within_15
set_option maxHeartbeats 4000000 in
set_option maxRecDepth 100000 in
theorem ok_X5_isSize (l : Launch) (hinj : hInj ad) (S : hS) (size : Int) (h_size : hIn size) : hMi D ad cI cJ cF l yX5_isSize cX5_isSize 1 (some .boolean) ({ frames := 1, cells := 0, slots := 0, locals := 22 } : Room) [.int (hI size)] S (v_X5_isSize size) S := by
  refine hOf (S := S) l hinj (by decide +kernel) (Nat.le_of_ble_eq_true rfl) (fun p e s m args below meth c E => ?_)
  obtain ⟨hx, hb, hml, hown, hts, hK, hN, -, hr, hlk⟩ := id E
  have hown : s.vm.findClass RX5 = some m.cls := hown
  intro H locs ls hh hl
  have hl : lv_has ls 1 [(0, .int (hI size))] := hl
  refine lv_iload_n hx hb dX5_isSize_0 rfl (lv_at hl 0 rfl) ?_
  refine lv_bipush (v := hI 6) hx hb dX5_isSize_1 (by decide) ?_
  refine lv_bipush (v := hI 48) hx hb dX5_isSize_3 (by decide) ?_
  refine iv_ki (iv_rS (As := [.int (hI size), .int (hI 6), .int (hI 48)]) (rest := []) E hh (ok_X5_within l hinj S size 6 48 h_size ⟨by decide, by decide⟩ ⟨by decide, by decide⟩) cb_X5_within q2_114 rfl rfl ⟨Nat.le_of_ble_eq_true rfl, Nat.le_of_ble_eq_true rfl⟩ rfl hl.1 rfl (Nat.le_of_ble_eq_true rfl) dX5_isSize_5 ⟨Nat.zero_le _, Nat.zero_le _⟩) hh (fun hc1 H locs hh => ?_)
  exact iv_bret E hh rfl (by rw [← show (v_X5_within size 6 48) = v_X5_isSize size from rfl]; exact (z_X5_within size 6 48)) rfl dX5_isSize_8
set_option maxHeartbeats 4000000 in
set_option maxRecDepth 100000 in
theorem ok_X5_inPixels (l : Launch) (hinj : hInj ad) (S : hS) (units : Int) (size : Int) (h_units : hIn units) (h_size : hIn size) (hp : p_X5_inPixels units size) : hMi D ad cI cJ cF l yX5_inPixels cX5_inPixels 2 (some .int) ({ frames := 1, cells := 0, slots := 0, locals := 22 } : Room) [.int (hI units), .int (hI size)] S (v_X5_inPixels units size) S := by
  refine hOf (S := S) l hinj (by decide +kernel) (Nat.le_of_ble_eq_true rfl) (fun p e s m args below meth c E => ?_)
  obtain ⟨hx, hb, hml, hown, hts, hK, hN, -, hr, hlk⟩ := id E
  have hown : s.vm.findClass RX5 = some m.cls := hown
  intro H locs ls hh hl
  have hl : lv_has ls 2 [(0, .int (hI units)), (1, .int (hI size))] := hl
  have h := hp
  unfold p_X5_inPixels at h
  refine lv_iload_n hx hb dX5_inPixels_0 rfl (lv_at hl 0 rfl) ?_
  refine lv_iload_n hx hb dX5_inPixels_1 rfl (lv_at hl 1 rfl) ?_
  refine iv_imul hx hb dX5_inPixels_2 ?_
  refine lv_sipush (v := hI 500) hx hb dX5_inPixels_3 (by decide) ?_
  refine iv_iadd hx hb dX5_inPixels_6 ?_
  refine lv_sipush (v := hI 1000) hx hb dX5_inPixels_7 (by decide) ?_
  obtain ⟨g1, h⟩ := h
  obtain ⟨g2, h⟩ := h
  refine iv_ki (iv_rS (As := [.int (hI ((units * size) + 500)), .int (hI 1000)]) (rest := []) E hh (ok_J9_floorDiv_7cf53 l hinj S ((units * size) + 500) 1000 g1 ⟨by decide, by decide⟩ g2) cb_J9_floorDiv_7cf53 q2_144 rfl rfl ⟨Nat.le_of_ble_eq_true rfl, Nat.le_of_ble_eq_true rfl⟩ rfl hl.1 rfl (Nat.le_of_ble_eq_true rfl) dX5_inPixels_10 ⟨Nat.zero_le _, Nat.zero_le _⟩) hh (fun hc3 H locs hh => ?_)
  exact iv_iret E hh rfl (by rw [← show (v_J9_floorDiv_7cf53 ((units * size) + 500) 1000) = v_X5_inPixels units size from rfl]; exact hc3) rfl dX5_inPixels_13
set_option maxHeartbeats 4000000 in
set_option maxRecDepth 100000 in
theorem ok_X5_cell (l : Launch) (hinj : hInj ad) (S : hS) {g i n q : Nat} (hia : hIA ad cI cJ cF g i n q) (A : hGM) (hA : S g = A) (index : Int) (h_index : hIn index) : hMi D ad cI cJ cF l yX5_cell cX5_cell 2 (some .int) ({ frames := 0, cells := 0, slots := 0, locals := 0 } : Room) [.ref (ad g i), .int (hI index)] S (v_X5_cell A i n index) S := by
  refine hOf (S := S) l hinj (by decide +kernel) (Nat.le_of_ble_eq_true rfl) (fun p e s m args below meth c E => ?_)
  obtain ⟨hx, hb, hml, hown, hts, hK, hN, -, hr, hlk⟩ := id E
  have hown : s.vm.findClass RX5 = some m.cls := hown
  intro H locs ls hh hl
  have hl : lv_has ls 2 [(0, .ref (ad g i)), (1, .int (hI index))] := hl
  refine lv_iload_n hx hb dX5_cell_0 rfl (lv_at hl 1 rfl) ?_
  refine iv_if_lt (tgt := 16) hx hb h_index dX5_cell_1 (by decide) (fun c1 => ?_) (fun c1 => ?_)
  · refine iv_iconst hx hb dX5_cell_16 ?_
    exact iv_iret E hh (by unfold v_X5_cell; rw [if_pos c1]) (by rw [← show 0 = v_X5_cell A i n index from (by unfold v_X5_cell; rw [if_pos c1])]; exact ⟨by decide, by decide⟩) rfl dX5_cell_17
  · refine lv_iload_n hx hb dX5_cell_4 rfl (lv_at hl 1 rfl) ?_
    refine lv_aload_n hx hb dX5_cell_5 rfl (lv_at hl 0 rfl) ?_
    refine iv_alen hx hb hK hh.1 hia dX5_cell_6 ?_
    refine iv_icmp_ge (tgt := 16) hx hb h_index (hIA_n hia) dX5_cell_7 (by decide) (fun c2 => ?_) (fun c2 => ?_)
    · refine iv_iconst hx hb dX5_cell_16 ?_
      exact iv_iret E hh (by unfold v_X5_cell; rw [if_neg c1, if_neg c2]) (by rw [← show 0 = v_X5_cell A i n index from (by unfold v_X5_cell; rw [if_neg c1, if_neg c2])]; exact ⟨by decide, by decide⟩) rfl dX5_cell_17
    · refine lv_aload_n hx hb dX5_cell_10 rfl (lv_at hl 0 rfl) ?_
      refine lv_iload_n hx hb dX5_cell_11 rfl (lv_at hl 1 rfl) ?_
      refine iv_iald hx hb hK hh.1 hia ⟨Int.not_lt.mp c1, c2⟩ (v := (A i index)) (congrArg (fun z => z i index) hA) dX5_cell_12 ?_
      have hm3 : hIn (A i index) := hIn_rd hh.2.1 hA (hIA_i hia)
      refine lv_goto (tgt := 17) hx hb dX5_cell_13 (by decide) ?_
      exact iv_iret E hh (by unfold v_X5_cell; rw [if_neg c1, if_pos c2]) (by rw [← show (A i index) = v_X5_cell A i n index from (by unfold v_X5_cell; rw [if_neg c1, if_pos c2])]; exact hm3) rfl dX5_cell_17
set_option maxHeartbeats 4000000 in
set_option maxRecDepth 100000 in
theorem ok_X5_put (l : Launch) (hinj : hInj ad) (S : hS) {g i n q : Nat} (hia : hIA ad cI cJ cF g i n q) (A : hGM) (hA : S g = A) (index : Int) (value : Int) (h_index : hIn index) (h_value : hIn value) : hMv D ad cI cJ cF l yX5_put cX5_put 3 ({ frames := 0, cells := 0, slots := 0, locals := 0 } : Room) [.ref (ad g i), .int (hI index), .int (hI value)] S (gset S g (m_X5_put A i n index value)) := by
  refine hOf (S := S) l hinj (by decide +kernel) (Nat.le_of_ble_eq_true rfl) (fun p e s m args below meth c E => ?_)
  obtain ⟨hx, hb, hml, hown, hts, hK, hN, -, hr, hlk⟩ := id E
  have hown : s.vm.findClass RX5 = some m.cls := hown
  intro H locs ls hh hl
  have hl : lv_has ls 3 [(0, .ref (ad g i)), (1, .int (hI index)), (2, .int (hI value))] := hl
  replace hh : hH D ad cI cJ cF (gset S g A) s H locs := by rw [← can1 hA]; exact hh
  refine lv_iload_n hx hb dX5_put_0 rfl (lv_at hl 1 rfl) ?_
  refine iv_if_lt (tgt := 14) hx hb h_index dX5_put_1 (by decide) (fun c1 => ?_) (fun c1 => ?_)
  · exact iv_vret E hh (by unfold m_X5_put; rw [if_pos c1]) dX5_put_14
  · refine lv_iload_n hx hb dX5_put_4 rfl (lv_at hl 1 rfl) ?_
    refine lv_aload_n hx hb dX5_put_5 rfl (lv_at hl 0 rfl) ?_
    refine iv_alen hx hb hK hh.1 hia dX5_put_6 ?_
    refine iv_icmp_ge (tgt := 14) hx hb h_index (hIA_n hia) dX5_put_7 (by decide) (fun c2 => ?_) (fun c2 => ?_)
    · exact iv_vret E hh (by unfold m_X5_put; rw [if_neg c1, if_neg c2]) dX5_put_14
    · refine lv_aload_n hx hb dX5_put_10 rfl (lv_at hl 0 rfl) ?_
      refine lv_iload_n hx hb dX5_put_11 rfl (lv_at hl 1 rfl) ?_
      refine lv_iload_n hx hb dX5_put_12 rfl (lv_at hl 2 rfl) ?_
      refine iv_iast (S' := (gset S g (aset A i index value))) hx hb hK hinj hh hia ⟨Int.not_lt.mp c1, c2⟩ h_value (by rw [show (gset S g A) g = A from (gset_at _ _ _)]; exact (gset_gset _ _ _ _)) dX5_put_13 (fun H locs hh => ?_)
      exact iv_vret E hh (by unfold m_X5_put; rw [if_neg c1, if_pos c2]) dX5_put_14
set_option maxHeartbeats 4000000 in
set_option maxRecDepth 100000 in
theorem ok_X5_copyRow (l : Launch) (hinj : hInj ad) (S : hS) {g1 i1 n1 q1 : Nat} (hia1 : hIA ad cI cJ cF g1 i1 n1 q1) {g2 i2 n2 q2 : Nat} (hia2 : hIA ad cI cJ cF g2 i2 n2 q2) (hne : g2 ≠ g1) (A : hGM) (hA : S g2 = A) (B : hGM) (hB : S g1 = B) (hp : p_X5_copyRow A B i1 n1 i2 n2) : hMv D ad cI cJ cF l yX5_copyRow cX5_copyRow 3 ({ frames := 0, cells := 0, slots := 0, locals := 0 } : Room) [.ref (ad g1 i1), .ref (ad g2 i2)] S (gset S g2 (m_X5_copyRow A B i1 n1 i2 n2)) := by
  refine hOf (S := S) l hinj (by decide +kernel) (Nat.le_of_ble_eq_true rfl) (fun p e s m args below meth c E => ?_)
  obtain ⟨hx, hb, hml, hown, hts, hK, hN, -, hr, hlk⟩ := id E
  have hown : s.vm.findClass RX5 = some m.cls := hown
  have r2 : ∀ (y2 : Int) (A1 : hGM), hIn y2 → ((∀ (i : Nat) (k : Int), i < 100 → hIn (A1 i k)) → ((y2 < (n2 : Int) → ((y2 < (n1 : Int) → ((0 ≤ y2 ∧ y2 < (n1 : Int)) ∧ ((0 ≤ y2 ∧ y2 < (n2 : Int)) ∧ (hAt D ad cI cJ cF p l e ({ frames := 0, cells := 0, slots := 0, locals := 0 } : Room) s m args below meth c (MQ below (hQv D ad cI cJ cF (gset S g2 (m_X5_copyRow A B i1 n1 i2 n2))) args s 0 0 (hAd ad)) 3 2 [(0, .ref (ad g1 i1)), (1, .ref (ad g2 i2)), (2, .int (hI (y2 + 1)))] (gset S g2 (aset A1 i2 y2 (B i1 y2))))))) ∧ (¬ y2 < (n1 : Int) → (A1 = m_X5_copyRow A B i1 n1 i2 n2)))) ∧ (¬ y2 < (n2 : Int) → (A1 = m_X5_copyRow A B i1 n1 i2 n2)))) → (hAt D ad cI cJ cF p l e ({ frames := 0, cells := 0, slots := 0, locals := 0 } : Room) s m args below meth c (MQ below (hQv D ad cI cJ cF (gset S g2 (m_X5_copyRow A B i1 n1 i2 n2))) args s 0 0 (hAd ad)) 3 2 [(0, .ref (ad g1 i1)), (1, .ref (ad g2 i2)), (2, .int (hI y2))] (gset S g2 A1)) := by
    intro y2 A1 h_y2 h H locs ls hh hl
    have h := h (fun i k hi => hIn_rd hh.2.1 (gset_at _ _ _) hi)
    refine lv_iload_n hx hb dX5_copyRow_2 rfl (lv_at hl 2 rfl) ?_
    refine lv_aload_n hx hb dX5_copyRow_3 rfl (lv_at hl 1 rfl) ?_
    refine iv_alen hx hb hK hh.1 hia2 dX5_copyRow_4 ?_
    refine iv_icmp_ge (tgt := 26) hx hb h_y2 (hIA_n hia2) dX5_copyRow_5 (by decide) (fun c1 => ?_) (fun c1 => ?_)
    · have h := h.2 c1
      exact iv_vret E hh (by rw [h]) dX5_copyRow_26
    · have h := h.1 c1
      refine lv_iload_n hx hb dX5_copyRow_8 rfl (lv_at hl 2 rfl) ?_
      refine lv_aload_n hx hb dX5_copyRow_9 rfl (lv_at hl 0 rfl) ?_
      refine iv_alen hx hb hK hh.1 hia1 dX5_copyRow_10 ?_
      refine iv_icmp_ge (tgt := 26) hx hb h_y2 (hIA_n hia1) dX5_copyRow_11 (by decide) (fun c2 => ?_) (fun c2 => ?_)
      · have h := h.2 c2
        exact iv_vret E hh (by rw [h]) dX5_copyRow_26
      · have h := h.1 c2
        refine lv_aload_n hx hb dX5_copyRow_14 rfl (lv_at hl 1 rfl) ?_
        refine lv_iload_n hx hb dX5_copyRow_15 rfl (lv_at hl 2 rfl) ?_
        refine lv_aload_n hx hb dX5_copyRow_16 rfl (lv_at hl 0 rfl) ?_
        refine lv_iload_n hx hb dX5_copyRow_17 rfl (lv_at hl 2 rfl) ?_
        obtain ⟨g3, h⟩ := h
        refine iv_iald hx hb hK hh.1 hia1 g3 (v := (B i1 y2)) (congrArg (fun z => z i1 y2) ((gset_ne (Ne.symm hne)).trans hB)) dX5_copyRow_18 ?_
        have hm4 : hIn (B i1 y2) := hIn_rd hh.2.1 ((gset_ne (Ne.symm hne)).trans hB) (hIA_i hia1)
        obtain ⟨g5, h⟩ := h
        refine iv_iast (S' := (gset S g2 (aset A1 i2 y2 (B i1 y2)))) hx hb hK hinj hh hia2 g5 hm4 (by rw [show (gset S g2 A1) g2 = A1 from (gset_at _ _ _)]; exact (gset_gset _ _ _ _)) dX5_copyRow_19 (fun H locs hh => ?_)
        refine iv_iinc (lv' := [(2, .int (hI (y2 + 1))), (0, .ref (ad g1 i1)), (1, .ref (ad g2 i2))]) hx hb dX5_copyRow_20 hl (k := 2) rfl (v := (y2 + 1)) rfl (by decide) rfl (fun ls hl => ?_)
        refine lv_goto (tgt := 2) hx hb dX5_copyRow_23 (by decide) ?_
        exact h H _ ls hh (lv_sub hl [1, 2, 0] rfl)
  intro H locs ls hh hl
  have hl : lv_has ls 3 [(0, .ref (ad g1 i1)), (1, .ref (ad g2 i2))] := hl
  replace hh : hH D ad cI cJ cF (gset S g2 A) s H locs := by rw [← can1 hA]; exact hh
  have h := x_X5_copyRow A B i1 n1 i2 n2 (hIA_lt hia1) (hIA_lt hia2) (fun i k hi => hIn_rd hh.2.1 (gset_at _ _ _) hi) (fun i k hi => hIn_rd hh.2.1 ((gset_ne (Ne.symm hne)).trans hB) hi) hp (fun y2 A1 => (hAt D ad cI cJ cF p l e ({ frames := 0, cells := 0, slots := 0, locals := 0 } : Room) s m args below meth c (MQ below (hQv D ad cI cJ cF (gset S g2 (m_X5_copyRow A B i1 n1 i2 n2))) args s 0 0 (hAd ad)) 3 2 [(0, .ref (ad g1 i1)), (1, .ref (ad g2 i2)), (2, .int (hI y2))] (gset S g2 A1))) (fun A1 => (A1 = m_X5_copyRow A B i1 n1 i2 n2)) r2 rfl
  refine iv_iconst hx hb dX5_copyRow_0 ?_
  refine lv_istore_n (lv' := [(2, .int (hI 0)), (0, .ref (ad g1 i1)), (1, .ref (ad g2 i2))]) hx hb dX5_copyRow_1 rfl hl (by decide) rfl (fun ls hl => ?_)
  exact h H _ ls hh (lv_sub hl [1, 2, 0] rfl)
set_option maxHeartbeats 4000000 in
set_option maxRecDepth 100000 in
theorem ok_X5_bitOf (l : Launch) (hinj : hInj ad) (S : hS) (bits : Int) (index : Int) (h_index : hIn index) : hMi D ad cI cJ cF l yX5_bitOf cX5_bitOf 3 (some .int) ({ frames := 0, cells := 0, slots := 0, locals := 0 } : Room) [.long (hJ bits), .int (hI index)] S (v_X5_bitOf bits index) S := by
  refine hOf (S := S) l hinj (by decide +kernel) (Nat.le_of_ble_eq_true rfl) (fun p e s m args below meth c E => ?_)
  obtain ⟨hx, hb, hml, hown, hts, hK, hN, -, hr, hlk⟩ := id E
  have hown : s.vm.findClass RX5 = some m.cls := hown
  intro H locs ls hh hl
  have hl : lv_has ls 3 [(0, .long (hJ bits)), (2, .int (hI index))] := hl
  refine lv_lload_n hx hb dX5_bitOf_0 rfl (lv_at hl 0 rfl) ?_
  refine lv_iload_n hx hb dX5_bitOf_1 rfl (lv_at hl 1 rfl) ?_
  refine iv_lushr hx hb dX5_bitOf_2 ?_
  refine lv_lconst (v := hJ 1) hx hb dX5_bitOf_3 (by decide) ?_
  refine iv_land hx hb dX5_bitOf_4 ?_
  refine iv_l2i hx hb dX5_bitOf_5 ?_
  exact iv_iret E hh rfl (by rw [← show (jToI (jAnd (jUshr bits index) 1)) = v_X5_bitOf bits index from rfl]; exact (hIn_toInt _)) rfl dX5_bitOf_6
set_option maxHeartbeats 4000000 in
set_option maxRecDepth 100000 in
theorem ok_X5_runsOf (l : Launch) (hinj : hInj ad) (S : hS) (bits : Int) : hMi D ad cI cJ cF l yX5_runsOf cX5_runsOf 2 (some .int) ({ frames := 1, cells := 0, slots := 0, locals := 21 } : Room) [.long (hJ bits)] S (v_X5_runsOf bits) S := by
  refine hOf (S := S) l hinj (by decide +kernel) (Nat.le_of_ble_eq_true rfl) (fun p e s m args below meth c E => ?_)
  obtain ⟨hx, hb, hml, hown, hts, hK, hN, -, hr, hlk⟩ := id E
  have hown : s.vm.findClass RX5 = some m.cls := hown
  intro H locs ls hh hl
  have hl : lv_has ls 2 [(0, .long (hJ bits))] := hl
  refine lv_lload_n hx hb dX5_runsOf_0 rfl (lv_at hl 0 rfl) ?_
  refine lv_lload_n hx hb dX5_runsOf_1 rfl (lv_at hl 0 rfl) ?_
  refine iv_iconst hx hb dX5_runsOf_2 ?_
  refine iv_lshl hx hb dX5_runsOf_3 ?_
  refine lv_ldc2 (v := hJ (-1)) hx hb hown (show _ from (by rw [show hJ (-1) = (-1 : Int64) from by decide +kernel]; exact hts _ q2_228)) dX5_runsOf_4 ?_
  refine iv_lxor hx hb dX5_runsOf_7 ?_
  refine iv_land hx hb dX5_runsOf_8 ?_
  refine iv_ki (iv_rS (As := [.long (hJ (jAnd bits (jXor (jShl bits 1) (-1))))]) (rest := []) E hh (ok_J13_bitCount_95d88 l hinj S (jAnd bits (jXor (jShl bits 1) (-1)))) cb_J13_bitCount_95d88 q2_215 rfl rfl ⟨Nat.le_of_ble_eq_true rfl, Nat.le_of_ble_eq_true rfl⟩ rfl hl.1 rfl (Nat.le_of_ble_eq_true rfl) dX5_runsOf_9 ⟨Nat.zero_le _, Nat.zero_le _⟩) hh (fun hc1 H locs hh => ?_)
  exact iv_iret E hh rfl (by rw [← show (v_J13_bitCount_95d88 (jAnd bits (jXor (jShl bits 1) (-1)))) = v_X5_runsOf bits from rfl]; exact hc1) rfl dX5_runsOf_12
end
end
