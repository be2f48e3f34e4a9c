section
-- ===== PART A: goes FIRST, ahead of the names: the tables' words, and 'selects' of the private methods out of them =====
/-- a private method of a class that the tables say can be made, by its rows of tables_1 -/
def lw_okq (q : MethodName × Nat) : Prop := (q.1.cls ≠ "java/lang/invoke/MethodHandle" ∧ q.1.cls ≠ "java/lang/invoke/VarHandle") ∧ Cond.instantiable q.1.cls q.2 ∈ tables_1 ∧ Cond.privateMethod q.1 ∈ tables_1 ∧ Cond.instanceMethod q.1 ∈ tables_1
theorem lw_p0 : lw_okq (⟨"StrikeOut", "forgetSolved", "()V"⟩, 17) := ⟨⟨by decide +kernel, by decide +kernel⟩, List.mem_of_getElem? (i := 24) (by decide +kernel), List.mem_of_getElem? (i := 377) (by decide +kernel), List.mem_of_getElem? (i := 378) (by decide +kernel)⟩
theorem lw_p1 : lw_okq (⟨"StrikeOut$LawReader", "readClause", "(I)Z"⟩, 5) := ⟨⟨by decide +kernel, by decide +kernel⟩, List.mem_of_getElem? (i := 149) (by decide +kernel), List.mem_of_getElem? (i := 400) (by decide +kernel), List.mem_of_getElem? (i := 401) (by decide +kernel)⟩
theorem lw_p2 : lw_okq (⟨"StrikeOut$LawReader", "peek", "()I"⟩, 5) := ⟨⟨by decide +kernel, by decide +kernel⟩, List.mem_of_getElem? (i := 149) (by decide +kernel), List.mem_of_getElem? (i := 404) (by decide +kernel), List.mem_of_getElem? (i := 405) (by decide +kernel)⟩
theorem lw_p3 : lw_okq (⟨"StrikeOut$LawReader", "fail", "(I)Z"⟩, 5) := ⟨⟨by decide +kernel, by decide +kernel⟩, List.mem_of_getElem? (i := 149) (by decide +kernel), List.mem_of_getElem? (i := 408) (by decide +kernel), List.mem_of_getElem? (i := 409) (by decide +kernel)⟩
theorem lw_p4 : lw_okq (⟨"StrikeOut$LawReader", "readSum", "(I)Z"⟩, 5) := ⟨⟨by decide +kernel, by decide +kernel⟩, List.mem_of_getElem? (i := 149) (by decide +kernel), List.mem_of_getElem? (i := 416) (by decide +kernel), List.mem_of_getElem? (i := 417) (by decide +kernel)⟩
theorem lw_p5 : lw_okq (⟨"StrikeOut$LawReader", "readTerm", "(I)Z"⟩, 5) := ⟨⟨by decide +kernel, by decide +kernel⟩, List.mem_of_getElem? (i := 149) (by decide +kernel), List.mem_of_getElem? (i := 420) (by decide +kernel), List.mem_of_getElem? (i := 421) (by decide +kernel)⟩
theorem lw_p6 : lw_okq (⟨"StrikeOut$LawReader", "readFactor", "(I)Z"⟩, 5) := ⟨⟨by decide +kernel, by decide +kernel⟩, List.mem_of_getElem? (i := 149) (by decide +kernel), List.mem_of_getElem? (i := 424) (by decide +kernel), List.mem_of_getElem? (i := 425) (by decide +kernel)⟩
theorem lw_p7 : lw_okq (⟨"StrikeOut$LawReader", "open", "(I)Z"⟩, 5) := ⟨⟨by decide +kernel, by decide +kernel⟩, List.mem_of_getElem? (i := 149) (by decide +kernel), List.mem_of_getElem? (i := 428) (by decide +kernel), List.mem_of_getElem? (i := 429) (by decide +kernel)⟩
theorem lw_p8 : lw_okq (⟨"StrikeOut$LawReader", "pass", "(I)Z"⟩, 5) := ⟨⟨by decide +kernel, by decide +kernel⟩, List.mem_of_getElem? (i := 149) (by decide +kernel), List.mem_of_getElem? (i := 432) (by decide +kernel), List.mem_of_getElem? (i := 433) (by decide +kernel)⟩
theorem lw_p9 : lw_okq (⟨"StrikeOut$LawReader", "digitAhead", "()Z"⟩, 5) := ⟨⟨by decide +kernel, by decide +kernel⟩, List.mem_of_getElem? (i := 149) (by decide +kernel), List.mem_of_getElem? (i := 436) (by decide +kernel), List.mem_of_getElem? (i := 437) (by decide +kernel)⟩
theorem lw_p10 : lw_okq (⟨"StrikeOut$LawReader", "readNumber", "()Z"⟩, 5) := ⟨⟨by decide +kernel, by decide +kernel⟩, List.mem_of_getElem? (i := 149) (by decide +kernel), List.mem_of_getElem? (i := 440) (by decide +kernel), List.mem_of_getElem? (i := 441) (by decide +kernel)⟩
theorem lw_p11 : lw_okq (⟨"StrikeOut$LawReader", "timesAhead", "()Z"⟩, 5) := ⟨⟨by decide +kernel, by decide +kernel⟩, List.mem_of_getElem? (i := 149) (by decide +kernel), List.mem_of_getElem? (i := 531) (by decide +kernel), List.mem_of_getElem? (i := 532) (by decide +kernel)⟩
theorem lw_p12 : lw_okq (⟨"StrikeOut$LawReader", "readCondition", "(I)Z"⟩, 5) := ⟨⟨by decide +kernel, by decide +kernel⟩, List.mem_of_getElem? (i := 149) (by decide +kernel), List.mem_of_getElem? (i := 539) (by decide +kernel), List.mem_of_getElem? (i := 540) (by decide +kernel)⟩
theorem lw_p13 : lw_okq (⟨"StrikeOut$LawReader", "readPart", "(I)Z"⟩, 5) := ⟨⟨by decide +kernel, by decide +kernel⟩, List.mem_of_getElem? (i := 149) (by decide +kernel), List.mem_of_getElem? (i := 547) (by decide +kernel), List.mem_of_getElem? (i := 548) (by decide +kernel)⟩
theorem lw_p14 : lw_okq (⟨"StrikeOut$LawReader", "readPiece", "(I)Z"⟩, 5) := ⟨⟨by decide +kernel, by decide +kernel⟩, List.mem_of_getElem? (i := 149) (by decide +kernel), List.mem_of_getElem? (i := 551) (by decide +kernel), List.mem_of_getElem? (i := 552) (by decide +kernel)⟩
theorem lw_p15 : lw_okq (⟨"StrikeOut", "isPlace", "(II)Z"⟩, 17) := ⟨⟨by decide +kernel, by decide +kernel⟩, List.mem_of_getElem? (i := 24) (by decide +kernel), List.mem_of_getElem? (i := 573) (by decide +kernel), List.mem_of_getElem? (i := 574) (by decide +kernel)⟩
def lw_privs_1 : List (MethodName × Nat) := [(⟨"StrikeOut", "forgetSolved", "()V"⟩, 17), (⟨"StrikeOut$LawReader", "readClause", "(I)Z"⟩, 5), (⟨"StrikeOut$LawReader", "peek", "()I"⟩, 5), (⟨"StrikeOut$LawReader", "fail", "(I)Z"⟩, 5), (⟨"StrikeOut$LawReader", "readSum", "(I)Z"⟩, 5), (⟨"StrikeOut$LawReader", "readTerm", "(I)Z"⟩, 5), (⟨"StrikeOut$LawReader", "readFactor", "(I)Z"⟩, 5), (⟨"StrikeOut$LawReader", "open", "(I)Z"⟩, 5), (⟨"StrikeOut$LawReader", "pass", "(I)Z"⟩, 5), (⟨"StrikeOut$LawReader", "digitAhead", "()Z"⟩, 5), (⟨"StrikeOut$LawReader", "readNumber", "()Z"⟩, 5), (⟨"StrikeOut$LawReader", "timesAhead", "()Z"⟩, 5), (⟨"StrikeOut$LawReader", "readCondition", "(I)Z"⟩, 5), (⟨"StrikeOut$LawReader", "readPart", "(I)Z"⟩, 5), (⟨"StrikeOut$LawReader", "readPiece", "(I)Z"⟩, 5), (⟨"StrikeOut", "isPlace", "(II)Z"⟩, 17)]
theorem lw_r1 : ∀ q ∈ lw_privs_1, lw_okq q := List.forall_mem_cons.mpr ⟨lw_p0, List.forall_mem_cons.mpr ⟨lw_p1, List.forall_mem_cons.mpr ⟨lw_p2, List.forall_mem_cons.mpr ⟨lw_p3, List.forall_mem_cons.mpr ⟨lw_p4, List.forall_mem_cons.mpr ⟨lw_p5, List.forall_mem_cons.mpr ⟨lw_p6, List.forall_mem_cons.mpr ⟨lw_p7, List.forall_mem_cons.mpr ⟨lw_p8, List.forall_mem_cons.mpr ⟨lw_p9, List.forall_mem_cons.mpr ⟨lw_p10, List.forall_mem_cons.mpr ⟨lw_p11, List.forall_mem_cons.mpr ⟨lw_p12, List.forall_mem_cons.mpr ⟨lw_p13, List.forall_mem_cons.mpr ⟨lw_p14, List.forall_mem_cons.mpr ⟨lw_p15, fun _ h => absurd h List.not_mem_nil⟩⟩⟩⟩⟩⟩⟩⟩⟩⟩⟩⟩⟩⟩⟩⟩
theorem lw_p16 : lw_okq (⟨"StrikeOut", "isBlank", "(I)Z"⟩, 17) := ⟨⟨by decide +kernel, by decide +kernel⟩, List.mem_of_getElem? (i := 24) (by decide +kernel), List.mem_of_getElem? (i := 577) (by decide +kernel), List.mem_of_getElem? (i := 578) (by decide +kernel)⟩
theorem lw_p17 : lw_okq (⟨"StrikeOut", "askLaw", "(IIII)V"⟩, 17) := ⟨⟨by decide +kernel, by decide +kernel⟩, List.mem_of_getElem? (i := 24) (by decide +kernel), List.mem_of_getElem? (i := 596) (by decide +kernel), List.mem_of_getElem? (i := 597) (by decide +kernel)⟩
theorem lw_p18 : lw_okq (⟨"StrikeOut$Law", "holds", "(I)Z"⟩, 12) := ⟨⟨by decide +kernel, by decide +kernel⟩, List.mem_of_getElem? (i := 104) (by decide +kernel), List.mem_of_getElem? (i := 618) (by decide +kernel), List.mem_of_getElem? (i := 619) (by decide +kernel)⟩
theorem lw_p19 : lw_okq (⟨"StrikeOut$Law", "reckon", "(II)I"⟩, 12) := ⟨⟨by decide +kernel, by decide +kernel⟩, List.mem_of_getElem? (i := 104) (by decide +kernel), List.mem_of_getElem? (i := 622) (by decide +kernel), List.mem_of_getElem? (i := 623) (by decide +kernel)⟩
theorem lw_p20 : lw_okq (⟨"StrikeOut$Law", "pop", "()I"⟩, 12) := ⟨⟨by decide +kernel, by decide +kernel⟩, List.mem_of_getElem? (i := 104) (by decide +kernel), List.mem_of_getElem? (i := 626) (by decide +kernel), List.mem_of_getElem? (i := 627) (by decide +kernel)⟩
theorem lw_p21 : lw_okq (⟨"StrikeOut$Law", "push", "(I)V"⟩, 12) := ⟨⟨by decide +kernel, by decide +kernel⟩, List.mem_of_getElem? (i := 104) (by decide +kernel), List.mem_of_getElem? (i := 630) (by decide +kernel), List.mem_of_getElem? (i := 631) (by decide +kernel)⟩
theorem lw_p22 : lw_okq (⟨"StrikeOut$Law", "takeStep", "(II)V"⟩, 12) := ⟨⟨by decide +kernel, by decide +kernel⟩, List.mem_of_getElem? (i := 104) (by decide +kernel), List.mem_of_getElem? (i := 634) (by decide +kernel), List.mem_of_getElem? (i := 635) (by decide +kernel)⟩
theorem lw_p23 : lw_okq (⟨"StrikeOut", "writeStroke", "(IIII)I"⟩, 17) := ⟨⟨by decide +kernel, by decide +kernel⟩, List.mem_of_getElem? (i := 24) (by decide +kernel), List.mem_of_getElem? (i := 654) (by decide +kernel), List.mem_of_getElem? (i := 655) (by decide +kernel)⟩
theorem lw_p24 : lw_okq (⟨"StrikeOut$Book", "moveUp", "([III)V"⟩, 7) := ⟨⟨by decide +kernel, by decide +kernel⟩, List.mem_of_getElem? (i := 173) (by decide +kernel), List.mem_of_getElem? (i := 687) (by decide +kernel), List.mem_of_getElem? (i := 688) (by decide +kernel)⟩
theorem lw_p25 : lw_okq (⟨"StrikeOut", "isDeed", "(I)Z"⟩, 17) := ⟨⟨by decide +kernel, by decide +kernel⟩, List.mem_of_getElem? (i := 24) (by decide +kernel), List.mem_of_getElem? (i := 705) (by decide +kernel), List.mem_of_getElem? (i := 706) (by decide +kernel)⟩
theorem lw_p26 : lw_okq (⟨"StrikeOut$Fits", "manyTo", "(II)J"⟩, 2) := ⟨⟨by decide +kernel, by decide +kernel⟩, List.mem_of_getElem? (i := 203) (by decide +kernel), List.mem_of_getElem? (i := 717) (by decide +kernel), List.mem_of_getElem? (i := 718) (by decide +kernel)⟩
theorem lw_p27 : lw_okq (⟨"StrikeOut$Choice", "ifKept", "(LStrikeOut$Row;LStrikeOut$Row;II)I"⟩, 4) := ⟨⟨by decide +kernel, by decide +kernel⟩, List.mem_of_getElem? (i := 217) (by decide +kernel), List.mem_of_getElem? (i := 731) (by decide +kernel), List.mem_of_getElem? (i := 732) (by decide +kernel)⟩
theorem lw_p28 : lw_okq (⟨"StrikeOut$Choice", "ifStruck", "(II)I"⟩, 4) := ⟨⟨by decide +kernel, by decide +kernel⟩, List.mem_of_getElem? (i := 217) (by decide +kernel), List.mem_of_getElem? (i := 735) (by decide +kernel), List.mem_of_getElem? (i := 736) (by decide +kernel)⟩
theorem lw_p29 : lw_okq (⟨"StrikeOut$Choice", "trace", "(LStrikeOut$Row;LStrikeOut$Row;)V"⟩, 4) := ⟨⟨by decide +kernel, by decide +kernel⟩, List.mem_of_getElem? (i := 217) (by decide +kernel), List.mem_of_getElem? (i := 740) (by decide +kernel), List.mem_of_getElem? (i := 741) (by decide +kernel)⟩
theorem lw_p30 : lw_okq (⟨"StrikeOut", "countGapStrokes", "(II)I"⟩, 17) := ⟨⟨by decide +kernel, by decide +kernel⟩, List.mem_of_getElem? (i := 24) (by decide +kernel), List.mem_of_getElem? (i := 748) (by decide +kernel), List.mem_of_getElem? (i := 749) (by decide +kernel)⟩
theorem lw_p31 : lw_okq (⟨"StrikeOut", "strikeGap", "(IIII)V"⟩, 17) := ⟨⟨by decide +kernel, by decide +kernel⟩, List.mem_of_getElem? (i := 24) (by decide +kernel), List.mem_of_getElem? (i := 756) (by decide +kernel), List.mem_of_getElem? (i := 757) (by decide +kernel)⟩
def lw_privs_2 : List (MethodName × Nat) := [(⟨"StrikeOut", "isBlank", "(I)Z"⟩, 17), (⟨"StrikeOut", "askLaw", "(IIII)V"⟩, 17), (⟨"StrikeOut$Law", "holds", "(I)Z"⟩, 12), (⟨"StrikeOut$Law", "reckon", "(II)I"⟩, 12), (⟨"StrikeOut$Law", "pop", "()I"⟩, 12), (⟨"StrikeOut$Law", "push", "(I)V"⟩, 12), (⟨"StrikeOut$Law", "takeStep", "(II)V"⟩, 12), (⟨"StrikeOut", "writeStroke", "(IIII)I"⟩, 17), (⟨"StrikeOut$Book", "moveUp", "([III)V"⟩, 7), (⟨"StrikeOut", "isDeed", "(I)Z"⟩, 17), (⟨"StrikeOut$Fits", "manyTo", "(II)J"⟩, 2), (⟨"StrikeOut$Choice", "ifKept", "(LStrikeOut$Row;LStrikeOut$Row;II)I"⟩, 4), (⟨"StrikeOut$Choice", "ifStruck", "(II)I"⟩, 4), (⟨"StrikeOut$Choice", "trace", "(LStrikeOut$Row;LStrikeOut$Row;)V"⟩, 4), (⟨"StrikeOut", "countGapStrokes", "(II)I"⟩, 17), (⟨"StrikeOut", "strikeGap", "(IIII)V"⟩, 17)]
theorem lw_r2 : ∀ q ∈ lw_privs_2, lw_okq q := List.forall_mem_cons.mpr ⟨lw_p16, List.forall_mem_cons.mpr ⟨lw_p17, List.forall_mem_cons.mpr ⟨lw_p18, List.forall_mem_cons.mpr ⟨lw_p19, List.forall_mem_cons.mpr ⟨lw_p20, List.forall_mem_cons.mpr ⟨lw_p21, List.forall_mem_cons.mpr ⟨lw_p22, List.forall_mem_cons.mpr ⟨lw_p23, List.forall_mem_cons.mpr ⟨lw_p24, List.forall_mem_cons.mpr ⟨lw_p25, List.forall_mem_cons.mpr ⟨lw_p26, List.forall_mem_cons.mpr ⟨lw_p27, List.forall_mem_cons.mpr ⟨lw_p28, List.forall_mem_cons.mpr ⟨lw_p29, List.forall_mem_cons.mpr ⟨lw_p30, List.forall_mem_cons.mpr ⟨lw_p31, fun _ h => absurd h List.not_mem_nil⟩⟩⟩⟩⟩⟩⟩⟩⟩⟩⟩⟩⟩⟩⟩⟩
theorem lw_p32 : lw_okq (⟨"StrikeOut$Fits", "fewestTo", "(II)I"⟩, 2) := ⟨⟨by decide +kernel, by decide +kernel⟩, List.mem_of_getElem? (i := 203) (by decide +kernel), List.mem_of_getElem? (i := 775) (by decide +kernel), List.mem_of_getElem? (i := 776) (by decide +kernel)⟩
theorem lw_p33 : lw_okq (⟨"StrikeOut", "areDeeds", "(I)Z"⟩, 17) := ⟨⟨by decide +kernel, by decide +kernel⟩, List.mem_of_getElem? (i := 24) (by decide +kernel), List.mem_of_getElem? (i := 796) (by decide +kernel), List.mem_of_getElem? (i := 797) (by decide +kernel)⟩
theorem lw_p34 : lw_okq (⟨"StrikeOut", "toldDeeds", "()I"⟩, 17) := ⟨⟨by decide +kernel, by decide +kernel⟩, List.mem_of_getElem? (i := 24) (by decide +kernel), List.mem_of_getElem? (i := 800) (by decide +kernel), List.mem_of_getElem? (i := 801) (by decide +kernel)⟩
theorem lw_p35 : lw_okq (⟨"StrikeOut", "deedAmong", "(II)LStrikeOut$Row;"⟩, 17) := ⟨⟨by decide +kernel, by decide +kernel⟩, List.mem_of_getElem? (i := 24) (by decide +kernel), List.mem_of_getElem? (i := 804) (by decide +kernel), List.mem_of_getElem? (i := 805) (by decide +kernel)⟩
theorem lw_p36 : lw_okq (⟨"StrikeOut$Hiding", "mostFrom", "(LStrikeOut$Row;LStrikeOut$Row;LStrikeOut$Row;III)I"⟩, 3) := ⟨⟨by decide +kernel, by decide +kernel⟩, List.mem_of_getElem? (i := 239) (by decide +kernel), List.mem_of_getElem? (i := 818) (by decide +kernel), List.mem_of_getElem? (i := 819) (by decide +kernel)⟩
theorem lw_p37 : lw_okq (⟨"StrikeOut$Hiding", "trace", "(LStrikeOut$Row;LStrikeOut$Row;LStrikeOut$Row;)V"⟩, 3) := ⟨⟨by decide +kernel, by decide +kernel⟩, List.mem_of_getElem? (i := 239) (by decide +kernel), List.mem_of_getElem? (i := 823) (by decide +kernel), List.mem_of_getElem? (i := 824) (by decide +kernel)⟩
theorem lw_p38 : lw_okq (⟨"StrikeOut", "refuseCover", "(I)I"⟩, 17) := ⟨⟨by decide +kernel, by decide +kernel⟩, List.mem_of_getElem? (i := 24) (by decide +kernel), List.mem_of_getElem? (i := 836) (by decide +kernel), List.mem_of_getElem? (i := 837) (by decide +kernel)⟩
theorem lw_p39 : lw_okq (⟨"StrikeOut", "coverFor", "(I)LStrikeOut$Cover;"⟩, 17) := ⟨⟨by decide +kernel, by decide +kernel⟩, List.mem_of_getElem? (i := 24) (by decide +kernel), List.mem_of_getElem? (i := 840) (by decide +kernel), List.mem_of_getElem? (i := 841) (by decide +kernel)⟩
theorem lw_p40 : lw_okq (⟨"StrikeOut$Cover", "settle", "(I)V"⟩, 10) := ⟨⟨by decide +kernel, by decide +kernel⟩, List.mem_of_getElem? (i := 844) (by decide +kernel), List.mem_of_getElem? (i := 898) (by decide +kernel), List.mem_of_getElem? (i := 899) (by decide +kernel)⟩
theorem lw_p41 : lw_okq (⟨"StrikeOut$Cover", "lookAhead", "()V"⟩, 10) := ⟨⟨by decide +kernel, by decide +kernel⟩, List.mem_of_getElem? (i := 844) (by decide +kernel), List.mem_of_getElem? (i := 902) (by decide +kernel), List.mem_of_getElem? (i := 903) (by decide +kernel)⟩
theorem lw_p42 : lw_okq (⟨"StrikeOut$Cover", "takeLetter", "(I)I"⟩, 10) := ⟨⟨by decide +kernel, by decide +kernel⟩, List.mem_of_getElem? (i := 844) (by decide +kernel), List.mem_of_getElem? (i := 906) (by decide +kernel), List.mem_of_getElem? (i := 907) (by decide +kernel)⟩
theorem lw_p43 : lw_okq (⟨"StrikeOut$Cover", "trace", "()V"⟩, 10) := ⟨⟨by decide +kernel, by decide +kernel⟩, List.mem_of_getElem? (i := 844) (by decide +kernel), List.mem_of_getElem? (i := 910) (by decide +kernel), List.mem_of_getElem? (i := 911) (by decide +kernel)⟩
theorem lw_p44 : lw_okq (⟨"StrikeOut$Cover", "settleLetter", "(I)V"⟩, 10) := ⟨⟨by decide +kernel, by decide +kernel⟩, List.mem_of_getElem? (i := 844) (by decide +kernel), List.mem_of_getElem? (i := 916) (by decide +kernel), List.mem_of_getElem? (i := 917) (by decide +kernel)⟩
theorem lw_p45 : lw_okq (⟨"StrikeOut", "allCome", "(ILStrikeOut$Row;I)Z"⟩, 17) := ⟨⟨by decide +kernel, by decide +kernel⟩, List.mem_of_getElem? (i := 24) (by decide +kernel), List.mem_of_getElem? (i := 949) (by decide +kernel), List.mem_of_getElem? (i := 950) (by decide +kernel)⟩
theorem lw_p46 : lw_okq (⟨"StrikeOut", "weighSharing", "(I)V"⟩, 17) := ⟨⟨by decide +kernel, by decide +kernel⟩, List.mem_of_getElem? (i := 24) (by decide +kernel), List.mem_of_getElem? (i := 959) (by decide +kernel), List.mem_of_getElem? (i := 960) (by decide +kernel)⟩
theorem lw_p47 : lw_okq (⟨"StrikeOut$Sharing", "withBlank", "(III)I"⟩, 5) := ⟨⟨by decide +kernel, by decide +kernel⟩, List.mem_of_getElem? (i := 259) (by decide +kernel), List.mem_of_getElem? (i := 973) (by decide +kernel), List.mem_of_getElem? (i := 974) (by decide +kernel)⟩
def lw_privs_3 : List (MethodName × Nat) := [(⟨"StrikeOut$Fits", "fewestTo", "(II)I"⟩, 2), (⟨"StrikeOut", "areDeeds", "(I)Z"⟩, 17), (⟨"StrikeOut", "toldDeeds", "()I"⟩, 17), (⟨"StrikeOut", "deedAmong", "(II)LStrikeOut$Row;"⟩, 17), (⟨"StrikeOut$Hiding", "mostFrom", "(LStrikeOut$Row;LStrikeOut$Row;LStrikeOut$Row;III)I"⟩, 3), (⟨"StrikeOut$Hiding", "trace", "(LStrikeOut$Row;LStrikeOut$Row;LStrikeOut$Row;)V"⟩, 3), (⟨"StrikeOut", "refuseCover", "(I)I"⟩, 17), (⟨"StrikeOut", "coverFor", "(I)LStrikeOut$Cover;"⟩, 17), (⟨"StrikeOut$Cover", "settle", "(I)V"⟩, 10), (⟨"StrikeOut$Cover", "lookAhead", "()V"⟩, 10), (⟨"StrikeOut$Cover", "takeLetter", "(I)I"⟩, 10), (⟨"StrikeOut$Cover", "trace", "()V"⟩, 10), (⟨"StrikeOut$Cover", "settleLetter", "(I)V"⟩, 10), (⟨"StrikeOut", "allCome", "(ILStrikeOut$Row;I)Z"⟩, 17), (⟨"StrikeOut", "weighSharing", "(I)V"⟩, 17), (⟨"StrikeOut$Sharing", "withBlank", "(III)I"⟩, 5)]
theorem lw_r3 : ∀ q ∈ lw_privs_3, lw_okq q := List.forall_mem_cons.mpr ⟨lw_p32, List.forall_mem_cons.mpr ⟨lw_p33, List.forall_mem_cons.mpr ⟨lw_p34, List.forall_mem_cons.mpr ⟨lw_p35, List.forall_mem_cons.mpr ⟨lw_p36, List.forall_mem_cons.mpr ⟨lw_p37, List.forall_mem_cons.mpr ⟨lw_p38, List.forall_mem_cons.mpr ⟨lw_p39, List.forall_mem_cons.mpr ⟨lw_p40, List.forall_mem_cons.mpr ⟨lw_p41, List.forall_mem_cons.mpr ⟨lw_p42, List.forall_mem_cons.mpr ⟨lw_p43, List.forall_mem_cons.mpr ⟨lw_p44, List.forall_mem_cons.mpr ⟨lw_p45, List.forall_mem_cons.mpr ⟨lw_p46, List.forall_mem_cons.mpr ⟨lw_p47, fun _ h => absurd h List.not_mem_nil⟩⟩⟩⟩⟩⟩⟩⟩⟩⟩⟩⟩⟩⟩⟩⟩
theorem lw_p48 : lw_okq (⟨"StrikeOut", "findParent", "(IIII)I"⟩, 17) := ⟨⟨by decide +kernel, by decide +kernel⟩, List.mem_of_getElem? (i := 24) (by decide +kernel), List.mem_of_getElem? (i := 989) (by decide +kernel), List.mem_of_getElem? (i := 990) (by decide +kernel)⟩
theorem lw_p49 : lw_okq (⟨"StrikeOut", "descends", "(II)Z"⟩, 17) := ⟨⟨by decide +kernel, by decide +kernel⟩, List.mem_of_getElem? (i := 24) (by decide +kernel), List.mem_of_getElem? (i := 993) (by decide +kernel), List.mem_of_getElem? (i := 994) (by decide +kernel)⟩
theorem lw_p50 : lw_okq (⟨"StrikeOut", "measureChains", "()V"⟩, 17) := ⟨⟨by decide +kernel, by decide +kernel⟩, List.mem_of_getElem? (i := 24) (by decide +kernel), List.mem_of_getElem? (i := 1001) (by decide +kernel), List.mem_of_getElem? (i := 1002) (by decide +kernel)⟩
theorem lw_p51 : lw_okq (⟨"StrikeOut", "longestBehind", "(I)I"⟩, 17) := ⟨⟨by decide +kernel, by decide +kernel⟩, List.mem_of_getElem? (i := 24) (by decide +kernel), List.mem_of_getElem? (i := 1006) (by decide +kernel), List.mem_of_getElem? (i := 1007) (by decide +kernel)⟩
theorem lw_p52 : lw_okq (⟨"StrikeOut", "linkChain", "(LStrikeOut$Row;)I"⟩, 17) := ⟨⟨by decide +kernel, by decide +kernel⟩, List.mem_of_getElem? (i := 24) (by decide +kernel), List.mem_of_getElem? (i := 1010) (by decide +kernel), List.mem_of_getElem? (i := 1011) (by decide +kernel)⟩
theorem lw_p53 : lw_okq (⟨"StrikeOut", "nextInChain", "(I)I"⟩, 17) := ⟨⟨by decide +kernel, by decide +kernel⟩, List.mem_of_getElem? (i := 24) (by decide +kernel), List.mem_of_getElem? (i := 1014) (by decide +kernel), List.mem_of_getElem? (i := 1015) (by decide +kernel)⟩
theorem lw_p54 : lw_okq (⟨"StrikeOutModel", "areLetters", "(I)Z"⟩, 64) := ⟨⟨by decide +kernel, by decide +kernel⟩, List.mem_of_getElem? (i := 1044) (by decide +kernel), List.mem_of_getElem? (i := 1254) (by decide +kernel), List.mem_of_getElem? (i := 1255) (by decide +kernel)⟩
theorem lw_p55 : lw_okq (⟨"StrikeOutModel", "isBlank", "(I)Z"⟩, 64) := ⟨⟨by decide +kernel, by decide +kernel⟩, List.mem_of_getElem? (i := 1044) (by decide +kernel), List.mem_of_getElem? (i := 1266) (by decide +kernel), List.mem_of_getElem? (i := 1267) (by decide +kernel)⟩
theorem lw_p56 : lw_okq (⟨"StrikeOutModel", "leftMany", "(I)I"⟩, 64) := ⟨⟨by decide +kernel, by decide +kernel⟩, List.mem_of_getElem? (i := 1044) (by decide +kernel), List.mem_of_getElem? (i := 1270) (by decide +kernel), List.mem_of_getElem? (i := 1271) (by decide +kernel)⟩
theorem lw_p57 : lw_okq (⟨"StrikeOutModel", "numberAt", "(II)I"⟩, 64) := ⟨⟨by decide +kernel, by decide +kernel⟩, List.mem_of_getElem? (i := 1044) (by decide +kernel), List.mem_of_getElem? (i := 1274) (by decide +kernel), List.mem_of_getElem? (i := 1275) (by decide +kernel)⟩
theorem lw_p58 : lw_okq (⟨"StrikeOutModel", "types", "(I)V"⟩, 64) := ⟨⟨by decide +kernel, by decide +kernel⟩, List.mem_of_getElem? (i := 1044) (by decide +kernel), List.mem_of_getElem? (i := 1282) (by decide +kernel), List.mem_of_getElem? (i := 1283) (by decide +kernel)⟩
theorem lw_p59 : lw_okq (⟨"StrikeOutModel", "readsClause", "()Z"⟩, 64) := ⟨⟨by decide +kernel, by decide +kernel⟩, List.mem_of_getElem? (i := 1044) (by decide +kernel), List.mem_of_getElem? (i := 1290) (by decide +kernel), List.mem_of_getElem? (i := 1291) (by decide +kernel)⟩
theorem lw_p60 : lw_okq (⟨"StrikeOutModel", "here", "()I"⟩, 64) := ⟨⟨by decide +kernel, by decide +kernel⟩, List.mem_of_getElem? (i := 1044) (by decide +kernel), List.mem_of_getElem? (i := 1294) (by decide +kernel), List.mem_of_getElem? (i := 1295) (by decide +kernel)⟩
theorem lw_p61 : lw_okq (⟨"StrikeOutModel", "wrongAt", "(II)Z"⟩, 64) := ⟨⟨by decide +kernel, by decide +kernel⟩, List.mem_of_getElem? (i := 1044) (by decide +kernel), List.mem_of_getElem? (i := 1298) (by decide +kernel), List.mem_of_getElem? (i := 1299) (by decide +kernel)⟩
theorem lw_p62 : lw_okq (⟨"StrikeOutModel", "readsSum", "()Z"⟩, 64) := ⟨⟨by decide +kernel, by decide +kernel⟩, List.mem_of_getElem? (i := 1044) (by decide +kernel), List.mem_of_getElem? (i := 1302) (by decide +kernel), List.mem_of_getElem? (i := 1303) (by decide +kernel)⟩
theorem lw_p63 : lw_okq (⟨"StrikeOutModel", "readsFactor", "()Z"⟩, 64) := ⟨⟨by decide +kernel, by decide +kernel⟩, List.mem_of_getElem? (i := 1044) (by decide +kernel), List.mem_of_getElem? (i := 1306) (by decide +kernel), List.mem_of_getElem? (i := 1307) (by decide +kernel)⟩
def lw_privs_4 : List (MethodName × Nat) := [(⟨"StrikeOut", "findParent", "(IIII)I"⟩, 17), (⟨"StrikeOut", "descends", "(II)Z"⟩, 17), (⟨"StrikeOut", "measureChains", "()V"⟩, 17), (⟨"StrikeOut", "longestBehind", "(I)I"⟩, 17), (⟨"StrikeOut", "linkChain", "(LStrikeOut$Row;)I"⟩, 17), (⟨"StrikeOut", "nextInChain", "(I)I"⟩, 17), (⟨"StrikeOutModel", "areLetters", "(I)Z"⟩, 64), (⟨"StrikeOutModel", "isBlank", "(I)Z"⟩, 64), (⟨"StrikeOutModel", "leftMany", "(I)I"⟩, 64), (⟨"StrikeOutModel", "numberAt", "(II)I"⟩, 64), (⟨"StrikeOutModel", "types", "(I)V"⟩, 64), (⟨"StrikeOutModel", "readsClause", "()Z"⟩, 64), (⟨"StrikeOutModel", "here", "()I"⟩, 64), (⟨"StrikeOutModel", "wrongAt", "(II)Z"⟩, 64), (⟨"StrikeOutModel", "readsSum", "()Z"⟩, 64), (⟨"StrikeOutModel", "readsFactor", "()Z"⟩, 64)]
theorem lw_r4 : ∀ q ∈ lw_privs_4, lw_okq q := List.forall_mem_cons.mpr ⟨lw_p48, List.forall_mem_cons.mpr ⟨lw_p49, List.forall_mem_cons.mpr ⟨lw_p50, List.forall_mem_cons.mpr ⟨lw_p51, List.forall_mem_cons.mpr ⟨lw_p52, List.forall_mem_cons.mpr ⟨lw_p53, List.forall_mem_cons.mpr ⟨lw_p54, List.forall_mem_cons.mpr ⟨lw_p55, List.forall_mem_cons.mpr ⟨lw_p56, List.forall_mem_cons.mpr ⟨lw_p57, List.forall_mem_cons.mpr ⟨lw_p58, List.forall_mem_cons.mpr ⟨lw_p59, List.forall_mem_cons.mpr ⟨lw_p60, List.forall_mem_cons.mpr ⟨lw_p61, List.forall_mem_cons.mpr ⟨lw_p62, List.forall_mem_cons.mpr ⟨lw_p63, fun _ h => absurd h List.not_mem_nil⟩⟩⟩⟩⟩⟩⟩⟩⟩⟩⟩⟩⟩⟩⟩⟩
theorem lw_p64 : lw_okq (⟨"StrikeOutModel", "opens", "(I)Z"⟩, 64) := ⟨⟨by decide +kernel, by decide +kernel⟩, List.mem_of_getElem? (i := 1044) (by decide +kernel), List.mem_of_getElem? (i := 1310) (by decide +kernel), List.mem_of_getElem? (i := 1311) (by decide +kernel)⟩
theorem lw_p65 : lw_okq (⟨"StrikeOutModel", "isDigit", "()Z"⟩, 64) := ⟨⟨by decide +kernel, by decide +kernel⟩, List.mem_of_getElem? (i := 1044) (by decide +kernel), List.mem_of_getElem? (i := 1315) (by decide +kernel), List.mem_of_getElem? (i := 1316) (by decide +kernel)⟩
theorem lw_p66 : lw_okq (⟨"StrikeOutModel", "readsNumber", "()Z"⟩, 64) := ⟨⟨by decide +kernel, by decide +kernel⟩, List.mem_of_getElem? (i := 1044) (by decide +kernel), List.mem_of_getElem? (i := 1319) (by decide +kernel), List.mem_of_getElem? (i := 1320) (by decide +kernel)⟩
theorem lw_p67 : lw_okq (⟨"StrikeOutModel", "notes", "(II)V"⟩, 64) := ⟨⟨by decide +kernel, by decide +kernel⟩, List.mem_of_getElem? (i := 1044) (by decide +kernel), List.mem_of_getElem? (i := 1323) (by decide +kernel), List.mem_of_getElem? (i := 1324) (by decide +kernel)⟩
theorem lw_p68 : lw_okq (⟨"StrikeOutModel", "closesSums", "(Z)V"⟩, 64) := ⟨⟨by decide +kernel, by decide +kernel⟩, List.mem_of_getElem? (i := 1044) (by decide +kernel), List.mem_of_getElem? (i := 1333) (by decide +kernel), List.mem_of_getElem? (i := 1334) (by decide +kernel)⟩
theorem lw_p69 : lw_okq (⟨"StrikeOutModel", "top", "()I"⟩, 64) := ⟨⟨by decide +kernel, by decide +kernel⟩, List.mem_of_getElem? (i := 1044) (by decide +kernel), List.mem_of_getElem? (i := 1337) (by decide +kernel), List.mem_of_getElem? (i := 1338) (by decide +kernel)⟩
theorem lw_p70 : lw_okq (⟨"StrikeOutModel", "hasOpenSum", "(I)Z"⟩, 64) := ⟨⟨by decide +kernel, by decide +kernel⟩, List.mem_of_getElem? (i := 1044) (by decide +kernel), List.mem_of_getElem? (i := 1341) (by decide +kernel), List.mem_of_getElem? (i := 1342) (by decide +kernel)⟩
theorem lw_p71 : lw_okq (⟨"StrikeOutModel", "readsCondition", "()Z"⟩, 64) := ⟨⟨by decide +kernel, by decide +kernel⟩, List.mem_of_getElem? (i := 1044) (by decide +kernel), List.mem_of_getElem? (i := 1345) (by decide +kernel), List.mem_of_getElem? (i := 1346) (by decide +kernel)⟩
theorem lw_p72 : lw_okq (⟨"StrikeOutModel", "readsCompared", "()Z"⟩, 64) := ⟨⟨by decide +kernel, by decide +kernel⟩, List.mem_of_getElem? (i := 1044) (by decide +kernel), List.mem_of_getElem? (i := 1349) (by decide +kernel), List.mem_of_getElem? (i := 1350) (by decide +kernel)⟩
theorem lw_p73 : lw_okq (⟨"StrikeOutModel", "endsPiece", "()V"⟩, 64) := ⟨⟨by decide +kernel, by decide +kernel⟩, List.mem_of_getElem? (i := 1044) (by decide +kernel), List.mem_of_getElem? (i := 1353) (by decide +kernel), List.mem_of_getElem? (i := 1354) (by decide +kernel)⟩
theorem lw_p74 : lw_okq (⟨"StrikeOutModel", "lands", "(Z)V"⟩, 64) := ⟨⟨by decide +kernel, by decide +kernel⟩, List.mem_of_getElem? (i := 1044) (by decide +kernel), List.mem_of_getElem? (i := 1357) (by decide +kernel), List.mem_of_getElem? (i := 1358) (by decide +kernel)⟩
theorem lw_p75 : lw_okq (⟨"StrikeOutModel", "jumps", "(I)V"⟩, 64) := ⟨⟨by decide +kernel, by decide +kernel⟩, List.mem_of_getElem? (i := 1044) (by decide +kernel), List.mem_of_getElem? (i := 1361) (by decide +kernel), List.mem_of_getElem? (i := 1362) (by decide +kernel)⟩
theorem lw_p76 : lw_okq (⟨"StrikeOutModel", "takes", "(I)Z"⟩, 64) := ⟨⟨by decide +kernel, by decide +kernel⟩, List.mem_of_getElem? (i := 1044) (by decide +kernel), List.mem_of_getElem? (i := 1365) (by decide +kernel), List.mem_of_getElem? (i := 1366) (by decide +kernel)⟩
theorem lw_p77 : lw_okq (⟨"StrikeOutModel", "priceOf", "(III)I"⟩, 64) := ⟨⟨by decide +kernel, by decide +kernel⟩, List.mem_of_getElem? (i := 1044) (by decide +kernel), List.mem_of_getElem? (i := 1376) (by decide +kernel), List.mem_of_getElem? (i := 1377) (by decide +kernel)⟩
theorem lw_p78 : lw_okq (⟨"StrikeOutModel", "feels", "(III)V"⟩, 64) := ⟨⟨by decide +kernel, by decide +kernel⟩, List.mem_of_getElem? (i := 1044) (by decide +kernel), List.mem_of_getElem? (i := 1380) (by decide +kernel), List.mem_of_getElem? (i := 1381) (by decide +kernel)⟩
theorem lw_p79 : lw_okq (⟨"StrikeOutModel", "howOften", "(II)I"⟩, 64) := ⟨⟨by decide +kernel, by decide +kernel⟩, List.mem_of_getElem? (i := 1044) (by decide +kernel), List.mem_of_getElem? (i := 1384) (by decide +kernel), List.mem_of_getElem? (i := 1385) (by decide +kernel)⟩
def lw_privs_5 : List (MethodName × Nat) := [(⟨"StrikeOutModel", "opens", "(I)Z"⟩, 64), (⟨"StrikeOutModel", "isDigit", "()Z"⟩, 64), (⟨"StrikeOutModel", "readsNumber", "()Z"⟩, 64), (⟨"StrikeOutModel", "notes", "(II)V"⟩, 64), (⟨"StrikeOutModel", "closesSums", "(Z)V"⟩, 64), (⟨"StrikeOutModel", "top", "()I"⟩, 64), (⟨"StrikeOutModel", "hasOpenSum", "(I)Z"⟩, 64), (⟨"StrikeOutModel", "readsCondition", "()Z"⟩, 64), (⟨"StrikeOutModel", "readsCompared", "()Z"⟩, 64), (⟨"StrikeOutModel", "endsPiece", "()V"⟩, 64), (⟨"StrikeOutModel", "lands", "(Z)V"⟩, 64), (⟨"StrikeOutModel", "jumps", "(I)V"⟩, 64), (⟨"StrikeOutModel", "takes", "(I)Z"⟩, 64), (⟨"StrikeOutModel", "priceOf", "(III)I"⟩, 64), (⟨"StrikeOutModel", "feels", "(III)V"⟩, 64), (⟨"StrikeOutModel", "howOften", "(II)I"⟩, 64)]
theorem lw_r5 : ∀ q ∈ lw_privs_5, lw_okq q := List.forall_mem_cons.mpr ⟨lw_p64, List.forall_mem_cons.mpr ⟨lw_p65, List.forall_mem_cons.mpr ⟨lw_p66, List.forall_mem_cons.mpr ⟨lw_p67, List.forall_mem_cons.mpr ⟨lw_p68, List.forall_mem_cons.mpr ⟨lw_p69, List.forall_mem_cons.mpr ⟨lw_p70, List.forall_mem_cons.mpr ⟨lw_p71, List.forall_mem_cons.mpr ⟨lw_p72, List.forall_mem_cons.mpr ⟨lw_p73, List.forall_mem_cons.mpr ⟨lw_p74, List.forall_mem_cons.mpr ⟨lw_p75, List.forall_mem_cons.mpr ⟨lw_p76, List.forall_mem_cons.mpr ⟨lw_p77, List.forall_mem_cons.mpr ⟨lw_p78, List.forall_mem_cons.mpr ⟨lw_p79, fun _ h => absurd h List.not_mem_nil⟩⟩⟩⟩⟩⟩⟩⟩⟩⟩⟩⟩⟩⟩⟩⟩
theorem lw_p80 : lw_okq (⟨"StrikeOutModel", "isStruckAt", "(II)Z"⟩, 64) := ⟨⟨by decide +kernel, by decide +kernel⟩, List.mem_of_getElem? (i := 1044) (by decide +kernel), List.mem_of_getElem? (i := 1388) (by decide +kernel), List.mem_of_getElem? (i := 1389) (by decide +kernel)⟩
theorem lw_p81 : lw_okq (⟨"StrikeOutModel", "comesTo", "(II)I"⟩, 64) := ⟨⟨by decide +kernel, by decide +kernel⟩, List.mem_of_getElem? (i := 1044) (by decide +kernel), List.mem_of_getElem? (i := 1392) (by decide +kernel), List.mem_of_getElem? (i := 1393) (by decide +kernel)⟩
theorem lw_p82 : lw_okq (⟨"StrikeOutModel", "mayStrike", "(III)Z"⟩, 64) := ⟨⟨by decide +kernel, by decide +kernel⟩, List.mem_of_getElem? (i := 1044) (by decide +kernel), List.mem_of_getElem? (i := 1399) (by decide +kernel), List.mem_of_getElem? (i := 1400) (by decide +kernel)⟩
theorem lw_p83 : lw_okq (⟨"StrikeOutModel", "makes", "(IIIII)V"⟩, 64) := ⟨⟨by decide +kernel, by decide +kernel⟩, List.mem_of_getElem? (i := 1044) (by decide +kernel), List.mem_of_getElem? (i := 1407) (by decide +kernel), List.mem_of_getElem? (i := 1408) (by decide +kernel)⟩
theorem lw_p84 : lw_okq (⟨"StrikeOutModel", "writes", "(IIII)V"⟩, 64) := ⟨⟨by decide +kernel, by decide +kernel⟩, List.mem_of_getElem? (i := 1044) (by decide +kernel), List.mem_of_getElem? (i := 1411) (by decide +kernel), List.mem_of_getElem? (i := 1412) (by decide +kernel)⟩
theorem lw_p85 : lw_okq (⟨"StrikeOutModel", "leaves", "(I)V"⟩, 64) := ⟨⟨by decide +kernel, by decide +kernel⟩, List.mem_of_getElem? (i := 1044) (by decide +kernel), List.mem_of_getElem? (i := 1419) (by decide +kernel), List.mem_of_getElem? (i := 1420) (by decide +kernel)⟩
theorem lw_p86 : lw_okq (⟨"StrikeOutModel", "isAsked", "(II)Z"⟩, 64) := ⟨⟨by decide +kernel, by decide +kernel⟩, List.mem_of_getElem? (i := 1044) (by decide +kernel), List.mem_of_getElem? (i := 1431) (by decide +kernel), List.mem_of_getElem? (i := 1432) (by decide +kernel)⟩
theorem lw_p87 : lw_okq (⟨"StrikeOutModel", "isDeed", "(I)Z"⟩, 64) := ⟨⟨by decide +kernel, by decide +kernel⟩, List.mem_of_getElem? (i := 1044) (by decide +kernel), List.mem_of_getElem? (i := 1435) (by decide +kernel), List.mem_of_getElem? (i := 1436) (by decide +kernel)⟩
theorem lw_p88 : lw_okq (⟨"StrikeOutModel", "laysBlank", "(IZ)V"⟩, 64) := ⟨⟨by decide +kernel, by decide +kernel⟩, List.mem_of_getElem? (i := 1044) (by decide +kernel), List.mem_of_getElem? (i := 1440) (by decide +kernel), List.mem_of_getElem? (i := 1441) (by decide +kernel)⟩
theorem lw_p89 : lw_okq (⟨"StrikeOutModel", "laysDeed", "(I)V"⟩, 64) := ⟨⟨by decide +kernel, by decide +kernel⟩, List.mem_of_getElem? (i := 1044) (by decide +kernel), List.mem_of_getElem? (i := 1444) (by decide +kernel), List.mem_of_getElem? (i := 1445) (by decide +kernel)⟩
theorem lw_p90 : lw_okq (⟨"StrikeOutModel", "cheapestOf", "(III)I"⟩, 64) := ⟨⟨by decide +kernel, by decide +kernel⟩, List.mem_of_getElem? (i := 1044) (by decide +kernel), List.mem_of_getElem? (i := 1452) (by decide +kernel), List.mem_of_getElem? (i := 1453) (by decide +kernel)⟩
theorem lw_p91 : lw_okq (⟨"StrikeOutModel", "laysPrices", "(II)V"⟩, 64) := ⟨⟨by decide +kernel, by decide +kernel⟩, List.mem_of_getElem? (i := 1044) (by decide +kernel), List.mem_of_getElem? (i := 1456) (by decide +kernel), List.mem_of_getElem? (i := 1457) (by decide +kernel)⟩
theorem lw_p92 : lw_okq (⟨"StrikeOutModel", "laysCheap", "()V"⟩, 64) := ⟨⟨by decide +kernel, by decide +kernel⟩, List.mem_of_getElem? (i := 1044) (by decide +kernel), List.mem_of_getElem? (i := 1461) (by decide +kernel), List.mem_of_getElem? (i := 1462) (by decide +kernel)⟩
theorem lw_p93 : lw_okq (⟨"StrikeOutModel", "laysStays", "()V"⟩, 64) := ⟨⟨by decide +kernel, by decide +kernel⟩, List.mem_of_getElem? (i := 1044) (by decide +kernel), List.mem_of_getElem? (i := 1468) (by decide +kernel), List.mem_of_getElem? (i := 1469) (by decide +kernel)⟩
theorem lw_p94 : lw_okq (⟨"StrikeOutModel", "strokesFor", "()I"⟩, 64) := ⟨⟨by decide +kernel, by decide +kernel⟩, List.mem_of_getElem? (i := 1044) (by decide +kernel), List.mem_of_getElem? (i := 1476) (by decide +kernel), List.mem_of_getElem? (i := 1477) (by decide +kernel)⟩
theorem lw_p95 : lw_okq (⟨"StrikeOutModel", "fewestStrokes", "(I)I"⟩, 64) := ⟨⟨by decide +kernel, by decide +kernel⟩, List.mem_of_getElem? (i := 1044) (by decide +kernel), List.mem_of_getElem? (i := 1484) (by decide +kernel), List.mem_of_getElem? (i := 1485) (by decide +kernel)⟩
def lw_privs_6 : List (MethodName × Nat) := [(⟨"StrikeOutModel", "isStruckAt", "(II)Z"⟩, 64), (⟨"StrikeOutModel", "comesTo", "(II)I"⟩, 64), (⟨"StrikeOutModel", "mayStrike", "(III)Z"⟩, 64), (⟨"StrikeOutModel", "makes", "(IIIII)V"⟩, 64), (⟨"StrikeOutModel", "writes", "(IIII)V"⟩, 64), (⟨"StrikeOutModel", "leaves", "(I)V"⟩, 64), (⟨"StrikeOutModel", "isAsked", "(II)Z"⟩, 64), (⟨"StrikeOutModel", "isDeed", "(I)Z"⟩, 64), (⟨"StrikeOutModel", "laysBlank", "(IZ)V"⟩, 64), (⟨"StrikeOutModel", "laysDeed", "(I)V"⟩, 64), (⟨"StrikeOutModel", "cheapestOf", "(III)I"⟩, 64), (⟨"StrikeOutModel", "laysPrices", "(II)V"⟩, 64), (⟨"StrikeOutModel", "laysCheap", "()V"⟩, 64), (⟨"StrikeOutModel", "laysStays", "()V"⟩, 64), (⟨"StrikeOutModel", "strokesFor", "()I"⟩, 64), (⟨"StrikeOutModel", "fewestStrokes", "(I)I"⟩, 64)]
theorem lw_r6 : ∀ q ∈ lw_privs_6, lw_okq q := List.forall_mem_cons.mpr ⟨lw_p80, List.forall_mem_cons.mpr ⟨lw_p81, List.forall_mem_cons.mpr ⟨lw_p82, List.forall_mem_cons.mpr ⟨lw_p83, List.forall_mem_cons.mpr ⟨lw_p84, List.forall_mem_cons.mpr ⟨lw_p85, List.forall_mem_cons.mpr ⟨lw_p86, List.forall_mem_cons.mpr ⟨lw_p87, List.forall_mem_cons.mpr ⟨lw_p88, List.forall_mem_cons.mpr ⟨lw_p89, List.forall_mem_cons.mpr ⟨lw_p90, List.forall_mem_cons.mpr ⟨lw_p91, List.forall_mem_cons.mpr ⟨lw_p92, List.forall_mem_cons.mpr ⟨lw_p93, List.forall_mem_cons.mpr ⟨lw_p94, List.forall_mem_cons.mpr ⟨lw_p95, fun _ h => absurd h List.not_mem_nil⟩⟩⟩⟩⟩⟩⟩⟩⟩⟩⟩⟩⟩⟩⟩⟩
theorem lw_p96 : lw_okq (⟨"StrikeOutModel", "spreads", "(III)Z"⟩, 64) := ⟨⟨by decide +kernel, by decide +kernel⟩, List.mem_of_getElem? (i := 1044) (by decide +kernel), List.mem_of_getElem? (i := 1499) (by decide +kernel), List.mem_of_getElem? (i := 1500) (by decide +kernel)⟩
theorem lw_p97 : lw_okq (⟨"StrikeOutModel", "laysHidden", "()V"⟩, 64) := ⟨⟨by decide +kernel, by decide +kernel⟩, List.mem_of_getElem? (i := 1044) (by decide +kernel), List.mem_of_getElem? (i := 1506) (by decide +kernel), List.mem_of_getElem? (i := 1507) (by decide +kernel)⟩
theorem lw_p98 : lw_okq (⟨"StrikeOutModel", "longOf", "(I)I"⟩, 64) := ⟨⟨by decide +kernel, by decide +kernel⟩, List.mem_of_getElem? (i := 1044) (by decide +kernel), List.mem_of_getElem? (i := 1510) (by decide +kernel), List.mem_of_getElem? (i := 1511) (by decide +kernel)⟩
theorem lw_p99 : lw_okq (⟨"StrikeOutModel", "hiddenBy", "(IIII)I"⟩, 64) := ⟨⟨by decide +kernel, by decide +kernel⟩, List.mem_of_getElem? (i := 1044) (by decide +kernel), List.mem_of_getElem? (i := 1514) (by decide +kernel), List.mem_of_getElem? (i := 1515) (by decide +kernel)⟩
theorem lw_p100 : lw_okq (⟨"StrikeOutModel", "nextOf", "(III)I"⟩, 64) := ⟨⟨by decide +kernel, by decide +kernel⟩, List.mem_of_getElem? (i := 1044) (by decide +kernel), List.mem_of_getElem? (i := 1518) (by decide +kernel), List.mem_of_getElem? (i := 1519) (by decide +kernel)⟩
theorem lw_p101 : lw_okq (⟨"StrikeOutModel", "letterAt", "(II)I"⟩, 64) := ⟨⟨by decide +kernel, by decide +kernel⟩, List.mem_of_getElem? (i := 1044) (by decide +kernel), List.mem_of_getElem? (i := 1522) (by decide +kernel), List.mem_of_getElem? (i := 1523) (by decide +kernel)⟩
theorem lw_p102 : lw_okq (⟨"StrikeOutModel", "hiddenAt", "(III)I"⟩, 64) := ⟨⟨by decide +kernel, by decide +kernel⟩, List.mem_of_getElem? (i := 1044) (by decide +kernel), List.mem_of_getElem? (i := 1529) (by decide +kernel), List.mem_of_getElem? (i := 1530) (by decide +kernel)⟩
theorem lw_p103 : lw_okq (⟨"StrikeOutModel", "isTooLong", "()Z"⟩, 64) := ⟨⟨by decide +kernel, by decide +kernel⟩, List.mem_of_getElem? (i := 1044) (by decide +kernel), List.mem_of_getElem? (i := 1537) (by decide +kernel), List.mem_of_getElem? (i := 1538) (by decide +kernel)⟩
theorem lw_p104 : lw_okq (⟨"StrikeOutModel", "laysShort", "()V"⟩, 64) := ⟨⟨by decide +kernel, by decide +kernel⟩, List.mem_of_getElem? (i := 1044) (by decide +kernel), List.mem_of_getElem? (i := 1541) (by decide +kernel), List.mem_of_getElem? (i := 1542) (by decide +kernel)⟩
theorem lw_p105 : lw_okq (⟨"StrikeOutModel", "laysShortAt", "()V"⟩, 64) := ⟨⟨by decide +kernel, by decide +kernel⟩, List.mem_of_getElem? (i := 1044) (by decide +kernel), List.mem_of_getElem? (i := 1545) (by decide +kernel), List.mem_of_getElem? (i := 1546) (by decide +kernel)⟩
theorem lw_p106 : lw_okq (⟨"StrikeOutModel", "takesLetter", "(I)Z"⟩, 64) := ⟨⟨by decide +kernel, by decide +kernel⟩, List.mem_of_getElem? (i := 1044) (by decide +kernel), List.mem_of_getElem? (i := 1549) (by decide +kernel), List.mem_of_getElem? (i := 1550) (by decide +kernel)⟩
theorem lw_p107 : lw_okq (⟨"StrikeOutModel", "nextShort", "()I"⟩, 64) := ⟨⟨by decide +kernel, by decide +kernel⟩, List.mem_of_getElem? (i := 1044) (by decide +kernel), List.mem_of_getElem? (i := 1553) (by decide +kernel), List.mem_of_getElem? (i := 1554) (by decide +kernel)⟩
theorem lw_p108 : lw_okq (⟨"StrikeOutModel", "comesWithout", "(I)Z"⟩, 64) := ⟨⟨by decide +kernel, by decide +kernel⟩, List.mem_of_getElem? (i := 1044) (by decide +kernel), List.mem_of_getElem? (i := 1573) (by decide +kernel), List.mem_of_getElem? (i := 1574) (by decide +kernel)⟩
theorem lw_p109 : lw_okq (⟨"StrikeOutModel", "areSet", "(I)Z"⟩, 64) := ⟨⟨by decide +kernel, by decide +kernel⟩, List.mem_of_getElem? (i := 1044) (by decide +kernel), List.mem_of_getElem? (i := 1581) (by decide +kernel), List.mem_of_getElem? (i := 1582) (by decide +kernel)⟩
theorem lw_p110 : lw_okq (⟨"StrikeOutModel", "comeAll", "(II)Z"⟩, 64) := ⟨⟨by decide +kernel, by decide +kernel⟩, List.mem_of_getElem? (i := 1044) (by decide +kernel), List.mem_of_getElem? (i := 1585) (by decide +kernel), List.mem_of_getElem? (i := 1586) (by decide +kernel)⟩
theorem lw_p111 : lw_okq (⟨"StrikeOutModel", "laysEnd", "(I)V"⟩, 64) := ⟨⟨by decide +kernel, by decide +kernel⟩, List.mem_of_getElem? (i := 1044) (by decide +kernel), List.mem_of_getElem? (i := 1593) (by decide +kernel), List.mem_of_getElem? (i := 1594) (by decide +kernel)⟩
def lw_privs_7 : List (MethodName × Nat) := [(⟨"StrikeOutModel", "spreads", "(III)Z"⟩, 64), (⟨"StrikeOutModel", "laysHidden", "()V"⟩, 64), (⟨"StrikeOutModel", "longOf", "(I)I"⟩, 64), (⟨"StrikeOutModel", "hiddenBy", "(IIII)I"⟩, 64), (⟨"StrikeOutModel", "nextOf", "(III)I"⟩, 64), (⟨"StrikeOutModel", "letterAt", "(II)I"⟩, 64), (⟨"StrikeOutModel", "hiddenAt", "(III)I"⟩, 64), (⟨"StrikeOutModel", "isTooLong", "()Z"⟩, 64), (⟨"StrikeOutModel", "laysShort", "()V"⟩, 64), (⟨"StrikeOutModel", "laysShortAt", "()V"⟩, 64), (⟨"StrikeOutModel", "takesLetter", "(I)Z"⟩, 64), (⟨"StrikeOutModel", "nextShort", "()I"⟩, 64), (⟨"StrikeOutModel", "comesWithout", "(I)Z"⟩, 64), (⟨"StrikeOutModel", "areSet", "(I)Z"⟩, 64), (⟨"StrikeOutModel", "comeAll", "(II)Z"⟩, 64), (⟨"StrikeOutModel", "laysEnd", "(I)V"⟩, 64)]
theorem lw_r7 : ∀ q ∈ lw_privs_7, lw_okq q := List.forall_mem_cons.mpr ⟨lw_p96, List.forall_mem_cons.mpr ⟨lw_p97, List.forall_mem_cons.mpr ⟨lw_p98, List.forall_mem_cons.mpr ⟨lw_p99, List.forall_mem_cons.mpr ⟨lw_p100, List.forall_mem_cons.mpr ⟨lw_p101, List.forall_mem_cons.mpr ⟨lw_p102, List.forall_mem_cons.mpr ⟨lw_p103, List.forall_mem_cons.mpr ⟨lw_p104, List.forall_mem_cons.mpr ⟨lw_p105, List.forall_mem_cons.mpr ⟨lw_p106, List.forall_mem_cons.mpr ⟨lw_p107, List.forall_mem_cons.mpr ⟨lw_p108, List.forall_mem_cons.mpr ⟨lw_p109, List.forall_mem_cons.mpr ⟨lw_p110, List.forall_mem_cons.mpr ⟨lw_p111, fun _ h => absurd h List.not_mem_nil⟩⟩⟩⟩⟩⟩⟩⟩⟩⟩⟩⟩⟩⟩⟩⟩
theorem lw_p112 : lw_okq (⟨"StrikeOutModel", "laysComes", "()V"⟩, 64) := ⟨⟨by decide +kernel, by decide +kernel⟩, List.mem_of_getElem? (i := 1044) (by decide +kernel), List.mem_of_getElem? (i := 1597) (by decide +kernel), List.mem_of_getElem? (i := 1598) (by decide +kernel)⟩
theorem lw_p113 : lw_okq (⟨"StrikeOutModel", "valueBy", "(III)I"⟩, 64) := ⟨⟨by decide +kernel, by decide +kernel⟩, List.mem_of_getElem? (i := 1044) (by decide +kernel), List.mem_of_getElem? (i := 1601) (by decide +kernel), List.mem_of_getElem? (i := 1602) (by decide +kernel)⟩
theorem lw_p114 : lw_okq (⟨"StrikeOutModel", "manyOf", "(I)I"⟩, 64) := ⟨⟨by decide +kernel, by decide +kernel⟩, List.mem_of_getElem? (i := 1044) (by decide +kernel), List.mem_of_getElem? (i := 1606) (by decide +kernel), List.mem_of_getElem? (i := 1607) (by decide +kernel)⟩
theorem lw_p115 : lw_okq (⟨"StrikeOutModel", "lostOf", "(I)I"⟩, 64) := ⟨⟨by decide +kernel, by decide +kernel⟩, List.mem_of_getElem? (i := 1044) (by decide +kernel), List.mem_of_getElem? (i := 1610) (by decide +kernel), List.mem_of_getElem? (i := 1611) (by decide +kernel)⟩
theorem lw_p116 : lw_okq (⟨"StrikeOutModel", "blankFor", "(II)I"⟩, 64) := ⟨⟨by decide +kernel, by decide +kernel⟩, List.mem_of_getElem? (i := 1044) (by decide +kernel), List.mem_of_getElem? (i := 1614) (by decide +kernel), List.mem_of_getElem? (i := 1615) (by decide +kernel)⟩
theorem lw_p117 : lw_okq (⟨"StrikeOutModel", "parentOf", "(IIII)I"⟩, 64) := ⟨⟨by decide +kernel, by decide +kernel⟩, List.mem_of_getElem? (i := 1044) (by decide +kernel), List.mem_of_getElem? (i := 1626) (by decide +kernel), List.mem_of_getElem? (i := 1627) (by decide +kernel)⟩
theorem lw_p118 : lw_okq (⟨"StrikeOutModel", "laysParent", "(I)V"⟩, 64) := ⟨⟨by decide +kernel, by decide +kernel⟩, List.mem_of_getElem? (i := 1044) (by decide +kernel), List.mem_of_getElem? (i := 1630) (by decide +kernel), List.mem_of_getElem? (i := 1631) (by decide +kernel)⟩
theorem lw_p119 : lw_okq (⟨"StrikeOutModel", "laysFollows", "(I)V"⟩, 64) := ⟨⟨by decide +kernel, by decide +kernel⟩, List.mem_of_getElem? (i := 1044) (by decide +kernel), List.mem_of_getElem? (i := 1638) (by decide +kernel), List.mem_of_getElem? (i := 1639) (by decide +kernel)⟩
theorem lw_p120 : lw_okq (⟨"StrikeOutModel", "laysLong", "()V"⟩, 64) := ⟨⟨by decide +kernel, by decide +kernel⟩, List.mem_of_getElem? (i := 1044) (by decide +kernel), List.mem_of_getElem? (i := 1642) (by decide +kernel), List.mem_of_getElem? (i := 1643) (by decide +kernel)⟩
theorem lw_p121 : lw_okq (⟨"StrikeOutModel", "longBy", "(III)I"⟩, 64) := ⟨⟨by decide +kernel, by decide +kernel⟩, List.mem_of_getElem? (i := 1044) (by decide +kernel), List.mem_of_getElem? (i := 1646) (by decide +kernel), List.mem_of_getElem? (i := 1647) (by decide +kernel)⟩
theorem lw_p122 : lw_okq (⟨"StrikeOutModel", "tapeNumber", "(I)I"⟩, 64) := ⟨⟨by decide +kernel, by decide +kernel⟩, List.mem_of_getElem? (i := 1044) (by decide +kernel), List.mem_of_getElem? (i := 1664) (by decide +kernel), List.mem_of_getElem? (i := 1665) (by decide +kernel)⟩
theorem lw_p123 : lw_okq (⟨"StrikeOutModel", "costAll", "()I"⟩, 64) := ⟨⟨by decide +kernel, by decide +kernel⟩, List.mem_of_getElem? (i := 1044) (by decide +kernel), List.mem_of_getElem? (i := 1672) (by decide +kernel), List.mem_of_getElem? (i := 1673) (by decide +kernel)⟩
def lw_privs_8 : List (MethodName × Nat) := [(⟨"StrikeOutModel", "laysComes", "()V"⟩, 64), (⟨"StrikeOutModel", "valueBy", "(III)I"⟩, 64), (⟨"StrikeOutModel", "manyOf", "(I)I"⟩, 64), (⟨"StrikeOutModel", "lostOf", "(I)I"⟩, 64), (⟨"StrikeOutModel", "blankFor", "(II)I"⟩, 64), (⟨"StrikeOutModel", "parentOf", "(IIII)I"⟩, 64), (⟨"StrikeOutModel", "laysParent", "(I)V"⟩, 64), (⟨"StrikeOutModel", "laysFollows", "(I)V"⟩, 64), (⟨"StrikeOutModel", "laysLong", "()V"⟩, 64), (⟨"StrikeOutModel", "longBy", "(III)I"⟩, 64), (⟨"StrikeOutModel", "tapeNumber", "(I)I"⟩, 64), (⟨"StrikeOutModel", "costAll", "()I"⟩, 64)]
theorem lw_r8 : ∀ q ∈ lw_privs_8, lw_okq q := List.forall_mem_cons.mpr ⟨lw_p112, List.forall_mem_cons.mpr ⟨lw_p113, List.forall_mem_cons.mpr ⟨lw_p114, List.forall_mem_cons.mpr ⟨lw_p115, List.forall_mem_cons.mpr ⟨lw_p116, List.forall_mem_cons.mpr ⟨lw_p117, List.forall_mem_cons.mpr ⟨lw_p118, List.forall_mem_cons.mpr ⟨lw_p119, List.forall_mem_cons.mpr ⟨lw_p120, List.forall_mem_cons.mpr ⟨lw_p121, List.forall_mem_cons.mpr ⟨lw_p122, List.forall_mem_cons.mpr ⟨lw_p123, fun _ h => absurd h List.not_mem_nil⟩⟩⟩⟩⟩⟩⟩⟩⟩⟩⟩⟩
def lw_privs : List (MethodName × Nat) := lw_privs_1 ++ (lw_privs_2 ++ (lw_privs_3 ++ (lw_privs_4 ++ (lw_privs_5 ++ (lw_privs_6 ++ (lw_privs_7 ++ (lw_privs_8)))))))
def lw_tbl : List Cond := k2_sels lw_privs ++ tables_1
theorem lw_privs_ok : ∀ q ∈ lw_privs, lw_okq q := by
  show ∀ q ∈ lw_privs_1 ++ (lw_privs_2 ++ (lw_privs_3 ++ (lw_privs_4 ++ (lw_privs_5 ++ (lw_privs_6 ++ (lw_privs_7 ++ (lw_privs_8))))))), lw_okq q
  exact List.forall_mem_append.mpr ⟨lw_r1, List.forall_mem_append.mpr ⟨lw_r2, List.forall_mem_append.mpr ⟨lw_r3, List.forall_mem_append.mpr ⟨lw_r4, List.forall_mem_append.mpr ⟨lw_r5, List.forall_mem_append.mpr ⟨lw_r6, List.forall_mem_append.mpr ⟨lw_r7, lw_r8⟩⟩⟩⟩⟩⟩⟩
end
section
/-! ===== BEGIN words of one list among another's, by their places ===== -/
theorem goodIn_r {big : List Cond} (ws : List Cond) (ps : List Nat) (hp : ws = ps.filterMap (fun i => big[i]?)) (h : ws.all goodWord = true) : GoodIn big ws := by
  intro w hw
  have h1 := List.all_eq_true.mp h w hw
  rw [hp] at hw
  obtain ⟨i, -, hi⟩ := List.mem_filterMap.mp hw
  have hm : w ∈ big := by first | exact List.mem_of_getElem? hi | exact List.getElem?_mem hi
  exact ⟨hm, good_of_word h1⟩
theorem goodIn_app {big a b : List Cond} (ha : GoodIn big a) (hb : GoodIn big b) : GoodIn big (a ++ b) := fun w h => (List.mem_append.mp h).elim (ha w) (hb w)
theorem goodIn_ca {big a b : List Cond} {c : Cond} (ha : GoodIn big (c :: a)) (hb : GoodIn big b) : GoodIn big (c :: (a ++ b)) := fun w h => (List.mem_cons.mp h).elim (fun e => ha w (List.mem_cons.mpr (Or.inl e))) (fun h => (List.mem_append.mp h).elim (fun h => ha w (List.mem_cons.mpr (Or.inr h))) (hb w))
theorem goodIn_sub {big ws : List Cond} (hm : ∀ w ∈ ws, w ∈ big) (h : ws.all goodWord = true) : GoodIn big ws := fun w hw => ⟨hm w hw, good_of_word (List.all_eq_true.mp h w hw)⟩
/-! ===== END ===== -/

/-! ===== BEGIN printed: names, fields, word lists, decode rows ===== -/
def RX0 : String := "StrikeOut$Blank"
def TX0 : u_T := fun k => match k with
  | 0 => ("StrikeOut$Blank", "written", "LStrikeOut$Row;", true)
  | 1 => ("StrikeOut$Blank", "rest", "LStrikeOut$Row;", true)
  | 2 => ("StrikeOut$Blank", "own", "[I", true)
  | _ => ("StrikeOut$Blank", "struck", "[Z", true)
def tyX0 : Nat → FieldType := fun k => match k with
  | 0 => .object "StrikeOut$Row"
  | 1 => .object "StrikeOut$Row"
  | 2 => .array .int
  | _ => .array .boolean
abbrev wsX00 : List Cond := u_ws RX0 TX0 4
theorem nmX0 : ∀ a, a < 4 → ∀ b, b < 4 → a ≠ b → (TX0 a).2.1 ≠ (TX0 b).2.1 := by decide +kernel
theorem tyX0_ok : ∀ k, k < 4 → parseFieldDescriptor (TX0 k).2.2.1 = some (tyX0 k) := by decide +kernel
abbrev cX0_init : ByteArray := prog_2_method_1_code
def yX0_init : MethodName := ⟨RX0, "<init>", "()V"⟩
abbrev cX0_gather : ByteArray := prog_2_method_2_code
def yX0_gather : MethodName := ⟨RX0, "gather", "()V"⟩
abbrev cX0_mark : ByteArray := prog_2_method_3_code
def yX0_mark : MethodName := ⟨RX0, "mark", "(IZ)V"⟩
abbrev cX0_ownAt : ByteArray := prog_2_method_4_code
def yX0_ownAt : MethodName := ⟨RX0, "ownAt", "(I)I"⟩
abbrev cX0_goneAt : ByteArray := prog_2_method_5_code
def yX0_goneAt : MethodName := ⟨RX0, "goneAt", "(I)I"⟩
abbrev cX0_howOften : ByteArray := prog_2_method_6_code
def yX0_howOften : MethodName := ⟨RX0, "howOften", "(I)I"⟩
def RX1 : String := "StrikeOut$Book"
def TX1 : u_T := fun k => match k with
  | 0 => ("StrikeOut$Book", "blankOf", "[I", true)
  | 1 => ("StrikeOut$Book", "clerkOf", "[I", true)
  | 2 => ("StrikeOut$Book", "dayOf", "[I", true)
  | 3 => ("StrikeOut$Book", "costOf", "[I", true)
  | 4 => ("StrikeOut$Book", "sizeOf", "[I", true)
  | 5 => ("StrikeOut$Book", "numbers", "[I", true)
  | _ => ("StrikeOut$Book", "size", "I", false)
def tyX1 : Nat → FieldType := fun k => match k with
  | 0 => .array .int
  | 1 => .array .int
  | 2 => .array .int
  | 3 => .array .int
  | 4 => .array .int
  | 5 => .array .int
  | _ => .int
abbrev wsX10 : List Cond := u_ws RX1 TX1 7
theorem nmX1 : ∀ a, a < 7 → ∀ b, b < 7 → a ≠ b → (TX1 a).2.1 ≠ (TX1 b).2.1 := by decide +kernel
theorem tyX1_ok : ∀ k, k < 7 → parseFieldDescriptor (TX1 k).2.2.1 = some (tyX1 k) := by decide +kernel
abbrev cX1_init : ByteArray := prog_3_method_1_code
def yX1_init : MethodName := ⟨RX1, "<init>", "()V"⟩
abbrev cX1_hasRoom : ByteArray := prog_3_method_2_code
def yX1_hasRoom : MethodName := ⟨RX1, "hasRoom", "(I)Z"⟩
abbrev cX1_begin : ByteArray := prog_3_method_3_code
def yX1_begin : MethodName := ⟨RX1, "begin", "(III)V"⟩
abbrev cX1_addLetter : ByteArray := prog_3_method_4_code
def yX1_addLetter : MethodName := ⟨RX1, "addLetter", "(II)V"⟩
abbrev cX1_lastOf : ByteArray := prog_3_method_5_code
def yX1_lastOf : MethodName := ⟨RX1, "lastOf", "(I)I"⟩
abbrev cX1_numberOf : ByteArray := prog_3_method_6_code
def yX1_numberOf : MethodName := ⟨RX1, "numberOf", "(II)I"⟩
abbrev cX1_remove : ByteArray := prog_3_method_7_code
def yX1_remove : MethodName := ⟨RX1, "remove", "(I)V"⟩
abbrev cX1_moveUp : ByteArray := prog_3_method_8_code
def yX1_moveUp : MethodName := ⟨RX1, "moveUp", "([III)V"⟩
abbrev cX1_costOfAll : ByteArray := prog_3_method_9_code
def yX1_costOfAll : MethodName := ⟨RX1, "costOfAll", "()I"⟩
abbrev cX1_tell : ByteArray := prog_3_method_10_code
def yX1_tell : MethodName := ⟨RX1, "tell", "(II)I"⟩
def RX2 : String := "StrikeOut$Choice"
def TX2 : u_T := fun k => match k with
  | 0 => ("StrikeOut$Choice", "free", "[Z", true)
  | 1 => ("StrikeOut$Choice", "price", "[I", true)
  | 2 => ("StrikeOut$Choice", "stays", "[I", true)
  | _ => ("StrikeOut$Choice", "least", "[I", true)
def tyX2 : Nat → FieldType := fun k => match k with
  | 0 => .array .boolean
  | 1 => .array .int
  | 2 => .array .int
  | _ => .array .int
abbrev wsX20 : List Cond := u_ws RX2 TX2 4
theorem nmX2 : ∀ a, a < 4 → ∀ b, b < 4 → a ≠ b → (TX2 a).2.1 ≠ (TX2 b).2.1 := by decide +kernel
theorem tyX2_ok : ∀ k, k < 4 → parseFieldDescriptor (TX2 k).2.2.1 = some (tyX2 k) := by decide +kernel
abbrev cX2_init : ByteArray := prog_4_method_1_code
def yX2_init : MethodName := ⟨RX2, "<init>", "()V"⟩
abbrev cX2_choose : ByteArray := prog_4_method_2_code
def yX2_choose : MethodName := ⟨RX2, "choose", "(LStrikeOut$Row;LStrikeOut$Row;)I"⟩
abbrev cX2_ifStruck : ByteArray := prog_4_method_3_code
def yX2_ifStruck : MethodName := ⟨RX2, "ifStruck", "(II)I"⟩
abbrev cX2_ifKept : ByteArray := prog_4_method_4_code
def yX2_ifKept : MethodName := ⟨RX2, "ifKept", "(LStrikeOut$Row;LStrikeOut$Row;II)I"⟩
abbrev cX2_trace : ByteArray := prog_4_method_5_code
def yX2_trace : MethodName := ⟨RX2, "trace", "(LStrikeOut$Row;LStrikeOut$Row;)V"⟩
def RX3 : String := "StrikeOut$Cover"
def TX3 : u_T := fun k => match k with
  | 0 => ("StrikeOut$Cover", "first", "LStrikeOut$Row;", true)
  | 1 => ("StrikeOut$Cover", "solvedFor", "I", false)
  | 2 => ("StrikeOut$Cover", "parts", "[LStrikeOut$Row;", true)
  | 3 => ("StrikeOut$Cover", "nothing", "LStrikeOut$Row;", true)
  | 4 => ("StrikeOut$Cover", "partCount", "I", false)
  | 5 => ("StrikeOut$Cover", "at", "[I", true)
  | 6 => ("StrikeOut$Cover", "apart", "[I", true)
  | 7 => ("StrikeOut$Cover", "ahead", "[I", true)
  | 8 => ("StrikeOut$Cover", "length", "[I", true)
  | _ => ("StrikeOut$Cover", "many", "[J", true)
def tyX3 : Nat → FieldType := fun k => match k with
  | 0 => .object "StrikeOut$Row"
  | 1 => .int
  | 2 => .array (.object "StrikeOut$Row")
  | 3 => .object "StrikeOut$Row"
  | 4 => .int
  | 5 => .array .int
  | 6 => .array .int
  | 7 => .array .int
  | 8 => .array .int
  | _ => .array .long
abbrev wsX30 : List Cond := u_ws RX3 TX3 10
theorem nmX3 : ∀ a, a < 10 → ∀ b, b < 10 → a ≠ b → (TX3 a).2.1 ≠ (TX3 b).2.1 := by decide +kernel
theorem tyX3_ok : ∀ k, k < 10 → parseFieldDescriptor (TX3 k).2.2.1 = some (tyX3 k) := by decide +kernel
abbrev cX3_init : ByteArray := prog_5_method_1_code
def yX3_init : MethodName := ⟨RX3, "<init>", "()V"⟩
abbrev cX3_clearParts : ByteArray := prog_5_method_2_code
def yX3_clearParts : MethodName := ⟨RX3, "clearParts", "()V"⟩
abbrev cX3_addPart : ByteArray := prog_5_method_3_code
def yX3_addPart : MethodName := ⟨RX3, "addPart", "(LStrikeOut$Row;)V"⟩
abbrev cX3_howMany : ByteArray := prog_5_method_4_code
def yX3_howMany : MethodName := ⟨RX3, "howMany", "()J"⟩
abbrev cX3_solve : ByteArray := prog_5_method_5_code
def yX3_solve : MethodName := ⟨RX3, "solve", "()V"⟩
abbrev cX3_settle : ByteArray := prog_5_method_6_code
def yX3_settle : MethodName := ⟨RX3, "settle", "(I)V"⟩
abbrev cX3_lookAhead : ByteArray := prog_5_method_7_code
def yX3_lookAhead : MethodName := ⟨RX3, "lookAhead", "()V"⟩
abbrev cX3_takeLetter : ByteArray := prog_5_method_8_code
def yX3_takeLetter : MethodName := ⟨RX3, "takeLetter", "(I)I"⟩
abbrev cX3_trace : ByteArray := prog_5_method_9_code
def yX3_trace : MethodName := ⟨RX3, "trace", "()V"⟩
abbrev cX3_settleLetter : ByteArray := prog_5_method_10_code
def yX3_settleLetter : MethodName := ⟨RX3, "settleLetter", "(I)V"⟩
def RX4 : String := "StrikeOut$Fits"
def TX4 : u_T := fun k => match k with
  | 0 => ("StrikeOut$Fits", "few", "[I", true)
  | _ => ("StrikeOut$Fits", "many", "[J", true)
def tyX4 : Nat → FieldType := fun k => match k with
  | 0 => .array .int
  | _ => .array .long
abbrev wsX40 : List Cond := u_ws RX4 TX4 2
theorem nmX4 : ∀ a, a < 2 → ∀ b, b < 2 → a ≠ b → (TX4 a).2.1 ≠ (TX4 b).2.1 := by decide +kernel
theorem tyX4_ok : ∀ k, k < 2 → parseFieldDescriptor (TX4 k).2.2.1 = some (tyX4 k) := by decide +kernel
abbrev cX4_init : ByteArray := prog_6_method_1_code
def yX4_init : MethodName := ⟨RX4, "<init>", "()V"⟩
abbrev cX4_strokesFor : ByteArray := prog_6_method_2_code
def yX4_strokesFor : MethodName := ⟨RX4, "strokesFor", "(II)I"⟩
abbrev cX4_fewestStrokes : ByteArray := prog_6_method_3_code
def yX4_fewestStrokes : MethodName := ⟨RX4, "fewestStrokes", "(LStrikeOut$Row;LStrikeOut$Row;I)I"⟩
abbrev cX4_fewestTo : ByteArray := prog_6_method_4_code
def yX4_fewestTo : MethodName := ⟨RX4, "fewestTo", "(II)I"⟩
abbrev cX4_evenChoices : ByteArray := prog_6_method_5_code
def yX4_evenChoices : MethodName := ⟨RX4, "evenChoices", "(LStrikeOut$Row;LStrikeOut$Row;I)J"⟩
abbrev cX4_manyTo : ByteArray := prog_6_method_6_code
def yX4_manyTo : MethodName := ⟨RX4, "manyTo", "(II)J"⟩
def RX5 : String := "StrikeOut$Hiding"
def TX5 : u_T := fun k => match k with
  | 0 => ("StrikeOut$Hiding", "found", "LStrikeOut$Row;", true)
  | 1 => ("StrikeOut$Hiding", "solvedFor", "I", false)
  | _ => ("StrikeOut$Hiding", "most", "[I", true)
def tyX5 : Nat → FieldType := fun k => match k with
  | 0 => .object "StrikeOut$Row"
  | 1 => .int
  | _ => .array .int
abbrev wsX50 : List Cond := u_ws RX5 TX5 3
theorem nmX5 : ∀ a, a < 3 → ∀ b, b < 3 → a ≠ b → (TX5 a).2.1 ≠ (TX5 b).2.1 := by decide +kernel
theorem tyX5_ok : ∀ k, k < 3 → parseFieldDescriptor (TX5 k).2.2.1 = some (tyX5 k) := by decide +kernel
abbrev cX5_init : ByteArray := prog_7_method_1_code
def yX5_init : MethodName := ⟨RX5, "<init>", "()V"⟩
abbrev cX5_cell : ByteArray := prog_7_method_2_code
def yX5_cell : MethodName := ⟨RX5, "cell", "(III)I"⟩
abbrev cX5_solve : ByteArray := prog_7_method_3_code
def yX5_solve : MethodName := ⟨RX5, "solve", "(LStrikeOut$Row;LStrikeOut$Row;LStrikeOut$Row;)V"⟩
abbrev cX5_mostFrom : ByteArray := prog_7_method_4_code
def yX5_mostFrom : MethodName := ⟨RX5, "mostFrom", "(LStrikeOut$Row;LStrikeOut$Row;LStrikeOut$Row;III)I"⟩
abbrev cX5_trace : ByteArray := prog_7_method_5_code
def yX5_trace : MethodName := ⟨RX5, "trace", "(LStrikeOut$Row;LStrikeOut$Row;LStrikeOut$Row;)V"⟩
def RX6 : String := "StrikeOut$Law"
def TX6 : u_T := fun k => match k with
  | 0 => ("StrikeOut$Law", "sign", "[I", true)
  | 1 => ("StrikeOut$Law", "operand", "[I", true)
  | 2 => ("StrikeOut$Law", "length", "I", false)
  | 3 => ("StrikeOut$Law", "kindOf", "[I", true)
  | 4 => ("StrikeOut$Law", "priceFrom", "[I", true)
  | 5 => ("StrikeOut$Law", "conditionFrom", "[I", true)
  | 6 => ("StrikeOut$Law", "endOf", "[I", true)
  | 7 => ("StrikeOut$Law", "clauses", "I", false)
  | 8 => ("StrikeOut$Law", "seen", "[I", true)
  | 9 => ("StrikeOut$Law", "stack", "[I", true)
  | 10 => ("StrikeOut$Law", "height", "I", false)
  | _ => ("StrikeOut$Law", "refused", "Z", false)
def tyX6 : Nat → FieldType := fun k => match k with
  | 0 => .array .int
  | 1 => .array .int
  | 2 => .int
  | 3 => .array .int
  | 4 => .array .int
  | 5 => .array .int
  | 6 => .array .int
  | 7 => .int
  | 8 => .array .int
  | 9 => .array .int
  | 10 => .int
  | _ => .boolean
abbrev wsX60 : List Cond := u_ws RX6 TX6 12
theorem nmX6 : ∀ a, a < 12 → ∀ b, b < 12 → a ≠ b → (TX6 a).2.1 ≠ (TX6 b).2.1 := by decide +kernel
theorem tyX6_ok : ∀ k, k < 12 → parseFieldDescriptor (TX6 k).2.2.1 = some (tyX6 k) := by decide +kernel
abbrev cX6_init : ByteArray := prog_8_method_1_code
def yX6_init : MethodName := ⟨RX6, "<init>", "()V"⟩
abbrev cX6_clear : ByteArray := prog_8_method_2_code
def yX6_clear : MethodName := ⟨RX6, "clear", "()V"⟩
abbrev cX6_beginClause : ByteArray := prog_8_method_3_code
def yX6_beginClause : MethodName := ⟨RX6, "beginClause", "(I)V"⟩
abbrev cX6_beginCondition : ByteArray := prog_8_method_4_code
def yX6_beginCondition : MethodName := ⟨RX6, "beginCondition", "()V"⟩
abbrev cX6_endClause : ByteArray := prog_8_method_5_code
def yX6_endClause : MethodName := ⟨RX6, "endClause", "()V"⟩
abbrev cX6_steps : ByteArray := prog_8_method_6_code
def yX6_steps : MethodName := ⟨RX6, "steps", "()I"⟩
abbrev cX6_emit : ByteArray := prog_8_method_7_code
def yX6_emit : MethodName := ⟨RX6, "emit", "(II)V"⟩
abbrev cX6_aimLeaps : ByteArray := prog_8_method_8_code
def yX6_aimLeaps : MethodName := ⟨RX6, "aimLeaps", "(II)V"⟩
abbrev cX6_show : ByteArray := prog_8_method_9_code
def yX6_show : MethodName := ⟨RX6, "show", "(LStrikeOut$Blank;IIII)V"⟩
abbrev cX6_forbids : ByteArray := prog_8_method_10_code
def yX6_forbids : MethodName := ⟨RX6, "forbids", "()Z"⟩
abbrev cX6_priceNow : ByteArray := prog_8_method_11_code
def yX6_priceNow : MethodName := ⟨RX6, "priceNow", "()I"⟩
abbrev cX6_holds : ByteArray := prog_8_method_12_code
def yX6_holds : MethodName := ⟨RX6, "holds", "(I)Z"⟩
abbrev cX6_reckon : ByteArray := prog_8_method_13_code
def yX6_reckon : MethodName := ⟨RX6, "reckon", "(II)I"⟩
abbrev cX6_takeStep : ByteArray := prog_8_method_14_code
def yX6_takeStep : MethodName := ⟨RX6, "takeStep", "(II)V"⟩
abbrev cX6_join : ByteArray := prog_8_method_15_code
def yX6_join : MethodName := ⟨RX6, "join", "(III)I"⟩
abbrev cX6_push : ByteArray := prog_8_method_16_code
def yX6_push : MethodName := ⟨RX6, "push", "(I)V"⟩
abbrev cX6_pop : ByteArray := prog_8_method_17_code
def yX6_pop : MethodName := ⟨RX6, "pop", "()I"⟩
def RX7 : String := "StrikeOut$LawReader"
def TX7 : u_T := fun k => match k with
  | 0 => ("StrikeOut$LawReader", "text", "[I", true)
  | 1 => ("StrikeOut$LawReader", "into", "LStrikeOut$Law;", false)
  | 2 => ("StrikeOut$LawReader", "end", "I", false)
  | 3 => ("StrikeOut$LawReader", "at", "I", false)
  | _ => ("StrikeOut$LawReader", "fault", "I", false)
def tyX7 : Nat → FieldType := fun k => match k with
  | 0 => .array .int
  | 1 => .object "StrikeOut$Law"
  | 2 => .int
  | 3 => .int
  | _ => .int
abbrev wsX70 : List Cond := u_ws RX7 TX7 5
theorem nmX7 : ∀ a, a < 5 → ∀ b, b < 5 → a ≠ b → (TX7 a).2.1 ≠ (TX7 b).2.1 := by decide +kernel
theorem tyX7_ok : ∀ k, k < 5 → parseFieldDescriptor (TX7 k).2.2.1 = some (tyX7 k) := by decide +kernel
abbrev cX7_init : ByteArray := prog_9_method_1_code
def yX7_init : MethodName := ⟨RX7, "<init>", "()V"⟩
abbrev cX7_exchange : ByteArray := prog_9_method_2_code
def yX7_exchange : MethodName := ⟨RX7, "exchange", "(LStrikeOut$Law;)LStrikeOut$Law;"⟩
abbrev cX7_read : ByteArray := prog_9_method_3_code
def yX7_read : MethodName := ⟨RX7, "read", "([II)I"⟩
abbrev cX7_peek : ByteArray := prog_9_method_4_code
def yX7_peek : MethodName := ⟨RX7, "peek", "()I"⟩
abbrev cX7_fail : ByteArray := prog_9_method_5_code
def yX7_fail : MethodName := ⟨RX7, "fail", "(I)Z"⟩
abbrev cX7_pass : ByteArray := prog_9_method_6_code
def yX7_pass : MethodName := ⟨RX7, "pass", "(I)Z"⟩
abbrev cX7_open : ByteArray := prog_9_method_7_code
def yX7_open : MethodName := ⟨RX7, "open", "(I)Z"⟩
abbrev cX7_readClause : ByteArray := prog_9_method_8_code
def yX7_readClause : MethodName := ⟨RX7, "readClause", "(I)Z"⟩
abbrev cX7_readCondition : ByteArray := prog_9_method_9_code
def yX7_readCondition : MethodName := ⟨RX7, "readCondition", "(I)Z"⟩
abbrev cX7_readPart : ByteArray := prog_9_method_10_code
def yX7_readPart : MethodName := ⟨RX7, "readPart", "(I)Z"⟩
abbrev cX7_readPiece : ByteArray := prog_9_method_11_code
def yX7_readPiece : MethodName := ⟨RX7, "readPiece", "(I)Z"⟩
abbrev cX7_readSum : ByteArray := prog_9_method_12_code
def yX7_readSum : MethodName := ⟨RX7, "readSum", "(I)Z"⟩
abbrev cX7_readTerm : ByteArray := prog_9_method_13_code
def yX7_readTerm : MethodName := ⟨RX7, "readTerm", "(I)Z"⟩
abbrev cX7_timesAhead : ByteArray := prog_9_method_14_code
def yX7_timesAhead : MethodName := ⟨RX7, "timesAhead", "()Z"⟩
abbrev cX7_readFactor : ByteArray := prog_9_method_15_code
def yX7_readFactor : MethodName := ⟨RX7, "readFactor", "(I)Z"⟩
abbrev cX7_digitAhead : ByteArray := prog_9_method_16_code
def yX7_digitAhead : MethodName := ⟨RX7, "digitAhead", "()Z"⟩
abbrev cX7_readNumber : ByteArray := prog_9_method_17_code
def yX7_readNumber : MethodName := ⟨RX7, "readNumber", "()Z"⟩
def RX8 : String := "StrikeOut$Row"
def TX8 : u_T := fun k => match k with
  | 0 => ("StrikeOut$Row", "letters", "[I", true)
  | _ => ("StrikeOut$Row", "size", "I", false)
def tyX8 : Nat → FieldType := fun k => match k with
  | 0 => .array .int
  | _ => .int
abbrev wsX80 : List Cond := u_ws RX8 TX8 2
theorem nmX8 : ∀ a, a < 2 → ∀ b, b < 2 → a ≠ b → (TX8 a).2.1 ≠ (TX8 b).2.1 := by decide +kernel
theorem tyX8_ok : ∀ k, k < 2 → parseFieldDescriptor (TX8 k).2.2.1 = some (tyX8 k) := by decide +kernel
abbrev cX8_init : ByteArray := prog_10_method_1_code
def yX8_init : MethodName := ⟨RX8, "<init>", "(I)V"⟩
abbrev cX8_at : ByteArray := prog_10_method_2_code
def yX8_at : MethodName := ⟨RX8, "at", "(I)I"⟩
abbrev cX8_add : ByteArray := prog_10_method_3_code
def yX8_add : MethodName := ⟨RX8, "add", "(I)V"⟩
abbrev cX8_placeOf : ByteArray := prog_10_method_4_code
def yX8_placeOf : MethodName := ⟨RX8, "placeOf", "(II)I"⟩
abbrev cX8_comesFrom : ByteArray := prog_10_method_5_code
def yX8_comesFrom : MethodName := ⟨RX8, "comesFrom", "(LStrikeOut$Row;)Z"⟩
abbrev cX8_comesWithout : ByteArray := prog_10_method_6_code
def yX8_comesWithout : MethodName := ⟨RX8, "comesWithout", "(LStrikeOut$Row;I)Z"⟩
def RX9 : String := "StrikeOut$Sharing"
def TX9 : u_T := fun k => match k with
  | 0 => ("StrikeOut$Sharing", "blankOf", "[I", true)
  | 1 => ("StrikeOut$Sharing", "served", "I", false)
  | 2 => ("StrikeOut$Sharing", "lost", "I", false)
  | 3 => ("StrikeOut$Sharing", "gain", "[I", true)
  | _ => ("StrikeOut$Sharing", "best", "[I", true)
def tyX9 : Nat → FieldType := fun k => match k with
  | 0 => .array .int
  | 1 => .int
  | 2 => .int
  | 3 => .array .int
  | _ => .array .int
abbrev wsX90 : List Cond := u_ws RX9 TX9 5
theorem nmX9 : ∀ a, a < 5 → ∀ b, b < 5 → a ≠ b → (TX9 a).2.1 ≠ (TX9 b).2.1 := by decide +kernel
theorem tyX9_ok : ∀ k, k < 5 → parseFieldDescriptor (TX9 k).2.2.1 = some (tyX9 k) := by decide +kernel
abbrev cX9_init : ByteArray := prog_11_method_1_code
def yX9_init : MethodName := ⟨RX9, "<init>", "()V"⟩
abbrev cX9_weigh : ByteArray := prog_11_method_2_code
def yX9_weigh : MethodName := ⟨RX9, "weigh", "(III)V"⟩
abbrev cX9_solve : ByteArray := prog_11_method_3_code
def yX9_solve : MethodName := ⟨RX9, "solve", "(I)V"⟩
abbrev cX9_withBlank : ByteArray := prog_11_method_4_code
def yX9_withBlank : MethodName := ⟨RX9, "withBlank", "(III)I"⟩
abbrev cX9_trace : ByteArray := prog_11_method_5_code
def yX9_trace : MethodName := ⟨RX9, "trace", "(I)V"⟩
def RX10 : String := "StrikeOut$Tape"
def TX10 : u_T := fun k => match k with
  | 0 => ("StrikeOut$Tape", "bytes", "[I", true)
  | _ => ("StrikeOut$Tape", "size", "I", false)
def tyX10 : Nat → FieldType := fun k => match k with
  | 0 => .array .int
  | _ => .int
abbrev wsX100 : List Cond := u_ws RX10 TX10 2
theorem nmX10 : ∀ a, a < 2 → ∀ b, b < 2 → a ≠ b → (TX10 a).2.1 ≠ (TX10 b).2.1 := by decide +kernel
theorem tyX10_ok : ∀ k, k < 2 → parseFieldDescriptor (TX10 k).2.2.1 = some (tyX10 k) := by decide +kernel
abbrev cX10_init : ByteArray := prog_12_method_1_code
def yX10_init : MethodName := ⟨RX10, "<init>", "()V"⟩
abbrev cX10_hasRoom : ByteArray := prog_12_method_2_code
def yX10_hasRoom : MethodName := ⟨RX10, "hasRoom", "(I)Z"⟩
abbrev cX10_put : ByteArray := prog_12_method_3_code
def yX10_put : MethodName := ⟨RX10, "put", "(I)V"⟩
abbrev cX10_holdsLetters : ByteArray := prog_12_method_4_code
def yX10_holdsLetters : MethodName := ⟨RX10, "holdsLetters", "(I)Z"⟩
abbrev cX10_copyLetters : ByteArray := prog_12_method_5_code
def yX10_copyLetters : MethodName := ⟨RX10, "copyLetters", "(ILStrikeOut$Row;)V"⟩
abbrev cX10_numberAt : ByteArray := prog_12_method_6_code
def yX10_numberAt : MethodName := ⟨RX10, "numberAt", "(I)I"⟩
def RX11 : String := "StrikeOut"
def TX11 : u_T := fun k => match k with
  | 0 => ("StrikeOut", "tape", "LStrikeOut$Tape;", true)
  | 1 => ("StrikeOut", "blanks", "[LStrikeOut$Blank;", true)
  | 2 => ("StrikeOut", "blankCount", "I", false)
  | 3 => ("StrikeOut", "deedRows", "[LStrikeOut$Row;", true)
  | 4 => ("StrikeOut", "law", "LStrikeOut$Law;", false)
  | 5 => ("StrikeOut", "reader", "LStrikeOut$LawReader;", true)
  | 6 => ("StrikeOut", "pages", "LStrikeOut$Book;", true)
  | 7 => ("StrikeOut", "today", "I", false)
  | 8 => ("StrikeOut", "drawn", "I", false)
  | 9 => ("StrikeOut", "fits", "LStrikeOut$Fits;", true)
  | 10 => ("StrikeOut", "choice", "LStrikeOut$Choice;", true)
  | 11 => ("StrikeOut", "hiding", "LStrikeOut$Hiding;", true)
  | 12 => ("StrikeOut", "cover", "LStrikeOut$Cover;", false)
  | 13 => ("StrikeOut", "sharing", "LStrikeOut$Sharing;", true)
  | 14 => ("StrikeOut", "parents", "[I", true)
  | 15 => ("StrikeOut", "longest", "[I", true)
  | _ => ("StrikeOut", "chained", "[I", true)
def tyX11 : Nat → FieldType := fun k => match k with
  | 0 => .object "StrikeOut$Tape"
  | 1 => .array (.object "StrikeOut$Blank")
  | 2 => .int
  | 3 => .array (.object "StrikeOut$Row")
  | 4 => .object "StrikeOut$Law"
  | 5 => .object "StrikeOut$LawReader"
  | 6 => .object "StrikeOut$Book"
  | 7 => .int
  | 8 => .int
  | 9 => .object "StrikeOut$Fits"
  | 10 => .object "StrikeOut$Choice"
  | 11 => .object "StrikeOut$Hiding"
  | 12 => .object "StrikeOut$Cover"
  | 13 => .object "StrikeOut$Sharing"
  | 14 => .array .int
  | 15 => .array .int
  | _ => .array .int
abbrev wsX110 : List Cond := u_ws RX11 TX11 17
theorem nmX11 : ∀ a, a < 17 → ∀ b, b < 17 → a ≠ b → (TX11 a).2.1 ≠ (TX11 b).2.1 := by decide +kernel
theorem tyX11_ok : ∀ k, k < 17 → parseFieldDescriptor (TX11 k).2.2.1 = some (tyX11 k) := by decide +kernel
abbrev cX11_init : ByteArray := prog_1_method_1_code
def yX11_init : MethodName := ⟨RX11, "<init>", "()V"⟩
abbrev cX11_day : ByteArray := prog_1_method_2_code
def yX11_day : MethodName := ⟨RX11, "day", "(I)Z"⟩
abbrev cX11_feed : ByteArray := prog_1_method_3_code
def yX11_feed : MethodName := ⟨RX11, "feed", "(IIIII)I"⟩
abbrev cX11_blank : ByteArray := prog_1_method_4_code
def yX11_blank : MethodName := ⟨RX11, "blank", "(I)I"⟩
abbrev cX11_deed : ByteArray := prog_1_method_5_code
def yX11_deed : MethodName := ⟨RX11, "deed", "(II)I"⟩
abbrev cX11_law : ByteArray := prog_1_method_6_code
def yX11_law : MethodName := ⟨RX11, "law", "(I)I"⟩
abbrev cX11_left : ByteArray := prog_1_method_7_code
def yX11_left : MethodName := ⟨RX11, "left", "(III)I"⟩
abbrev cX11_may : ByteArray := prog_1_method_8_code
def yX11_may : MethodName := ⟨RX11, "may", "(IIII)I"⟩
abbrev cX11_strike : ByteArray := prog_1_method_9_code
def yX11_strike : MethodName := ⟨RX11, "strike", "(IIII)I"⟩
abbrev cX11_back : ByteArray := prog_1_method_10_code
def yX11_back : MethodName := ⟨RX11, "back", "(I)I"⟩
abbrev cX11_book : ByteArray := prog_1_method_11_code
def yX11_book : MethodName := ⟨RX11, "book", "(II)I"⟩
abbrev cX11_ways : ByteArray := prog_1_method_12_code
def yX11_ways : MethodName := ⟨RX11, "ways", "(II)J"⟩
abbrev cX11_cheapest : ByteArray := prog_1_method_13_code
def yX11_cheapest : MethodName := ⟨RX11, "cheapest", "(IIII)I"⟩
abbrev cX11_done : ByteArray := prog_1_method_14_code
def yX11_done : MethodName := ⟨RX11, "done", "(III)I"⟩
abbrev cX11_strokes : ByteArray := prog_1_method_15_code
def yX11_strokes : MethodName := ⟨RX11, "strokes", "(III)I"⟩
abbrev cX11_even : ByteArray := prog_1_method_16_code
def yX11_even : MethodName := ⟨RX11, "even", "(III)J"⟩
abbrev cX11_hidden : ByteArray := prog_1_method_17_code
def yX11_hidden : MethodName := ⟨RX11, "hidden", "(II)I"⟩
abbrev cX11_shortest : ByteArray := prog_1_method_18_code
def yX11_shortest : MethodName := ⟨RX11, "shortest", "(II)I"⟩
abbrev cX11_shortestMany : ByteArray := prog_1_method_19_code
def yX11_shortestMany : MethodName := ⟨RX11, "shortestMany", "(I)J"⟩
abbrev cX11_bound : ByteArray := prog_1_method_20_code
def yX11_bound : MethodName := ⟨RX11, "bound", "(I)I"⟩
abbrev cX11_forged : ByteArray := prog_1_method_21_code
def yX11_forged : MethodName := ⟨RX11, "forged", "(I)I"⟩
abbrev cX11_spare : ByteArray := prog_1_method_22_code
def yX11_spare : MethodName := ⟨RX11, "spare", "(II)J"⟩
abbrev cX11_dayEnd : ByteArray := prog_1_method_23_code
def yX11_dayEnd : MethodName := ⟨RX11, "dayEnd", "(II)I"⟩
abbrev cX11_worth : ByteArray := prog_1_method_24_code
def yX11_worth : MethodName := ⟨RX11, "worth", "(III)I"⟩
abbrev cX11_family : ByteArray := prog_1_method_25_code
def yX11_family : MethodName := ⟨RX11, "family", "(IIII)I"⟩
abbrev cX11_chain : ByteArray := prog_1_method_26_code
def yX11_chain : MethodName := ⟨RX11, "chain", "(II)I"⟩
abbrev cX11_seed : ByteArray := prog_1_method_27_code
def yX11_seed : MethodName := ⟨RX11, "seed", "(I)Z"⟩
abbrev cX11_draw : ByteArray := prog_1_method_28_code
def yX11_draw : MethodName := ⟨RX11, "draw", "(II)I"⟩
abbrev cX11_check : ByteArray := prog_1_method_29_code
def yX11_check : MethodName := ⟨RX11, "check", "(II)I"⟩
abbrev cX11_count : ByteArray := prog_1_method_30_code
def yX11_count : MethodName := ⟨RX11, "count", "(I)I"⟩
abbrev cX11_isBlank : ByteArray := prog_1_method_31_code
def yX11_isBlank : MethodName := ⟨RX11, "isBlank", "(I)Z"⟩
abbrev cX11_isPlace : ByteArray := prog_1_method_32_code
def yX11_isPlace : MethodName := ⟨RX11, "isPlace", "(II)Z"⟩
abbrev cX11_isDeed : ByteArray := prog_1_method_33_code
def yX11_isDeed : MethodName := ⟨RX11, "isDeed", "(I)Z"⟩
abbrev cX11_isClerk : ByteArray := prog_1_method_34_code
def yX11_isClerk : MethodName := ⟨RX11, "isClerk", "(I)Z"⟩
abbrev cX11_isWidth : ByteArray := prog_1_method_35_code
def yX11_isWidth : MethodName := ⟨RX11, "isWidth", "(I)Z"⟩
abbrev cX11_isAmong : ByteArray := prog_1_method_36_code
def yX11_isAmong : MethodName := ⟨RX11, "isAmong", "(II)Z"⟩
abbrev cX11_toldDeeds : ByteArray := prog_1_method_37_code
def yX11_toldDeeds : MethodName := ⟨RX11, "toldDeeds", "()I"⟩
abbrev cX11_areDeeds : ByteArray := prog_1_method_38_code
def yX11_areDeeds : MethodName := ⟨RX11, "areDeeds", "(I)Z"⟩
abbrev cX11_deedAmong : ByteArray := prog_1_method_39_code
def yX11_deedAmong : MethodName := ⟨RX11, "deedAmong", "(II)LStrikeOut$Row;"⟩
abbrev cX11_allCome : ByteArray := prog_1_method_40_code
def yX11_allCome : MethodName := ⟨RX11, "allCome", "(ILStrikeOut$Row;I)Z"⟩
abbrev cX11_askLaw : ByteArray := prog_1_method_41_code
def yX11_askLaw : MethodName := ⟨RX11, "askLaw", "(IIII)V"⟩
abbrev cX11_writeStroke : ByteArray := prog_1_method_42_code
def yX11_writeStroke : MethodName := ⟨RX11, "writeStroke", "(IIII)I"⟩
abbrev cX11_countGapStrokes : ByteArray := prog_1_method_43_code
def yX11_countGapStrokes : MethodName := ⟨RX11, "countGapStrokes", "(II)I"⟩
abbrev cX11_strikeGap : ByteArray := prog_1_method_44_code
def yX11_strikeGap : MethodName := ⟨RX11, "strikeGap", "(IIII)V"⟩
abbrev cX11_forgetSolved : ByteArray := prog_1_method_45_code
def yX11_forgetSolved : MethodName := ⟨RX11, "forgetSolved", "()V"⟩
abbrev cX11_refuseCover : ByteArray := prog_1_method_46_code
def yX11_refuseCover : MethodName := ⟨RX11, "refuseCover", "(I)I"⟩
abbrev cX11_coverFor : ByteArray := prog_1_method_47_code
def yX11_coverFor : MethodName := ⟨RX11, "coverFor", "(I)LStrikeOut$Cover;"⟩
abbrev cX11_weighSharing : ByteArray := prog_1_method_48_code
def yX11_weighSharing : MethodName := ⟨RX11, "weighSharing", "(I)V"⟩
abbrev cX11_descends : ByteArray := prog_1_method_49_code
def yX11_descends : MethodName := ⟨RX11, "descends", "(II)Z"⟩
abbrev cX11_findParent : ByteArray := prog_1_method_50_code
def yX11_findParent : MethodName := ⟨RX11, "findParent", "(IIII)I"⟩
abbrev cX11_measureChains : ByteArray := prog_1_method_51_code
def yX11_measureChains : MethodName := ⟨RX11, "measureChains", "()V"⟩
abbrev cX11_longestBehind : ByteArray := prog_1_method_52_code
def yX11_longestBehind : MethodName := ⟨RX11, "longestBehind", "(I)I"⟩
abbrev cX11_linkChain : ByteArray := prog_1_method_53_code
def yX11_linkChain : MethodName := ⟨RX11, "linkChain", "(LStrikeOut$Row;)I"⟩
abbrev cX11_nextInChain : ByteArray := prog_1_method_54_code
def yX11_nextInChain : MethodName := ⟨RX11, "nextInChain", "(I)I"⟩
def RX12 : String := "StrikeOutModel"
def TX12 : u_T := fun k => match k with
  | 0 => ("StrikeOutModel", "blanks", "I", false)
  | 1 => ("StrikeOutModel", "now", "I", false)
  | 2 => ("StrikeOutModel", "x0", "I", false)
  | 3 => ("StrikeOutModel", "strokesMade", "I", false)
  | 4 => ("StrikeOutModel", "toldDeeds", "I", false)
  | 5 => ("StrikeOutModel", "blankLong", "[I", true)
  | 6 => ("StrikeOutModel", "letterOf", "[I", true)
  | 7 => ("StrikeOutModel", "deedLong", "[I", true)
  | 8 => ("StrikeOutModel", "deedLetter", "[I", true)
  | 9 => ("StrikeOutModel", "isStruck", "[Z", true)
  | 10 => ("StrikeOutModel", "tape", "[B", true)
  | 11 => ("StrikeOutModel", "taped", "I", false)
  | 12 => ("StrikeOutModel", "place0", "I", false)
  | 13 => ("StrikeOutModel", "length0", "I", false)
  | 14 => ("StrikeOutModel", "fault", "I", false)
  | 15 => ("StrikeOutModel", "open", "I", false)
  | 16 => ("StrikeOutModel", "codeMany", "I", false)
  | 17 => ("StrikeOutModel", "waiting", "I", false)
  | 18 => ("StrikeOutModel", "saidMany", "I", false)
  | 19 => ("StrikeOutModel", "number0", "I", false)
  | 20 => ("StrikeOutModel", "clauses", "I", false)
  | 21 => ("StrikeOutModel", "said", "[I", true)
  | 22 => ("StrikeOutModel", "waits", "[I", true)
  | 23 => ("StrikeOutModel", "saidLetter", "[I", true)
  | 24 => ("StrikeOutModel", "saidFrom", "[I", true)
  | 25 => ("StrikeOutModel", "saidHalf", "[I", true)
  | 26 => ("StrikeOutModel", "saidTo", "[I", true)
  | 27 => ("StrikeOutModel", "codes", "[I", true)
  | 28 => ("StrikeOutModel", "clauseOf", "[I", true)
  | 29 => ("StrikeOutModel", "codeFrom", "[I", true)
  | 30 => ("StrikeOutModel", "codeHalf", "[I", true)
  | 31 => ("StrikeOutModel", "codeTo", "[I", true)
  | 32 => ("StrikeOutModel", "stack", "[I", true)
  | 33 => ("StrikeOutModel", "facts", "[I", true)
  | 34 => ("StrikeOutModel", "strokeBlank", "[I", true)
  | 35 => ("StrikeOutModel", "strokeClerk", "[I", true)
  | 36 => ("StrikeOutModel", "strokeDay", "[I", true)
  | 37 => ("StrikeOutModel", "strokeCost", "[I", true)
  | 38 => ("StrikeOutModel", "strokeMany", "[I", true)
  | 39 => ("StrikeOutModel", "strokeNumber", "[I", true)
  | 40 => ("StrikeOutModel", "long0", "I", false)
  | 41 => ("StrikeOutModel", "long1", "I", false)
  | 42 => ("StrikeOutModel", "row", "[I", true)
  | 43 => ("StrikeOutModel", "deedRow", "[I", true)
  | 44 => ("StrikeOutModel", "waysFrom", "[J", true)
  | 45 => ("StrikeOutModel", "goesFor", "[I", true)
  | 46 => ("StrikeOutModel", "cheapFrom", "[I", true)
  | 47 => ("StrikeOutModel", "stays", "[I", true)
  | 48 => ("StrikeOutModel", "fewFrom", "[I", true)
  | 49 => ("StrikeOutModel", "evenFrom", "[J", true)
  | 50 => ("StrikeOutModel", "chosen", "I", false)
  | 51 => ("StrikeOutModel", "choice", "[I", true)
  | 52 => ("StrikeOutModel", "at0", "[I", true)
  | 53 => ("StrikeOutModel", "next0", "[I", true)
  | 54 => ("StrikeOutModel", "step", "[I", true)
  | 55 => ("StrikeOutModel", "hiddenFrom", "[I", true)
  | 56 => ("StrikeOutModel", "hiddenRow", "[I", true)
  | 57 => ("StrikeOutModel", "shortFrom", "[I", true)
  | 58 => ("StrikeOutModel", "shortWays", "[J", true)
  | 59 => ("StrikeOutModel", "mayCome", "[Z", true)
  | 60 => ("StrikeOutModel", "valueFrom", "[I", true)
  | 61 => ("StrikeOutModel", "parentStrokes", "I", false)
  | 62 => ("StrikeOutModel", "follows", "[Z", true)
  | _ => ("StrikeOutModel", "longFrom", "[I", true)
def tyX12 : Nat → FieldType := fun k => match k with
  | 0 => .int
  | 1 => .int
  | 2 => .int
  | 3 => .int
  | 4 => .int
  | 5 => .array .int
  | 6 => .array .int
  | 7 => .array .int
  | 8 => .array .int
  | 9 => .array .boolean
  | 10 => .array .byte
  | 11 => .int
  | 12 => .int
  | 13 => .int
  | 14 => .int
  | 15 => .int
  | 16 => .int
  | 17 => .int
  | 18 => .int
  | 19 => .int
  | 20 => .int
  | 21 => .array .int
  | 22 => .array .int
  | 23 => .array .int
  | 24 => .array .int
  | 25 => .array .int
  | 26 => .array .int
  | 27 => .array .int
  | 28 => .array .int
  | 29 => .array .int
  | 30 => .array .int
  | 31 => .array .int
  | 32 => .array .int
  | 33 => .array .int
  | 34 => .array .int
  | 35 => .array .int
  | 36 => .array .int
  | 37 => .array .int
  | 38 => .array .int
  | 39 => .array .int
  | 40 => .int
  | 41 => .int
  | 42 => .array .int
  | 43 => .array .int
  | 44 => .array .long
  | 45 => .array .int
  | 46 => .array .int
  | 47 => .array .int
  | 48 => .array .int
  | 49 => .array .long
  | 50 => .int
  | 51 => .array .int
  | 52 => .array .int
  | 53 => .array .int
  | 54 => .array .int
  | 55 => .array .int
  | 56 => .array .int
  | 57 => .array .int
  | 58 => .array .long
  | 59 => .array .boolean
  | 60 => .array .int
  | 61 => .int
  | 62 => .array .boolean
  | _ => .array .int
abbrev wsX120 : List Cond := u_ws RX12 TX12 64
theorem nmX12 : ∀ a, a < 64 → ∀ b, b < 64 → a ≠ b → (TX12 a).2.1 ≠ (TX12 b).2.1 := by decide +kernel
theorem tyX12_ok : ∀ k, k < 64 → parseFieldDescriptor (TX12 k).2.2.1 = some (tyX12 k) := by decide +kernel
abbrev cX12_init : ByteArray := prog_14_method_1_code
def yX12_init : MethodName := ⟨RX12, "<init>", "()V"⟩
abbrev cX12_in : ByteArray := prog_14_method_2_code
def yX12_in : MethodName := ⟨RX12, "in", "(III)Z"⟩
abbrev cX12_bits : ByteArray := prog_14_method_3_code
def yX12_bits : MethodName := ⟨RX12, "bits", "(I)I"⟩
abbrev cX12_isBlank : ByteArray := prog_14_method_4_code
def yX12_isBlank : MethodName := ⟨RX12, "isBlank", "(I)Z"⟩
abbrev cX12_isDeed : ByteArray := prog_14_method_5_code
def yX12_isDeed : MethodName := ⟨RX12, "isDeed", "(I)Z"⟩
abbrev cX12_isClerk : ByteArray := prog_14_method_6_code
def yX12_isClerk : MethodName := ⟨RX12, "isClerk", "(I)Z"⟩
abbrev cX12_leftMany : ByteArray := prog_14_method_7_code
def yX12_leftMany : MethodName := ⟨RX12, "leftMany", "(I)I"⟩
abbrev cX12_numberAt : ByteArray := prog_14_method_8_code
def yX12_numberAt : MethodName := ⟨RX12, "numberAt", "(II)I"⟩
abbrev cX12_day : ByteArray := prog_14_method_9_code
def yX12_day : MethodName := ⟨RX12, "day", "(I)Z"⟩
abbrev cX12_areLetters : ByteArray := prog_14_method_10_code
def yX12_areLetters : MethodName := ⟨RX12, "areLetters", "(I)Z"⟩
abbrev cX12_blank : ByteArray := prog_14_method_11_code
def yX12_blank : MethodName := ⟨RX12, "blank", "(I)I"⟩
abbrev cX12_deed : ByteArray := prog_14_method_12_code
def yX12_deed : MethodName := ⟨RX12, "deed", "(II)I"⟩
abbrev cX12_left : ByteArray := prog_14_method_13_code
def yX12_left : MethodName := ⟨RX12, "left", "(III)I"⟩
abbrev cX12_types : ByteArray := prog_14_method_14_code
def yX12_types : MethodName := ⟨RX12, "types", "(I)V"⟩
abbrev cX12_feed : ByteArray := prog_14_method_15_code
def yX12_feed : MethodName := ⟨RX12, "feed", "(IIIII)I"⟩
abbrev cX12_here : ByteArray := prog_14_method_16_code
def yX12_here : MethodName := ⟨RX12, "here", "()I"⟩
abbrev cX12_isDigit : ByteArray := prog_14_method_17_code
def yX12_isDigit : MethodName := ⟨RX12, "isDigit", "()Z"⟩
abbrev cX12_wrongAt : ByteArray := prog_14_method_18_code
def yX12_wrongAt : MethodName := ⟨RX12, "wrongAt", "(II)Z"⟩
abbrev cX12_takes : ByteArray := prog_14_method_19_code
def yX12_takes : MethodName := ⟨RX12, "takes", "(I)Z"⟩
abbrev cX12_readsNumber : ByteArray := prog_14_method_20_code
def yX12_readsNumber : MethodName := ⟨RX12, "readsNumber", "()Z"⟩
abbrev cX12_notes : ByteArray := prog_14_method_21_code
def yX12_notes : MethodName := ⟨RX12, "notes", "(II)V"⟩
abbrev cX12_opens : ByteArray := prog_14_method_22_code
def yX12_opens : MethodName := ⟨RX12, "opens", "(I)Z"⟩
abbrev cX12_top : ByteArray := prog_14_method_23_code
def yX12_top : MethodName := ⟨RX12, "top", "()I"⟩
abbrev cX12_factOf : ByteArray := prog_14_method_24_code
def yX12_factOf : MethodName := ⟨RX12, "factOf", "(I)I"⟩
abbrev cX12_sumSign : ByteArray := prog_14_method_25_code
def yX12_sumSign : MethodName := ⟨RX12, "sumSign", "(I)I"⟩
abbrev cX12_closesSums : ByteArray := prog_14_method_26_code
def yX12_closesSums : MethodName := ⟨RX12, "closesSums", "(Z)V"⟩
abbrev cX12_readsFactor : ByteArray := prog_14_method_27_code
def yX12_readsFactor : MethodName := ⟨RX12, "readsFactor", "()Z"⟩
abbrev cX12_hasOpenSum : ByteArray := prog_14_method_28_code
def yX12_hasOpenSum : MethodName := ⟨RX12, "hasOpenSum", "(I)Z"⟩
abbrev cX12_readsSum : ByteArray := prog_14_method_29_code
def yX12_readsSum : MethodName := ⟨RX12, "readsSum", "()Z"⟩
abbrev cX12_endsPiece : ByteArray := prog_14_method_30_code
def yX12_endsPiece : MethodName := ⟨RX12, "endsPiece", "()V"⟩
abbrev cX12_lands : ByteArray := prog_14_method_31_code
def yX12_lands : MethodName := ⟨RX12, "lands", "(Z)V"⟩
abbrev cX12_jumps : ByteArray := prog_14_method_32_code
def yX12_jumps : MethodName := ⟨RX12, "jumps", "(I)V"⟩
abbrev cX12_readsCompared : ByteArray := prog_14_method_33_code
def yX12_readsCompared : MethodName := ⟨RX12, "readsCompared", "()Z"⟩
abbrev cX12_readsCondition : ByteArray := prog_14_method_34_code
def yX12_readsCondition : MethodName := ⟨RX12, "readsCondition", "()Z"⟩
abbrev cX12_readsClause : ByteArray := prog_14_method_35_code
def yX12_readsClause : MethodName := ⟨RX12, "readsClause", "()Z"⟩
abbrev cX12_law : ByteArray := prog_14_method_36_code
def yX12_law : MethodName := ⟨RX12, "law", "(I)I"⟩
abbrev cX12_reckon : ByteArray := prog_14_method_37_code
def yX12_reckon : MethodName := ⟨RX12, "reckon", "(III)I"⟩
abbrev cX12_comesTo : ByteArray := prog_14_method_38_code
def yX12_comesTo : MethodName := ⟨RX12, "comesTo", "(II)I"⟩
abbrev cX12_isStruckAt : ByteArray := prog_14_method_39_code
def yX12_isStruckAt : MethodName := ⟨RX12, "isStruckAt", "(II)Z"⟩
abbrev cX12_howOften : ByteArray := prog_14_method_40_code
def yX12_howOften : MethodName := ⟨RX12, "howOften", "(II)I"⟩
abbrev cX12_feels : ByteArray := prog_14_method_41_code
def yX12_feels : MethodName := ⟨RX12, "feels", "(III)V"⟩
abbrev cX12_mayStrike : ByteArray := prog_14_method_42_code
def yX12_mayStrike : MethodName := ⟨RX12, "mayStrike", "(III)Z"⟩
abbrev cX12_priceOf : ByteArray := prog_14_method_43_code
def yX12_priceOf : MethodName := ⟨RX12, "priceOf", "(III)I"⟩
abbrev cX12_may : ByteArray := prog_14_method_44_code
def yX12_may : MethodName := ⟨RX12, "may", "(IIII)I"⟩
abbrev cX12_writes : ByteArray := prog_14_method_45_code
def yX12_writes : MethodName := ⟨RX12, "writes", "(IIII)V"⟩
abbrev cX12_makes : ByteArray := prog_14_method_46_code
def yX12_makes : MethodName := ⟨RX12, "makes", "(IIIII)V"⟩
abbrev cX12_strike : ByteArray := prog_14_method_47_code
def yX12_strike : MethodName := ⟨RX12, "strike", "(IIII)I"⟩
abbrev cX12_leaves : ByteArray := prog_14_method_48_code
def yX12_leaves : MethodName := ⟨RX12, "leaves", "(I)V"⟩
abbrev cX12_back : ByteArray := prog_14_method_49_code
def yX12_back : MethodName := ⟨RX12, "back", "(I)I"⟩
abbrev cX12_book : ByteArray := prog_14_method_50_code
def yX12_book : MethodName := ⟨RX12, "book", "(II)I"⟩
abbrev cX12_laysBlank : ByteArray := prog_14_method_51_code
def yX12_laysBlank : MethodName := ⟨RX12, "laysBlank", "(IZ)V"⟩
abbrev cX12_laysParent : ByteArray := prog_14_method_52_code
def yX12_laysParent : MethodName := ⟨RX12, "laysParent", "(I)V"⟩
abbrev cX12_laysDeed : ByteArray := prog_14_method_53_code
def yX12_laysDeed : MethodName := ⟨RX12, "laysDeed", "(I)V"⟩
abbrev cX12_comesWithout : ByteArray := prog_14_method_54_code
def yX12_comesWithout : MethodName := ⟨RX12, "comesWithout", "(I)Z"⟩
abbrev cX12_isAsked : ByteArray := prog_14_method_55_code
def yX12_isAsked : MethodName := ⟨RX12, "isAsked", "(II)Z"⟩
abbrev cX12_ways : ByteArray := prog_14_method_56_code
def yX12_ways : MethodName := ⟨RX12, "ways", "(II)J"⟩
abbrev cX12_laysPrices : ByteArray := prog_14_method_57_code
def yX12_laysPrices : MethodName := ⟨RX12, "laysPrices", "(II)V"⟩
abbrev cX12_sum : ByteArray := prog_14_method_58_code
def yX12_sum : MethodName := ⟨RX12, "sum", "(II)I"⟩
abbrev cX12_laysCheap : ByteArray := prog_14_method_59_code
def yX12_laysCheap : MethodName := ⟨RX12, "laysCheap", "()V"⟩
abbrev cX12_laysStays : ByteArray := prog_14_method_60_code
def yX12_laysStays : MethodName := ⟨RX12, "laysStays", "()V"⟩
abbrev cX12_cheapestOf : ByteArray := prog_14_method_61_code
def yX12_cheapestOf : MethodName := ⟨RX12, "cheapestOf", "(III)I"⟩
abbrev cX12_cheapest : ByteArray := prog_14_method_62_code
def yX12_cheapest : MethodName := ⟨RX12, "cheapest", "(IIII)I"⟩
abbrev cX12_strokesFor : ByteArray := prog_14_method_63_code
def yX12_strokesFor : MethodName := ⟨RX12, "strokesFor", "()I"⟩
abbrev cX12_done : ByteArray := prog_14_method_64_code
def yX12_done : MethodName := ⟨RX12, "done", "(III)I"⟩
abbrev cX12_fewestStrokes : ByteArray := prog_14_method_65_code
def yX12_fewestStrokes : MethodName := ⟨RX12, "fewestStrokes", "(I)I"⟩
abbrev cX12_least : ByteArray := prog_14_method_66_code
def yX12_least : MethodName := ⟨RX12, "least", "(II)I"⟩
abbrev cX12_strokes : ByteArray := prog_14_method_67_code
def yX12_strokes : MethodName := ⟨RX12, "strokes", "(III)I"⟩
abbrev cX12_even : ByteArray := prog_14_method_68_code
def yX12_even : MethodName := ⟨RX12, "even", "(III)J"⟩
abbrev cX12_spreads : ByteArray := prog_14_method_69_code
def yX12_spreads : MethodName := ⟨RX12, "spreads", "(III)Z"⟩
abbrev cX12_letterAt : ByteArray := prog_14_method_70_code
def yX12_letterAt : MethodName := ⟨RX12, "letterAt", "(II)I"⟩
abbrev cX12_hiddenAt : ByteArray := prog_14_method_71_code
def yX12_hiddenAt : MethodName := ⟨RX12, "hiddenAt", "(III)I"⟩
abbrev cX12_longOf : ByteArray := prog_14_method_72_code
def yX12_longOf : MethodName := ⟨RX12, "longOf", "(I)I"⟩
abbrev cX12_nextOf : ByteArray := prog_14_method_73_code
def yX12_nextOf : MethodName := ⟨RX12, "nextOf", "(III)I"⟩
abbrev cX12_behind : ByteArray := prog_14_method_74_code
def yX12_behind : MethodName := ⟨RX12, "behind", "(III)I"⟩
abbrev cX12_hiddenBy : ByteArray := prog_14_method_75_code
def yX12_hiddenBy : MethodName := ⟨RX12, "hiddenBy", "(IIII)I"⟩
abbrev cX12_laysHidden : ByteArray := prog_14_method_76_code
def yX12_laysHidden : MethodName := ⟨RX12, "laysHidden", "()V"⟩
abbrev cX12_hidden : ByteArray := prog_14_method_77_code
def yX12_hidden : MethodName := ⟨RX12, "hidden", "(II)I"⟩
abbrev cX12_shortAt : ByteArray := prog_14_method_78_code
def yX12_shortAt : MethodName := ⟨RX12, "shortAt", "(IIII)I"⟩
abbrev cX12_takesLetter : ByteArray := prog_14_method_79_code
def yX12_takesLetter : MethodName := ⟨RX12, "takesLetter", "(I)Z"⟩
abbrev cX12_nextShort : ByteArray := prog_14_method_80_code
def yX12_nextShort : MethodName := ⟨RX12, "nextShort", "()I"⟩
abbrev cX12_laysShortAt : ByteArray := prog_14_method_81_code
def yX12_laysShortAt : MethodName := ⟨RX12, "laysShortAt", "()V"⟩
abbrev cX12_laysShort : ByteArray := prog_14_method_82_code
def yX12_laysShort : MethodName := ⟨RX12, "laysShort", "()V"⟩
abbrev cX12_isTooLong : ByteArray := prog_14_method_83_code
def yX12_isTooLong : MethodName := ⟨RX12, "isTooLong", "()Z"⟩
abbrev cX12_shortest : ByteArray := prog_14_method_84_code
def yX12_shortest : MethodName := ⟨RX12, "shortest", "(II)I"⟩
abbrev cX12_shortestMany : ByteArray := prog_14_method_85_code
def yX12_shortestMany : MethodName := ⟨RX12, "shortestMany", "(I)J"⟩
abbrev cX12_bound : ByteArray := prog_14_method_86_code
def yX12_bound : MethodName := ⟨RX12, "bound", "(I)I"⟩
abbrev cX12_forged : ByteArray := prog_14_method_87_code
def yX12_forged : MethodName := ⟨RX12, "forged", "(I)I"⟩
abbrev cX12_areSet : ByteArray := prog_14_method_88_code
def yX12_areSet : MethodName := ⟨RX12, "areSet", "(I)Z"⟩
abbrev cX12_comeAll : ByteArray := prog_14_method_89_code
def yX12_comeAll : MethodName := ⟨RX12, "comeAll", "(II)Z"⟩
abbrev cX12_spare : ByteArray := prog_14_method_90_code
def yX12_spare : MethodName := ⟨RX12, "spare", "(II)J"⟩
abbrev cX12_laysComes : ByteArray := prog_14_method_91_code
def yX12_laysComes : MethodName := ⟨RX12, "laysComes", "()V"⟩
abbrev cX12_valueBy : ByteArray := prog_14_method_92_code
def yX12_valueBy : MethodName := ⟨RX12, "valueBy", "(III)I"⟩
abbrev cX12_laysEnd : ByteArray := prog_14_method_93_code
def yX12_laysEnd : MethodName := ⟨RX12, "laysEnd", "(I)V"⟩
abbrev cX12_manyOf : ByteArray := prog_14_method_94_code
def yX12_manyOf : MethodName := ⟨RX12, "manyOf", "(I)I"⟩
abbrev cX12_lostOf : ByteArray := prog_14_method_95_code
def yX12_lostOf : MethodName := ⟨RX12, "lostOf", "(I)I"⟩
abbrev cX12_blankFor : ByteArray := prog_14_method_96_code
def yX12_blankFor : MethodName := ⟨RX12, "blankFor", "(II)I"⟩
abbrev cX12_dayEnd : ByteArray := prog_14_method_97_code
def yX12_dayEnd : MethodName := ⟨RX12, "dayEnd", "(II)I"⟩
abbrev cX12_worth : ByteArray := prog_14_method_98_code
def yX12_worth : MethodName := ⟨RX12, "worth", "(III)I"⟩
abbrev cX12_parentOf : ByteArray := prog_14_method_99_code
def yX12_parentOf : MethodName := ⟨RX12, "parentOf", "(IIII)I"⟩
abbrev cX12_family : ByteArray := prog_14_method_100_code
def yX12_family : MethodName := ⟨RX12, "family", "(IIII)I"⟩
abbrev cX12_laysFollows : ByteArray := prog_14_method_101_code
def yX12_laysFollows : MethodName := ⟨RX12, "laysFollows", "(I)V"⟩
abbrev cX12_longBy : ByteArray := prog_14_method_102_code
def yX12_longBy : MethodName := ⟨RX12, "longBy", "(III)I"⟩
abbrev cX12_laysLong : ByteArray := prog_14_method_103_code
def yX12_laysLong : MethodName := ⟨RX12, "laysLong", "()V"⟩
abbrev cX12_chain : ByteArray := prog_14_method_104_code
def yX12_chain : MethodName := ⟨RX12, "chain", "(II)I"⟩
abbrev cX12_seed : ByteArray := prog_14_method_105_code
def yX12_seed : MethodName := ⟨RX12, "seed", "(I)Z"⟩
abbrev cX12_draw : ByteArray := prog_14_method_106_code
def yX12_draw : MethodName := ⟨RX12, "draw", "(II)I"⟩
abbrev cX12_tapeNumber : ByteArray := prog_14_method_107_code
def yX12_tapeNumber : MethodName := ⟨RX12, "tapeNumber", "(I)I"⟩
abbrev cX12_check : ByteArray := prog_14_method_108_code
def yX12_check : MethodName := ⟨RX12, "check", "(II)I"⟩
abbrev cX12_count : ByteArray := prog_14_method_109_code
def yX12_count : MethodName := ⟨RX12, "count", "(I)I"⟩
abbrev cX12_costAll : ByteArray := prog_14_method_110_code
def yX12_costAll : MethodName := ⟨RX12, "costAll", "()I"⟩
def RJx145de : String := "java/io/Serializable"
def TJx145de : u_T := fun k => match k with
  | _ => ("", "", "", false)
def tyJx145de : Nat → FieldType := fun k => match k with
  | _ => .int
abbrev wsJx145de0 : List Cond := u_ws RJx145de TJx145de 0
theorem nmJx145de : ∀ a, a < 0 → ∀ b, b < 0 → a ≠ b → (TJx145de a).2.1 ≠ (TJx145de b).2.1 := by decide +kernel
theorem tyJx145de_ok : ∀ k, k < 0 → parseFieldDescriptor (TJx145de k).2.2.1 = some (tyJx145de k) := by decide +kernel
def RJx9f9b0 : String := "java/lang/CharSequence"
def TJx9f9b0 : u_T := fun k => match k with
  | _ => ("", "", "", false)
def tyJx9f9b0 : Nat → FieldType := fun k => match k with
  | _ => .int
abbrev wsJx9f9b00 : List Cond := u_ws RJx9f9b0 TJx9f9b0 0
theorem nmJx9f9b0 : ∀ a, a < 0 → ∀ b, b < 0 → a ≠ b → (TJx9f9b0 a).2.1 ≠ (TJx9f9b0 b).2.1 := by decide +kernel
theorem tyJx9f9b0_ok : ∀ k, k < 0 → parseFieldDescriptor (TJx9f9b0 k).2.2.1 = some (tyJx9f9b0 k) := by decide +kernel
def RJ11 : String := "java/lang/Character"
def TJ11 : u_T := fun k => match k with
  | _ => ("", "", "", false)
def tyJ11 : Nat → FieldType := fun k => match k with
  | _ => .int
abbrev wsJ110 : List Cond := u_ws RJ11 TJ11 0
theorem nmJ11 : ∀ a, a < 0 → ∀ b, b < 0 → a ≠ b → (TJ11 a).2.1 ≠ (TJ11 b).2.1 := by decide +kernel
theorem tyJ11_ok : ∀ k, k < 0 → parseFieldDescriptor (TJ11 k).2.2.1 = some (tyJ11 k) := by decide +kernel
abbrev cJ11_isValidCodePoint_9a6ad : ByteArray := prog_15_method_11_code
def yJ11_isValidCodePoint_9a6ad : MethodName := ⟨RJ11, "isValidCodePoint", "(I)Z"⟩
abbrev cJ11_highSurrogate_5068e : ByteArray := prog_15_method_28_code
def yJ11_highSurrogate_5068e : MethodName := ⟨RJ11, "highSurrogate", "(I)C"⟩
abbrev cJ11_lowSurrogate_5068e : ByteArray := prog_15_method_29_code
def yJ11_lowSurrogate_5068e : MethodName := ⟨RJ11, "lowSurrogate", "(I)C"⟩
def RJxb160c : String := "java/lang/Comparable"
def TJxb160c : u_T := fun k => match k with
  | _ => ("", "", "", false)
def tyJxb160c : Nat → FieldType := fun k => match k with
  | _ => .int
abbrev wsJxb160c0 : List Cond := u_ws RJxb160c TJxb160c 0
theorem nmJxb160c : ∀ a, a < 0 → ∀ b, b < 0 → a ≠ b → (TJxb160c a).2.1 ≠ (TJxb160c b).2.1 := by decide +kernel
theorem tyJxb160c_ok : ∀ k, k < 0 → parseFieldDescriptor (TJxb160c k).2.2.1 = some (tyJxb160c k) := by decide +kernel
def RJ6 : String := "java/lang/Integer"
def TJ6 : u_T := fun k => match k with
  | _ => ("", "", "", false)
def tyJ6 : Nat → FieldType := fun k => match k with
  | _ => .int
abbrev wsJ60 : List Cond := u_ws RJ6 TJ6 0
theorem nmJ6 : ∀ a, a < 0 → ∀ b, b < 0 → a ≠ b → (TJ6 a).2.1 ≠ (TJ6 b).2.1 := by decide +kernel
theorem tyJ6_ok : ∀ k, k < 0 → parseFieldDescriptor (TJ6 k).2.2.1 = some (tyJ6 k) := by decide +kernel
abbrev cJ6_bitCount_0f7a4 : ByteArray := prog_16_method_49_code
def yJ6_bitCount_0f7a4 : MethodName := ⟨RJ6, "bitCount", "(I)I"⟩
def RJ9 : String := "java/lang/Math"
def TJ9 : u_T := fun k => match k with
  | _ => ("", "", "", false)
def tyJ9 : Nat → FieldType := fun k => match k with
  | _ => .int
abbrev wsJ90 : List Cond := u_ws RJ9 TJ9 0
theorem nmJ9 : ∀ a, a < 0 → ∀ b, b < 0 → a ≠ b → (TJ9 a).2.1 ≠ (TJ9 b).2.1 := by decide +kernel
theorem tyJ9_ok : ∀ k, k < 0 → parseFieldDescriptor (TJ9 k).2.2.1 = some (tyJ9 k) := by decide +kernel
abbrev cJ9_max_7cf53 : ByteArray := prog_17_method_65_code
def yJ9_max_7cf53 : MethodName := ⟨RJ9, "max", "(II)I"⟩
abbrev cJ9_min_7cf53 : ByteArray := prog_17_method_69_code
def yJ9_min_7cf53 : MethodName := ⟨RJ9, "min", "(II)I"⟩
def RJ0 : String := "java/lang/String"
def TJ0 : u_T := fun k => match k with
  | _ => ("", "", "", false)
def tyJ0 : Nat → FieldType := fun k => match k with
  | _ => .int
abbrev wsJ00 : List Cond := u_ws RJ0 TJ0 0
theorem nmJ0 : ∀ a, a < 0 → ∀ b, b < 0 → a ≠ b → (TJ0 a).2.1 ≠ (TJ0 b).2.1 := by decide +kernel
theorem tyJ0_ok : ∀ k, k < 0 → parseFieldDescriptor (TJ0 k).2.2.1 = some (tyJ0 k) := by decide +kernel
abbrev cJ0_length_8abf5 : ByteArray := prog_18_method_54_code
def yJ0_length_8abf5 : MethodName := ⟨RJ0, "length", "()I"⟩
abbrev cJ0_indexOf_0f7a4 : ByteArray := prog_18_method_79_code
def yJ0_indexOf_0f7a4 : MethodName := ⟨RJ0, "indexOf", "(I)I"⟩
abbrev cJ0_indexOf_7cf53 : ByteArray := prog_18_method_80_code
def yJ0_indexOf_7cf53 : MethodName := ⟨RJ0, "indexOf", "(II)I"⟩
abbrev cJ0_coder_7d493 : ByteArray := prog_18_method_152_code
def yJ0_coder_7d493 : MethodName := ⟨RJ0, "coder", "()B"⟩
abbrev cJ0_isLatin1_aae02 : ByteArray := prog_18_method_154_code
def yJ0_isLatin1_aae02 : MethodName := ⟨RJ0, "isLatin1", "()Z"⟩
abbrev cJ0_checkBoundsBeginEnd_23922 : ByteArray := prog_18_method_158_code
def yJ0_checkBoundsBeginEnd_23922 : MethodName := ⟨RJ0, "checkBoundsBeginEnd", "(III)V"⟩
def RJ1 : String := "java/lang/StringLatin1"
def TJ1 : u_T := fun k => match k with
  | _ => ("", "", "", false)
def tyJ1 : Nat → FieldType := fun k => match k with
  | _ => .int
abbrev wsJ10 : List Cond := u_ws RJ1 TJ1 0
theorem nmJ1 : ∀ a, a < 0 → ∀ b, b < 0 → a ≠ b → (TJ1 a).2.1 ≠ (TJ1 b).2.1 := by decide +kernel
theorem tyJ1_ok : ∀ k, k < 0 → parseFieldDescriptor (TJ1 k).2.2.1 = some (tyJ1 k) := by decide +kernel
abbrev cJ1_canEncode_9a6ad : ByteArray := prog_19_method_4_code
def yJ1_canEncode_9a6ad : MethodName := ⟨RJ1, "canEncode", "(I)Z"⟩
abbrev cJ1_indexOf_4cfef : ByteArray := prog_19_method_22_code
def yJ1_indexOf_4cfef : MethodName := ⟨RJ1, "indexOf", "([BIII)I"⟩
abbrev cJ1_indexOfChar_4cfef : ByteArray := prog_19_method_23_code
def yJ1_indexOfChar_4cfef : MethodName := ⟨RJ1, "indexOfChar", "([BIII)I"⟩
def RJ2 : String := "java/lang/StringUTF16"
def TJ2 : u_T := fun k => match k with
  | _ => ("", "", "", false)
def tyJ2 : Nat → FieldType := fun k => match k with
  | _ => .int
abbrev wsJ20 : List Cond := u_ws RJ2 TJ2 0
theorem nmJ2 : ∀ a, a < 0 → ∀ b, b < 0 → a ≠ b → (TJ2 a).2.1 ≠ (TJ2 b).2.1 := by decide +kernel
theorem tyJ2_ok : ∀ k, k < 0 → parseFieldDescriptor (TJ2 k).2.2.1 = some (tyJ2 k) := by decide +kernel
abbrev cJ2_getChar_3b067 : ByteArray := prog_20_method_5_code
def yJ2_getChar_3b067 : MethodName := ⟨RJ2, "getChar", "([BI)C"⟩
abbrev cJ2_length_9d52b : ByteArray := prog_20_method_6_code
def yJ2_length_9d52b : MethodName := ⟨RJ2, "length", "([B)I"⟩
abbrev cJ2_indexOf_4cfef : ByteArray := prog_20_method_40_code
def yJ2_indexOf_4cfef : MethodName := ⟨RJ2, "indexOf", "([BIII)I"⟩
abbrev cJ2_indexOfChar_4cfef : ByteArray := prog_20_method_47_code
def yJ2_indexOfChar_4cfef : MethodName := ⟨RJ2, "indexOfChar", "([BIII)I"⟩
abbrev cJ2_indexOfCharUnsafe_4cfef : ByteArray := prog_20_method_48_code
def yJ2_indexOfCharUnsafe_4cfef : MethodName := ⟨RJ2, "indexOfCharUnsafe", "([BIII)I"⟩
abbrev cJ2_indexOfSupplementary_4cfef : ByteArray := prog_20_method_49_code
def yJ2_indexOfSupplementary_4cfef : MethodName := ⟨RJ2, "indexOfSupplementary", "([BIII)I"⟩
abbrev cJ2_checkBoundsBeginEnd_d044e : ByteArray := prog_20_method_93_code
def yJ2_checkBoundsBeginEnd_d044e : MethodName := ⟨RJ2, "checkBoundsBeginEnd", "(II[B)V"⟩
def RJ10 : String := "java/lang/System"
def TJ10 : u_T := fun k => match k with
  | _ => ("", "", "", false)
def tyJ10 : Nat → FieldType := fun k => match k with
  | _ => .int
abbrev wsJ100 : List Cond := u_ws RJ10 TJ10 0
theorem nmJ10 : ∀ a, a < 0 → ∀ b, b < 0 → a ≠ b → (TJ10 a).2.1 ≠ (TJ10 b).2.1 := by decide +kernel
theorem tyJ10_ok : ∀ k, k < 0 → parseFieldDescriptor (TJ10 k).2.2.1 = some (tyJ10 k) := by decide +kernel
def RJxfd54e : String := "java/lang/constant/Constable"
def TJxfd54e : u_T := fun k => match k with
  | _ => ("", "", "", false)
def tyJxfd54e : Nat → FieldType := fun k => match k with
  | _ => .int
abbrev wsJxfd54e0 : List Cond := u_ws RJxfd54e TJxfd54e 0
theorem nmJxfd54e : ∀ a, a < 0 → ∀ b, b < 0 → a ≠ b → (TJxfd54e a).2.1 ≠ (TJxfd54e b).2.1 := by decide +kernel
theorem tyJxfd54e_ok : ∀ k, k < 0 → parseFieldDescriptor (TJxfd54e k).2.2.1 = some (tyJxfd54e k) := by decide +kernel
def RJx3cf43 : String := "java/lang/constant/ConstantDesc"
def TJx3cf43 : u_T := fun k => match k with
  | _ => ("", "", "", false)
def tyJx3cf43 : Nat → FieldType := fun k => match k with
  | _ => .int
abbrev wsJx3cf430 : List Cond := u_ws RJx3cf43 TJx3cf43 0
theorem nmJx3cf43 : ∀ a, a < 0 → ∀ b, b < 0 → a ≠ b → (TJx3cf43 a).2.1 ≠ (TJx3cf43 b).2.1 := by decide +kernel
theorem tyJx3cf43_ok : ∀ k, k < 0 → parseFieldDescriptor (TJx3cf43 k).2.2.1 = some (tyJx3cf43 k) := by decide +kernel
def RJ7 : String := "java/util/Arrays"
def TJ7 : u_T := fun k => match k with
  | _ => ("", "", "", false)
def tyJ7 : Nat → FieldType := fun k => match k with
  | _ => .int
abbrev wsJ70 : List Cond := u_ws RJ7 TJ7 0
theorem nmJ7 : ∀ a, a < 0 → ∀ b, b < 0 → a ≠ b → (TJ7 a).2.1 ≠ (TJ7 b).2.1 := by decide +kernel
theorem tyJ7_ok : ∀ k, k < 0 → parseFieldDescriptor (TJ7 k).2.2.1 = some (tyJ7 k) := by decide +kernel
abbrev cJ7_fill_d0a16 : ByteArray := prog_22_method_101_code
def yJ7_fill_d0a16 : MethodName := ⟨RJ7, "fill", "([JJ)V"⟩
abbrev cJ7_fill_53178 : ByteArray := prog_22_method_103_code
def yJ7_fill_53178 : MethodName := ⟨RJ7, "fill", "([II)V"⟩
def RJ3 : String := "jdk/internal/util/Preconditions"
def TJ3 : u_T := fun k => match k with
  | _ => ("", "", "", false)
def tyJ3 : Nat → FieldType := fun k => match k with
  | _ => .int
abbrev wsJ30 : List Cond := u_ws RJ3 TJ3 0
theorem nmJ3 : ∀ a, a < 0 → ∀ b, b < 0 → a ≠ b → (TJ3 a).2.1 ≠ (TJ3 b).2.1 := by decide +kernel
theorem tyJ3_ok : ∀ k, k < 0 → parseFieldDescriptor (TJ3 k).2.2.1 = some (tyJ3 k) := by decide +kernel
abbrev cJ3_checkFromToIndex_8c36e : ByteArray := prog_23_method_12_code
def yJ3_checkFromToIndex_8c36e : MethodName := ⟨RJ3, "checkFromToIndex", "(IIILjava/util/function/BiFunction;)I"⟩
def RL : String := "StrikeOutLaw"
abbrev cL_law : ByteArray := code
def yL_law : MethodName := ⟨RL, "law", "([I)Z"⟩
abbrev vwCl : List vw_C := [(RX0, TX0, 4), (RX1, TX1, 7), (RX2, TX2, 4), (RX3, TX3, 10), (RX4, TX4, 2), (RX5, TX5, 3), (RX6, TX6, 12), (RX7, TX7, 5), (RX8, TX8, 2), (RX9, TX9, 5), (RX10, TX10, 2), (RX11, TX11, 17), (RX12, TX12, 64)]
end
section
/-! A pure machine's judgement over the kit's rows: logical addresses (cell k lies at b + k), the whole world as one list of cells. -/
-- kinds of arrays, by number
def pv_ty : Nat → FieldType
  | 0 => .int
  | 1 => .boolean
  | 2 => .long
  | 3 => .byte
  | 4 => .object RX0
  | _ => .object RX8
def pv_tys (kA : Nat → ClassId) : List (ClassId × FieldType) := [(kA 0, pv_ty 0), (kA 1, pv_ty 1), (kA 2, pv_ty 2), (kA 3, pv_ty 3), (kA 4, pv_ty 4), (kA 5, pv_ty 5)]
/-- a cell: an array of a kind, or an object of a class by its number in vwCl -/
abbrev pv_C : Type := (Nat × vp_A) ⊕ (Nat × List Value)
def pv_lf (b : Nat) (v : Value) : Value := match v with
  | .ref a => .ref (b + a)
  | w => w
def pv_la (b : Nat) (x : vp_A) : vp_A := match x with
  | (n, .inr (.inr (.inr (.inr f)))) => (n, .inr (.inr (.inr (.inr (fun j => (f j).map (fun a => b + a))))))
  | y => y
def pv_E (kA : Nat → ClassId) (b : Nat) (c : pv_C) : va_E := match c with
  | .inl q => .inl (kA q.1, pv_la b q.2)
  | .inr q => .inr (q.1, q.2.map (pv_lf b))
def pv_W (kA : Nat → ClassId) (b : Nat) (h : List pv_C) : va_W := h.mapIdx (fun k c => (b + k, pv_E kA b c))
def pv_A (b : Nat) : Nat → Prop := fun q => b ≤ q
theorem pv_W_get {kA : Nat → ClassId} {b : Nat} {h : List pv_C} {k : Nat} {c : pv_C} (hk : h[k]? = some c) : (pv_W kA b h)[k]? = some (b + k, pv_E kA b c) := by
  simp [pv_W, List.getElem?_mapIdx, hk]
theorem pv_W_at {kA : Nat → ClassId} {b : Nat} {h : List pv_C} {k : Nat} {q : Nat × va_E} (hk : (pv_W kA b h)[k]? = some q) : q.1 = b + k := by
  simp only [pv_W, List.getElem?_mapIdx] at hk
  cases hc : h[k]? with
  | none => simp [hc] at hk
  | some c => simp [hc] at hk; rw [← hk]
theorem pv_W_set {kA : Nat → ClassId} {b : Nat} {h : List pv_C} {k : Nat} (c : pv_C) : (pv_W kA b h).set k (b + k, pv_E kA b c) = pv_W kA b (h.set k c) := by
  apply List.ext_getElem?
  intro j
  simp only [pv_W, List.getElem?_set, List.getElem?_mapIdx, List.length_mapIdx]
  by_cases hj : k = j
  · subst hj
    by_cases hl : k < h.length <;> simp [hl]
  · simp [hj]
theorem pv_W_push {kA : Nat → ClassId} {b : Nat} {h : List pv_C} (c : pv_C) : pv_W kA b h ++ [(b + h.length, pv_E kA b c)] = pv_W kA b (h ++ [c]) := by
  simp [pv_W, List.mapIdx_append]
theorem pv_D {kA : Nat → ClassId} {b : Nat} {h : List pv_C} : va_D (pv_A b) (pv_W kA b h) :=
  ⟨fun i j p q hp hq e => by have h1 := pv_W_at hp; have h2 := pv_W_at hq; omega, fun k q hk => by have h1 := pv_W_at hk; show b ≤ q.1; omega⟩
def pv_H (D : va_G) (kA : Nat → ClassId) (b : Nat) (h : List pv_C) (H : Heap) : Prop := va_P D vwCl (pv_W kA b h) H ∧ H.size = b + h.length
-- the words: of the tables, those that every call hands on; and the private constructors of nest mates
def pv_T : List Cond := lw_tbl.filter goodWord
theorem pv_m {w : Cond} (i : Nat) (h : lw_tbl[i]? = some w) (hg : goodWord w = true) : w ∈ pv_T := List.mem_filter.mpr ⟨List.mem_of_getElem? h, hg⟩
theorem pv_T_good {ws : List Cond} (h : ∀ w ∈ ws, w ∈ pv_T) : GoodIn pv_T ws := fun w hw => ⟨h w hw, good_of_word (List.mem_filter.mp (h w hw)).2⟩
abbrev pv_N : List (String × Nat × MethodName × String) := [("StrikeOut", 9, ⟨"StrikeOut$Tape", "<init>", "()V"⟩, "StrikeOut"), ("StrikeOut", 22, ⟨"StrikeOut$Blank", "<init>", "()V"⟩, "StrikeOut"), ("StrikeOut", 38, ⟨"StrikeOut$Law", "<init>", "()V"⟩, "StrikeOut"), ("StrikeOut", 45, ⟨"StrikeOut$LawReader", "<init>", "()V"⟩, "StrikeOut"), ("StrikeOut$LawReader", 17, ⟨"StrikeOut$Law", "<init>", "()V"⟩, "StrikeOut"), ("StrikeOut", 52, ⟨"StrikeOut$Book", "<init>", "()V"⟩, "StrikeOut"), ("StrikeOut", 65, ⟨"StrikeOut$Fits", "<init>", "()V"⟩, "StrikeOut"), ("StrikeOut", 72, ⟨"StrikeOut$Choice", "<init>", "()V"⟩, "StrikeOut"), ("StrikeOut", 79, ⟨"StrikeOut$Hiding", "<init>", "()V"⟩, "StrikeOut"), ("StrikeOut", 90, ⟨"StrikeOut$Sharing", "<init>", "()V"⟩, "StrikeOut")]
/-- what is known of the tables at a state -/
def pv_J (D : va_G) (kA : Nat → ClassId) (U : State) : Prop := va_K D vwCl (pv_tys kA) U ∧ (∀ q ∈ pv_N, va_Nw (.methodLinkNest q.1 q.2.1 q.2.2.1 q.2.2.2) U) ∧ va_AO RX0 U ∧ va_AO RX8 U
theorem pv_J.moved {D : va_G} {kA : Nat → ClassId} {s U : State} (hW : s.WarmedH U.vm) (h : pv_J D kA s) : pv_J D kA U :=
  ⟨va_K.moved hW.alike h.1, fun q hq => va_Nw.warmM hW (h.2.1 q hq), va_AO.moved hW.alike h.2.2.1, va_AO.moved hW.alike h.2.2.2⟩
theorem pv_J.same {D : va_G} {kA : Nat → ClassId} {s U : State} (hv : s.vm = U.vm) (h : pv_J D kA s) : pv_J D kA U :=
  ⟨va_K.moved (by rw [← hv]; exact Vm.Alike.refl s.vm) h.1, fun q hq => va_Nw.same rfl hv (h.2.1 q hq), va_AO.moved (by rw [← hv]; exact Vm.Alike.refl s.vm) h.2.2.1, va_AO.moved (by rw [← hv]; exact Vm.Alike.refl s.vm) h.2.2.2⟩
/-- a method's rows: its class, its name, its code, its locals, its return -/
abbrev pv_M : Type := String × String × ByteArray × Nat × Option FieldType
/-- where it runs: launch, places of the classes, classes of the arrays, base -/
abbrev pv_G : Type := Launch × va_G × (Nat → ClassId) × Nat
def pv_X (g : pv_G) (M : pv_M) (p : Program) (s : State) (m : MethodId) (args : Array Value) (meth : Method) (c : Code) : Prop :=
  p.tables.exec = Jvm.exec ∧ c.code = M.2.2.1 ∧ meth.sig.returnType = M.2.2.2.2 ∧ c.maxLocals = M.2.2.2.1 ∧ s.vm.findClass M.1 = some m.cls ∧ meth.locks = false ∧ meth.name = M.2.1 ∧ (∀ w ∈ pv_T, w.before args s = true) ∧ pv_J g.2.1 g.2.2.1 s
def pv_Q (g : pv_G) (Q : Option Value → List pv_C → Prop) : Array Value → State → Outcome → State → Prop :=
  fun _ st o t => ∃ (r : Option Value) (h' : List pv_C), o = .returned (r.map (pv_lf g.2.2.2)) ∧ Q r h' ∧ pv_H g.2.1 g.2.2.1 g.2.2.2 h' t.heap ∧ va_F (pv_A g.2.2.2) st t
/-- no value: a place of the locals of which nothing is said -/
abbrev pv_U : Value := .retAddr 0
def pv_L (b : Nat) (ls : Array Slot) (nL : Nat) (lo : List Value) : Prop := ls.size = nL ∧ lv_wf ls ∧ ∀ (i : Nat) (v : Value), lo[i]? = some v → v ≠ pv_U → ls[i]? = some (.val (pv_lf b v))
/-- THE JUDGEMENT: method M, at pc with locals lo, stack st, cells h, may nest dp frames more, make kc cells of ks slots more; it returns with Q -/
def PV (g : pv_G) (M : pv_M) (Q : Option Value → List pv_C → Prop) (dp kc ks pc : Nat) (lo st : List Value) (h : List pv_C) : Prop :=
  ∀ (p : Program) (e : Env) (R : Room) (s : State) (m : MethodId) (args : Array Value) (below : List Frame) (meth : Method) (c : Code),
    pv_X g M p s m args meth c → dp ≤ R.frames → 40 * dp ≤ R.locals → g.2.2.2 ≤ s.heap.size →
    ∀ (H : Heap) (locs : List Loc) (cells slots : Nat) (ls : Array Slot), pv_H g.2.1 g.2.2.1 g.2.2.2 h H → va_S (pv_A g.2.2.2) s.heap H locs → cells + kc ≤ R.cells → slots + ks ≤ R.slots → pv_L g.2.2.2 ls M.2.2.2.1 lo →
    W p g.1 e R s m args below meth c H locs cells slots (MQ below (pv_Q g Q) args s R.cells R.slots (pv_A g.2.2.2)) (F0 m pc ls (st.map (pv_lf g.2.2.2)))
/-- a method's contract -/
def PM (g : pv_G) (M : pv_M) (y : MethodName) (Q : Option Value → List pv_C → Prop) (dp kc ks : Nat) (as : List Value) (h : List pv_C) : Prop :=
  Met g.1 y (.code y M.2.2.1 M.2.2.2.1 M.2.2.2.2 :: pv_T) { frames := dp, cells := kc, slots := ks, locals := 40 * dp }
    (fun v U => v = (as.map (pv_lf g.2.2.2)).toArray ∧ g.2.2.2 ≤ U.heap.size ∧ pv_H g.2.1 g.2.2.1 g.2.2.2 h U.heap ∧ pv_J g.2.1 g.2.2.1 U)
    (pv_Q g Q) kc ks (pv_A g.2.2.2)
def pv_en : List Value → List Value
  | [] => []
  | v :: r => if v.category = 2 then v :: pv_U :: pv_en r else v :: pv_en r
theorem pv_lf_cat (b : Nat) (v : Value) : (pv_lf b v).category = v.category := by cases v <;> rfl
theorem pv_en_args {b : Nat} : ∀ (as : List Value) (o i : Nat) (v : Value), (pv_en as)[i]? = some v → v ≠ pv_U → (o + i, pv_lf b v) ∈ lv_args o (as.map (pv_lf b))
  | [], o, i, v, h, _ => by simp [pv_en] at h
  | a :: r, o, i, v, h, hv => by
    simp only [pv_en] at h
    simp only [List.map_cons, lv_args, pv_lf_cat]
    by_cases hc : a.category = 2
    · simp only [hc, if_true] at h ⊢
      match i, h with
      | 0, h => simp at h; subst h; exact List.mem_cons_self
      | 1, h => simp at h; exact absurd h.symm hv
      | i + 2, h =>
        simp at h
        have q := pv_en_args (b := b) r (o + 2) i v h hv
        rw [show o + (i + 2) = o + 2 + i by omega]
        exact List.mem_cons_of_mem _ q
    · simp only [hc, if_false] at h ⊢
      match i, h with
      | 0, h => simp at h; subst h; exact List.mem_cons_self
      | i + 1, h =>
        simp at h
        have q := pv_en_args (b := b) r (o + 1) i v h hv
        rw [show o + (i + 1) = o + 1 + i by omega]
        exact List.mem_cons_of_mem _ q
theorem PM.of {g : pv_G} {M : pv_M} {y : MethodName} {Q : Option Value → List pv_C → Prop} {dp kc ks : Nat} {as : List Value} {h : List pv_C} (k : Nat) {lo : List Value} (hlo : pv_en as ++ List.replicate k pv_U = lo) (hy : plainName y.cls = true) (hc : y.cls = M.1) (hn : y.name = M.2.1) (hsz : ((lg_sl (as.map (pv_lf g.2.2.2))).length ≤ M.2.2.2.1))
    (kk : PV g M Q dp kc ks 0 lo [] h) : PM g M y Q dp kc ks as h := by
  refine Met.ofW (cc := M.2.2.1) (maxL := M.2.2.2.1) (ret := M.2.2.2.2) hy rfl ?_
  intro p e s m args below meth c s₁ B hml hv
  obtain ⟨rfl, hb, hH, hJ⟩ := hv
  have hts := atoms_spec (ws := .code y M.2.2.1 M.2.2.2.1 M.2.2.2.2 :: pv_T) B.pre
  have hown : s.vm.findClass M.1 = some m.cls := by rw [← hc]; exact findClass_of_methodNamed B.named
  have hin : meth.name = M.2.1 := by rw [← hn]; exact (name_of_methodNamed B.named B.method).1
  have hl := lv_entry (as.map (pv_lf g.2.2.2)) (n := M.2.2.2.1) hsz
  rw [lg_entry_eq]
  have hL : pv_L g.2.2.2 ((lg_sl (as.map (pv_lf g.2.2.2)) ++ List.replicate (M.2.2.2.1 - (lg_sl (as.map (pv_lf g.2.2.2))).length) Slot.unset).toArray) M.2.2.2.1 lo := by
    refine ⟨hl.1, hl.2.1, fun i v hi hv => ?_⟩
    rw [← hlo] at hi
    have h2 : (pv_en as)[i]? = some v := by
      by_cases q : i < (pv_en as).length
      · rw [List.getElem?_append_left q] at hi; exact hi
      · rw [List.getElem?_append_right (by omega), List.getElem?_replicate] at hi
        split at hi
        · exact absurd (Option.some.inj hi).symm hv
        · cases hi
    have h3 := hl.2.2 _ (pv_en_args (b := g.2.2.2) as 0 i v h2 hv)
    simpa using h3
  exact kk p e _ s m _ below meth c ⟨B.exec, B.bytes, B.returns, hml, hown, B.notSynchronized, hin, fun w hw => hts w (List.mem_cons_of_mem _ hw), hJ⟩ (Nat.le_refl _) (Nat.le_refl _) hb s.heap [] 0 0 _ hH va_S.rf (by simp; exact Nat.le_refl _) (by simp; exact Nat.le_refl _) hL
end
section
/-! the rules of PV for instructions that leave the cells alone: written by wip/gen/rules.py -/
theorem pv_iconst {g : pv_G} {M : pv_M} {Q : Option Value → List pv_C → Prop} {dp kc ks pc : Nat} {lo st : List Value} {h : List pv_C} {n : Int} {v : Int32} (hd : decode M.2.2.1 pc = .ok (.iconst n, 1)) (n0 : Nat) (hp : pc + 1 = n0) (hv : Int32.ofInt n = v) (k : PV g M Q dp kc ks n0 lo (.int v :: st) h) : PV g M Q dp kc ks pc lo (st) h := by
  intro p e R s m args below meth c X f1 f2 f3 H locs cells slots ls hH hS h1 h2 hL
  subst hp
  exact lv_iconst X.1 X.2.1 hd hv (k p e R s m args below meth c X f1 f2 f3 H locs cells slots ls hH hS h1 h2 hL)
theorem pv_bipush {g : pv_G} {M : pv_M} {Q : Option Value → List pv_C → Prop} {dp kc ks pc : Nat} {lo st : List Value} {h : List pv_C} {n : Int} {v : Int32} (hd : decode M.2.2.1 pc = .ok (.bipush n, 2)) (n0 : Nat) (hp : pc + 2 = n0) (hv : (Int8.ofInt n).toInt32 = v) (k : PV g M Q dp kc ks n0 lo (.int v :: st) h) : PV g M Q dp kc ks pc lo (st) h := by
  intro p e R s m args below meth c X f1 f2 f3 H locs cells slots ls hH hS h1 h2 hL
  subst hp
  exact lv_bipush X.1 X.2.1 hd hv (k p e R s m args below meth c X f1 f2 f3 H locs cells slots ls hH hS h1 h2 hL)
theorem pv_sipush {g : pv_G} {M : pv_M} {Q : Option Value → List pv_C → Prop} {dp kc ks pc : Nat} {lo st : List Value} {h : List pv_C} {n : Int} {v : Int32} (hd : decode M.2.2.1 pc = .ok (.sipush n, 3)) (n0 : Nat) (hp : pc + 3 = n0) (hv : (Int16.ofInt n).toInt32 = v) (k : PV g M Q dp kc ks n0 lo (.int v :: st) h) : PV g M Q dp kc ks pc lo (st) h := by
  intro p e R s m args below meth c X f1 f2 f3 H locs cells slots ls hH hS h1 h2 hL
  subst hp
  exact lv_sipush X.1 X.2.1 hd hv (k p e R s m args below meth c X f1 f2 f3 H locs cells slots ls hH hS h1 h2 hL)
theorem pv_lconst {g : pv_G} {M : pv_M} {Q : Option Value → List pv_C → Prop} {dp kc ks pc : Nat} {lo st : List Value} {h : List pv_C} {n : Fin 2} {v : Int64} (hd : decode M.2.2.1 pc = .ok (.lconst n, 1)) (n0 : Nat) (hp : pc + 1 = n0) (hv : Int64.ofNat (n : Nat) = v) (k : PV g M Q dp kc ks n0 lo (.long v :: st) h) : PV g M Q dp kc ks pc lo (st) h := by
  intro p e R s m args below meth c X f1 f2 f3 H locs cells slots ls hH hS h1 h2 hL
  subst hp
  exact lv_lconst X.1 X.2.1 hd hv (k p e R s m args below meth c X f1 f2 f3 H locs cells slots ls hH hS h1 h2 hL)
theorem pv_null {g : pv_G} {M : pv_M} {Q : Option Value → List pv_C → Prop} {dp kc ks pc : Nat} {lo st : List Value} {h : List pv_C}  (hd : decode M.2.2.1 pc = .ok (.aconst_null, 1)) (n0 : Nat) (hp : pc + 1 = n0) (k : PV g M Q dp kc ks n0 lo (.null :: st) h) : PV g M Q dp kc ks pc lo (st) h := by
  intro p e R s m args below meth c X f1 f2 f3 H locs cells slots ls hH hS h1 h2 hL
  subst hp
  exact lv_null X.1 X.2.1 hd (k p e R s m args below meth c X f1 f2 f3 H locs cells slots ls hH hS h1 h2 hL)
theorem pv_ldc {g : pv_G} {M : pv_M} {Q : Option Value → List pv_C → Prop} {dp kc ks pc : Nat} {lo st : List Value} {h : List pv_C} {i : Nat} {v : Int32} (hd : decode M.2.2.1 pc = .ok (.ldc i, 2)) (n0 : Nat) (hp : pc + 2 = n0) (hw : Cond.constant M.1 i v ∈ pv_T) (k : PV g M Q dp kc ks n0 lo (.int v :: st) h) : PV g M Q dp kc ks pc lo (st) h := by
  intro p e R s m args below meth c X f1 f2 f3 H locs cells slots ls hH hS h1 h2 hL
  subst hp
  exact lv_ldc X.1 X.2.1 X.2.2.2.2.1 (X.2.2.2.2.2.2.2.1 _ hw) hd (k p e R s m args below meth c X f1 f2 f3 H locs cells slots ls hH hS h1 h2 hL)
theorem pv_ldcw {g : pv_G} {M : pv_M} {Q : Option Value → List pv_C → Prop} {dp kc ks pc : Nat} {lo st : List Value} {h : List pv_C} {i : Nat} {v : Int32} (hd : decode M.2.2.1 pc = .ok (.ldc_w i, 3)) (n0 : Nat) (hp : pc + 3 = n0) (hw : Cond.constant M.1 i v ∈ pv_T) (k : PV g M Q dp kc ks n0 lo (.int v :: st) h) : PV g M Q dp kc ks pc lo (st) h := by
  intro p e R s m args below meth c X f1 f2 f3 H locs cells slots ls hH hS h1 h2 hL
  subst hp
  exact lv_ldcw X.1 X.2.1 X.2.2.2.2.1 (X.2.2.2.2.2.2.2.1 _ hw) hd (k p e R s m args below meth c X f1 f2 f3 H locs cells slots ls hH hS h1 h2 hL)
theorem pv_ldc2 {g : pv_G} {M : pv_M} {Q : Option Value → List pv_C → Prop} {dp kc ks pc : Nat} {lo st : List Value} {h : List pv_C} {i : Nat} {v : Int64} (hd : decode M.2.2.1 pc = .ok (.ldc2_w i, 3)) (n0 : Nat) (hp : pc + 3 = n0) (hw : Cond.constantLong M.1 i v ∈ pv_T) (k : PV g M Q dp kc ks n0 lo (.long v :: st) h) : PV g M Q dp kc ks pc lo (st) h := by
  intro p e R s m args below meth c X f1 f2 f3 H locs cells slots ls hH hS h1 h2 hL
  subst hp
  exact lv_ldc2 X.1 X.2.1 X.2.2.2.2.1 (X.2.2.2.2.2.2.2.1 _ hw) hd (k p e R s m args below meth c X f1 f2 f3 H locs cells slots ls hH hS h1 h2 hL)
theorem pv_iload_n {g : pv_G} {M : pv_M} {Q : Option Value → List pv_C → Prop} {dp kc ks pc : Nat} {lo st : List Value} {h : List pv_C} {n : Fin 4} (i : Nat) {x : Int32} (hd : decode M.2.2.1 pc = .ok (.iload_n n, 1)) (n0 : Nat) (hp : pc + 1 = n0) (hi : (n : Nat) = i) (hl : lo[i]? = some (.int x)) (k : PV g M Q dp kc ks n0 lo (.int x :: st) h) : PV g M Q dp kc ks pc lo (st) h := by
  intro p e R s m args below meth c X f1 f2 f3 H locs cells slots ls hH hS h1 h2 hL
  subst hp
  exact lv_iload_n X.1 X.2.1 hd hi (hL.2.2 _ _ hl (by simp [pv_U])) (k p e R s m args below meth c X f1 f2 f3 H locs cells slots ls hH hS h1 h2 hL)
theorem pv_iload {g : pv_G} {M : pv_M} {Q : Option Value → List pv_C → Prop} {dp kc ks pc : Nat} {lo st : List Value} {h : List pv_C} {i : Nat} {x : Int32} (hd : decode M.2.2.1 pc = .ok (.iload i, 2)) (n0 : Nat) (hp : pc + 2 = n0) (hl : lo[i]? = some (.int x)) (k : PV g M Q dp kc ks n0 lo (.int x :: st) h) : PV g M Q dp kc ks pc lo (st) h := by
  intro p e R s m args below meth c X f1 f2 f3 H locs cells slots ls hH hS h1 h2 hL
  subst hp
  exact lv_iload X.1 X.2.1 hd (hL.2.2 _ _ hl (by simp [pv_U])) (k p e R s m args below meth c X f1 f2 f3 H locs cells slots ls hH hS h1 h2 hL)
theorem pv_lload_n {g : pv_G} {M : pv_M} {Q : Option Value → List pv_C → Prop} {dp kc ks pc : Nat} {lo st : List Value} {h : List pv_C} {n : Fin 4} (i : Nat) {x : Int64} (hd : decode M.2.2.1 pc = .ok (.lload_n n, 1)) (n0 : Nat) (hp : pc + 1 = n0) (hi : (n : Nat) = i) (hl : lo[i]? = some (.long x)) (k : PV g M Q dp kc ks n0 lo (.long x :: st) h) : PV g M Q dp kc ks pc lo (st) h := by
  intro p e R s m args below meth c X f1 f2 f3 H locs cells slots ls hH hS h1 h2 hL
  subst hp
  exact lv_lload_n X.1 X.2.1 hd hi (hL.2.2 _ _ hl (by simp [pv_U])) (k p e R s m args below meth c X f1 f2 f3 H locs cells slots ls hH hS h1 h2 hL)
theorem pv_lload {g : pv_G} {M : pv_M} {Q : Option Value → List pv_C → Prop} {dp kc ks pc : Nat} {lo st : List Value} {h : List pv_C} {i : Nat} {x : Int64} (hd : decode M.2.2.1 pc = .ok (.lload i, 2)) (n0 : Nat) (hp : pc + 2 = n0) (hl : lo[i]? = some (.long x)) (k : PV g M Q dp kc ks n0 lo (.long x :: st) h) : PV g M Q dp kc ks pc lo (st) h := by
  intro p e R s m args below meth c X f1 f2 f3 H locs cells slots ls hH hS h1 h2 hL
  subst hp
  exact lv_lload X.1 X.2.1 hd (hL.2.2 _ _ hl (by simp [pv_U])) (k p e R s m args below meth c X f1 f2 f3 H locs cells slots ls hH hS h1 h2 hL)
theorem pv_aload_n {g : pv_G} {M : pv_M} {Q : Option Value → List pv_C → Prop} {dp kc ks pc : Nat} {lo st : List Value} {h : List pv_C} {n : Fin 4} (i : Nat) {x : Nat} (hd : decode M.2.2.1 pc = .ok (.aload_n n, 1)) (n0 : Nat) (hp : pc + 1 = n0) (hi : (n : Nat) = i) (hl : lo[i]? = some (.ref x)) (k : PV g M Q dp kc ks n0 lo (.ref x :: st) h) : PV g M Q dp kc ks pc lo (st) h := by
  intro p e R s m args below meth c X f1 f2 f3 H locs cells slots ls hH hS h1 h2 hL
  subst hp
  exact lv_aload_n X.1 X.2.1 hd hi (hL.2.2 _ _ hl (by simp [pv_U])) (k p e R s m args below meth c X f1 f2 f3 H locs cells slots ls hH hS h1 h2 hL)
theorem pv_aload {g : pv_G} {M : pv_M} {Q : Option Value → List pv_C → Prop} {dp kc ks pc : Nat} {lo st : List Value} {h : List pv_C} {i : Nat} {x : Nat} (hd : decode M.2.2.1 pc = .ok (.aload i, 2)) (n0 : Nat) (hp : pc + 2 = n0) (hl : lo[i]? = some (.ref x)) (k : PV g M Q dp kc ks n0 lo (.ref x :: st) h) : PV g M Q dp kc ks pc lo (st) h := by
  intro p e R s m args below meth c X f1 f2 f3 H locs cells slots ls hH hS h1 h2 hL
  subst hp
  exact lv_aload X.1 X.2.1 hd (hL.2.2 _ _ hl (by simp [pv_U])) (k p e R s m args below meth c X f1 f2 f3 H locs cells slots ls hH hS h1 h2 hL)
def pv_st (lo : List Value) (i : Nat) (v : Value) : List Value := match i with
  | 0 => lo.set 0 v
  | j + 1 => match lo[j]? with
    | some (.long _) => (lo.set j pv_U).set (j + 1) v
    | _ => lo.set (j + 1) v
def pv_st2 (lo : List Value) (i : Nat) (v : Value) : List Value := (pv_st lo i v).set (i + 1) pv_U
def pv_al (b : Nat) (lo : List Value) : List (Nat × Value) := (lo.mapIdx (fun k v => (k, v))).filterMap (fun q => if q.2 = pv_U then none else some (q.1, pv_lf b q.2))
theorem pv_al_mem {b : Nat} {lo : List Value} {i : Nat} {v : Value} (h : lo[i]? = some v) (hv : v ≠ pv_U) : (i, pv_lf b v) ∈ pv_al b lo := by
  refine List.mem_filterMap.mpr ⟨(i, v), List.mem_of_getElem? (i := i) (by simp [List.getElem?_mapIdx, h]), by simp [hv]⟩
theorem pv_al_of {b : Nat} {lo : List Value} {i : Nat} {w : Value} (h : (i, w) ∈ pv_al b lo) : ∃ v, lo[i]? = some v ∧ v ≠ pv_U ∧ w = pv_lf b v := by
  obtain ⟨⟨j, v⟩, hj, he⟩ := List.mem_filterMap.mp h
  obtain ⟨k, hk⟩ := List.getElem?_of_mem hj
  simp only [List.getElem?_mapIdx] at hk
  cases hc : lo[k]? with
  | none => simp [hc] at hk
  | some u =>
    simp [hc] at hk
    obtain ⟨e1, e2⟩ := hk
    subst e1; subst e2
    by_cases q : u = pv_U
    · simp [q] at he
    · simp [q] at he
      obtain ⟨e1, e2⟩ := he
      subst e1
      exact ⟨u, hc, q, e2.symm⟩
theorem pv_has {b nL : Nat} {ls : Array Slot} {lo : List Value} (h : pv_L b ls nL lo) : lv_has ls nL (pv_al b lo) := by
  refine ⟨h.1, h.2.1, fun q hq => ?_⟩
  obtain ⟨i, w⟩ := q
  obtain ⟨v, e1, e2, e3⟩ := pv_al_of hq
  rw [e3]
  exact h.2.2 i v e1 e2
theorem pv_st_get {lo : List Value} {i j : Nat} {v w : Value} (h : (pv_st lo i v)[j]? = some w) (hw : w ≠ pv_U) : (j = i ∧ w = v) ∨ (j ≠ i ∧ lo[j]? = some w ∧ ¬ (j + 1 = i ∧ w.category = 2 ∧ ∃ x, w = .long x)) := by
  unfold pv_st at h
  match i with
  | 0 =>
    simp only [List.getElem?_set] at h
    by_cases q : 0 = j
    · subst q; simp at h; exact Or.inl ⟨rfl, h.2.symm⟩
    · simp [q] at h; exact Or.inr ⟨fun e => q e.symm, h, fun e => by omega⟩
  | i + 1 =>
    simp only at h
    split at h
    · rename_i u hu
      simp only [List.getElem?_set] at h
      by_cases q : i + 1 = j
      · subst q; simp at h; exact Or.inl ⟨rfl, h.2.symm⟩
      · simp only [q, if_false] at h
        by_cases q2 : i = j
        · subst q2; simp at h; exact absurd h.2.symm hw
        · simp [q2] at h; exact Or.inr ⟨fun e => q e.symm, h, fun e => q2 (by omega)⟩
    · rename_i hu
      simp only [List.getElem?_set] at h
      by_cases q : i + 1 = j
      · subst q; simp at h; exact Or.inl ⟨rfl, h.2.symm⟩
      · simp [q] at h
        refine Or.inr ⟨fun e => q e.symm, h, fun e => ?_⟩
        obtain ⟨e1, -, x, e3⟩ := e
        have e4 : j = i := by omega
        subst e4; subst e3
        exact hu x h
theorem pv_dbl {b nL : Nat} {ls : Array Slot} {lo : List Value} (hd : ∀ (i : Nat) (x : UInt64), lo[i]? ≠ some (.double x)) (h : pv_L b ls nL lo) : True := trivial
/-- the locals behind a store of one slot -/
theorem pv_L1 {b nL i : Nat} {ls' : Array Slot} {lo : List Value} {v : Value} (hnd : ∀ (j : Nat) (x : UInt64), lo[j]? ≠ some (.double x)) (h : lv_has ls' nL ((i, pv_lf b v) :: (pv_al b lo).filter (fun q => !(q.1 == i) && !(q.1 + 1 == i && q.2.category == 2)))) : pv_L b ls' nL (pv_st lo i v) := by
  refine ⟨h.1, h.2.1, fun j w hj hw => ?_⟩
  rcases pv_st_get hj hw with ⟨e1, e2⟩ | ⟨e1, e2, e3⟩
  · subst e1; subst e2; exact h.2.2 _ List.mem_cons_self
  · refine h.2.2 (j, pv_lf b w) (List.mem_cons_of_mem _ (List.mem_filter.mpr ⟨pv_al_mem e2 hw, ?_⟩))
    have e4 : ¬ (j + 1 = i ∧ w.category = 2) := fun q => e3 ⟨q.1, q.2, by
      cases w with
      | long x => exact ⟨x, rfl⟩
      | double x => exact absurd e2 (hnd j x)
      | _ => exact absurd q.2 (by simp [Value.category])⟩
    simp only [pv_lf_cat]
    by_cases q : j + 1 = i
    · have q2 : ¬ w.category = 2 := fun z => e4 ⟨q, z⟩
      simp [e1, q2]
    · simp [e1, q]
theorem pv_L2 {b nL i : Nat} {ls' : Array Slot} {lo : List Value} {v : Value} (hnd : ∀ (j : Nat) (x : UInt64), lo[j]? ≠ some (.double x)) (h : lv_has ls' nL ((i, pv_lf b v) :: (pv_al b lo).filter (fun q => !(q.1 == i) && (!(q.1 == i + 1) && !(q.1 + 1 == i && q.2.category == 2))))) : pv_L b ls' nL (pv_st2 lo i v) := by
  refine ⟨h.1, h.2.1, fun j w hj hw => ?_⟩
  unfold pv_st2 at hj
  rw [List.getElem?_set] at hj
  by_cases q0 : i + 1 = j
  · subst q0; simp at hj; exact absurd hj.2.symm hw
  · simp only [q0, if_false] at hj
    rcases pv_st_get hj hw with ⟨e1, e2⟩ | ⟨e1, e2, e3⟩
    · subst e1; subst e2; exact h.2.2 _ List.mem_cons_self
    · refine h.2.2 (j, pv_lf b w) (List.mem_cons_of_mem _ (List.mem_filter.mpr ⟨pv_al_mem e2 hw, ?_⟩))
      have e4 : ¬ (j + 1 = i ∧ w.category = 2) := fun q => e3 ⟨q.1, q.2, by
        cases w with
        | long x => exact ⟨x, rfl⟩
        | double x => exact absurd e2 (hnd j x)
        | _ => exact absurd q.2 (by simp [Value.category])⟩
      have q1 : ¬ j = i + 1 := fun z => q0 z.symm
      simp only [pv_lf_cat]
      by_cases q : j + 1 = i
      · have q2 : ¬ w.category = 2 := fun z => e4 ⟨q, z⟩
        simp [e1, q1, q2]
      · simp [e1, q1, q]
/-- no double stands in the locals: computed -/
def pv_nd (lo : List Value) : Bool := lo.all (fun v => match v with | .double _ => false | _ => true)
theorem pv_nd_of {lo : List Value} (h : pv_nd lo = true) : ∀ (j : Nat) (x : UInt64), lo[j]? ≠ some (.double x) := fun j x e => by
  have := List.all_eq_true.mp h _ (List.mem_of_getElem? e)
  simp at this
theorem pv_istore_n {g : pv_G} {M : pv_M} {Q : Option Value → List pv_C → Prop} {dp kc ks pc : Nat} {lo st : List Value} {h : List pv_C} {n : Fin 4} (i : Nat) {x : Int32} {lo2 : List Value} (hd : decode M.2.2.1 pc = .ok (.istore_n n, 1)) (n0 : Nat) (hp : pc + 1 = n0) (hi : (n : Nat) = i) (hn : i < M.2.2.2.1) (hnd : pv_nd lo = true) (hlo : pv_st lo i (.int x) = lo2) (k : PV g M Q dp kc ks n0 lo2 (st) h) : PV g M Q dp kc ks pc lo (.int x :: st) h := by
  intro p e R s m args below meth c X f1 f2 f3 H locs cells slots ls hH hS h1 h2 hL
  subst hp
  exact lv_istore_n X.1 X.2.1 hd hi (pv_has hL) hn rfl (fun ls hl => k p e R s m args below meth c X f1 f2 f3 H locs cells slots ls hH hS h1 h2 (hlo ▸ pv_L1 (pv_nd_of hnd) hl))
theorem pv_istore {g : pv_G} {M : pv_M} {Q : Option Value → List pv_C → Prop} {dp kc ks pc : Nat} {lo st : List Value} {h : List pv_C} {i : Nat} {x : Int32} {lo2 : List Value} (hd : decode M.2.2.1 pc = .ok (.istore i, 2)) (n0 : Nat) (hp : pc + 2 = n0) (hn : i < M.2.2.2.1) (hnd : pv_nd lo = true) (hlo : pv_st lo i (.int x) = lo2) (k : PV g M Q dp kc ks n0 lo2 (st) h) : PV g M Q dp kc ks pc lo (.int x :: st) h := by
  intro p e R s m args below meth c X f1 f2 f3 H locs cells slots ls hH hS h1 h2 hL
  subst hp
  exact lv_istore X.1 X.2.1 hd (pv_has hL) hn rfl (fun ls hl => k p e R s m args below meth c X f1 f2 f3 H locs cells slots ls hH hS h1 h2 (hlo ▸ pv_L1 (pv_nd_of hnd) hl))
theorem pv_astore_n {g : pv_G} {M : pv_M} {Q : Option Value → List pv_C → Prop} {dp kc ks pc : Nat} {lo st : List Value} {h : List pv_C} {n : Fin 4} (i : Nat) {x : Nat} {lo2 : List Value} (hd : decode M.2.2.1 pc = .ok (.astore_n n, 1)) (n0 : Nat) (hp : pc + 1 = n0) (hi : (n : Nat) = i) (hn : i < M.2.2.2.1) (hnd : pv_nd lo = true) (hlo : pv_st lo i (.ref x) = lo2) (k : PV g M Q dp kc ks n0 lo2 (st) h) : PV g M Q dp kc ks pc lo (.ref x :: st) h := by
  intro p e R s m args below meth c X f1 f2 f3 H locs cells slots ls hH hS h1 h2 hL
  subst hp
  exact lv_astore_n X.1 X.2.1 hd hi (pv_has hL) hn rfl (fun ls hl => k p e R s m args below meth c X f1 f2 f3 H locs cells slots ls hH hS h1 h2 (hlo ▸ pv_L1 (pv_nd_of hnd) hl))
theorem pv_astore {g : pv_G} {M : pv_M} {Q : Option Value → List pv_C → Prop} {dp kc ks pc : Nat} {lo st : List Value} {h : List pv_C} {i : Nat} {x : Nat} {lo2 : List Value} (hd : decode M.2.2.1 pc = .ok (.astore i, 2)) (n0 : Nat) (hp : pc + 2 = n0) (hn : i < M.2.2.2.1) (hnd : pv_nd lo = true) (hlo : pv_st lo i (.ref x) = lo2) (k : PV g M Q dp kc ks n0 lo2 (st) h) : PV g M Q dp kc ks pc lo (.ref x :: st) h := by
  intro p e R s m args below meth c X f1 f2 f3 H locs cells slots ls hH hS h1 h2 hL
  subst hp
  exact lv_astore X.1 X.2.1 hd (pv_has hL) hn rfl (fun ls hl => k p e R s m args below meth c X f1 f2 f3 H locs cells slots ls hH hS h1 h2 (hlo ▸ pv_L1 (pv_nd_of hnd) hl))
theorem pv_lstore_n {g : pv_G} {M : pv_M} {Q : Option Value → List pv_C → Prop} {dp kc ks pc : Nat} {lo st : List Value} {h : List pv_C} {n : Fin 4} (i : Nat) {x : Int64} {lo2 : List Value} (hd : decode M.2.2.1 pc = .ok (.lstore_n n, 1)) (n0 : Nat) (hp : pc + 1 = n0) (hi : (n : Nat) = i) (hn : i + 1 < M.2.2.2.1) (hnd : pv_nd lo = true) (hlo : pv_st2 lo i (.long x) = lo2) (k : PV g M Q dp kc ks n0 lo2 (st) h) : PV g M Q dp kc ks pc lo (.long x :: st) h := by
  intro p e R s m args below meth c X f1 f2 f3 H locs cells slots ls hH hS h1 h2 hL
  subst hp
  exact lv_lstore_n X.1 X.2.1 hd hi (pv_has hL) hn rfl (fun ls hl => k p e R s m args below meth c X f1 f2 f3 H locs cells slots ls hH hS h1 h2 (hlo ▸ pv_L2 (pv_nd_of hnd) hl))
theorem pv_lstore {g : pv_G} {M : pv_M} {Q : Option Value → List pv_C → Prop} {dp kc ks pc : Nat} {lo st : List Value} {h : List pv_C} {i : Nat} {x : Int64} {lo2 : List Value} (hd : decode M.2.2.1 pc = .ok (.lstore i, 2)) (n0 : Nat) (hp : pc + 2 = n0) (hn : i + 1 < M.2.2.2.1) (hnd : pv_nd lo = true) (hlo : pv_st2 lo i (.long x) = lo2) (k : PV g M Q dp kc ks n0 lo2 (st) h) : PV g M Q dp kc ks pc lo (.long x :: st) h := by
  intro p e R s m args below meth c X f1 f2 f3 H locs cells slots ls hH hS h1 h2 hL
  subst hp
  exact lv_lstore X.1 X.2.1 hd (pv_has hL) hn rfl (fun ls hl => k p e R s m args below meth c X f1 f2 f3 H locs cells slots ls hH hS h1 h2 (hlo ▸ pv_L2 (pv_nd_of hnd) hl))
theorem pv_iinc {g : pv_G} {M : pv_M} {Q : Option Value → List pv_C → Prop} {dp kc ks pc : Nat} {lo st : List Value} {h : List pv_C} {i : Nat} {n : Int} {x v : Int32} {lo2 : List Value} (hd : decode M.2.2.1 pc = .ok (.iinc i n, 3)) (n0 : Nat) (hp : pc + 3 = n0) (hl : lo[i]? = some (.int x)) (hv : x + Int32.ofInt n = v) (hn : i < M.2.2.2.1) (hnd : pv_nd lo = true) (hlo : pv_st lo i (.int v) = lo2) (k : PV g M Q dp kc ks n0 lo2 (st) h) : PV g M Q dp kc ks pc lo (st) h := by
  intro p e R s m args below meth c X f1 f2 f3 H locs cells slots ls hH hS h1 h2 hL
  subst hp
  obtain ⟨j, hj⟩ := List.getElem?_of_mem (pv_al_mem (b := g.2.2.2) hl (by simp [pv_U]))
  exact lv_iinc X.1 X.2.1 hd (pv_has hL) hj hv hn rfl (fun ls hl => k p e R s m args below meth c X f1 f2 f3 H locs cells slots ls hH hS h1 h2 (hlo ▸ pv_L1 (pv_nd_of hnd) hl))
theorem pv_iadd {g : pv_G} {M : pv_M} {Q : Option Value → List pv_C → Prop} {dp kc ks pc : Nat} {lo st : List Value} {h : List pv_C} {x y : Int32} {v : Int32} (hd : decode M.2.2.1 pc = .ok (.iadd, 1)) (n0 : Nat) (hp : pc + 1 = n0) (hv : x + y = v) (k : PV g M Q dp kc ks n0 lo (.int v :: st) h) : PV g M Q dp kc ks pc lo (.int y :: .int x :: st) h := by
  intro p e R s m args below meth c X f1 f2 f3 H locs cells slots ls hH hS h1 h2 hL
  subst hp
  subst hv
  exact lv_iadd X.1 X.2.1 hd (k p e R s m args below meth c X f1 f2 f3 H locs cells slots ls hH hS h1 h2 hL)
theorem pv_isub {g : pv_G} {M : pv_M} {Q : Option Value → List pv_C → Prop} {dp kc ks pc : Nat} {lo st : List Value} {h : List pv_C} {x y : Int32} {v : Int32} (hd : decode M.2.2.1 pc = .ok (.isub, 1)) (n0 : Nat) (hp : pc + 1 = n0) (hv : x - y = v) (k : PV g M Q dp kc ks n0 lo (.int v :: st) h) : PV g M Q dp kc ks pc lo (.int y :: .int x :: st) h := by
  intro p e R s m args below meth c X f1 f2 f3 H locs cells slots ls hH hS h1 h2 hL
  subst hp
  subst hv
  exact lv_isub X.1 X.2.1 hd (k p e R s m args below meth c X f1 f2 f3 H locs cells slots ls hH hS h1 h2 hL)
theorem pv_imul {g : pv_G} {M : pv_M} {Q : Option Value → List pv_C → Prop} {dp kc ks pc : Nat} {lo st : List Value} {h : List pv_C} {x y : Int32} {v : Int32} (hd : decode M.2.2.1 pc = .ok (.imul, 1)) (n0 : Nat) (hp : pc + 1 = n0) (hv : x * y = v) (k : PV g M Q dp kc ks n0 lo (.int v :: st) h) : PV g M Q dp kc ks pc lo (.int y :: .int x :: st) h := by
  intro p e R s m args below meth c X f1 f2 f3 H locs cells slots ls hH hS h1 h2 hL
  subst hp
  subst hv
  exact lv_imul X.1 X.2.1 hd (k p e R s m args below meth c X f1 f2 f3 H locs cells slots ls hH hS h1 h2 hL)
theorem pv_iand {g : pv_G} {M : pv_M} {Q : Option Value → List pv_C → Prop} {dp kc ks pc : Nat} {lo st : List Value} {h : List pv_C} {x y : Int32} {v : Int32} (hd : decode M.2.2.1 pc = .ok (.iand, 1)) (n0 : Nat) (hp : pc + 1 = n0) (hv : x &&& y = v) (k : PV g M Q dp kc ks n0 lo (.int v :: st) h) : PV g M Q dp kc ks pc lo (.int y :: .int x :: st) h := by
  intro p e R s m args below meth c X f1 f2 f3 H locs cells slots ls hH hS h1 h2 hL
  subst hp
  subst hv
  exact lv_iand X.1 X.2.1 hd (k p e R s m args below meth c X f1 f2 f3 H locs cells slots ls hH hS h1 h2 hL)
theorem pv_ior {g : pv_G} {M : pv_M} {Q : Option Value → List pv_C → Prop} {dp kc ks pc : Nat} {lo st : List Value} {h : List pv_C} {x y : Int32} {v : Int32} (hd : decode M.2.2.1 pc = .ok (.ior, 1)) (n0 : Nat) (hp : pc + 1 = n0) (hv : x ||| y = v) (k : PV g M Q dp kc ks n0 lo (.int v :: st) h) : PV g M Q dp kc ks pc lo (.int y :: .int x :: st) h := by
  intro p e R s m args below meth c X f1 f2 f3 H locs cells slots ls hH hS h1 h2 hL
  subst hp
  subst hv
  exact lv_ior X.1 X.2.1 hd (k p e R s m args below meth c X f1 f2 f3 H locs cells slots ls hH hS h1 h2 hL)
theorem pv_ixor {g : pv_G} {M : pv_M} {Q : Option Value → List pv_C → Prop} {dp kc ks pc : Nat} {lo st : List Value} {h : List pv_C} {x y : Int32} {v : Int32} (hd : decode M.2.2.1 pc = .ok (.ixor, 1)) (n0 : Nat) (hp : pc + 1 = n0) (hv : x ^^^ y = v) (k : PV g M Q dp kc ks n0 lo (.int v :: st) h) : PV g M Q dp kc ks pc lo (.int y :: .int x :: st) h := by
  intro p e R s m args below meth c X f1 f2 f3 H locs cells slots ls hH hS h1 h2 hL
  subst hp
  subst hv
  exact lv_ixor X.1 X.2.1 hd (k p e R s m args below meth c X f1 f2 f3 H locs cells slots ls hH hS h1 h2 hL)
theorem pv_ishl {g : pv_G} {M : pv_M} {Q : Option Value → List pv_C → Prop} {dp kc ks pc : Nat} {lo st : List Value} {h : List pv_C} {x y : Int32} {v : Int32} (hd : decode M.2.2.1 pc = .ok (.ishl, 1)) (n0 : Nat) (hp : pc + 1 = n0) (hv : x <<< (y &&& 31) = v) (k : PV g M Q dp kc ks n0 lo (.int v :: st) h) : PV g M Q dp kc ks pc lo (.int y :: .int x :: st) h := by
  intro p e R s m args below meth c X f1 f2 f3 H locs cells slots ls hH hS h1 h2 hL
  subst hp
  subst hv
  exact lv_ishl X.1 X.2.1 hd (k p e R s m args below meth c X f1 f2 f3 H locs cells slots ls hH hS h1 h2 hL)
theorem pv_ishr {g : pv_G} {M : pv_M} {Q : Option Value → List pv_C → Prop} {dp kc ks pc : Nat} {lo st : List Value} {h : List pv_C} {x y : Int32} {v : Int32} (hd : decode M.2.2.1 pc = .ok (.ishr, 1)) (n0 : Nat) (hp : pc + 1 = n0) (hv : x >>> (y &&& 31) = v) (k : PV g M Q dp kc ks n0 lo (.int v :: st) h) : PV g M Q dp kc ks pc lo (.int y :: .int x :: st) h := by
  intro p e R s m args below meth c X f1 f2 f3 H locs cells slots ls hH hS h1 h2 hL
  subst hp
  subst hv
  exact lv_ishr X.1 X.2.1 hd (k p e R s m args below meth c X f1 f2 f3 H locs cells slots ls hH hS h1 h2 hL)
theorem pv_idiv {g : pv_G} {M : pv_M} {Q : Option Value → List pv_C → Prop} {dp kc ks pc : Nat} {lo st : List Value} {h : List pv_C} {x y : Int32} {v : Int32} (hd : decode M.2.2.1 pc = .ok (.idiv, 1)) (n0 : Nat) (hp : pc + 1 = n0) (hne : ¬ y = 0) (hv : x / y = v) (k : PV g M Q dp kc ks n0 lo (.int v :: st) h) : PV g M Q dp kc ks pc lo (.int y :: .int x :: st) h := by
  intro p e R s m args below meth c X f1 f2 f3 H locs cells slots ls hH hS h1 h2 hL
  subst hp
  subst hv
  exact lv_idiv X.1 X.2.1 hd hne (k p e R s m args below meth c X f1 f2 f3 H locs cells slots ls hH hS h1 h2 hL)
theorem pv_irem {g : pv_G} {M : pv_M} {Q : Option Value → List pv_C → Prop} {dp kc ks pc : Nat} {lo st : List Value} {h : List pv_C} {x y : Int32} {v : Int32} (hd : decode M.2.2.1 pc = .ok (.irem, 1)) (n0 : Nat) (hp : pc + 1 = n0) (hne : ¬ y = 0) (hv : x - x / y * y = v) (k : PV g M Q dp kc ks n0 lo (.int v :: st) h) : PV g M Q dp kc ks pc lo (.int y :: .int x :: st) h := by
  intro p e R s m args below meth c X f1 f2 f3 H locs cells slots ls hH hS h1 h2 hL
  subst hp
  subst hv
  exact lv_irem X.1 X.2.1 hd hne (k p e R s m args below meth c X f1 f2 f3 H locs cells slots ls hH hS h1 h2 hL)
theorem pv_ineg {g : pv_G} {M : pv_M} {Q : Option Value → List pv_C → Prop} {dp kc ks pc : Nat} {lo st : List Value} {h : List pv_C} {x : Int32} {v : Int32} (hd : decode M.2.2.1 pc = .ok (.ineg, 1)) (n0 : Nat) (hp : pc + 1 = n0) (hv : -x = v) (k : PV g M Q dp kc ks n0 lo (.int v :: st) h) : PV g M Q dp kc ks pc lo (.int x :: st) h := by
  intro p e R s m args below meth c X f1 f2 f3 H locs cells slots ls hH hS h1 h2 hL
  subst hp
  subst hv
  exact lv_ineg X.1 X.2.1 hd (k p e R s m args below meth c X f1 f2 f3 H locs cells slots ls hH hS h1 h2 hL)
theorem pv_iushr {g : pv_G} {M : pv_M} {Q : Option Value → List pv_C → Prop} {dp kc ks pc : Nat} {lo st : List Value} {h : List pv_C} {x y : Int32} {v : Int32} (hd : decode M.2.2.1 pc = .ok (.iushr, 1)) (n0 : Nat) (hp : pc + 1 = n0) (hv : (x.toUInt32 >>> (y.toUInt32 &&& Int32.toUInt32 31)).toInt32 = v) (k : PV g M Q dp kc ks n0 lo (.int v :: st) h) : PV g M Q dp kc ks pc lo (.int y :: .int x :: st) h := by
  intro p e R s m args below meth c X f1 f2 f3 H locs cells slots ls hH hS h1 h2 hL
  subst hp
  subst hv
  exact lv_iushr X.1 X.2.1 hd rfl (k p e R s m args below meth c X f1 f2 f3 H locs cells slots ls hH hS h1 h2 hL)
theorem pv_ladd {g : pv_G} {M : pv_M} {Q : Option Value → List pv_C → Prop} {dp kc ks pc : Nat} {lo st : List Value} {h : List pv_C} {x y : Int64} {v : Int64} (hd : decode M.2.2.1 pc = .ok (.ladd, 1)) (n0 : Nat) (hp : pc + 1 = n0) (hv : x + y = v) (k : PV g M Q dp kc ks n0 lo (.long v :: st) h) : PV g M Q dp kc ks pc lo (.long y :: .long x :: st) h := by
  intro p e R s m args below meth c X f1 f2 f3 H locs cells slots ls hH hS h1 h2 hL
  subst hp
  subst hv
  exact lv_ladd X.1 X.2.1 hd (k p e R s m args below meth c X f1 f2 f3 H locs cells slots ls hH hS h1 h2 hL)
theorem pv_lor {g : pv_G} {M : pv_M} {Q : Option Value → List pv_C → Prop} {dp kc ks pc : Nat} {lo st : List Value} {h : List pv_C} {x y : Int64} {v : Int64} (hd : decode M.2.2.1 pc = .ok (.lor, 1)) (n0 : Nat) (hp : pc + 1 = n0) (hv : x ||| y = v) (k : PV g M Q dp kc ks n0 lo (.long v :: st) h) : PV g M Q dp kc ks pc lo (.long y :: .long x :: st) h := by
  intro p e R s m args below meth c X f1 f2 f3 H locs cells slots ls hH hS h1 h2 hL
  subst hp
  subst hv
  exact lv_lor X.1 X.2.1 hd (k p e R s m args below meth c X f1 f2 f3 H locs cells slots ls hH hS h1 h2 hL)
theorem pv_lsub {g : pv_G} {M : pv_M} {Q : Option Value → List pv_C → Prop} {dp kc ks pc : Nat} {lo st : List Value} {h : List pv_C} {x y : Int64} {v : Int64} (hd : decode M.2.2.1 pc = .ok (.lsub, 1)) (n0 : Nat) (hp : pc + 1 = n0) (hv : x - y = v) (k : PV g M Q dp kc ks n0 lo (.long v :: st) h) : PV g M Q dp kc ks pc lo (.long y :: .long x :: st) h := by
  intro p e R s m args below meth c X f1 f2 f3 H locs cells slots ls hH hS h1 h2 hL
  subst hp
  subst hv
  exact lv_lsub X.1 X.2.1 hd (k p e R s m args below meth c X f1 f2 f3 H locs cells slots ls hH hS h1 h2 hL)
theorem pv_lshl {g : pv_G} {M : pv_M} {Q : Option Value → List pv_C → Prop} {dp kc ks pc : Nat} {lo st : List Value} {h : List pv_C} {x : Int64} {y : Int32} {v : Int64} (hd : decode M.2.2.1 pc = .ok (.lshl, 1)) (n0 : Nat) (hp : pc + 1 = n0) (hv : x <<< (y.toInt64 &&& 63) = v) (k : PV g M Q dp kc ks n0 lo (.long v :: st) h) : PV g M Q dp kc ks pc lo (.int y :: .long x :: st) h := by
  intro p e R s m args below meth c X f1 f2 f3 H locs cells slots ls hH hS h1 h2 hL
  subst hp
  subst hv
  exact lv_lshl X.1 X.2.1 hd rfl (k p e R s m args below meth c X f1 f2 f3 H locs cells slots ls hH hS h1 h2 hL)
theorem pv_lcmp {g : pv_G} {M : pv_M} {Q : Option Value → List pv_C → Prop} {dp kc ks pc : Nat} {lo st : List Value} {h : List pv_C} {x y : Int64} {v : Int32} (hd : decode M.2.2.1 pc = .ok (.lcmp, 1)) (n0 : Nat) (hp : pc + 1 = n0) (hv : lg_cmp x y = v) (k : PV g M Q dp kc ks n0 lo (.int v :: st) h) : PV g M Q dp kc ks pc lo (.long y :: .long x :: st) h := by
  intro p e R s m args below meth c X f1 f2 f3 H locs cells slots ls hH hS h1 h2 hL
  subst hp
  subst hv
  exact W.lcmp X.1 X.2.1 hd (k p e R s m args below meth c X f1 f2 f3 H locs cells slots ls hH hS h1 h2 hL)
theorem pv_i2l {g : pv_G} {M : pv_M} {Q : Option Value → List pv_C → Prop} {dp kc ks pc : Nat} {lo st : List Value} {h : List pv_C} {x : Int32} {v : Int64} (hd : decode M.2.2.1 pc = .ok (.i2l, 1)) (n0 : Nat) (hp : pc + 1 = n0) (hv : x.toInt64 = v) (k : PV g M Q dp kc ks n0 lo (.long v :: st) h) : PV g M Q dp kc ks pc lo (.int x :: st) h := by
  intro p e R s m args below meth c X f1 f2 f3 H locs cells slots ls hH hS h1 h2 hL
  subst hp
  subst hv
  exact lv_i2l X.1 X.2.1 hd rfl (k p e R s m args below meth c X f1 f2 f3 H locs cells slots ls hH hS h1 h2 hL)
theorem pv_i2b {g : pv_G} {M : pv_M} {Q : Option Value → List pv_C → Prop} {dp kc ks pc : Nat} {lo st : List Value} {h : List pv_C} {x : Int32} {v : Int32} (hd : decode M.2.2.1 pc = .ok (.i2b, 1)) (n0 : Nat) (hp : pc + 1 = n0) (hv : x.toInt8.toInt32 = v) (k : PV g M Q dp kc ks n0 lo (.int v :: st) h) : PV g M Q dp kc ks pc lo (.int x :: st) h := by
  intro p e R s m args below meth c X f1 f2 f3 H locs cells slots ls hH hS h1 h2 hL
  subst hp
  subst hv
  exact lv_i2b X.1 X.2.1 hd rfl (k p e R s m args below meth c X f1 f2 f3 H locs cells slots ls hH hS h1 h2 hL)
theorem pv_i2c {g : pv_G} {M : pv_M} {Q : Option Value → List pv_C → Prop} {dp kc ks pc : Nat} {lo st : List Value} {h : List pv_C} {x : Int32} {v : Int32} (hd : decode M.2.2.1 pc = .ok (.i2c, 1)) (n0 : Nat) (hp : pc + 1 = n0) (hv : (x.toUInt32 % 65536).toInt32 = v) (k : PV g M Q dp kc ks n0 lo (.int v :: st) h) : PV g M Q dp kc ks pc lo (.int x :: st) h := by
  intro p e R s m args below meth c X f1 f2 f3 H locs cells slots ls hH hS h1 h2 hL
  subst hp
  subst hv
  exact lv_i2c X.1 X.2.1 hd rfl (k p e R s m args below meth c X f1 f2 f3 H locs cells slots ls hH hS h1 h2 hL)
theorem pv_dup {g : pv_G} {M : pv_M} {Q : Option Value → List pv_C → Prop} {dp kc ks pc : Nat} {lo st : List Value} {h : List pv_C} {v : Value} (hd : decode M.2.2.1 pc = .ok (.dup, 1)) (n0 : Nat) (hp : pc + 1 = n0) (hv : v.category = 1) (k : PV g M Q dp kc ks n0 lo (v :: v :: st) h) : PV g M Q dp kc ks pc lo (v :: st) h := by
  intro p e R s m args below meth c X f1 f2 f3 H locs cells slots ls hH hS h1 h2 hL
  subst hp
  exact lv_dup X.1 X.2.1 hd ((pv_lf_cat _ v).trans hv) (k p e R s m args below meth c X f1 f2 f3 H locs cells slots ls hH hS h1 h2 hL)
theorem pv_pop {g : pv_G} {M : pv_M} {Q : Option Value → List pv_C → Prop} {dp kc ks pc : Nat} {lo st : List Value} {h : List pv_C} {v : Value} (hd : decode M.2.2.1 pc = .ok (.pop, 1)) (n0 : Nat) (hp : pc + 1 = n0) (hv : v.category = 1) (k : PV g M Q dp kc ks n0 lo (st) h) : PV g M Q dp kc ks pc lo (v :: st) h := by
  intro p e R s m args below meth c X f1 f2 f3 H locs cells slots ls hH hS h1 h2 hL
  subst hp
  exact lv_pop X.1 X.2.1 hd ((pv_lf_cat _ v).trans hv) (k p e R s m args below meth c X f1 f2 f3 H locs cells slots ls hH hS h1 h2 hL)
theorem pv_pop2 {g : pv_G} {M : pv_M} {Q : Option Value → List pv_C → Prop} {dp kc ks pc : Nat} {lo st : List Value} {h : List pv_C} {v : Value} (hd : decode M.2.2.1 pc = .ok (.pop2, 1)) (n0 : Nat) (hp : pc + 1 = n0) (hv : v.category = 2) (k : PV g M Q dp kc ks n0 lo (st) h) : PV g M Q dp kc ks pc lo (v :: st) h := by
  intro p e R s m args below meth c X f1 f2 f3 H locs cells slots ls hH hS h1 h2 hL
  subst hp
  exact lv_pop2_2 X.1 X.2.1 hd ((pv_lf_cat _ v).trans hv) (k p e R s m args below meth c X f1 f2 f3 H locs cells slots ls hH hS h1 h2 hL)
theorem pv_dup2 {g : pv_G} {M : pv_M} {Q : Option Value → List pv_C → Prop} {dp kc ks pc : Nat} {lo st : List Value} {h : List pv_C} {v w : Value} (hd : decode M.2.2.1 pc = .ok (.dup2, 1)) (n0 : Nat) (hp : pc + 1 = n0) (hv : v.category = 1) (hw : w.category = 1) (k : PV g M Q dp kc ks n0 lo (v :: w :: v :: w :: st) h) : PV g M Q dp kc ks pc lo (v :: w :: st) h := by
  intro p e R s m args below meth c X f1 f2 f3 H locs cells slots ls hH hS h1 h2 hL
  subst hp
  exact lv_dup2_11 X.1 X.2.1 hd ((pv_lf_cat _ v).trans hv) ((pv_lf_cat _ w).trans hw) (k p e R s m args below meth c X f1 f2 f3 H locs cells slots ls hH hS h1 h2 hL)
theorem pv_if_eq {g : pv_G} {M : pv_M} {Q : Option Value → List pv_C → Prop} {dp kc ks pc : Nat} {lo st : List Value} {h : List pv_C} {x : Int32} {off : Int} {tgt : Nat} (hd : decode M.2.2.1 pc = .ok (.ifCond .eq off, 3)) (n0 : Nat) (hp : pc + 3 = n0) (ht : (pc : Int) + off = (tgt : Int)) (kt : x = 0 → PV g M Q dp kc ks tgt lo (st) h) (kf : ¬ x = 0 → PV g M Q dp kc ks n0 lo (st) h) : PV g M Q dp kc ks pc lo (.int x :: st) h := by
  intro p e R s m args below meth c X f1 f2 f3 H locs cells slots ls hH hS h1 h2 hL
  subst hp
  exact lv_if_eq X.1 X.2.1 hd ht (fun q => kt q p e R s m args below meth c X f1 f2 f3 H locs cells slots ls hH hS h1 h2 hL) (fun q => kf q p e R s m args below meth c X f1 f2 f3 H locs cells slots ls hH hS h1 h2 hL)
theorem pv_icmp_eq {g : pv_G} {M : pv_M} {Q : Option Value → List pv_C → Prop} {dp kc ks pc : Nat} {lo st : List Value} {h : List pv_C} {x y : Int32} {off : Int} {tgt : Nat} (hd : decode M.2.2.1 pc = .ok (.if_icmp .eq off, 3)) (n0 : Nat) (hp : pc + 3 = n0) (ht : (pc : Int) + off = (tgt : Int)) (kt : x = y → PV g M Q dp kc ks tgt lo (st) h) (kf : ¬ x = y → PV g M Q dp kc ks n0 lo (st) h) : PV g M Q dp kc ks pc lo (.int y :: .int x :: st) h := by
  intro p e R s m args below meth c X f1 f2 f3 H locs cells slots ls hH hS h1 h2 hL
  subst hp
  exact lv_icmp_eq X.1 X.2.1 hd ht (fun q => kt q p e R s m args below meth c X f1 f2 f3 H locs cells slots ls hH hS h1 h2 hL) (fun q => kf q p e R s m args below meth c X f1 f2 f3 H locs cells slots ls hH hS h1 h2 hL)
theorem pv_if_ne {g : pv_G} {M : pv_M} {Q : Option Value → List pv_C → Prop} {dp kc ks pc : Nat} {lo st : List Value} {h : List pv_C} {x : Int32} {off : Int} {tgt : Nat} (hd : decode M.2.2.1 pc = .ok (.ifCond .ne off, 3)) (n0 : Nat) (hp : pc + 3 = n0) (ht : (pc : Int) + off = (tgt : Int)) (kt : ¬ x = 0 → PV g M Q dp kc ks tgt lo (st) h) (kf : x = 0 → PV g M Q dp kc ks n0 lo (st) h) : PV g M Q dp kc ks pc lo (.int x :: st) h := by
  intro p e R s m args below meth c X f1 f2 f3 H locs cells slots ls hH hS h1 h2 hL
  subst hp
  exact lv_if_ne X.1 X.2.1 hd ht (fun q => kt q p e R s m args below meth c X f1 f2 f3 H locs cells slots ls hH hS h1 h2 hL) (fun q => kf q p e R s m args below meth c X f1 f2 f3 H locs cells slots ls hH hS h1 h2 hL)
theorem pv_icmp_ne {g : pv_G} {M : pv_M} {Q : Option Value → List pv_C → Prop} {dp kc ks pc : Nat} {lo st : List Value} {h : List pv_C} {x y : Int32} {off : Int} {tgt : Nat} (hd : decode M.2.2.1 pc = .ok (.if_icmp .ne off, 3)) (n0 : Nat) (hp : pc + 3 = n0) (ht : (pc : Int) + off = (tgt : Int)) (kt : ¬ x = y → PV g M Q dp kc ks tgt lo (st) h) (kf : x = y → PV g M Q dp kc ks n0 lo (st) h) : PV g M Q dp kc ks pc lo (.int y :: .int x :: st) h := by
  intro p e R s m args below meth c X f1 f2 f3 H locs cells slots ls hH hS h1 h2 hL
  subst hp
  exact lv_icmp_ne X.1 X.2.1 hd ht (fun q => kt q p e R s m args below meth c X f1 f2 f3 H locs cells slots ls hH hS h1 h2 hL) (fun q => kf q p e R s m args below meth c X f1 f2 f3 H locs cells slots ls hH hS h1 h2 hL)
theorem pv_if_lt {g : pv_G} {M : pv_M} {Q : Option Value → List pv_C → Prop} {dp kc ks pc : Nat} {lo st : List Value} {h : List pv_C} {x : Int32} {off : Int} {tgt : Nat} (hd : decode M.2.2.1 pc = .ok (.ifCond .lt off, 3)) (n0 : Nat) (hp : pc + 3 = n0) (ht : (pc : Int) + off = (tgt : Int)) (kt : x < 0 → PV g M Q dp kc ks tgt lo (st) h) (kf : ¬ x < 0 → PV g M Q dp kc ks n0 lo (st) h) : PV g M Q dp kc ks pc lo (.int x :: st) h := by
  intro p e R s m args below meth c X f1 f2 f3 H locs cells slots ls hH hS h1 h2 hL
  subst hp
  exact lv_if_lt X.1 X.2.1 hd ht (fun q => kt q p e R s m args below meth c X f1 f2 f3 H locs cells slots ls hH hS h1 h2 hL) (fun q => kf q p e R s m args below meth c X f1 f2 f3 H locs cells slots ls hH hS h1 h2 hL)
theorem pv_icmp_lt {g : pv_G} {M : pv_M} {Q : Option Value → List pv_C → Prop} {dp kc ks pc : Nat} {lo st : List Value} {h : List pv_C} {x y : Int32} {off : Int} {tgt : Nat} (hd : decode M.2.2.1 pc = .ok (.if_icmp .lt off, 3)) (n0 : Nat) (hp : pc + 3 = n0) (ht : (pc : Int) + off = (tgt : Int)) (kt : x < y → PV g M Q dp kc ks tgt lo (st) h) (kf : ¬ x < y → PV g M Q dp kc ks n0 lo (st) h) : PV g M Q dp kc ks pc lo (.int y :: .int x :: st) h := by
  intro p e R s m args below meth c X f1 f2 f3 H locs cells slots ls hH hS h1 h2 hL
  subst hp
  exact lv_icmp_lt X.1 X.2.1 hd ht (fun q => kt q p e R s m args below meth c X f1 f2 f3 H locs cells slots ls hH hS h1 h2 hL) (fun q => kf q p e R s m args below meth c X f1 f2 f3 H locs cells slots ls hH hS h1 h2 hL)
theorem pv_if_ge {g : pv_G} {M : pv_M} {Q : Option Value → List pv_C → Prop} {dp kc ks pc : Nat} {lo st : List Value} {h : List pv_C} {x : Int32} {off : Int} {tgt : Nat} (hd : decode M.2.2.1 pc = .ok (.ifCond .ge off, 3)) (n0 : Nat) (hp : pc + 3 = n0) (ht : (pc : Int) + off = (tgt : Int)) (kt : 0 ≤ x → PV g M Q dp kc ks tgt lo (st) h) (kf : ¬ 0 ≤ x → PV g M Q dp kc ks n0 lo (st) h) : PV g M Q dp kc ks pc lo (.int x :: st) h := by
  intro p e R s m args below meth c X f1 f2 f3 H locs cells slots ls hH hS h1 h2 hL
  subst hp
  exact lv_if_ge X.1 X.2.1 hd ht (fun q => kt q p e R s m args below meth c X f1 f2 f3 H locs cells slots ls hH hS h1 h2 hL) (fun q => kf q p e R s m args below meth c X f1 f2 f3 H locs cells slots ls hH hS h1 h2 hL)
theorem pv_icmp_ge {g : pv_G} {M : pv_M} {Q : Option Value → List pv_C → Prop} {dp kc ks pc : Nat} {lo st : List Value} {h : List pv_C} {x y : Int32} {off : Int} {tgt : Nat} (hd : decode M.2.2.1 pc = .ok (.if_icmp .ge off, 3)) (n0 : Nat) (hp : pc + 3 = n0) (ht : (pc : Int) + off = (tgt : Int)) (kt : y ≤ x → PV g M Q dp kc ks tgt lo (st) h) (kf : ¬ y ≤ x → PV g M Q dp kc ks n0 lo (st) h) : PV g M Q dp kc ks pc lo (.int y :: .int x :: st) h := by
  intro p e R s m args below meth c X f1 f2 f3 H locs cells slots ls hH hS h1 h2 hL
  subst hp
  exact lv_icmp_ge X.1 X.2.1 hd ht (fun q => kt q p e R s m args below meth c X f1 f2 f3 H locs cells slots ls hH hS h1 h2 hL) (fun q => kf q p e R s m args below meth c X f1 f2 f3 H locs cells slots ls hH hS h1 h2 hL)
theorem pv_if_gt {g : pv_G} {M : pv_M} {Q : Option Value → List pv_C → Prop} {dp kc ks pc : Nat} {lo st : List Value} {h : List pv_C} {x : Int32} {off : Int} {tgt : Nat} (hd : decode M.2.2.1 pc = .ok (.ifCond .gt off, 3)) (n0 : Nat) (hp : pc + 3 = n0) (ht : (pc : Int) + off = (tgt : Int)) (kt : 0 < x → PV g M Q dp kc ks tgt lo (st) h) (kf : ¬ 0 < x → PV g M Q dp kc ks n0 lo (st) h) : PV g M Q dp kc ks pc lo (.int x :: st) h := by
  intro p e R s m args below meth c X f1 f2 f3 H locs cells slots ls hH hS h1 h2 hL
  subst hp
  exact lv_if_gt X.1 X.2.1 hd ht (fun q => kt q p e R s m args below meth c X f1 f2 f3 H locs cells slots ls hH hS h1 h2 hL) (fun q => kf q p e R s m args below meth c X f1 f2 f3 H locs cells slots ls hH hS h1 h2 hL)
theorem pv_icmp_gt {g : pv_G} {M : pv_M} {Q : Option Value → List pv_C → Prop} {dp kc ks pc : Nat} {lo st : List Value} {h : List pv_C} {x y : Int32} {off : Int} {tgt : Nat} (hd : decode M.2.2.1 pc = .ok (.if_icmp .gt off, 3)) (n0 : Nat) (hp : pc + 3 = n0) (ht : (pc : Int) + off = (tgt : Int)) (kt : y < x → PV g M Q dp kc ks tgt lo (st) h) (kf : ¬ y < x → PV g M Q dp kc ks n0 lo (st) h) : PV g M Q dp kc ks pc lo (.int y :: .int x :: st) h := by
  intro p e R s m args below meth c X f1 f2 f3 H locs cells slots ls hH hS h1 h2 hL
  subst hp
  exact lv_icmp_gt X.1 X.2.1 hd ht (fun q => kt q p e R s m args below meth c X f1 f2 f3 H locs cells slots ls hH hS h1 h2 hL) (fun q => kf q p e R s m args below meth c X f1 f2 f3 H locs cells slots ls hH hS h1 h2 hL)
theorem pv_if_le {g : pv_G} {M : pv_M} {Q : Option Value → List pv_C → Prop} {dp kc ks pc : Nat} {lo st : List Value} {h : List pv_C} {x : Int32} {off : Int} {tgt : Nat} (hd : decode M.2.2.1 pc = .ok (.ifCond .le off, 3)) (n0 : Nat) (hp : pc + 3 = n0) (ht : (pc : Int) + off = (tgt : Int)) (kt : x ≤ 0 → PV g M Q dp kc ks tgt lo (st) h) (kf : ¬ x ≤ 0 → PV g M Q dp kc ks n0 lo (st) h) : PV g M Q dp kc ks pc lo (.int x :: st) h := by
  intro p e R s m args below meth c X f1 f2 f3 H locs cells slots ls hH hS h1 h2 hL
  subst hp
  exact lv_if_le X.1 X.2.1 hd ht (fun q => kt q p e R s m args below meth c X f1 f2 f3 H locs cells slots ls hH hS h1 h2 hL) (fun q => kf q p e R s m args below meth c X f1 f2 f3 H locs cells slots ls hH hS h1 h2 hL)
theorem pv_icmp_le {g : pv_G} {M : pv_M} {Q : Option Value → List pv_C → Prop} {dp kc ks pc : Nat} {lo st : List Value} {h : List pv_C} {x y : Int32} {off : Int} {tgt : Nat} (hd : decode M.2.2.1 pc = .ok (.if_icmp .le off, 3)) (n0 : Nat) (hp : pc + 3 = n0) (ht : (pc : Int) + off = (tgt : Int)) (kt : x ≤ y → PV g M Q dp kc ks tgt lo (st) h) (kf : ¬ x ≤ y → PV g M Q dp kc ks n0 lo (st) h) : PV g M Q dp kc ks pc lo (.int y :: .int x :: st) h := by
  intro p e R s m args below meth c X f1 f2 f3 H locs cells slots ls hH hS h1 h2 hL
  subst hp
  exact lv_icmp_le X.1 X.2.1 hd ht (fun q => kt q p e R s m args below meth c X f1 f2 f3 H locs cells slots ls hH hS h1 h2 hL) (fun q => kf q p e R s m args below meth c X f1 f2 f3 H locs cells slots ls hH hS h1 h2 hL)
theorem pv_goto {g : pv_G} {M : pv_M} {Q : Option Value → List pv_C → Prop} {dp kc ks pc : Nat} {lo st : List Value} {h : List pv_C} {off : Int} {tgt : Nat} (hd : decode M.2.2.1 pc = .ok (.goto off, 3)) (ht : (pc : Int) + off = (tgt : Int)) (k : PV g M Q dp kc ks tgt lo (st) h) : PV g M Q dp kc ks pc lo (st) h := by
  intro p e R s m args below meth c X f1 f2 f3 H locs cells slots ls hH hS h1 h2 hL
  exact lv_goto X.1 X.2.1 hd ht (k p e R s m args below meth c X f1 f2 f3 H locs cells slots ls hH hS h1 h2 hL)
theorem pv_ifnull_0 {g : pv_G} {M : pv_M} {Q : Option Value → List pv_C → Prop} {dp kc ks pc : Nat} {lo st : List Value} {h : List pv_C} {x : Nat} {off : Int} (hd : decode M.2.2.1 pc = .ok (.ifnull off, 3)) (k : PV g M Q dp kc ks (pc + 3) lo (st) h) : PV g M Q dp kc ks pc lo (.ref x :: st) h := by
  intro p e R s m args below meth c X f1 f2 f3 H locs cells slots ls hH hS h1 h2 hL
  exact lv_ifnull X.1 X.2.1 hd (k p e R s m args below meth c X f1 f2 f3 H locs cells slots ls hH hS h1 h2 hL)
theorem pv_ifnullN {g : pv_G} {M : pv_M} {Q : Option Value → List pv_C → Prop} {dp kc ks pc : Nat} {lo st : List Value} {h : List pv_C} {off : Int} {tgt : Nat} (hd : decode M.2.2.1 pc = .ok (.ifnull off, 3)) (ht : (pc : Int) + off = (tgt : Int)) (k : PV g M Q dp kc ks tgt lo (st) h) : PV g M Q dp kc ks pc lo (.null :: st) h := by
  intro p e R s m args below meth c X f1 f2 f3 H locs cells slots ls hH hS h1 h2 hL
  exact lv_ifnullN X.1 X.2.1 hd ht (k p e R s m args below meth c X f1 f2 f3 H locs cells slots ls hH hS h1 h2 hL)
theorem pv_ifnonnull {g : pv_G} {M : pv_M} {Q : Option Value → List pv_C → Prop} {dp kc ks pc : Nat} {lo st : List Value} {h : List pv_C} {x : Nat} {off : Int} {tgt : Nat} (hd : decode M.2.2.1 pc = .ok (.ifnonnull off, 3)) (ht : (pc : Int) + off = (tgt : Int)) (k : PV g M Q dp kc ks tgt lo (st) h) : PV g M Q dp kc ks pc lo (.ref x :: st) h := by
  intro p e R s m args below meth c X f1 f2 f3 H locs cells slots ls hH hS h1 h2 hL
  exact lv_ifnonnull X.1 X.2.1 hd ht (k p e R s m args below meth c X f1 f2 f3 H locs cells slots ls hH hS h1 h2 hL)
theorem pv_ifnonnullN_0 {g : pv_G} {M : pv_M} {Q : Option Value → List pv_C → Prop} {dp kc ks pc : Nat} {lo st : List Value} {h : List pv_C} {off : Int} (hd : decode M.2.2.1 pc = .ok (.ifnonnull off, 3)) (k : PV g M Q dp kc ks (pc + 3) lo (st) h) : PV g M Q dp kc ks pc lo (.null :: st) h := by
  intro p e R s m args below meth c X f1 f2 f3 H locs cells slots ls hH hS h1 h2 hL
  exact lv_ifnonnullN X.1 X.2.1 hd (k p e R s m args below meth c X f1 f2 f3 H locs cells slots ls hH hS h1 h2 hL)
theorem pv_tableOut {g : pv_G} {M : pv_M} {Q : Option Value → List pv_C → Prop} {dp kc ks pc : Nat} {lo st : List Value} {h : List pv_C} {dflt l1 l2 : Int} {offs : Array Int} {len : Nat} {x : Int32} {tgt : Nat} (hd : decode M.2.2.1 pc = .ok (.tableswitch dflt l1 l2 offs, len)) (hx : x.toInt < l1 ∨ l2 < x.toInt) (ht : (pc : Int) + dflt = (tgt : Int)) (k : PV g M Q dp kc ks tgt lo (st) h) : PV g M Q dp kc ks pc lo (.int x :: st) h := by
  intro p e R s m args below meth c X f1 f2 f3 H locs cells slots ls hH hS h1 h2 hL
  exact lv_tableOut X.1 X.2.1 hd hx ht (k p e R s m args below meth c X f1 f2 f3 H locs cells slots ls hH hS h1 h2 hL)
theorem pv_tableIn {g : pv_G} {M : pv_M} {Q : Option Value → List pv_C → Prop} {dp kc ks pc : Nat} {lo st : List Value} {h : List pv_C} {dflt l1 l2 : Int} {offs : Array Int} {len : Nat} {x : Int32} {off : Int} {tgt : Nat} (hd : decode M.2.2.1 pc = .ok (.tableswitch dflt l1 l2 offs, len)) (hx1 : ¬ x.toInt < l1) (hx2 : ¬ l2 < x.toInt) (ho : offs[(x.toInt - l1).toNat]? = some off) (ht : (pc : Int) + off = (tgt : Int)) (k : PV g M Q dp kc ks tgt lo (st) h) : PV g M Q dp kc ks pc lo (.int x :: st) h := by
  intro p e R s m args below meth c X f1 f2 f3 H locs cells slots ls hH hS h1 h2 hL
  exact lv_tableIn X.1 X.2.1 hd hx1 hx2 ho ht (k p e R s m args below meth c X f1 f2 f3 H locs cells slots ls hH hS h1 h2 hL)
theorem pv_lookup {g : pv_G} {M : pv_M} {Q : Option Value → List pv_C → Prop} {dp kc ks pc : Nat} {lo st : List Value} {h : List pv_C} {dflt : Int} {ps : Array (Int × Int)} {len : Nat} {x : Int32} {off : Int} {tgt : Nat} (hd : decode M.2.2.1 pc = .ok (.lookupswitch dflt ps, len)) (hp : (ps.toList.zip (ps.toList.drop 1)).all (fun (a, next) => a.1 < next.1) = true) (ho : Op.lookupswitch.offset ps.toList dflt x.toInt = off) (ht : (pc : Int) + off = (tgt : Int)) (k : PV g M Q dp kc ks tgt lo (st) h) : PV g M Q dp kc ks pc lo (.int x :: st) h := by
  intro p e R s m args below meth c X f1 f2 f3 H locs cells slots ls hH hS h1 h2 hL
  exact lv_lookup X.1 X.2.1 hd hp ho ht (k p e R s m args below meth c X f1 f2 f3 H locs cells slots ls hH hS h1 h2 hL)
theorem pv_ifnull {g : pv_G} {M : pv_M} {Q : Option Value → List pv_C → Prop} {dp kc ks pc : Nat} {lo st : List Value} {h : List pv_C} {x : Nat} {off : Int} (hd : decode M.2.2.1 pc = .ok (.ifnull off, 3)) (n0 : Nat) (hp : pc + 3 = n0) (k : PV g M Q dp kc ks n0 lo (st) h) : PV g M Q dp kc ks pc lo (.ref x :: st) h := by subst hp; exact pv_ifnull_0 hd k
theorem pv_ifnonnullN {g : pv_G} {M : pv_M} {Q : Option Value → List pv_C → Prop} {dp kc ks pc : Nat} {lo st : List Value} {h : List pv_C} {off : Int} (hd : decode M.2.2.1 pc = .ok (.ifnonnull off, 3)) (n0 : Nat) (hp : pc + 3 = n0) (k : PV g M Q dp kc ks n0 lo (st) h) : PV g M Q dp kc ks pc lo (.null :: st) h := by subst hp; exact pv_ifnonnullN_0 hd k
theorem pv_top {g : pv_G} {M : pv_M} {Q : Option Value → List pv_C → Prop} {dp kc ks pc : Nat} {lo st : List Value} {h : List pv_C} {x y : Int32} (he : x = y) (k : PV g M Q dp kc ks pc lo (.int y :: st) h) : PV g M Q dp kc ks pc lo (.int x :: st) h := by subst he; exact k
end
section
/-! the rules of PV for cells: written by wip/gen/rules2.py -/
abbrev pv_o (ci : Nat) (fs : List Value) : pv_C := .inr (ci, fs)
abbrev pv_i (n : Nat) (f : Nat → Int32) : pv_C := .inl (0, n, .inl f)
abbrev pv_z (n : Nat) (f : Nat → Int32) : pv_C := .inl (1, n, .inl f)
abbrev pv_l (n : Nat) (f : Nat → Int64) : pv_C := .inl (2, n, .inr (.inl f))
abbrev pv_b (n : Nat) (f : Nat → Int32) : pv_C := .inl (3, n, .inl f)
abbrev pv_q (t n : Nat) (f : Nat → Option Nat) : pv_C := .inl (t, n, .inr (.inr (.inr (.inr f))))
def pv_F (ci : Nat) (C : String) (T : u_T) (N : Nat) (ty : Nat → FieldType) : Prop := vwCl[ci]? = some (C, T, N) ∧ (∀ w ∈ u_ws C T N, w ∈ pv_T) ∧ (∀ k, k < N → parseFieldDescriptor (T k).2.2.1 = some (ty k)) ∧ (∀ a, a < N → ∀ b, b < N → a ≠ b → (T a).2.1 ≠ (T b).2.1)
theorem pv_map_get {b : Nat} {fs : List Value} {k : Nat} {v : Value} (hv : fs[k]? = some v) : (fs.map (pv_lf b))[k]? = some (pv_lf b v) := by rw [List.getElem?_map, hv]; rfl
theorem pv_map_set {b : Nat} {fs : List Value} {k : Nat} {v : Value} : (fs.map (pv_lf b)).set k (pv_lf b v) = (fs.set k v).map (pv_lf b) := by rw [List.map_set]
theorem pv_get {g : pv_G} {M : pv_M} {Q : Option Value → List pv_C → Prop} {dp kc ks pc : Nat} {lo st : List Value} {h : List pv_C} {idx a ci N : Nat} {C : String} {T : u_T} {ty : Nat → FieldType} {fs : List Value} {v : Value} (hd : decode M.2.2.1 pc = .ok (.getfield idx, 3)) (F : pv_F ci C T N ty) (i : Nat) (hw : Cond.fieldLink M.1 idx (T i).1 (T i).2.1 (T i).2.2.1 ∈ pv_T) (hi : i < N) (ha : h[a]? = some (pv_o ci fs)) (hv : fs[i]? = some v) (n0 : Nat) (hp : pc + 3 = n0) (k : PV g M Q dp kc ks n0 lo (v :: st) h) : PV g M Q dp kc ks pc lo (.ref a :: st) h := by
  intro p e R s m args below meth c X f1 f2 f3 H locs cells slots ls hH hS h1 h2 hL
  subst hp
  exact va_get (D := g.2.1) X.1 X.2.1 X.2.2.2.2.2.2.2.1 F.2.1 X.2.2.2.2.1 X.2.2.2.2.2.2.2.2.1 hH.1 a (pv_W_get ha) F.1 i hi (X.2.2.2.2.2.2.2.1 _ hw) (fun _ q => q) (pv_map_get hv) hd (k p e R s m args below meth c X f1 f2 f3 H locs cells slots ls hH hS h1 h2 hL)
theorem pv_size {D : va_G} {kA : Nat → ClassId} {b : Nat} {h : List pv_C} {H H1 : Heap} (hH : pv_H D kA b h H) (e : H1.size = H.size) (c : pv_C) (a : Nat) : H1.size = b + (h.set a c).length := by rw [e, hH.2, List.length_set]
theorem pv_put {g : pv_G} {M : pv_M} {Q : Option Value → List pv_C → Prop} {dp kc ks pc : Nat} {lo st : List Value} {h : List pv_C} {idx a ci N : Nat} {C : String} {T : u_T} {ty : Nat → FieldType} {fs : List Value} {v : Value} {h2 : List pv_C} (hd : decode M.2.2.1 pc = .ok (.putfield idx, 3)) (F : pv_F ci C T N ty) (i : Nat) (hw : Cond.fieldLink M.1 idx (T i).1 (T i).2.1 (T i).2.2.1 ∈ pv_T) (hi : i < N) (hf : (T i).2.2.2 = false) (ha : h[a]? = some (pv_o ci fs)) (hl : i < fs.length) (hn : ∀ b, narrow (ty i) (pv_lf b v) = pv_lf b v) (hft : ∀ b, fits (ty i) (pv_lf b v) = true) (hh : h.set a (pv_o ci (fs.set i v)) = h2) (n0 : Nat) (hp : pc + 3 = n0) (k : PV g M Q dp kc ks n0 lo (st) h2) : PV g M Q dp kc ks pc lo (v :: .ref a :: st) h := by
  intro p e R s m args below meth c X f1 f2 f3 H locs cells slots ls hH hS h1 h2 hL
  subst hp
  subst hh
  have hap := va_apart (own := M.1) (D := g.2.1) X.2.2.2.2.2.2.2.1 F.2.1 ty F.2.2.1 F.2.2.2 X.2.2.2.2.2.2.2.2.1 F.1
  obtain ⟨r, q0, cell, q1, q2, q3, q4⟩ := hH.1 a _ (pv_W_get ha)
  have hr : r = (C, T, N) := Option.some.inj (q0.symm.trans F.1)
  subst hr
  obtain ⟨hSl, hfc, kC, hkC, hkind⟩ := X.2.2.2.2.2.2.2.2.1.1 ci _ F.1
  obtain ⟨cf, kf, fi, f, hfi, hsl⟩ := hSl i hi
  have hlay := X.2.2.2.2.2.2.2.1 _ (F.2.1 _ (u_in_lay hi))
  unfold u_lay at hlay
  rw [if_neg (by rw [hf]; decide)] at hlay
  have hst := (u_facts hfc hkC (u_lays X.2.2.2.2.2.2.2.1 F.2.1 hi) hfi).1
  have h6 := u_store hfc hkC hkind hlay hfi (F.2.2.1 i hi) (hn g.2.2.2) (hft g.2.2.2)
  refine W.putK X.1 X.2.1 (f := f) (cell := cell) ⟨X.2.2.2.2.1, X.2.2.2.2.2.2.2.1 _ hw, ⟨_, _, _, hfi⟩, hst⟩ (by rw [q2]; exact h6) q1 q3 (by rw [hsl]; exact k2_hasslot (q4 i hi)) rfl rfl hd fun H1 e1 e2 e3 => ?_
  rw [hsl] at e1
  refine k p e R s m args below meth c X f1 f2 f3 H1 _ cells slots ls ⟨?_, (pv_size hH e2 _ a)⟩ (hS.put e2 e3 (show g.2.2.2 ≤ g.2.2.2 + a by omega)) h1 h2 hL
  rw [← pv_W_set]
  refine hH.1.set pv_D (pv_W_get ha) ⟨_, F.1, t_OB.to (V := updV (vp_V (fs.map (pv_lf g.2.2.2))) i (pv_lf g.2.2.2 v)) ⟨_, e1, q2, q3, t_set q4 hap hi _⟩ (fun j _ => ?_)⟩ e3
  rw [← pv_map_set]
  exact vp_updV_set (by rw [List.length_map]; exact hl) _ j
theorem pv_putF {g : pv_G} {M : pv_M} {Q : Option Value → List pv_C → Prop} {dp kc ks pc : Nat} {lo st : List Value} {h : List pv_C} {idx a ci N : Nat} {C : String} {T : u_T} {ty : Nat → FieldType} {fs : List Value} {v : Value} {h2 : List pv_C} (hd : decode M.2.2.1 pc = .ok (.putfield idx, 3)) (F : pv_F ci C T N ty) (i : Nat) (hw : Cond.fieldLink M.1 idx (T i).1 (T i).2.1 (T i).2.2.1 ∈ pv_T) (hi : i < N) (hf : (T i).2.2.2 = true) (hm : M.2.1 = "<init>") (ho : (T i).1 = M.1) (ha : h[a]? = some (pv_o ci fs)) (hl : i < fs.length) (hn : ∀ b, narrow (ty i) (pv_lf b v) = pv_lf b v) (hft : ∀ b, fits (ty i) (pv_lf b v) = true) (hh : h.set a (pv_o ci (fs.set i v)) = h2) (n0 : Nat) (hp : pc + 3 = n0) (k : PV g M Q dp kc ks n0 lo (st) h2) : PV g M Q dp kc ks pc lo (v :: .ref a :: st) h := by
  intro p e R s m args below meth c X f1 f2 f3 H locs cells slots ls hH hS h1 h2 hL
  subst hp
  subst hh
  have hap := va_apart (own := M.1) (D := g.2.1) X.2.2.2.2.2.2.2.1 F.2.1 ty F.2.2.1 F.2.2.2 X.2.2.2.2.2.2.2.2.1 F.1
  obtain ⟨r, q0, cell, q1, q2, q3, q4⟩ := hH.1 a _ (pv_W_get ha)
  have hr : r = (C, T, N) := Option.some.inj (q0.symm.trans F.1)
  subst hr
  obtain ⟨hSl, hfc, kC, hkC, hkind⟩ := X.2.2.2.2.2.2.2.2.1.1 ci _ F.1
  obtain ⟨cf, kf, fi, f, hfi, hsl⟩ := hSl i hi
  have hlay := X.2.2.2.2.2.2.2.1 _ (F.2.1 _ (u_in_lay hi))
  unfold u_lay at hlay
  rw [if_pos hf] at hlay
  have hst := (u_facts hfc hkC (u_lays X.2.2.2.2.2.2.2.1 F.2.1 hi) hfi).1
  have hcf : m.cls = cf := by
    obtain ⟨_, _, c', _, _, _, -, -, hf', -, -, -, hown2, -⟩ := Cond.laysFinal_spec hlay
    have e1 : c' = cf := by have := hfi.symm.trans hf'; simp at this; exact this.1.symm
    rw [ho] at hown2
    rw [← e1]; exact Option.some.inj (X.2.2.2.2.1.symm.trans hown2)
  have h6 := u_fits hfc hkC hkind (Or.inr hlay) hfi (F.2.2.1 i hi) (hn g.2.2.2) (hft g.2.2.2)
  refine W.putFinK X.1 X.2.1 X.2.2.2.2.1 (X.2.2.2.2.2.2.2.1 _ hw) hfi hst hcf (X.2.2.2.2.2.2.1.trans hm) (by rw [q2]; exact h6) q1 q3 (by rw [hsl]; exact k2_hasslot (q4 i hi)) rfl rfl hd fun H1 e1 e2 e3 => ?_
  rw [hsl] at e1
  refine k p e R s m args below meth c X f1 f2 f3 H1 _ cells slots ls ⟨?_, (pv_size hH e2 _ a)⟩ (hS.put e2 e3 (show g.2.2.2 ≤ g.2.2.2 + a by omega)) h1 h2 hL
  rw [← pv_W_set]
  refine hH.1.set pv_D (pv_W_get ha) ⟨_, F.1, t_OB.to (V := updV (vp_V (fs.map (pv_lf g.2.2.2))) i (pv_lf g.2.2.2 v)) ⟨_, e1, q2, q3, t_set q4 hap hi _⟩ (fun j _ => ?_)⟩ e3
  rw [← pv_map_set]
  exact vp_updV_set (by rw [List.length_map]; exact hl) _ j
theorem pv_iald {g : pv_G} {M : pv_M} {Q : Option Value → List pv_C → Prop} {dp kc ks pc : Nat} {lo st : List Value} {h : List pv_C} {a n : Nat} {f : Nat → Int32} {i : Int32} (hd : decode M.2.2.1 pc = .ok (.iaload, 1)) (ha : h[a]? = some (pv_i n f)) (hi : vp_in i n) {v : Int32} (hv : f i.toNatClampNeg = v) (n0 : Nat) (hp : pc + 1 = n0) (k : PV g M Q dp kc ks n0 lo (.int v :: st) h) : PV g M Q dp kc ks pc lo (.int i :: .ref a :: st) h := by
  intro p e R s m args below meth c X f1 f2 f3 H locs cells slots ls hH hS h1 h2 hL
  subst hp
  subst hv
  exact va_iald (D := g.2.1) X.1 X.2.1 X.2.2.2.2.2.2.2.2.1 hH.1 a 0 (pv_W_get ha) rfl hi hd (k p e R s m args below meth c X f1 f2 f3 H locs cells slots ls hH hS h1 h2 hL)
theorem pv_zald {g : pv_G} {M : pv_M} {Q : Option Value → List pv_C → Prop} {dp kc ks pc : Nat} {lo st : List Value} {h : List pv_C} {a n : Nat} {f : Nat → Int32} {i : Int32} (hd : decode M.2.2.1 pc = .ok (.baload, 1)) (ha : h[a]? = some (pv_z n f)) (hi : vp_in i n) {v : Int32} (hv : f i.toNatClampNeg = v) (n0 : Nat) (hp : pc + 1 = n0) (k : PV g M Q dp kc ks n0 lo (.int v :: st) h) : PV g M Q dp kc ks pc lo (.int i :: .ref a :: st) h := by
  intro p e R s m args below meth c X f1 f2 f3 H locs cells slots ls hH hS h1 h2 hL
  subst hp
  subst hv
  exact va_zald (D := g.2.1) X.1 X.2.1 X.2.2.2.2.2.2.2.2.1 hH.1 a 1 (pv_W_get ha) rfl hi hd (k p e R s m args below meth c X f1 f2 f3 H locs cells slots ls hH hS h1 h2 hL)
theorem pv_lald {g : pv_G} {M : pv_M} {Q : Option Value → List pv_C → Prop} {dp kc ks pc : Nat} {lo st : List Value} {h : List pv_C} {a n : Nat} {f : Nat → Int64} {i : Int32} (hd : decode M.2.2.1 pc = .ok (.laload, 1)) (ha : h[a]? = some (pv_l n f)) (hi : vp_in i n) {v : Int64} (hv : f i.toNatClampNeg = v) (n0 : Nat) (hp : pc + 1 = n0) (k : PV g M Q dp kc ks n0 lo (.long v :: st) h) : PV g M Q dp kc ks pc lo (.int i :: .ref a :: st) h := by
  intro p e R s m args below meth c X f1 f2 f3 H locs cells slots ls hH hS h1 h2 hL
  subst hp
  subst hv
  exact va_lald (D := g.2.1) X.1 X.2.1 X.2.2.2.2.2.2.2.2.1 hH.1 a 2 (pv_W_get ha) rfl hi hd (k p e R s m args below meth c X f1 f2 f3 H locs cells slots ls hH hS h1 h2 hL)
theorem pv_bald {g : pv_G} {M : pv_M} {Q : Option Value → List pv_C → Prop} {dp kc ks pc : Nat} {lo st : List Value} {h : List pv_C} {a n : Nat} {f : Nat → Int32} {i : Int32} (hd : decode M.2.2.1 pc = .ok (.baload, 1)) (ha : h[a]? = some (pv_b n f)) (hi : vp_in i n) {v : Int32} (hv : f i.toNatClampNeg = v) (n0 : Nat) (hp : pc + 1 = n0) (k : PV g M Q dp kc ks n0 lo (.int v :: st) h) : PV g M Q dp kc ks pc lo (.int i :: .ref a :: st) h := by
  intro p e R s m args below meth c X f1 f2 f3 H locs cells slots ls hH hS h1 h2 hL
  subst hp
  subst hv
  exact va_bald (D := g.2.1) X.1 X.2.1 X.2.2.2.2.2.2.2.2.1 hH.1 a 3 (pv_W_get ha) rfl hi hd (k p e R s m args below meth c X f1 f2 f3 H locs cells slots ls hH hS h1 h2 hL)
theorem pv_rf (b : Nat) (r : Option Nat) : va_rf (r.map (fun a => b + a)) = pv_lf b (va_rf r) := by cases r <;> rfl
theorem pv_aald {g : pv_G} {M : pv_M} {Q : Option Value → List pv_C → Prop} {dp kc ks pc : Nat} {lo st : List Value} {h : List pv_C} {a n t : Nat} {f : Nat → Option Nat} {i : Int32} {C : String} (hd : decode M.2.2.1 pc = .ok (.aaload, 1)) (ha : h[a]? = some (pv_q t n f)) (ht : ∀ kA : Nat → ClassId, (pv_tys kA)[t]? = some (kA t, .object C)) (hi : vp_in i n) {v : Value} (hv : va_rf (f i.toNatClampNeg) = v) (n0 : Nat) (hp : pc + 1 = n0) (k : PV g M Q dp kc ks n0 lo (v :: st) h) : PV g M Q dp kc ks pc lo (.int i :: .ref a :: st) h := by
  intro p e R s m args below meth c X f1 f2 f3 H locs cells slots ls hH hS h1 h2 hL
  subst hp
  subst hv
  refine va_aldq (D := g.2.1) X.1 X.2.1 X.2.2.2.2.2.2.2.2.1 hH.1 a t (pv_W_get ha) (ht _) hi hd ?_
  rw [pv_rf]
  exact (k p e R s m args below meth c X f1 f2 f3 H locs cells slots ls hH hS h1 h2 hL)
theorem pv_iast {g : pv_G} {M : pv_M} {Q : Option Value → List pv_C → Prop} {dp kc ks pc : Nat} {lo st : List Value} {h : List pv_C} {a n : Nat} {f : Nat → Int32} {i : Int32} {x : Int32} {h2 : List pv_C} (hd : decode M.2.2.1 pc = .ok (.iastore, 1)) (ha : h[a]? = some (pv_i n f)) (hi : vp_in i n) {j : Nat} (hj : i.toNatClampNeg = j) (hh : h.set a (pv_i n (upd f j x)) = h2) (n0 : Nat) (hp : pc + 1 = n0) (k : PV g M Q dp kc ks n0 lo (st) h2) : PV g M Q dp kc ks pc lo (.int x :: .int i :: .ref a :: st) h := by
  intro p e R s m args below meth c X f1 f2 f3 H locs cells slots ls hH hS h1 h2 hL
  subst hp
  subst hj
  subst hh
  refine W.iast X.1 X.2.1 (hH.1 a _ (pv_W_get ha)) ((X.2.2.2.2.2.2.2.2.1.2 0 _ rfl).1 n (fun j => .int (f j))) (fun q => by cases q) (by show ¬ (i < 0 ∨ (arrV _ _ _).slots.size ≤ _); rw [arrV_size]; exact hi) rfl rfl hd fun H1 e1 z oq => ?_
  refine k p e R s m args below meth c X f1 f2 f3 H1 _ cells slots ls ⟨?_, (pv_size hH z _ a)⟩ (hS.put z oq (show g.2.2.2 ≤ g.2.2.2 + a by omega)) h1 h2 hL
  rw [← pv_W_set]
  refine hH.1.set pv_D (pv_W_get ha) ?_ oq
  show H1[g.2.2.2 + a]? = some (vp_cell _ (n, _))
  rw [e1]
  show some (Cell.setSlot (vp_cell (g.2.2.1 0) (n, .inl (f))) _ _) = some (vp_cell (g.2.2.1 0) (n, .inl (upd f i.toNatClampNeg x)))
  rw [vp_cell_i, vp_cell_i, arrV_store]
  congr 2
  funext q
  by_cases hq : q = i.toNatClampNeg
  · subst hq
    simp [updV, upd, vp_updL]
    try rfl
  · simp [updV, upd, vp_updL, hq]
theorem pv_last {g : pv_G} {M : pv_M} {Q : Option Value → List pv_C → Prop} {dp kc ks pc : Nat} {lo st : List Value} {h : List pv_C} {a n : Nat} {f : Nat → Int64} {i : Int32} {x : Int64} {h2 : List pv_C} (hd : decode M.2.2.1 pc = .ok (.lastore, 1)) (ha : h[a]? = some (pv_l n f)) (hi : vp_in i n) {j : Nat} (hj : i.toNatClampNeg = j) (hh : h.set a (pv_l n (vp_updL f j x)) = h2) (n0 : Nat) (hp : pc + 1 = n0) (k : PV g M Q dp kc ks n0 lo (st) h2) : PV g M Q dp kc ks pc lo (.long x :: .int i :: .ref a :: st) h := by
  intro p e R s m args below meth c X f1 f2 f3 H locs cells slots ls hH hS h1 h2 hL
  subst hp
  subst hj
  subst hh
  refine W.last X.1 X.2.1 (hH.1 a _ (pv_W_get ha)) ((X.2.2.2.2.2.2.2.2.1.2 2 _ rfl).1 n (fun j => .long (f j))) (fun q => by cases q) (by show ¬ (i < 0 ∨ (arrV _ _ _).slots.size ≤ _); rw [arrV_size]; exact hi) rfl rfl hd fun H1 e1 z oq => ?_
  refine k p e R s m args below meth c X f1 f2 f3 H1 _ cells slots ls ⟨?_, (pv_size hH z _ a)⟩ (hS.put z oq (show g.2.2.2 ≤ g.2.2.2 + a by omega)) h1 h2 hL
  rw [← pv_W_set]
  refine hH.1.set pv_D (pv_W_get ha) ?_ oq
  show H1[g.2.2.2 + a]? = some (vp_cell _ (n, _))
  rw [e1]
  show some (Cell.setSlot (vp_cell (g.2.2.1 2) (n, .inr (.inl (f)))) _ _) = some (vp_cell (g.2.2.1 2) (n, .inr (.inl (vp_updL f i.toNatClampNeg x))))
  rw [vp_cell_l, vp_cell_l, arrV_store]
  congr 2
  funext q
  by_cases hq : q = i.toNatClampNeg
  · subst hq
    simp [updV, upd, vp_updL]
    try rfl
  · simp [updV, upd, vp_updL, hq]
theorem pv_zast {g : pv_G} {M : pv_M} {Q : Option Value → List pv_C → Prop} {dp kc ks pc : Nat} {lo st : List Value} {h : List pv_C} {a n : Nat} {f : Nat → Int32} {i : Int32} {x : Int32} {h2 : List pv_C} (hd : decode M.2.2.1 pc = .ok (.bastore, 1)) (ha : h[a]? = some (pv_z n f)) (hi : vp_in i n) {j : Nat} (hj : i.toNatClampNeg = j) (hh : h.set a (pv_z n (upd f j (vp_nar .boolean x))) = h2) (n0 : Nat) (hp : pc + 1 = n0) (k : PV g M Q dp kc ks n0 lo (st) h2) : PV g M Q dp kc ks pc lo (.int x :: .int i :: .ref a :: st) h := by
  intro p e R s m args below meth c X f1 f2 f3 H locs cells slots ls hH hS h1 h2 hL
  subst hp
  subst hj
  subst hh
  refine W.zast X.1 X.2.1 (hH.1 a _ (pv_W_get ha)) ((X.2.2.2.2.2.2.2.2.1.2 1 _ rfl).1 n (fun j => .int (f j))) (fun q => by cases q) (by show ¬ (i < 0 ∨ (arrV _ _ _).slots.size ≤ _); rw [arrV_size]; exact hi) rfl rfl hd fun H1 e1 z oq => ?_
  refine k p e R s m args below meth c X f1 f2 f3 H1 _ cells slots ls ⟨?_, (pv_size hH z _ a)⟩ (hS.put z oq (show g.2.2.2 ≤ g.2.2.2 + a by omega)) h1 h2 hL
  rw [← pv_W_set]
  refine hH.1.set pv_D (pv_W_get ha) ?_ oq
  show H1[g.2.2.2 + a]? = some (vp_cell _ (n, _))
  rw [e1]
  show some (Cell.setSlot (vp_cell (g.2.2.1 1) (n, .inl (f))) _ _) = some (vp_cell (g.2.2.1 1) (n, .inl (upd f i.toNatClampNeg (vp_nar .boolean x))))
  rw [vp_cell_i, vp_cell_i, arrV_store]
  congr 2
  funext q
  by_cases hq : q = i.toNatClampNeg
  · subst hq
    simp [updV, upd, vp_updL, vp_nar]
    try rfl
  · simp [updV, upd, vp_updL, hq]
theorem pv_bast {g : pv_G} {M : pv_M} {Q : Option Value → List pv_C → Prop} {dp kc ks pc : Nat} {lo st : List Value} {h : List pv_C} {a n : Nat} {f : Nat → Int32} {i : Int32} {x : Int32} {h2 : List pv_C} (hd : decode M.2.2.1 pc = .ok (.bastore, 1)) (ha : h[a]? = some (pv_b n f)) (hi : vp_in i n) {j : Nat} (hj : i.toNatClampNeg = j) (hh : h.set a (pv_b n (upd f j (vp_nar .byte x))) = h2) (n0 : Nat) (hp : pc + 1 = n0) (k : PV g M Q dp kc ks n0 lo (st) h2) : PV g M Q dp kc ks pc lo (.int x :: .int i :: .ref a :: st) h := by
  intro p e R s m args below meth c X f1 f2 f3 H locs cells slots ls hH hS h1 h2 hL
  subst hp
  subst hj
  subst hh
  refine W.bast X.1 X.2.1 (hH.1 a _ (pv_W_get ha)) ((X.2.2.2.2.2.2.2.2.1.2 3 _ rfl).1 n (fun j => .int (f j))) (fun q => by cases q) (by show ¬ (i < 0 ∨ (arrV _ _ _).slots.size ≤ _); rw [arrV_size]; exact hi) rfl rfl hd fun H1 e1 z oq => ?_
  refine k p e R s m args below meth c X f1 f2 f3 H1 _ cells slots ls ⟨?_, (pv_size hH z _ a)⟩ (hS.put z oq (show g.2.2.2 ≤ g.2.2.2 + a by omega)) h1 h2 hL
  rw [← pv_W_set]
  refine hH.1.set pv_D (pv_W_get ha) ?_ oq
  show H1[g.2.2.2 + a]? = some (vp_cell _ (n, _))
  rw [e1]
  show some (Cell.setSlot (vp_cell (g.2.2.1 3) (n, .inl (f))) _ _) = some (vp_cell (g.2.2.1 3) (n, .inl (upd f i.toNatClampNeg (vp_nar .byte x))))
  rw [vp_cell_i, vp_cell_i, arrV_store]
  congr 2
  funext q
  by_cases hq : q = i.toNatClampNeg
  · subst hq
    simp [updV, upd, vp_updL, vp_nar]
    try rfl
  · simp [updV, upd, vp_updL, hq]
theorem pv_alen {g : pv_G} {M : pv_M} {Q : Option Value → List pv_C → Prop} {dp kc ks pc : Nat} {lo st : List Value} {h : List pv_C} {a t : Nat} {x : vp_A} {v : Int32} (hd : decode M.2.2.1 pc = .ok (.arraylength, 1)) (ha : h[a]? = some (.inl (t, x))) (ht : t < 6) (hv : Int32.ofNat x.1 = v) (n0 : Nat) (hp : pc + 1 = n0) (k : PV g M Q dp kc ks n0 lo (.int v :: st) h) : PV g M Q dp kc ks pc lo (.ref a :: st) h := by
  intro p e R s m args below meth c X f1 f2 f3 H locs cells slots ls hH hS h1 h2 hL
  subst hp
  have hx : (pv_la g.2.2.2 x).1 = x.1 := by obtain ⟨n, q⟩ := x; rcases q with q | q | q | q | q <;> rfl
  have ht : (pv_tys g.2.2.1)[t]? = some (g.2.2.1 t, pv_ty t) := by
    match t, ht with
    | 0, _ => rfl
    | 1, _ => rfl
    | 2, _ => rfl
    | 3, _ => rfl
    | 4, _ => rfl
    | 5, _ => rfl
  exact va_alen (D := g.2.1) X.1 X.2.1 X.2.2.2.2.2.2.2.2.1 hH.1 a t (pv_W_get ha) ht (by rw [hx]; exact hv) hd (k p e R s m args below meth c X f1 f2 f3 H locs cells slots ls hH hS h1 h2 hL)
theorem pv_aast {g : pv_G} {M : pv_M} {Q : Option Value → List pv_C → Prop} {dp kc ks pc : Nat} {lo st : List Value} {h : List pv_C} {a n t v : Nat} {f : Nat → Option Nat} {i : Int32} {ci : Nat} {r : vw_C} {fs : List Value} {h2 : List pv_C} (hd : decode M.2.2.1 pc = .ok (.aastore, 1)) (ha : h[a]? = some (pv_q t n f)) (hv : h[v]? = some (pv_o ci fs)) (hc : vwCl[ci]? = some r) (ht : ∀ kA : Nat → ClassId, (pv_tys kA)[t]? = some (kA t, .object r.1)) (hi : vp_in i n) {j : Nat} (hj : i.toNatClampNeg = j) (hh : h.set a (pv_q t n (va_up f j (some v))) = h2) (n0 : Nat) (hp : pc + 1 = n0) (k : PV g M Q dp kc ks n0 lo (st) h2) : PV g M Q dp kc ks pc lo (.ref v :: .int i :: .ref a :: st) h := by
  intro p e R s m args below meth c X f1 f2 f3 H locs cells slots ls hH hS h1 h2 hL
  subst hp
  subst hj
  subst hh
  have hlt : i.toNatClampNeg < n := Nat.not_le.mp fun q => hi (Or.inr q)
  have h0 : ¬ i < 0 := fun q => hi (Or.inl q)
  obtain ⟨r', hr', cellV, g1, g2, g3, -⟩ := hH.1 v _ (pv_W_get hv)
  have hcls := (X.2.2.2.2.2.2.2.2.1.1 ci r hc).2
  obtain ⟨kA, comp, k1, k2, k3, -⟩ := (X.2.2.2.2.2.2.2.2.1.2 t _ (ht _)).2
  have hcomp : comp = g.2.1.1 ci := Option.some.inj (k3.symm.trans hcls.1)
  subst hcomp
  obtain ⟨kC, hkC, -⟩ := hcls.2
  refine W.aast X.1 X.2.1 (hH.1 a _ (pv_W_get ha)) (fun q h => by cases h) (fun h => by cases h) k1 k2 rfl hkC ⟨h0, by show _ < (arrV _ _ _).slots.size; rw [arrV_size]; exact hlt⟩ g1 (fun q h => by rw [g3] at h; cases h) (by rw [g2]; exact hkC) (by rw [g2]; exact va_assign hcls) rfl rfl hd fun H1 e1 z oq => ?_
  refine k p e R s m args below meth c X f1 f2 f3 H1 _ cells slots ls ⟨?_, (pv_size hH z _ a)⟩ (hS.put z oq (show g.2.2.2 ≤ g.2.2.2 + a by omega)) h1 h2 hL
  rw [← pv_W_set]
  refine hH.1.set pv_D (pv_W_get ha) ?_ oq
  show H1[g.2.2.2 + a]? = some (vp_cell _ (n, _))
  rw [e1]
  show some (Cell.setSlot (vp_cell (g.2.2.1 t) (n, .inr (.inr (.inr (.inr (fun j => (f j).map (fun a => g.2.2.2 + a))))))) _ _) = some (vp_cell (g.2.2.1 t) (n, .inr (.inr (.inr (.inr (fun j => ((va_up f i.toNatClampNeg (some v)) j).map (fun a => g.2.2.2 + a)))))))
  rw [vp_cell_q, vp_cell_q, arrV_store]
  congr 2
  funext q
  by_cases hq : q = i.toNatClampNeg
  · subst hq
    simp [updV, va_up, va_rf]
  · simp [updV, va_up, hq]
theorem pv_push {D : va_G} {kA : Nat → ClassId} {b : Nat} {h : List pv_C} {H H1 : Heap} (hH : pv_H D kA b h H) (c : pv_C) (z : H1.size = H.size + 1) (o : ∀ q, q < H.size → H1[q]? = H[q]?) (hc : va_at D vwCl (b + h.length, pv_E kA b c) H1) : pv_H D kA b (h ++ [c]) H1 := by
  refine ⟨?_, by rw [z, hH.2, List.length_append]; simp; omega⟩
  rw [← pv_W_push]
  refine (hH.1.kept (fun k x hx => o x.1 ((hH.1 k x hx).lt))).app (fun k x hx => ?_)
  have hz : k < 1 := (List.getElem?_eq_some_iff.mp hx).1
  rw [show k = 0 by omega] at hx
  cases hx
  exact hc
theorem pv_Sp {b : Nat} {H0 H H1 : Heap} {locs : List Loc} (hS : va_S (pv_A b) H0 H locs) (z : H1.size = H.size + 1) (o : ∀ q, q < H.size → H1[q]? = H[q]?) : va_S (pv_A b) H0 H1 locs :=
  ⟨Nat.le_trans hS.1 (by omega), fun x h1 h2 => (o x (Nat.lt_of_lt_of_le h1 hS.1)).trans (hS.2.1 x h1 h2), hS.2.2⟩
theorem pv_newa {g : pv_G} {M : pv_M} {Q : Option Value → List pv_C → Prop} {dp kc ks pc : Nat} {lo st : List Value} {h : List pv_C} {at0 : ArrayType} {n : Int32} {x : vp_A} (hd : decode M.2.2.1 pc = .ok (.newarray at0, 2)) (t : Nat) (ht : ∀ kA : Nat → ClassId, (pv_tys kA)[t]? = some (kA t, newarray.typeOf at0)) (hpr : ∀ (U : State) (cA : ClassId), va_RA U cA (newarray.typeOf at0) → U.vm.findClass ("[" ++ (newarray.typeOf at0).toString) = some cA) (hw : Cond.arrayClass (newarray.typeOf at0) ∈ pv_T) (hn : ¬ n < 0) (N : Nat) (hN : n.toNatClampNeg = N) (hx : ∀ (b : Nat) (cA : ClassId), vp_cell cA (pv_la b x) = arrV cA N (fun _ => defaultValue (newarray.typeOf at0))) (hby : N * componentBytes (newarray.typeOf at0) ≤ 536870912) {r2 : Nat} (hr : h.length = r2) (n0 : Nat) (hp : pc + 2 = n0) (k : PV g M Q dp kc ks n0 lo (.ref r2 :: st) (h ++ [.inl (t, x)])) : PV g M Q dp (kc + 1) (ks + N) pc lo (.int n :: st) h := by
  intro p e R s m args below meth c X f1 f2 f3 H locs cells slots ls hH hS h1 h2 hL
  subst hp
  subst hr
  refine va_newaK X.1 X.2.1 (X.2.2.2.2.2.2.2.1 _ hw) rfl hd rfl hn hN hby (by omega) (by omega) rfl fun H1 cA e1 z1 o1 hAr hNm => ?_
  have hcA : cA = g.2.2.1 t := Option.some.inj (hNm.symm.trans (hpr _ _ ((X.2.2.2.2.2.2.2.2.1.2 t _ (ht _)).2)))
  subst hcA
  have e0 : H.size = g.2.2.2 + h.length := hH.2
  have q := k p e R s m args below meth c X f1 f2 f3 H1 locs (cells + 1) (slots + N) ls (pv_push hH _ z1 o1 (by show H1[g.2.2.2 + h.length]? = some (vp_cell _ _); rw [hx, ← e0]; exact e1)) (pv_Sp hS z1 o1) (by omega) (by omega) hL
  rw [e0]
  exact q
theorem pv_anew {g : pv_G} {M : pv_M} {Q : Option Value → List pv_C → Prop} {dp kc ks pc : Nat} {lo st : List Value} {h : List pv_C} {idx : Nat} {n : Int32} {C : String} (hd : decode M.2.2.1 pc = .ok (.anewarray idx, 3)) (t : Nat) (ht : ∀ kA : Nat → ClassId, (pv_tys kA)[t]? = some (kA t, .object C)) (hC : C = RX0 ∨ C = RX8) (hw : Cond.classLink M.1 idx C ∈ pv_T) (hn : ¬ n < 0) (N : Nat) (hN : n.toNatClampNeg = N) (hby : N * 4 ≤ 536870912) {r2 : Nat} (hr : h.length = r2) (n0 : Nat) (hp : pc + 3 = n0) (k : PV g M Q dp kc ks n0 lo (.ref r2 :: st) (h ++ [pv_q t N (fun _ => none)])) : PV g M Q dp (kc + 1) (ks + N) pc lo (.int n :: st) h := by
  intro p e R s m args below meth c X f1 f2 f3 H locs cells slots ls hH hS h1 h2 hL
  subst hp
  subst hr
  subst hN
  have hov : va_AO C s := by rcases hC with rfl | rfl; exact X.2.2.2.2.2.2.2.2.2.2.1; exact X.2.2.2.2.2.2.2.2.2.2.2
  refine W.anew X.1 X.2.1 X.2.2.2.2.1 (X.2.2.2.2.2.2.2.1 _ hw) (va_AO.use hov) rfl hd rfl hn hby (by omega) (by omega) fun cA kA comp g1 g2 g3 g4 => ?_
  obtain ⟨kA', comp', k1, k2, k3, k4⟩ := (X.2.2.2.2.2.2.2.2.1.2 t _ (ht _)).2
  have hcA : cA = g.2.2.1 t := Option.some.inj (g1.symm.trans k4)
  subst hcA
  have e0 : H.size = g.2.2.2 + h.length := hH.2
  generalize hH1 : H.push ({ cls := g.2.2.1 t, slots := Array.replicate n.toNatClampNeg .null, vm := .none } : Cell) = H1
  have z1 : H1.size = H.size + 1 := by rw [← hH1, Array.size_push]
  have e1 : H1[H.size]? = some (arrV (g.2.2.1 t) n.toNatClampNeg (fun _ => .null)) := by rw [← hH1, Array.getElem?_push_size, ← arrV_new]
  have o1 : ∀ q : Nat, q < H.size → H1[q]? = H[q]? := fun q hq => by rw [← hH1, Array.getElem?_push, if_neg (Nat.ne_of_lt hq)]
  have q := k p e R s m args below meth c X f1 f2 f3 H1 locs (cells + 1) (slots + n.toNatClampNeg) ls (pv_push hH _ z1 o1 (by show H1[g.2.2.2 + h.length]? = some (vp_cell _ (_, .inr (.inr (.inr (.inr _))))); rw [vp_cell_q, ← e0]; exact e1)) (pv_Sp hS z1 o1) (by omega) (by omega) hL
  rw [e0]
  exact q
theorem pv_new {g : pv_G} {M : pv_M} {Q : Option Value → List pv_C → Prop} {dp kc ks pc : Nat} {lo st : List Value} {h : List pv_C} {idx ci N : Nat} {C : String} {T : u_T} {ty : Nat → FieldType} {fs : List Value} (hd : decode M.2.2.1 pc = .ok (.new idx, 3)) (F : pv_F ci C T N ty) (hw : Cond.classLink M.1 idx C ∈ pv_T) (hw2 : Cond.instantiable C N ∈ pv_T) (hw3 : Cond.initialized C ∈ pv_T) (hfs : ∀ (b j : Nat), j < N → defaultValue (ty j) = vp_V (fs.map (pv_lf b)) j) {r2 : Nat} (hr : h.length = r2) (n0 : Nat) (hp : pc + 3 = n0) (k : PV g M Q dp kc ks n0 lo (.ref r2 :: st) (h ++ [pv_o ci fs])) : PV g M Q dp (kc + 1) (ks + N) pc lo st h := by
  intro p e R s m args below meth c X f1 f2 f3 H locs cells slots ls hH hS h1 h2 hL
  subst hp
  subst hr
  have hKn := X.2.2.2.2.2.2.2.2.1.1 ci _ F.1
  refine W.newcK X.1 X.2.1 X.2.2.2.2.1 (X.2.2.2.2.2.2.2.1 _ hw) (X.2.2.2.2.2.2.2.1 _ hw2) (X.2.2.2.2.2.2.2.1 _ hw3) rfl hd (by omega) (by omega) hKn.2.1 rfl fun H1 kC hkC e1 z1 o1 => ?_
  have e0 : H.size = g.2.2.2 + h.length := hH.2
  rw [e0] at e1 ⊢
  exact k p e R s m args below meth c X f1 f2 f3 H1 locs (cells + 1) (slots + N) ls (pv_push hH _ (by rw [z1]) (by rw [e0]; rw [e0] at o1; exact o1) ⟨_, F.1, (u_born ty X.2.2.2.2.2.2.2.1 F.2.1 hKn hkC e1 F.2.2.1).to (hfs _)⟩) (pv_Sp hS (by rw [z1]) (by rw [e0]; rw [e0] at o1; exact o1)) (by omega) (by omega) hL
end
section
/-! the rules of PV for calls and returns -/
theorem pv_widen {p : Program} {l : Launch} {e : Env} {R : Room} {s : State} {m : MethodId} {args : Array Value} {below : List Frame} {meth : Method} {c : Code} {H : Heap} {locs : List Loc} {cells slots : Nat} {Q : State → Prop} {g : JFrame} (h1 : cells ≤ R.cells) (h2 : slots ≤ R.slots) (k : W p l e R s m args below meth c H locs R.cells R.slots Q g) : W p l e R s m args below meth c H locs cells slots Q g := W.widen h1 h2 k
theorem pv_iret {g : pv_G} {M : pv_M} {Q : Option Value → List pv_C → Prop} {dp kc ks pc : Nat} {lo : List Value} {h : List pv_C} {ty : FieldType} {x : Int32} (hd : decode M.2.2.1 pc = .ok (.ireturn, 1)) (hr : M.2.2.2.2 = some ty) (hn : narrow ty (.int x) = .int x) (hq : Q (some (.int x)) h) : PV g M Q dp kc ks pc lo [.int x] h := by
  intro p e R s m args below meth c X f1 f2 f3 H locs cells slots ls hH hS h1 h2 hL
  refine pv_widen (by omega) (by omega) ?_
  exact W.zret X.1 X.2.1 (X.2.2.1.trans hr) hn (fun t ht hW => ⟨_, h, rfl, hq, by rw [ht]; exact hH, hS.F ht⟩) hS.2.2 hd X.2.2.2.2.2.1
theorem pv_lret {g : pv_G} {M : pv_M} {Q : Option Value → List pv_C → Prop} {dp kc ks pc : Nat} {lo : List Value} {h : List pv_C} {x : Int64} (hd : decode M.2.2.1 pc = .ok (.lreturn, 1)) (hr : M.2.2.2.2 = some .long) (hq : Q (some (.long x)) h) : PV g M Q dp kc ks pc lo [.long x] h := by
  intro p e R s m args below meth c X f1 f2 f3 H locs cells slots ls hH hS h1 h2 hL
  refine pv_widen (by omega) (by omega) ?_
  exact W.lret X.1 X.2.1 (X.2.2.1.trans hr) (fun t ht hW => ⟨_, h, rfl, hq, by rw [ht]; exact hH, hS.F ht⟩) hS.2.2 hd X.2.2.2.2.2.1
theorem pv_vret {g : pv_G} {M : pv_M} {Q : Option Value → List pv_C → Prop} {dp kc ks pc : Nat} {lo : List Value} {h : List pv_C} (hd : decode M.2.2.1 pc = .ok (.return_, 1)) (hr : M.2.2.2.2 = none) (hq : Q none h) : PV g M Q dp kc ks pc lo [] h := by
  intro p e R s m args below meth c X f1 f2 f3 H locs cells slots ls hH hS h1 h2 hL
  refine pv_widen (by omega) (by omega) ?_
  exact W.vret X.1 X.2.1 (X.2.2.1.trans hr) (fun t ht hW => ⟨none, h, rfl, hq, by rw [ht]; exact hH, hS.F ht⟩) hS.2.2 hd X.2.2.2.2.2.1
theorem pv_aret {g : pv_G} {M : pv_M} {Q : Option Value → List pv_C → Prop} {dp kc ks pc : Nat} {lo : List Value} {h : List pv_C} {a : Nat} {C : String} (hd : decode M.2.2.1 pc = .ok (.areturn, 1)) (hr : M.2.2.2.2 = some (.object C)) (hq : Q (some (.ref a)) h) : PV g M Q dp kc ks pc lo [.ref a] h := by
  intro p e R s m args below meth c X f1 f2 f3 H locs cells slots ls hH hS h1 h2 hL
  refine pv_widen (by omega) (by omega) ?_
  exact W.aret X.1 X.2.1 (X.2.2.1.trans hr) (Or.inl ⟨C, rfl⟩) (Or.inr ⟨_, rfl⟩) (fun t ht hW => ⟨some (.ref a), h, rfl, hq, by rw [ht]; exact hH, hS.F ht⟩) hS.2.2 hd X.2.2.2.2.2.1
/-- what the tables say of a method -/
def pv_y (y : MethodName) (M : pv_M) (n : Nat) : Prop := Cond.code y M.2.2.1 M.2.2.2.1 M.2.2.2.2 ∈ pv_T ∧ Cond.initialized y.cls ∈ pv_T ∧ (y.cls ≠ "java/lang/invoke/MethodHandle" ∧ y.cls ≠ "java/lang/invoke/VarHandle" ∧ (parseMethodDescriptor y.desc).map (fun d => d.parameters.length) = some n) ∧ M.2.2.2.1 ≤ 21
theorem pv_G_of {y : MethodName} {M : pv_M} {n : Nat} (hy : pv_y y M n) : GoodIn pv_T (.code y M.2.2.1 M.2.2.2.1 M.2.2.2.2 :: pv_T) := pv_T_good (fun w hw => by rcases List.mem_cons.mp hw with rfl | q; exact hy.1; exact q)
theorem pv_blind {g : pv_G} {as : List Value} {h : List pv_C} : FrameBlind (fun v U => v = (as.map (pv_lf g.2.2.2)).toArray ∧ g.2.2.2 ≤ U.heap.size ∧ pv_H g.2.1 g.2.2.1 g.2.2.2 h U.heap ∧ pv_J g.2.1 g.2.2.1 U) :=
  fun a U gg mk q => ⟨q.1, q.2.1, q.2.2.1, pv_J.same rfl q.2.2.2⟩
theorem pv_goes {g : pv_G} {Q' : Option Value → List pv_C → Prop} {p : Program} {e : Env} {R : Room} {s : State} {m : MethodId} {args : Array Value} {below : List Frame} {meth : Method} {c : Code} {H : Heap} {locs : List Loc} {cells slots mc ms pc : Nat} {ls : Array Slot} {st0 rest : List Value} {a : Array Value} {Z : State → Prop}
    (hr : va_Run p g.1 e R s m args below meth c H locs cells slots mc ms (F0 m pc ls st0) rest (pv_Q g Q' a) (pv_A g.2.2.2)) (hS : va_S (pv_A g.2.2.2) s.heap H locs)
    (kk : ∀ (r : Option Value) (h' : List pv_C) (H1 : Heap) (locs1 : List Loc), Q' r h' → pv_H g.2.1 g.2.2.1 g.2.2.2 h' H1 → va_S (pv_A g.2.2.2) s.heap H1 locs1 → W p g.1 e R s m args below meth c H1 locs1 (cells + mc) (slots + ms) Z (F0 m (pc + 3) ls ((r.map (pv_lf g.2.2.2)).toList ++ rest))) : W p g.1 e R s m args below meth c H locs cells slots Z (F0 m pc ls st0) := by
  intro T hT X
  obtain ⟨v, st₀, t, T', L, h0, X', hL, e1, e2, ⟨r, h', hv, hq, hH, hz, hk⟩, st⟩ := hr T hT X
  cases hv
  rw [h0] at hz hk
  obtain ⟨t2, a1, b1⟩ := kk r h' T'.heap (locs ++ L) hq (by rw [e1]; exact hH)
    ⟨Nat.le_trans hS.1 (by rw [e1]; exact hz), fun q h1 h2 => by rw [e1, hk q (Nat.lt_of_lt_of_le h1 hS.1) h2]; exact hS.2.1 q h1 h2, fun q hq => by
      rcases List.mem_append.mp hq with h | h
      · exact hS.2.2 q h
      · exact hL q h⟩ T' rfl X'
  exact ⟨t2, st t2 a1, b1⟩
theorem pv_stk {b : Nat} (r : Option Value) (st : List Value) : (r.map (pv_lf b)).toList ++ st.map (pv_lf b) = (r.toList ++ st).map (pv_lf b) := by cases r <;> rfl
theorem pv_rev {b : Nat} (as st : List Value) : (as.reverse ++ st).map (pv_lf b) = (as.map (pv_lf b)).reverse ++ st.map (pv_lf b) := by rw [List.map_append, List.map_reverse]
theorem pv_cats {b : Nat} (st : List Value) : ((st.map (pv_lf b)).map fun v => v.category).sum = (st.map fun v => v.category).sum := by
  rw [List.map_map]
  congr 1
  exact List.map_congr_left (fun v _ => pv_lf_cat b v)
theorem pv_callv {g : pv_G} {M : pv_M} {Q : Option Value → List pv_C → Prop} {dp kc ks pc : Nat} {lo st st0 : List Value} {h : List pv_C} {y : MethodName} {M' : pv_M} {n idx a ci : Nat} {as fs : List Value} {r0 : vw_C} {dp' kc' ks' kc2 ks2 : Nat} {Q' : Option Value → List pv_C → Prop}
    (hd : decode M.2.2.1 pc = .ok (.invokevirtual idx, 3)) (hl : Cond.methodLink M.1 idx y ∈ pv_T) (hy : pv_y y M' n) (hyv : Cond.instanceMethod y ∈ pv_T ∧ Cond.selects y.cls y y ∈ pv_T) (ha : h[a]? = some (pv_o ci fs)) (hci : vwCl[ci]? = some r0) (hcl : r0.1 = y.cls) (hM : PM g M' y Q' dp' kc' ks' (.ref a :: as) h) (hn : as.length = n) (hs : as.reverse ++ .ref a :: st = st0) (hw : (st.map fun v => v.category).sum ≤ 8) (hdp : dp' + 1 ≤ dp) (hkc : kc' + kc2 = kc) (hks : ks' + ks2 = ks)
    (n0 : Nat) (hp : pc + 3 = n0) (k : ∀ (r : Option Value) (h' : List pv_C), Q' r h' → PV g M Q dp kc2 ks2 n0 lo (r.toList ++ st) h') : PV g M Q dp kc ks pc lo st0 h := by
  intro p e R s m args below meth c X f1 f2 f3 H locs cells slots ls hH hS h1 h2 hL
  subst hp
  subst hs
  obtain ⟨cellB, hcB, hoB, hclB⟩ := va_recv X.2.2.2.2.2.2.2.2.1 hH.1 hci (pv_W_get ha)
  have hts := X.2.2.2.2.2.2.2.1
  refine pv_goes (va_runV (As := as.map (pv_lf g.2.2.2)) (rest := st.map (pv_lf g.2.2.2)) (C := y.cls) (n := n) ⟨X.1, X.2.1, X.2.2.2.1, X.2.2.2.2.1, hts⟩ hM ⟨callB_of n hts (pv_G_of hy) rfl rfl rfl (hts _ hy.2.1) (hts _ hl) hy.2.2.1 ⟨by show dp' + 1 ≤ _; omega, by have := hy.2.2.2; show 8 + (M'.2.2.2.1 + 11) + 40 * dp' ≤ _; omega⟩, hts _ hyv.1, hts _ hyv.2⟩ ⟨pv_blind, ⟨cellB, hcB, hoB, by rw [← hcl]; exact hclB⟩, fun U hU hW => ⟨rfl, by rw [hU]; exact Nat.le_trans f3 hS.1, by rw [hU]; exact hH, X.2.2.2.2.2.2.2.2.moved hW⟩⟩ rfl (by rw [List.length_map]; exact hn) hL.1 (by rw [pv_rev]; rfl) (by rw [pv_cats]; show 2 * 0 + _ ≤ 8; omega) hd ⟨by omega, by omega⟩) hS (fun r h' H1 locs1 hq hH1 hS1 => ?_)
  rw [pv_stk]
  exact k r h' hq p e R s m args below meth c X f1 f2 f3 H1 locs1 _ _ ls hH1 hS1 (by omega) (by omega) hL
theorem pv_calls {g : pv_G} {M : pv_M} {Q : Option Value → List pv_C → Prop} {dp kc ks pc : Nat} {lo st st0 : List Value} {h : List pv_C} {y : MethodName} {M' : pv_M} {n idx : Nat} {as : List Value} {dp' kc' ks' kc2 ks2 : Nat} {Q' : Option Value → List pv_C → Prop}
    (hd : decode M.2.2.1 pc = .ok (.invokestatic idx, 3)) (hl : Cond.methodLink M.1 idx y ∈ pv_T) (hy : pv_y y M' n) (hys : Cond.static y ∈ pv_T) (hM : PM g M' y Q' dp' kc' ks' as h) (hn : as.length = n) (hs : as.reverse ++ st = st0) (hw : (st.map fun v => v.category).sum ≤ 8) (hdp : dp' + 1 ≤ dp) (hkc : kc' + kc2 = kc) (hks : ks' + ks2 = ks)
    (n0 : Nat) (hp : pc + 3 = n0) (k : ∀ (r : Option Value) (h' : List pv_C), Q' r h' → PV g M Q dp kc2 ks2 n0 lo (r.toList ++ st) h') : PV g M Q dp kc ks pc lo st0 h := by
  intro p e R s m args below meth c X f1 f2 f3 H locs cells slots ls hH hS h1 h2 hL
  subst hp
  subst hs
  have hts := X.2.2.2.2.2.2.2.1
  refine pv_goes (va_runS (As := as.map (pv_lf g.2.2.2)) (rest := st.map (pv_lf g.2.2.2)) (n := n) ⟨X.1, X.2.1, X.2.2.2.1, X.2.2.2.2.1, hts⟩ hM ⟨callB_of n hts (pv_G_of hy) rfl rfl rfl (hts _ hy.2.1) (hts _ hl) hy.2.2.1 ⟨by show dp' + 1 ≤ _; omega, by have := hy.2.2.2; show 8 + (M'.2.2.2.1 + 11) + 40 * dp' ≤ _; omega⟩, hts _ hys⟩ ⟨pv_blind, fun U hU hW => ⟨rfl, by rw [hU]; exact Nat.le_trans f3 hS.1, by rw [hU]; exact hH, X.2.2.2.2.2.2.2.2.moved hW⟩⟩ rfl (by rw [List.length_map]; exact hn) hL.1 (by rw [pv_rev]) (by rw [pv_cats]; show 2 * 0 + _ ≤ 8; omega) hd ⟨by omega, by omega⟩) hS (fun r h' H1 locs1 hq hH1 hS1 => ?_)
  rw [pv_stk]
  exact k r h' hq p e R s m args below meth c X f1 f2 f3 H1 locs1 _ _ ls hH1 hS1 (by omega) (by omega) hL
theorem pv_calli {g : pv_G} {M : pv_M} {Q : Option Value → List pv_C → Prop} {dp kc ks pc : Nat} {lo st st0 : List Value} {h : List pv_C} {y : MethodName} {M' : pv_M} {n idx a : Nat} {as : List Value} {dp' kc' ks' kc2 ks2 : Nat} {Q' : Option Value → List pv_C → Prop}
    (hd : decode M.2.2.1 pc = .ok (.invokespecial idx, 3)) (hl : Cond.methodLink M.1 idx y ∈ pv_T) (hy : pv_y y M' n) (hyi : y.name = "<init>" ∧ M'.2.2.2.2 = none ∧ Cond.instanceMethod y ∈ pv_T) (hM : PM g M' y Q' dp' kc' ks' (.ref a :: as) h) (hn : as.length = n) (hs : as.reverse ++ .ref a :: st = st0) (hw : (st.map fun v => v.category).sum ≤ 8) (hdp : dp' + 1 ≤ dp) (hkc : kc' + kc2 = kc) (hks : ks' + ks2 = ks)
    (n0 : Nat) (hp : pc + 3 = n0) (k : ∀ (r : Option Value) (h' : List pv_C), Q' r h' → PV g M Q dp kc2 ks2 n0 lo (r.toList ++ st) h') : PV g M Q dp kc ks pc lo st0 h := by
  intro p e R s m args below meth c X f1 f2 f3 H locs cells slots ls hH hS h1 h2 hL
  subst hp
  subst hs
  have hts := X.2.2.2.2.2.2.2.1
  have hG := pv_G_of hy
  unfold PM at hM
  rw [hyi.2.1] at hM hG
  refine pv_goes (va_runI (As := as.map (pv_lf g.2.2.2)) (rest := st.map (pv_lf g.2.2.2)) (n := n) ⟨X.1, X.2.1, X.2.2.2.1, X.2.2.2.2.1, hts⟩ hM ⟨callB_of n hts hG rfl rfl rfl (hts _ hy.2.1) (hts _ hl) hy.2.2.1 ⟨by show dp' + 1 ≤ _; omega, by have := hy.2.2.2; show 8 + (M'.2.2.2.1 + 11) + 40 * dp' ≤ _; omega⟩, hyi.1, hts _ hyi.2.2⟩ ⟨pv_blind, fun U hU hW => ⟨rfl, by rw [hU]; exact Nat.le_trans f3 hS.1, by rw [hU]; exact hH, X.2.2.2.2.2.2.2.2.moved hW⟩⟩ rfl (by rw [List.length_map]; exact hn) hL.1 (by rw [pv_rev]; rfl) (by rw [pv_cats]; show 2 * 0 + _ ≤ 8; omega) hd ⟨by omega, by omega⟩) hS (fun r h' H1 locs1 hq hH1 hS1 => ?_)
  rw [pv_stk]
  exact k r h' hq p e R s m args below meth c X f1 f2 f3 H1 locs1 _ _ ls hH1 hS1 (by omega) (by omega) hL
theorem pv_callin {g : pv_G} {M : pv_M} {Q : Option Value → List pv_C → Prop} {dp kc ks pc : Nat} {lo st st0 : List Value} {h : List pv_C} {y : MethodName} {M' : pv_M} {n idx a : Nat} {host : String} {as : List Value} {dp' kc' ks' kc2 ks2 : Nat} {Q' : Option Value → List pv_C → Prop}
    (hd : decode M.2.2.1 pc = .ok (.invokespecial idx, 3)) (hl : (M.1, idx, y, host) ∈ pv_N) (hy : pv_y y M' n) (hyi : y.name = "<init>" ∧ M'.2.2.2.2 = none ∧ Cond.instanceMethod y ∈ pv_T) (hM : PM g M' y Q' dp' kc' ks' (.ref a :: as) h) (hn : as.length = n) (hs : as.reverse ++ .ref a :: st = st0) (hw : (st.map fun v => v.category).sum ≤ 8) (hdp : dp' + 1 ≤ dp) (hkc : kc' + kc2 = kc) (hks : ks' + ks2 = ks)
    (n0 : Nat) (hp : pc + 3 = n0) (k : ∀ (r : Option Value) (h' : List pv_C), Q' r h' → PV g M Q dp kc2 ks2 n0 lo (r.toList ++ st) h') : PV g M Q dp kc ks pc lo st0 h := by
  intro p e R s m args below meth c X f1 f2 f3 H locs cells slots ls hH hS h1 h2 hL
  subst hp
  subst hs
  have hts := X.2.2.2.2.2.2.2.1
  have hG := pv_G_of hy
  unfold PM at hM
  rw [hyi.2.1] at hM hG
  refine pv_goes (va_runIN (As := as.map (pv_lf g.2.2.2)) (rest := st.map (pv_lf g.2.2.2)) (n := n) ⟨X.1, X.2.1, X.2.2.2.1, X.2.2.2.2.1, hts⟩ hM ⟨va_cnB n hts hG rfl rfl rfl (X.2.2.2.2.2.2.2.2.2.1 _ hl) (hts _ hy.2.1) hy.2.2.1 ⟨by show dp' + 1 ≤ _; omega, by have := hy.2.2.2; show 8 + (M'.2.2.2.1 + 11) + 40 * dp' ≤ _; omega⟩, hyi.1, hts _ hyi.2.2⟩ ⟨pv_blind, fun U hU hW => ⟨rfl, by rw [hU]; exact Nat.le_trans f3 hS.1, by rw [hU]; exact hH, X.2.2.2.2.2.2.2.2.moved hW⟩⟩ rfl (by rw [List.length_map]; exact hn) hL.1 (by rw [pv_rev]; rfl) (by rw [pv_cats]; show 2 * 0 + _ ≤ 8; omega) hd ⟨by omega, by omega⟩) hS (fun r h' H1 locs1 hq hH1 hS1 => ?_)
  rw [pv_stk]
  exact k r h' hq p e R s m args below meth c X f1 f2 f3 H1 locs1 _ _ ls hH1 hS1 (by omega) (by omega) hL
theorem pv_obj {g : pv_G} {M : pv_M} {Q : Option Value → List pv_C → Prop} {dp kc ks pc : Nat} {lo st : List Value} {h : List pv_C} {idx a : Nat} (hd : decode M.2.2.1 pc = .ok (.invokespecial idx, 3)) (hl : Cond.methodLink M.1 idx objectInit ∈ pv_T) (h3 : Cond.instanceMethod objectInit ∈ pv_T) (h4 : Cond.code objectInit ⟨#[0xb1]⟩ 1 none ∈ pv_T) (hw : (st.map fun v => v.category).sum ≤ 8) (hdp : 1 ≤ dp) (n0 : Nat) (hp : pc + 3 = n0) (k : PV g M Q dp kc ks n0 lo st h) : PV g M Q dp kc ks pc lo (.ref a :: st) h := by
  intro p e R s m args below meth c X f1 f2 f3 H locs cells slots ls hH hS h1 h2 hL
  subst hp
  have hts := X.2.2.2.2.2.2.2.1
  exact W.objInit X.1 X.2.1 X.2.2.2.2.1 (hts _ hl) (hts _ h3) (hts _ h4) rfl (by rw [X.2.2.2.1]; exact hL.1) rfl hd (by omega) (by rw [pv_cats]; show 2 * 0 + _ + 12 ≤ _; omega) (k p e R s m args below meth c X f1 f2 f3 H locs cells slots ls hH hS h1 h2 hL)
theorem pv_max {g : pv_G} {M : pv_M} {Q : Option Value → List pv_C → Prop} {dp kc ks pc : Nat} {lo st : List Value} {h : List pv_C} {idx : Nat} {x y : Int32} (hd : decode M.2.2.1 pc = .ok (.invokestatic idx, 3)) (hl : Cond.methodLink M.1 idx Lib.Math.max.name ∈ pv_T) (h3 : Cond.static Lib.Math.max.name ∈ pv_T ∧ Cond.initialized "java/lang/Math" ∈ pv_T ∧ Cond.code Lib.Math.max.name Lib.Math.max.code 2 (some .int) ∈ pv_T) (hw : (st.map fun v => v.category).sum ≤ 8) (hdp : 1 ≤ dp) {v : Int32} (hv : (if x < y then y else x) = v) (n0 : Nat) (hp : pc + 3 = n0) (k : PV g M Q dp kc ks n0 lo (.int v :: st) h) : PV g M Q dp kc ks pc lo (.int y :: .int x :: st) h := by
  intro p e R s m args below meth c X f1 f2 f3 H locs cells slots ls hH hS h1 h2 hL
  subst hp
  subst hv
  have hts := X.2.2.2.2.2.2.2.1
  exact va_mmax X.1 X.2.1 (by rw [X.2.2.2.1]; exact hL.1.symm) X.2.2.2.2.1 (hts _ hl) (hts _ h3.1) (hts _ h3.2.1) (hts _ h3.2.2) (by omega) (by rw [pv_cats]; omega) (by omega) (by omega) hd (k p e R s m args below meth c X f1 f2 f3 H locs cells slots ls hH hS h1 h2 hL)
theorem pv_min {g : pv_G} {M : pv_M} {Q : Option Value → List pv_C → Prop} {dp kc ks pc : Nat} {lo st : List Value} {h : List pv_C} {idx : Nat} {x y : Int32} (hd : decode M.2.2.1 pc = .ok (.invokestatic idx, 3)) (hl : Cond.methodLink M.1 idx Lib.Math.min.name ∈ pv_T) (h3 : Cond.static Lib.Math.min.name ∈ pv_T ∧ Cond.initialized "java/lang/Math" ∈ pv_T ∧ Cond.code Lib.Math.min.name Lib.Math.min.code 2 (some .int) ∈ pv_T) (hw : (st.map fun v => v.category).sum ≤ 8) (hdp : 1 ≤ dp) {v : Int32} (hv : (if y < x then y else x) = v) (n0 : Nat) (hp : pc + 3 = n0) (k : PV g M Q dp kc ks n0 lo (.int v :: st) h) : PV g M Q dp kc ks pc lo (.int y :: .int x :: st) h := by
  intro p e R s m args below meth c X f1 f2 f3 H locs cells slots ls hH hS h1 h2 hL
  subst hp
  subst hv
  have hts := X.2.2.2.2.2.2.2.1
  exact va_mmin X.1 X.2.1 (by rw [X.2.2.2.1]; exact hL.1.symm) X.2.2.2.2.1 (hts _ hl) (hts _ h3.1) (hts _ h3.2.1) (hts _ h3.2.2) (by omega) (by rw [pv_cats]; omega) (by omega) (by omega) hd (k p e R s m args below meth c X f1 f2 f3 H locs cells slots ls hH hS h1 h2 hL)
def pv_is (r : Option Value) (h2 : List pv_C) : Option Value → List pv_C → Prop := fun a b => a = r ∧ b = h2
theorem pv_k0 {g : pv_G} {M : pv_M} {Q : Option Value → List pv_C → Prop} {dp kc ks pc : Nat} {lo st : List Value} {h2 : List pv_C} (k : PV g M Q dp kc ks pc lo st h2) : ∀ (r : Option Value) (h' : List pv_C), pv_is none h2 r h' → PV g M Q dp kc ks pc lo (r.toList ++ st) h' := fun r h' q => by obtain ⟨rfl, rfl⟩ := q; exact k
theorem pv_k1 {g : pv_G} {M : pv_M} {Q : Option Value → List pv_C → Prop} {dp kc ks pc : Nat} {lo st : List Value} {h2 : List pv_C} {v : Value} (k : PV g M Q dp kc ks pc lo (v :: st) h2) : ∀ (r : Option Value) (h' : List pv_C), pv_is (some v) h2 r h' → PV g M Q dp kc ks pc lo (r.toList ++ st) h' := fun r h' q => by obtain ⟨rfl, rfl⟩ := q; exact k
theorem pv_sn {h : List pv_C} {a b : Nat} {c d : pv_C} (hab : a ≠ b) (e : h[b]? = some d) : (h.set a c)[b]? = some d := by rw [List.getElem?_set_ne hab]; exact e
theorem pv_se {h : List pv_C} {a : Nat} {c d : pv_C} (e : h[a]? = some d) : (h.set a c)[a]? = some c := by
  rw [List.getElem?_set_self]
  exact (List.getElem?_eq_some_iff.mp e).1
theorem pv_f1 {h0 suf : List pv_C} {n j : Nat} {c : pv_C} (hn : h0.length = n) (e : suf[j]? = some c) : (h0 ++ suf)[n + j]? = some c := by
  rw [List.getElem?_append_right (by omega), hn, Nat.add_sub_cancel_left]; exact e
theorem pv_f2 {h0 suf : List pv_C} {n j : Nat} {c : pv_C} (hn : h0.length = n) {suf2 : List pv_C} (e : suf.set j c = suf2) : (h0 ++ suf).set (n + j) c = h0 ++ suf2 := by
  rw [List.set_append_right _ _ (by omega), hn, Nat.add_sub_cancel_left, e]
theorem pv_f3 {h0 suf : List pv_C} {n j : Nat} (hn : h0.length = n) (e : suf.length = j) : (h0 ++ suf).length = n + j := by rw [List.length_append, hn, e]
theorem pv_f4 {g : pv_G} {M : pv_M} {Q : Option Value → List pv_C → Prop} {dp kc ks pc : Nat} {lo st : List Value} {h0 s1 s2 s3 : List pv_C} (e : s1 ++ s2 = s3) (k : PV g M Q dp kc ks pc lo st (h0 ++ s3)) : PV g M Q dp kc ks pc lo st ((h0 ++ s1) ++ s2) := by rw [List.append_assoc, e]; exact k
end
section
/-! small rows for the laid walks -/
theorem pv_B {g : pv_G} {M : pv_M} {y : MethodName} {Q : Option Value → List pv_C → Prop} {dp kc ks : Nat} {as : List Value} {h0 s1 s2 s3 : List pv_C} (e : s1 ++ s2 = s3) (k : PM g M y Q dp kc ks as ((h0 ++ s1) ++ s2)) : PM g M y Q dp kc ks as (h0 ++ s3) := by
  rw [← e, ← List.append_assoc]; exact k
theorem pv_in0 {i : Int32} {n : Nat} (h : ¬ (i < 0 ∨ n ≤ i.toNatClampNeg)) : vp_in i n := h
theorem pv_z1 (x : Int32) : (0 : Int32) >>> (x &&& 31) = 0 := by
  apply Int32.toBitVec_inj.mp
  simp
theorem pv_z2 (x : Int32) : (0 : Int32) &&& x = 0 := by simp
theorem pv_z3 (x : Int32) : x &&& (0 : Int32) = 0 := by simp
theorem pv_out8 {x : Int32} (c0 : ¬ x = 0) (c1 : ¬ x = 1) (c2 : ¬ x = 2) (c3 : ¬ x = 3) (c4 : ¬ x = 4) (c5 : ¬ x = 5) (c6 : ¬ x = 6) (c7 : ¬ x = 7) : x.toInt < 0 ∨ 7 < x.toInt := by
  have f : ∀ k : Int32, ¬ x = k → x.toInt ≠ k.toInt := fun k h e => h (Int32.toInt_inj.mp e)
  have h0 : x.toInt ≠ 0 := f 0 c0
  have h1 : x.toInt ≠ 1 := f 1 c1
  have h2 : x.toInt ≠ 2 := f 2 c2
  have h3 : x.toInt ≠ 3 := f 3 c3
  have h4 : x.toInt ≠ 4 := f 4 c4
  have h5 : x.toInt ≠ 5 := f 5 c5
  have h6 : x.toInt ≠ 6 := f 6 c6
  have h7 : x.toInt ≠ 7 := f 7 c7
  omega
theorem pv_by {c N : Nat} (e : c ≤ 8) (h : N ≤ 60000000) : N * c ≤ 536870912 := by have := Nat.mul_le_mul_left N e; omega
theorem pv_newa_i {g : pv_G} {M : pv_M} {Q : Option Value → List pv_C → Prop} {dp kc ks pc : Nat} {lo st : List Value} {h : List pv_C} {n : Int32} (hd : decode M.2.2.1 pc = .ok (.newarray .int, 2)) (hw : Cond.arrayClass .int ∈ pv_T) (hn : ¬ n < 0) (N : Nat) (hN : n.toNatClampNeg = N) (hby : N ≤ 60000000) {r2 : Nat} (hr : h.length = r2) (n0 : Nat) (hp : pc + 2 = n0) (k : PV g M Q dp kc ks n0 lo (.ref r2 :: st) (h ++ [pv_i N (fun _ => 0)])) : PV g M Q dp (kc + 1) (ks + N) pc lo (.int n :: st) h :=
  pv_newa (at0 := .int) (x := (N, .inl (fun _ => 0))) hd 0 (fun _ => rfl) (fun _ _ q => q) hw hn N hN (fun _ _ => rfl) (pv_by (by decide : componentBytes .int ≤ 8) hby) hr n0 hp k
theorem pv_newa_z {g : pv_G} {M : pv_M} {Q : Option Value → List pv_C → Prop} {dp kc ks pc : Nat} {lo st : List Value} {h : List pv_C} {n : Int32} (hd : decode M.2.2.1 pc = .ok (.newarray .boolean, 2)) (hw : Cond.arrayClass .boolean ∈ pv_T) (hn : ¬ n < 0) (N : Nat) (hN : n.toNatClampNeg = N) (hby : N ≤ 60000000) {r2 : Nat} (hr : h.length = r2) (n0 : Nat) (hp : pc + 2 = n0) (k : PV g M Q dp kc ks n0 lo (.ref r2 :: st) (h ++ [pv_z N (fun _ => 0)])) : PV g M Q dp (kc + 1) (ks + N) pc lo (.int n :: st) h :=
  pv_newa (at0 := .boolean) (x := (N, .inl (fun _ => 0))) hd 1 (fun _ => rfl) (fun _ _ q => q) hw hn N hN (fun _ _ => rfl) (pv_by (by decide : componentBytes .boolean ≤ 8) hby) hr n0 hp k
theorem pv_newa_l {g : pv_G} {M : pv_M} {Q : Option Value → List pv_C → Prop} {dp kc ks pc : Nat} {lo st : List Value} {h : List pv_C} {n : Int32} (hd : decode M.2.2.1 pc = .ok (.newarray .long, 2)) (hw : Cond.arrayClass .long ∈ pv_T) (hn : ¬ n < 0) (N : Nat) (hN : n.toNatClampNeg = N) (hby : N ≤ 60000000) {r2 : Nat} (hr : h.length = r2) (n0 : Nat) (hp : pc + 2 = n0) (k : PV g M Q dp kc ks n0 lo (.ref r2 :: st) (h ++ [pv_l N (fun _ => 0)])) : PV g M Q dp (kc + 1) (ks + N) pc lo (.int n :: st) h :=
  pv_newa (at0 := .long) (x := (N, .inr (.inl (fun _ => 0)))) hd 2 (fun _ => rfl) (fun _ _ q => q) hw hn N hN (fun _ _ => rfl) (pv_by (by decide : componentBytes .long ≤ 8) hby) hr n0 hp k
theorem pv_newa_b {g : pv_G} {M : pv_M} {Q : Option Value → List pv_C → Prop} {dp kc ks pc : Nat} {lo st : List Value} {h : List pv_C} {n : Int32} (hd : decode M.2.2.1 pc = .ok (.newarray .byte, 2)) (hw : Cond.arrayClass .byte ∈ pv_T) (hn : ¬ n < 0) (N : Nat) (hN : n.toNatClampNeg = N) (hby : N ≤ 60000000) {r2 : Nat} (hr : h.length = r2) (n0 : Nat) (hp : pc + 2 = n0) (k : PV g M Q dp kc ks n0 lo (.ref r2 :: st) (h ++ [pv_b N (fun _ => 0)])) : PV g M Q dp (kc + 1) (ks + N) pc lo (.int n :: st) h :=
  pv_newa (at0 := .byte) (x := (N, .inl (fun _ => 0))) hd 3 (fun _ => rfl) (fun _ _ q => q) hw hn N hN (fun _ _ => rfl) (pv_by (by decide : componentBytes .byte ≤ 8) hby) hr n0 hp k
end
section
theorem wd126 : Cond.initialized RX10 ∈ pv_T := pv_m 126 (by decide +kernel) (by decide +kernel)
theorem wd127 : Cond.initialized RX0 ∈ pv_T := pv_m 127 (by decide +kernel) (by decide +kernel)
theorem wd128 : Cond.initialized RX8 ∈ pv_T := pv_m 128 (by decide +kernel) (by decide +kernel)
theorem wd129 : Cond.initialized RJ9 ∈ pv_T := pv_m 129 (by decide +kernel) (by decide +kernel)
theorem wd153 : Cond.instanceMethod objectInit ∈ pv_T := pv_m 153 (by decide +kernel) (by decide +kernel)
theorem wd154 : Cond.code objectInit ⟨#[0xb1]⟩ 1 none ∈ pv_T := pv_m 154 (by decide +kernel) (by decide +kernel)
theorem wd159 : Cond.code yX10_init cX10_init 1 none ∈ pv_T := pv_m 159 (by decide +kernel) (by decide +kernel)
theorem wd160 : Cond.methodLink RX10 3 objectInit ∈ pv_T := pv_m 160 (by decide +kernel) (by decide +kernel)
theorem wd161 : Cond.fieldLink RX10 9 "StrikeOut$Tape" "bytes" "[I" ∈ pv_T := pv_m 161 (by decide +kernel) (by decide +kernel)
theorem wd163 : Cond.fieldLink RX10 15 "StrikeOut$Tape" "size" "I" ∈ pv_T := pv_m 163 (by decide +kernel) (by decide +kernel)
theorem wd170 : Cond.arrayClass .int ∈ pv_T := pv_m 170 (by decide +kernel) (by decide +kernel)
theorem wd176 : Cond.code yX0_init cX0_init 1 none ∈ pv_T := pv_m 176 (by decide +kernel) (by decide +kernel)
theorem wd177 : Cond.methodLink RX0 3 objectInit ∈ pv_T := pv_m 177 (by decide +kernel) (by decide +kernel)
theorem wd178 : Cond.classLink RX0 9 RX8 ∈ pv_T := pv_m 178 (by decide +kernel) (by decide +kernel)
theorem wd179 : Cond.instantiable RX8 2 ∈ pv_T := pv_m 179 (by decide +kernel) (by decide +kernel)
theorem wd180 : Cond.methodLink RX0 11 yX8_init ∈ pv_T := pv_m 180 (by decide +kernel) (by decide +kernel)
theorem wd181 : Cond.instanceMethod yX8_init ∈ pv_T := pv_m 181 (by decide +kernel) (by decide +kernel)
theorem wd182 : Cond.code yX8_init cX8_init 2 none ∈ pv_T := pv_m 182 (by decide +kernel) (by decide +kernel)
theorem wd183 : Cond.methodLink RX8 3 objectInit ∈ pv_T := pv_m 183 (by decide +kernel) (by decide +kernel)
theorem wd184 : Cond.methodLink RX8 15 yJ9_max_7cf53 ∈ pv_T := pv_m 184 (by decide +kernel) (by decide +kernel)
theorem wd185 : Cond.static yJ9_max_7cf53 ∈ pv_T := pv_m 185 (by decide +kernel) (by decide +kernel)
theorem wd186 : Cond.code yJ9_max_7cf53 cJ9_max_7cf53 2 (some .int) ∈ pv_T := pv_m 186 (by decide +kernel) (by decide +kernel)
theorem wd187 : Cond.fieldLink RX8 21 "StrikeOut$Row" "letters" "[I" ∈ pv_T := pv_m 187 (by decide +kernel) (by decide +kernel)
theorem wd193 : Cond.fieldLink RX8 9 "StrikeOut$Row" "size" "I" ∈ pv_T := pv_m 193 (by decide +kernel) (by decide +kernel)
theorem wd207 : Cond.fieldLink RX0 14 "StrikeOut$Blank" "written" "LStrikeOut$Row;" ∈ pv_T := pv_m 207 (by decide +kernel) (by decide +kernel)
theorem wd209 : Cond.fieldLink RX0 20 "StrikeOut$Blank" "rest" "LStrikeOut$Row;" ∈ pv_T := pv_m 209 (by decide +kernel) (by decide +kernel)
theorem wd212 : Cond.fieldLink RX0 23 "StrikeOut$Blank" "own" "[I" ∈ pv_T := pv_m 212 (by decide +kernel) (by decide +kernel)
theorem wd213 : Cond.fieldLink RX0 27 "StrikeOut$Blank" "struck" "[Z" ∈ pv_T := pv_m 213 (by decide +kernel) (by decide +kernel)
theorem wd223 : Cond.arrayClass .boolean ∈ pv_T := pv_m 223 (by decide +kernel) (by decide +kernel)
set_option maxRecDepth 100000 in
theorem FX0 : pv_F 0 RX0 TX0 4 tyX0 := ⟨rfl, fun w hw => List.mem_filter.mpr ⟨(by decide +kernel : ∀ w ∈ u_ws RX0 TX0 4, w ∈ lw_tbl) w hw, (by decide +kernel : ∀ w ∈ u_ws RX0 TX0 4, goodWord w = true) w hw⟩, tyX0_ok, nmX0⟩
theorem pv_dfX0 : ∀ j, j < 4 → defaultValue (tyX0 j) = vp_V [.null, .null, .null, .null] j := by decide +kernel
set_option maxRecDepth 100000 in
theorem FX8 : pv_F 8 RX8 TX8 2 tyX8 := ⟨rfl, fun w hw => List.mem_filter.mpr ⟨(by decide +kernel : ∀ w ∈ u_ws RX8 TX8 2, w ∈ lw_tbl) w hw, (by decide +kernel : ∀ w ∈ u_ws RX8 TX8 2, goodWord w = true) w hw⟩, tyX8_ok, nmX8⟩
theorem pv_dfX8 : ∀ j, j < 2 → defaultValue (tyX8 j) = vp_V [.null, .int 0] j := by decide +kernel
set_option maxRecDepth 100000 in
theorem FX10 : pv_F 10 RX10 TX10 2 tyX10 := ⟨rfl, fun w hw => List.mem_filter.mpr ⟨(by decide +kernel : ∀ w ∈ u_ws RX10 TX10 2, w ∈ lw_tbl) w hw, (by decide +kernel : ∀ w ∈ u_ws RX10 TX10 2, goodWord w = true) w hw⟩, tyX10_ok, nmX10⟩
theorem pv_dfX10 : ∀ j, j < 2 → defaultValue (tyX10 j) = vp_V [.null, .int 0] j := by decide +kernel
abbrev mX0_init : pv_M := (RX0, "<init>", cX0_init, 1, none)
theorem YX0_init : pv_y yX0_init mX0_init 0 := ⟨wd176, wd127, by decide +kernel, by decide⟩
abbrev mX8_init : pv_M := (RX8, "<init>", cX8_init, 2, none)
theorem YX8_init : pv_y yX8_init mX8_init 1 := ⟨wd182, wd128, by decide +kernel, by decide⟩
abbrev mX10_init : pv_M := (RX10, "<init>", cX10_init, 1, none)
theorem YX10_init : pv_y yX10_init mX10_init 0 := ⟨wd159, wd126, by decide +kernel, by decide⟩
theorem Wmmax : Cond.static Lib.Math.max.name ∈ pv_T ∧ Cond.initialized "java/lang/Math" ∈ pv_T ∧ Cond.code Lib.Math.max.name Lib.Math.max.code 2 (some .int) ∈ pv_T := ⟨wd185, wd129, wd186⟩
theorem dX0_init_0 : decode cX0_init 0 = .ok (.aload_n 0, 1) := by decide +kernel
theorem dX0_init_1 : decode cX0_init 1 = .ok (.invokespecial 3, 3) := by decide +kernel
theorem dX0_init_4 : decode cX0_init 4 = .ok (.aload_n 0, 1) := by decide +kernel
theorem dX0_init_5 : decode cX0_init 5 = .ok (.new 9, 3) := by decide +kernel
theorem dX0_init_8 : decode cX0_init 8 = .ok (.dup, 1) := by decide +kernel
theorem dX0_init_9 : decode cX0_init 9 = .ok (.bipush 40, 2) := by decide +kernel
theorem dX0_init_11 : decode cX0_init 11 = .ok (.invokespecial 11, 3) := by decide +kernel
theorem dX0_init_14 : decode cX0_init 14 = .ok (.putfield 14, 3) := by decide +kernel
theorem dX0_init_17 : decode cX0_init 17 = .ok (.aload_n 0, 1) := by decide +kernel
theorem dX0_init_18 : decode cX0_init 18 = .ok (.new 9, 3) := by decide +kernel
theorem dX0_init_21 : decode cX0_init 21 = .ok (.dup, 1) := by decide +kernel
theorem dX0_init_22 : decode cX0_init 22 = .ok (.bipush 40, 2) := by decide +kernel
theorem dX0_init_24 : decode cX0_init 24 = .ok (.invokespecial 11, 3) := by decide +kernel
theorem dX0_init_27 : decode cX0_init 27 = .ok (.putfield 20, 3) := by decide +kernel
theorem dX0_init_30 : decode cX0_init 30 = .ok (.aload_n 0, 1) := by decide +kernel
theorem dX0_init_31 : decode cX0_init 31 = .ok (.bipush 40, 2) := by decide +kernel
theorem dX0_init_33 : decode cX0_init 33 = .ok (.newarray .int, 2) := by decide +kernel
theorem dX0_init_35 : decode cX0_init 35 = .ok (.putfield 23, 3) := by decide +kernel
theorem dX0_init_38 : decode cX0_init 38 = .ok (.aload_n 0, 1) := by decide +kernel
theorem dX0_init_39 : decode cX0_init 39 = .ok (.bipush 40, 2) := by decide +kernel
theorem dX0_init_41 : decode cX0_init 41 = .ok (.newarray .boolean, 2) := by decide +kernel
theorem dX0_init_43 : decode cX0_init 43 = .ok (.putfield 27, 3) := by decide +kernel
theorem dX0_init_46 : decode cX0_init 46 = .ok (.return_, 1) := by decide +kernel
theorem dX10_init_0 : decode cX10_init 0 = .ok (.aload_n 0, 1) := by decide +kernel
theorem dX10_init_1 : decode cX10_init 1 = .ok (.invokespecial 3, 3) := by decide +kernel
theorem dX10_init_4 : decode cX10_init 4 = .ok (.aload_n 0, 1) := by decide +kernel
theorem dX10_init_5 : decode cX10_init 5 = .ok (.sipush 200, 3) := by decide +kernel
theorem dX10_init_8 : decode cX10_init 8 = .ok (.newarray .int, 2) := by decide +kernel
theorem dX10_init_10 : decode cX10_init 10 = .ok (.putfield 9, 3) := by decide +kernel
theorem dX10_init_13 : decode cX10_init 13 = .ok (.aload_n 0, 1) := by decide +kernel
theorem dX10_init_14 : decode cX10_init 14 = .ok (.iconst 0, 1) := by decide +kernel
theorem dX10_init_15 : decode cX10_init 15 = .ok (.putfield 15, 3) := by decide +kernel
theorem dX10_init_18 : decode cX10_init 18 = .ok (.return_, 1) := by decide +kernel
theorem dX8_init_0 : decode cX8_init 0 = .ok (.aload_n 0, 1) := by decide +kernel
theorem dX8_init_1 : decode cX8_init 1 = .ok (.invokespecial 3, 3) := by decide +kernel
theorem dX8_init_4 : decode cX8_init 4 = .ok (.aload_n 0, 1) := by decide +kernel
theorem dX8_init_5 : decode cX8_init 5 = .ok (.iconst 0, 1) := by decide +kernel
theorem dX8_init_6 : decode cX8_init 6 = .ok (.putfield 9, 3) := by decide +kernel
theorem dX8_init_9 : decode cX8_init 9 = .ok (.aload_n 0, 1) := by decide +kernel
theorem dX8_init_10 : decode cX8_init 10 = .ok (.iload_n 1, 1) := by decide +kernel
theorem dX8_init_11 : decode cX8_init 11 = .ok (.iconst 0, 1) := by decide +kernel
theorem dX8_init_12 : decode cX8_init 12 = .ok (.invokestatic 15, 3) := by decide +kernel
theorem dX8_init_15 : decode cX8_init 15 = .ok (.newarray .int, 2) := by decide +kernel
theorem dX8_init_17 : decode cX8_init 17 = .ok (.putfield 21, 3) := by decide +kernel
theorem dX8_init_20 : decode cX8_init 20 = .ok (.return_, 1) := by decide +kernel
end
section
set_option maxHeartbeats 400000 in
set_option maxRecDepth 20000 in
theorem k_X10_init (g : pv_G) {h0 : List pv_C} {n : Nat} (hn : h0.length = n) : PM g mX10_init yX10_init (pv_is none (h0 ++ [pv_o 10 [.ref (n + 1), .int 0], pv_i 200 (fun _ => 0)])) 1 1 200 [.ref (n + 0)] (h0 ++ [pv_o 10 [.null, .int 0]]) := by
  refine PM.of 0 (lo := [.ref (n + 0)]) rfl (by decide) rfl rfl (Nat.le_of_ble_eq_true rfl) ?_
  refine pv_aload_n 0 dX10_init_0 1 rfl rfl rfl ?_
  refine pv_obj dX10_init_1 wd160 wd153 wd154 (Nat.le_of_ble_eq_true rfl) (by decide) 4 rfl ?_
  refine pv_aload_n 0 dX10_init_4 5 rfl rfl rfl ?_
  refine pv_sipush (v := 200) dX10_init_5 8 rfl (by decide) ?_
  refine pv_newa_i (kc := 0) (ks := 0) dX10_init_8 wd170 (by decide) 200 (by decide) (by decide) (r2 := n + 1) (pv_f3 hn rfl) 10 rfl ?_
  refine pv_f4 (s3 := [pv_o 10 [.null, .int 0], pv_i 200 (fun _ => 0)]) rfl ?_
  refine pv_putF (h2 := h0 ++ [pv_o 10 [.ref (n + 1), .int 0], pv_i 200 (fun _ => 0)]) dX10_init_10 FX10 0 wd161 (by decide) rfl rfl rfl (pv_f1 hn rfl) (Nat.le_of_ble_eq_true rfl) (fun _ => rfl) (fun _ => rfl) (pv_f2 hn rfl) 13 rfl ?_
  refine pv_aload_n 0 dX10_init_13 14 rfl rfl rfl ?_
  refine pv_iconst (v := 0) dX10_init_14 15 rfl (by decide) ?_
  refine pv_put (h2 := h0 ++ [pv_o 10 [.ref (n + 1), .int 0], pv_i 200 (fun _ => 0)]) dX10_init_15 FX10 1 wd163 (by decide) rfl (pv_f1 hn rfl) (Nat.le_of_ble_eq_true rfl) (fun _ => rfl) (fun _ => rfl) (pv_f2 hn rfl) 18 rfl ?_
  exact pv_vret dX10_init_18 rfl ⟨rfl, rfl⟩

set_option maxHeartbeats 400000 in
set_option maxRecDepth 20000 in
theorem k_X8_init (g : pv_G) {h0 : List pv_C} {n : Nat} (hn : h0.length = n) : PM g mX8_init yX8_init (pv_is none (h0 ++ [pv_o 8 [.ref (n + 1), .int 0], pv_i 40 (fun _ => 0)])) 1 1 40 [.ref (n + 0), .int 40] (h0 ++ [pv_o 8 [.null, .int 0]]) := by
  refine PM.of 0 (lo := [.ref (n + 0), .int 40]) rfl (by decide) rfl rfl (Nat.le_of_ble_eq_true rfl) ?_
  refine pv_aload_n 0 dX8_init_0 1 rfl rfl rfl ?_
  refine pv_obj dX8_init_1 wd183 wd153 wd154 (Nat.le_of_ble_eq_true rfl) (by decide) 4 rfl ?_
  refine pv_aload_n 0 dX8_init_4 5 rfl rfl rfl ?_
  refine pv_iconst (v := 0) dX8_init_5 6 rfl (by decide) ?_
  refine pv_put (h2 := h0 ++ [pv_o 8 [.null, .int 0]]) dX8_init_6 FX8 1 wd193 (by decide) rfl (pv_f1 hn rfl) (Nat.le_of_ble_eq_true rfl) (fun _ => rfl) (fun _ => rfl) (pv_f2 hn rfl) 9 rfl ?_
  refine pv_aload_n 0 dX8_init_9 10 rfl rfl rfl ?_
  refine pv_iload_n 1 dX8_init_10 11 rfl rfl rfl ?_
  refine pv_iconst (v := 0) dX8_init_11 12 rfl (by decide) ?_
  refine pv_max dX8_init_12 wd184 Wmmax (Nat.le_of_ble_eq_true rfl) (by decide) (v := 40) (by decide) 15 rfl ?_
  refine pv_newa_i (kc := 0) (ks := 0) dX8_init_15 wd170 (by decide) 40 (by decide) (by decide) (r2 := n + 1) (pv_f3 hn rfl) 17 rfl ?_
  refine pv_f4 (s3 := [pv_o 8 [.null, .int 0], pv_i 40 (fun _ => 0)]) rfl ?_
  refine pv_putF (h2 := h0 ++ [pv_o 8 [.ref (n + 1), .int 0], pv_i 40 (fun _ => 0)]) dX8_init_17 FX8 0 wd187 (by decide) rfl rfl rfl (pv_f1 hn rfl) (Nat.le_of_ble_eq_true rfl) (fun _ => rfl) (fun _ => rfl) (pv_f2 hn rfl) 20 rfl ?_
  exact pv_vret dX8_init_20 rfl ⟨rfl, rfl⟩

set_option maxHeartbeats 400000 in
set_option maxRecDepth 20000 in
theorem k_X0_init (g : pv_G) {h0 : List pv_C} {n : Nat} (hn : h0.length = n) : PM g mX0_init yX0_init (pv_is none (h0 ++ [pv_o 0 [.ref (n + 1), .ref (n + 3), .ref (n + 5), .ref (n + 6)], pv_o 8 [.ref (n + 2), .int 0], pv_i 40 (fun _ => 0), pv_o 8 [.ref (n + 4), .int 0], pv_i 40 (fun _ => 0), pv_i 40 (fun _ => 0), pv_z 40 (fun _ => 0)])) 2 6 164 [.ref (n + 0)] (h0 ++ [pv_o 0 [.null, .null, .null, .null]]) := by
  refine PM.of 0 (lo := [.ref (n + 0)]) rfl (by decide) rfl rfl (Nat.le_of_ble_eq_true rfl) ?_
  refine pv_aload_n 0 dX0_init_0 1 rfl rfl rfl ?_
  refine pv_obj dX0_init_1 wd177 wd153 wd154 (Nat.le_of_ble_eq_true rfl) (by decide) 4 rfl ?_
  refine pv_aload_n 0 dX0_init_4 5 rfl rfl rfl ?_
  refine pv_new (kc := 5) (ks := 162) (fs := [.null, .int 0]) dX0_init_5 FX8 wd178 wd179 wd128 (fun _ => pv_dfX8) (r2 := n + 1) (pv_f3 hn rfl) 8 rfl ?_
  refine pv_f4 (s3 := [pv_o 0 [.null, .null, .null, .null], pv_o 8 [.null, .int 0]]) rfl ?_
  refine pv_dup dX0_init_8 9 rfl rfl ?_
  refine pv_bipush (v := 40) dX0_init_9 11 rfl (by decide) ?_
  refine pv_calli (as := [.int 40]) (st := [.ref (n + 1), .ref (n + 0)]) (kc2 := 4) (ks2 := 122) dX0_init_11 wd180 YX8_init ⟨rfl, rfl, wd181⟩ (pv_B (s1 := [pv_o 0 [.null, .null, .null, .null]]) (s2 := [pv_o 8 [.null, .int 0]]) (s3 := [pv_o 0 [.null, .null, .null, .null], pv_o 8 [.null, .int 0]]) rfl (k_X8_init g (h0 := h0 ++ [pv_o 0 [.null, .null, .null, .null]]) (n := n + 1) (pv_f3 hn rfl))) rfl rfl (Nat.le_of_ble_eq_true rfl) (by decide) rfl rfl 14 rfl (pv_k0 ?_)
  refine pv_f4 (s3 := [pv_o 0 [.null, .null, .null, .null], pv_o 8 [.ref (n + 2), .int 0], pv_i 40 (fun _ => 0)]) rfl ?_
  refine pv_putF (h2 := h0 ++ [pv_o 0 [.ref (n + 1), .null, .null, .null], pv_o 8 [.ref (n + 2), .int 0], pv_i 40 (fun _ => 0)]) dX0_init_14 FX0 0 wd207 (by decide) rfl rfl rfl (pv_f1 hn rfl) (Nat.le_of_ble_eq_true rfl) (fun _ => rfl) (fun _ => rfl) (pv_f2 hn rfl) 17 rfl ?_
  refine pv_aload_n 0 dX0_init_17 18 rfl rfl rfl ?_
  refine pv_new (kc := 3) (ks := 120) (fs := [.null, .int 0]) dX0_init_18 FX8 wd178 wd179 wd128 (fun _ => pv_dfX8) (r2 := n + 3) (pv_f3 hn rfl) 21 rfl ?_
  refine pv_f4 (s3 := [pv_o 0 [.ref (n + 1), .null, .null, .null], pv_o 8 [.ref (n + 2), .int 0], pv_i 40 (fun _ => 0), pv_o 8 [.null, .int 0]]) rfl ?_
  refine pv_dup dX0_init_21 22 rfl rfl ?_
  refine pv_bipush (v := 40) dX0_init_22 24 rfl (by decide) ?_
  refine pv_calli (as := [.int 40]) (st := [.ref (n + 3), .ref (n + 0)]) (kc2 := 2) (ks2 := 80) dX0_init_24 wd180 YX8_init ⟨rfl, rfl, wd181⟩ (pv_B (s1 := [pv_o 0 [.ref (n + 1), .null, .null, .null], pv_o 8 [.ref (n + 2), .int 0], pv_i 40 (fun _ => 0)]) (s2 := [pv_o 8 [.null, .int 0]]) (s3 := [pv_o 0 [.ref (n + 1), .null, .null, .null], pv_o 8 [.ref (n + 2), .int 0], pv_i 40 (fun _ => 0), pv_o 8 [.null, .int 0]]) rfl (k_X8_init g (h0 := h0 ++ [pv_o 0 [.ref (n + 1), .null, .null, .null], pv_o 8 [.ref (n + 2), .int 0], pv_i 40 (fun _ => 0)]) (n := n + 3) (pv_f3 hn rfl))) rfl rfl (Nat.le_of_ble_eq_true rfl) (by decide) rfl rfl 27 rfl (pv_k0 ?_)
  refine pv_f4 (s3 := [pv_o 0 [.ref (n + 1), .null, .null, .null], pv_o 8 [.ref (n + 2), .int 0], pv_i 40 (fun _ => 0), pv_o 8 [.ref (n + 4), .int 0], pv_i 40 (fun _ => 0)]) rfl ?_
  refine pv_putF (h2 := h0 ++ [pv_o 0 [.ref (n + 1), .ref (n + 3), .null, .null], pv_o 8 [.ref (n + 2), .int 0], pv_i 40 (fun _ => 0), pv_o 8 [.ref (n + 4), .int 0], pv_i 40 (fun _ => 0)]) dX0_init_27 FX0 1 wd209 (by decide) rfl rfl rfl (pv_f1 hn rfl) (Nat.le_of_ble_eq_true rfl) (fun _ => rfl) (fun _ => rfl) (pv_f2 hn rfl) 30 rfl ?_
  refine pv_aload_n 0 dX0_init_30 31 rfl rfl rfl ?_
  refine pv_bipush (v := 40) dX0_init_31 33 rfl (by decide) ?_
  refine pv_newa_i (kc := 1) (ks := 40) dX0_init_33 wd170 (by decide) 40 (by decide) (by decide) (r2 := n + 5) (pv_f3 hn rfl) 35 rfl ?_
  refine pv_f4 (s3 := [pv_o 0 [.ref (n + 1), .ref (n + 3), .null, .null], pv_o 8 [.ref (n + 2), .int 0], pv_i 40 (fun _ => 0), pv_o 8 [.ref (n + 4), .int 0], pv_i 40 (fun _ => 0), pv_i 40 (fun _ => 0)]) rfl ?_
  refine pv_putF (h2 := h0 ++ [pv_o 0 [.ref (n + 1), .ref (n + 3), .ref (n + 5), .null], pv_o 8 [.ref (n + 2), .int 0], pv_i 40 (fun _ => 0), pv_o 8 [.ref (n + 4), .int 0], pv_i 40 (fun _ => 0), pv_i 40 (fun _ => 0)]) dX0_init_35 FX0 2 wd212 (by decide) rfl rfl rfl (pv_f1 hn rfl) (Nat.le_of_ble_eq_true rfl) (fun _ => rfl) (fun _ => rfl) (pv_f2 hn rfl) 38 rfl ?_
  refine pv_aload_n 0 dX0_init_38 39 rfl rfl rfl ?_
  refine pv_bipush (v := 40) dX0_init_39 41 rfl (by decide) ?_
  refine pv_newa_z (kc := 0) (ks := 0) dX0_init_41 wd223 (by decide) 40 (by decide) (by decide) (r2 := n + 6) (pv_f3 hn rfl) 43 rfl ?_
  refine pv_f4 (s3 := [pv_o 0 [.ref (n + 1), .ref (n + 3), .ref (n + 5), .null], pv_o 8 [.ref (n + 2), .int 0], pv_i 40 (fun _ => 0), pv_o 8 [.ref (n + 4), .int 0], pv_i 40 (fun _ => 0), pv_i 40 (fun _ => 0), pv_z 40 (fun _ => 0)]) rfl ?_
  refine pv_putF (h2 := h0 ++ [pv_o 0 [.ref (n + 1), .ref (n + 3), .ref (n + 5), .ref (n + 6)], pv_o 8 [.ref (n + 2), .int 0], pv_i 40 (fun _ => 0), pv_o 8 [.ref (n + 4), .int 0], pv_i 40 (fun _ => 0), pv_i 40 (fun _ => 0), pv_z 40 (fun _ => 0)]) dX0_init_43 FX0 3 wd213 (by decide) rfl rfl rfl (pv_f1 hn rfl) (Nat.le_of_ble_eq_true rfl) (fun _ => rfl) (fun _ => rfl) (pv_f2 hn rfl) 46 rfl ?_
  exact pv_vret dX0_init_46 rfl ⟨rfl, rfl⟩
end
