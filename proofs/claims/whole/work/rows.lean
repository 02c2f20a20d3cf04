section
-- ===== PART A: goes FIRST, ahead of the names: the tables' words, and 'selects' of the private methods out of them =====
/-- a private method of a class that the tables say can be made, by its rows of tables_1 -/
def lw_okq (q : MethodName × Nat) : Prop := (q.1.cls ≠ "java/lang/invoke/MethodHandle" ∧ q.1.cls ≠ "java/lang/invoke/VarHandle") ∧ Cond.instantiable q.1.cls q.2 ∈ tables_1 ∧ Cond.privateMethod q.1 ∈ tables_1 ∧ Cond.instanceMethod q.1 ∈ tables_1
theorem lw_p0 : lw_okq (⟨"TuesdayKnew", "isName", "(I)Z"⟩, 12) := ⟨⟨by decide +kernel, by decide +kernel⟩, List.mem_of_getElem? (i := 19) (by decide +kernel), List.mem_of_getElem? (i := 272) (by decide +kernel), List.mem_of_getElem? (i := 273) (by decide +kernel)⟩
theorem lw_p1 : lw_okq (⟨"TuesdayKnew$Text", "readClause", "(LTuesdayKnew$Law;)Z"⟩, 3) := ⟨⟨by decide +kernel, by decide +kernel⟩, List.mem_of_getElem? (i := 27) (by decide +kernel), List.mem_of_getElem? (i := 307) (by decide +kernel), List.mem_of_getElem? (i := 308) (by decide +kernel)⟩
theorem lw_p2 : lw_okq (⟨"TuesdayKnew$Text", "readWord", "()I"⟩, 3) := ⟨⟨by decide +kernel, by decide +kernel⟩, List.mem_of_getElem? (i := 27) (by decide +kernel), List.mem_of_getElem? (i := 311) (by decide +kernel), List.mem_of_getElem? (i := 312) (by decide +kernel)⟩
theorem lw_p3 : lw_okq (⟨"TuesdayKnew$Text", "eats", "(C)Z"⟩, 3) := ⟨⟨by decide +kernel, by decide +kernel⟩, List.mem_of_getElem? (i := 27) (by decide +kernel), List.mem_of_getElem? (i := 374) (by decide +kernel), List.mem_of_getElem? (i := 375) (by decide +kernel)⟩
theorem lw_p4 : lw_okq (⟨"TuesdayKnew$Text", "readNumber", "(I)I"⟩, 3) := ⟨⟨by decide +kernel, by decide +kernel⟩, List.mem_of_getElem? (i := 27) (by decide +kernel), List.mem_of_getElem? (i := 378) (by decide +kernel), List.mem_of_getElem? (i := 379) (by decide +kernel)⟩
theorem lw_p5 : lw_okq (⟨"TuesdayKnew$Text", "readEither", "(LTuesdayKnew$Law;I)Z"⟩, 3) := ⟨⟨by decide +kernel, by decide +kernel⟩, List.mem_of_getElem? (i := 27) (by decide +kernel), List.mem_of_getElem? (i := 382) (by decide +kernel), List.mem_of_getElem? (i := 383) (by decide +kernel)⟩
theorem lw_p6 : lw_okq (⟨"TuesdayKnew$Text", "readAll", "(LTuesdayKnew$Law;I)Z"⟩, 3) := ⟨⟨by decide +kernel, by decide +kernel⟩, List.mem_of_getElem? (i := 27) (by decide +kernel), List.mem_of_getElem? (i := 386) (by decide +kernel), List.mem_of_getElem? (i := 387) (by decide +kernel)⟩
theorem lw_p7 : lw_okq (⟨"TuesdayKnew$Text", "readOne", "(LTuesdayKnew$Law;I)Z"⟩, 3) := ⟨⟨by decide +kernel, by decide +kernel⟩, List.mem_of_getElem? (i := 27) (by decide +kernel), List.mem_of_getElem? (i := 390) (by decide +kernel), List.mem_of_getElem? (i := 391) (by decide +kernel)⟩
theorem lw_p8 : lw_okq (⟨"TuesdayKnew$Text", "readTest", "(LTuesdayKnew$Law;)Z"⟩, 3) := ⟨⟨by decide +kernel, by decide +kernel⟩, List.mem_of_getElem? (i := 27) (by decide +kernel), List.mem_of_getElem? (i := 394) (by decide +kernel), List.mem_of_getElem? (i := 395) (by decide +kernel)⟩
theorem lw_p9 : lw_okq (⟨"TuesdayKnew$Text", "readSign", "(Ljava/lang/String;)I"⟩, 3) := ⟨⟨by decide +kernel, by decide +kernel⟩, List.mem_of_getElem? (i := 27) (by decide +kernel), List.mem_of_getElem? (i := 399) (by decide +kernel), List.mem_of_getElem? (i := 400) (by decide +kernel)⟩
theorem lw_p10 : lw_okq (⟨"TuesdayKnew$Law", "holds", "(IIIIII)Z"⟩, 6) := ⟨⟨by decide +kernel, by decide +kernel⟩, List.mem_of_getElem? (i := 126) (by decide +kernel), List.mem_of_getElem? (i := 428) (by decide +kernel), List.mem_of_getElem? (i := 429) (by decide +kernel)⟩
theorem lw_p11 : lw_okq (⟨"TuesdayKnew", "habitOf", "(II)I"⟩, 12) := ⟨⟨by decide +kernel, by decide +kernel⟩, List.mem_of_getElem? (i := 19) (by decide +kernel), List.mem_of_getElem? (i := 445) (by decide +kernel), List.mem_of_getElem? (i := 446) (by decide +kernel)⟩
theorem lw_p12 : lw_okq (⟨"TuesdayKnew", "spreadAll", "()V"⟩, 12) := ⟨⟨by decide +kernel, by decide +kernel⟩, List.mem_of_getElem? (i := 19) (by decide +kernel), List.mem_of_getElem? (i := 460) (by decide +kernel), List.mem_of_getElem? (i := 461) (by decide +kernel)⟩
theorem lw_p13 : lw_okq (⟨"TuesdayKnew$Spread", "runStep", "(I)Z"⟩, 8) := ⟨⟨by decide +kernel, by decide +kernel⟩, List.mem_of_getElem? (i := 47) (by decide +kernel), List.mem_of_getElem? (i := 485) (by decide +kernel), List.mem_of_getElem? (i := 486) (by decide +kernel)⟩
theorem lw_p14 : lw_okq (⟨"TuesdayKnew$Spread", "lookBack", "(I)V"⟩, 8) := ⟨⟨by decide +kernel, by decide +kernel⟩, List.mem_of_getElem? (i := 47) (by decide +kernel), List.mem_of_getElem? (i := 502) (by decide +kernel), List.mem_of_getElem? (i := 503) (by decide +kernel)⟩
theorem lw_p15 : lw_okq (⟨"TuesdayKnew$Spread", "walk", "(II)V"⟩, 8) := ⟨⟨by decide +kernel, by decide +kernel⟩, List.mem_of_getElem? (i := 47) (by decide +kernel), List.mem_of_getElem? (i := 508) (by decide +kernel), List.mem_of_getElem? (i := 509) (by decide +kernel)⟩
def lw_privs_1 : List (MethodName × Nat) := [(⟨"TuesdayKnew", "isName", "(I)Z"⟩, 12), (⟨"TuesdayKnew$Text", "readClause", "(LTuesdayKnew$Law;)Z"⟩, 3), (⟨"TuesdayKnew$Text", "readWord", "()I"⟩, 3), (⟨"TuesdayKnew$Text", "eats", "(C)Z"⟩, 3), (⟨"TuesdayKnew$Text", "readNumber", "(I)I"⟩, 3), (⟨"TuesdayKnew$Text", "readEither", "(LTuesdayKnew$Law;I)Z"⟩, 3), (⟨"TuesdayKnew$Text", "readAll", "(LTuesdayKnew$Law;I)Z"⟩, 3), (⟨"TuesdayKnew$Text", "readOne", "(LTuesdayKnew$Law;I)Z"⟩, 3), (⟨"TuesdayKnew$Text", "readTest", "(LTuesdayKnew$Law;)Z"⟩, 3), (⟨"TuesdayKnew$Text", "readSign", "(Ljava/lang/String;)I"⟩, 3), (⟨"TuesdayKnew$Law", "holds", "(IIIIII)Z"⟩, 6), (⟨"TuesdayKnew", "habitOf", "(II)I"⟩, 12), (⟨"TuesdayKnew", "spreadAll", "()V"⟩, 12), (⟨"TuesdayKnew$Spread", "runStep", "(I)Z"⟩, 8), (⟨"TuesdayKnew$Spread", "lookBack", "(I)V"⟩, 8), (⟨"TuesdayKnew$Spread", "walk", "(II)V"⟩, 8)]
theorem lw_r1 : ∀ q ∈ lw_privs_1, lw_okq q := List.forall_mem_cons.mpr ⟨lw_p0, List.forall_mem_cons.mpr ⟨lw_p1, List.forall_mem_cons.mpr ⟨lw_p2, List.forall_mem_cons.mpr ⟨lw_p3, List.forall_mem_cons.mpr ⟨lw_p4, List.forall_mem_cons.mpr ⟨lw_p5, List.forall_mem_cons.mpr ⟨lw_p6, List.forall_mem_cons.mpr ⟨lw_p7, List.forall_mem_cons.mpr ⟨lw_p8, List.forall_mem_cons.mpr ⟨lw_p9, List.forall_mem_cons.mpr ⟨lw_p10, List.forall_mem_cons.mpr ⟨lw_p11, List.forall_mem_cons.mpr ⟨lw_p12, List.forall_mem_cons.mpr ⟨lw_p13, List.forall_mem_cons.mpr ⟨lw_p14, List.forall_mem_cons.mpr ⟨lw_p15, fun _ h => absurd h List.not_mem_nil⟩⟩⟩⟩⟩⟩⟩⟩⟩⟩⟩⟩⟩⟩⟩⟩
theorem lw_p16 : lw_okq (⟨"TuesdayKnew", "leastSilence", "(III)I"⟩, 12) := ⟨⟨by decide +kernel, by decide +kernel⟩, List.mem_of_getElem? (i := 19) (by decide +kernel), List.mem_of_getElem? (i := 516) (by decide +kernel), List.mem_of_getElem? (i := 517) (by decide +kernel)⟩
theorem lw_p17 : lw_okq (⟨"TuesdayKnew", "isTrade", "(I)Z"⟩, 12) := ⟨⟨by decide +kernel, by decide +kernel⟩, List.mem_of_getElem? (i := 19) (by decide +kernel), List.mem_of_getElem? (i := 545) (by decide +kernel), List.mem_of_getElem? (i := 546) (by decide +kernel)⟩
theorem lw_p18 : lw_okq (⟨"TuesdayKnew", "explaining", "(I)I"⟩, 12) := ⟨⟨by decide +kernel, by decide +kernel⟩, List.mem_of_getElem? (i := 19) (by decide +kernel), List.mem_of_getElem? (i := 549) (by decide +kernel), List.mem_of_getElem? (i := 550) (by decide +kernel)⟩
theorem lw_p19 : lw_okq (⟨"TuesdayKnew", "weighAgain", "(II)V"⟩, 12) := ⟨⟨by decide +kernel, by decide +kernel⟩, List.mem_of_getElem? (i := 19) (by decide +kernel), List.mem_of_getElem? (i := 578) (by decide +kernel), List.mem_of_getElem? (i := 579) (by decide +kernel)⟩
theorem lw_p20 : lw_okq (⟨"TuesdayKnew", "alikePairs", "()I"⟩, 12) := ⟨⟨by decide +kernel, by decide +kernel⟩, List.mem_of_getElem? (i := 19) (by decide +kernel), List.mem_of_getElem? (i := 618) (by decide +kernel), List.mem_of_getElem? (i := 619) (by decide +kernel)⟩
theorem lw_p21 : lw_okq (⟨"TuesdayKnew", "alikeWith", "(I)I"⟩, 12) := ⟨⟨by decide +kernel, by decide +kernel⟩, List.mem_of_getElem? (i := 19) (by decide +kernel), List.mem_of_getElem? (i := 622) (by decide +kernel), List.mem_of_getElem? (i := 623) (by decide +kernel)⟩
theorem lw_p22 : lw_okq (⟨"TuesdayKnew", "greatestRing", "()I"⟩, 12) := ⟨⟨by decide +kernel, by decide +kernel⟩, List.mem_of_getElem? (i := 19) (by decide +kernel), List.mem_of_getElem? (i := 626) (by decide +kernel), List.mem_of_getElem? (i := 627) (by decide +kernel)⟩
theorem lw_p23 : lw_okq (⟨"TuesdayKnew", "knowers", "(I)I"⟩, 12) := ⟨⟨by decide +kernel, by decide +kernel⟩, List.mem_of_getElem? (i := 19) (by decide +kernel), List.mem_of_getElem? (i := 637) (by decide +kernel), List.mem_of_getElem? (i := 638) (by decide +kernel)⟩
theorem lw_p24 : lw_okq (⟨"TuesdayKnew", "waysToFill", "()I"⟩, 12) := ⟨⟨by decide +kernel, by decide +kernel⟩, List.mem_of_getElem? (i := 19) (by decide +kernel), List.mem_of_getElem? (i := 663) (by decide +kernel), List.mem_of_getElem? (i := 664) (by decide +kernel)⟩
theorem lw_p25 : lw_okq (⟨"TuesdayKnew", "namesOfLetters", "(I)I"⟩, 12) := ⟨⟨by decide +kernel, by decide +kernel⟩, List.mem_of_getElem? (i := 19) (by decide +kernel), List.mem_of_getElem? (i := 667) (by decide +kernel), List.mem_of_getElem? (i := 668) (by decide +kernel)⟩
theorem lw_p26 : lw_okq (⟨"TuesdayKnew", "isBlank", "(I)Z"⟩, 12) := ⟨⟨by decide +kernel, by decide +kernel⟩, List.mem_of_getElem? (i := 19) (by decide +kernel), List.mem_of_getElem? (i := 672) (by decide +kernel), List.mem_of_getElem? (i := 673) (by decide +kernel)⟩
theorem lw_p27 : lw_okq (⟨"TuesdayKnew", "leastOf", "(I)I"⟩, 12) := ⟨⟨by decide +kernel, by decide +kernel⟩, List.mem_of_getElem? (i := 19) (by decide +kernel), List.mem_of_getElem? (i := 680) (by decide +kernel), List.mem_of_getElem? (i := 681) (by decide +kernel)⟩
theorem lw_p28 : lw_okq (⟨"TuesdayKnew", "tapeAt", "(I)LTuesdayKnew$Tape;"⟩, 12) := ⟨⟨by decide +kernel, by decide +kernel⟩, List.mem_of_getElem? (i := 19) (by decide +kernel), List.mem_of_getElem? (i := 688) (by decide +kernel), List.mem_of_getElem? (i := 689) (by decide +kernel)⟩
theorem lw_p29 : lw_okq (⟨"TuesdayKnew", "judgeRow", "(LTuesdayKnew$Tape;II)I"⟩, 12) := ⟨⟨by decide +kernel, by decide +kernel⟩, List.mem_of_getElem? (i := 19) (by decide +kernel), List.mem_of_getElem? (i := 696) (by decide +kernel), List.mem_of_getElem? (i := 697) (by decide +kernel)⟩
theorem lw_p30 : lw_okq (⟨"TuesdayKnew$Actor", "perform", "(IIII)I"⟩, 5) := ⟨⟨by decide +kernel, by decide +kernel⟩, List.mem_of_getElem? (i := 101) (by decide +kernel), List.mem_of_getElem? (i := 730) (by decide +kernel), List.mem_of_getElem? (i := 731) (by decide +kernel)⟩
theorem lw_p31 : lw_okq (⟨"TuesdayKnew$Actor", "begin", "(I)V"⟩, 5) := ⟨⟨by decide +kernel, by decide +kernel⟩, List.mem_of_getElem? (i := 101) (by decide +kernel), List.mem_of_getElem? (i := 742) (by decide +kernel), List.mem_of_getElem? (i := 743) (by decide +kernel)⟩
def lw_privs_2 : List (MethodName × Nat) := [(⟨"TuesdayKnew", "leastSilence", "(III)I"⟩, 12), (⟨"TuesdayKnew", "isTrade", "(I)Z"⟩, 12), (⟨"TuesdayKnew", "explaining", "(I)I"⟩, 12), (⟨"TuesdayKnew", "weighAgain", "(II)V"⟩, 12), (⟨"TuesdayKnew", "alikePairs", "()I"⟩, 12), (⟨"TuesdayKnew", "alikeWith", "(I)I"⟩, 12), (⟨"TuesdayKnew", "greatestRing", "()I"⟩, 12), (⟨"TuesdayKnew", "knowers", "(I)I"⟩, 12), (⟨"TuesdayKnew", "waysToFill", "()I"⟩, 12), (⟨"TuesdayKnew", "namesOfLetters", "(I)I"⟩, 12), (⟨"TuesdayKnew", "isBlank", "(I)Z"⟩, 12), (⟨"TuesdayKnew", "leastOf", "(I)I"⟩, 12), (⟨"TuesdayKnew", "tapeAt", "(I)LTuesdayKnew$Tape;"⟩, 12), (⟨"TuesdayKnew", "judgeRow", "(LTuesdayKnew$Tape;II)I"⟩, 12), (⟨"TuesdayKnew$Actor", "perform", "(IIII)I"⟩, 5), (⟨"TuesdayKnew$Actor", "begin", "(I)V"⟩, 5)]
theorem lw_r2 : ∀ q ∈ lw_privs_2, lw_okq q := List.forall_mem_cons.mpr ⟨lw_p16, List.forall_mem_cons.mpr ⟨lw_p17, List.forall_mem_cons.mpr ⟨lw_p18, List.forall_mem_cons.mpr ⟨lw_p19, List.forall_mem_cons.mpr ⟨lw_p20, List.forall_mem_cons.mpr ⟨lw_p21, List.forall_mem_cons.mpr ⟨lw_p22, List.forall_mem_cons.mpr ⟨lw_p23, List.forall_mem_cons.mpr ⟨lw_p24, List.forall_mem_cons.mpr ⟨lw_p25, List.forall_mem_cons.mpr ⟨lw_p26, List.forall_mem_cons.mpr ⟨lw_p27, List.forall_mem_cons.mpr ⟨lw_p28, List.forall_mem_cons.mpr ⟨lw_p29, List.forall_mem_cons.mpr ⟨lw_p30, List.forall_mem_cons.mpr ⟨lw_p31, fun _ h => absurd h List.not_mem_nil⟩⟩⟩⟩⟩⟩⟩⟩⟩⟩⟩⟩⟩⟩⟩⟩
theorem lw_p32 : lw_okq (⟨"TuesdayKnewModel", "in", "(III)Z"⟩, 58) := ⟨⟨by decide +kernel, by decide +kernel⟩, List.mem_of_getElem? (i := 788) (by decide +kernel), List.mem_of_getElem? (i := 974) (by decide +kernel), List.mem_of_getElem? (i := 975) (by decide +kernel)⟩
theorem lw_p33 : lw_okq (⟨"TuesdayKnewModel", "isName", "(I)Z"⟩, 58) := ⟨⟨by decide +kernel, by decide +kernel⟩, List.mem_of_getElem? (i := 788) (by decide +kernel), List.mem_of_getElem? (i := 982) (by decide +kernel), List.mem_of_getElem? (i := 983) (by decide +kernel)⟩
theorem lw_p34 : lw_okq (⟨"TuesdayKnewModel", "goesText", "(I)Z"⟩, 58) := ⟨⟨by decide +kernel, by decide +kernel⟩, List.mem_of_getElem? (i := 788) (by decide +kernel), List.mem_of_getElem? (i := 998) (by decide +kernel), List.mem_of_getElem? (i := 999) (by decide +kernel)⟩
theorem lw_p35 : lw_okq (⟨"TuesdayKnewModel", "takesClause", "(I)Z"⟩, 58) := ⟨⟨by decide +kernel, by decide +kernel⟩, List.mem_of_getElem? (i := 788) (by decide +kernel), List.mem_of_getElem? (i := 1002) (by decide +kernel), List.mem_of_getElem? (i := 1003) (by decide +kernel)⟩
theorem lw_p36 : lw_okq (⟨"TuesdayKnewModel", "takesHead", "(I)Z"⟩, 58) := ⟨⟨by decide +kernel, by decide +kernel⟩, List.mem_of_getElem? (i := 788) (by decide +kernel), List.mem_of_getElem? (i := 1006) (by decide +kernel), List.mem_of_getElem? (i := 1007) (by decide +kernel)⟩
theorem lw_p37 : lw_okq (⟨"TuesdayKnewModel", "next", "()I"⟩, 58) := ⟨⟨by decide +kernel, by decide +kernel⟩, List.mem_of_getElem? (i := 788) (by decide +kernel), List.mem_of_getElem? (i := 1010) (by decide +kernel), List.mem_of_getElem? (i := 1011) (by decide +kernel)⟩
theorem lw_p38 : lw_okq (⟨"TuesdayKnewModel", "takesWord", "(II)Z"⟩, 58) := ⟨⟨by decide +kernel, by decide +kernel⟩, List.mem_of_getElem? (i := 788) (by decide +kernel), List.mem_of_getElem? (i := 1015) (by decide +kernel), List.mem_of_getElem? (i := 1016) (by decide +kernel)⟩
theorem lw_p39 : lw_okq (⟨"TuesdayKnewModel", "takes", "(I)Z"⟩, 58) := ⟨⟨by decide +kernel, by decide +kernel⟩, List.mem_of_getElem? (i := 788) (by decide +kernel), List.mem_of_getElem? (i := 1019) (by decide +kernel), List.mem_of_getElem? (i := 1020) (by decide +kernel)⟩
theorem lw_p40 : lw_okq (⟨"TuesdayKnewModel", "third", "()I"⟩, 58) := ⟨⟨by decide +kernel, by decide +kernel⟩, List.mem_of_getElem? (i := 788) (by decide +kernel), List.mem_of_getElem? (i := 1025) (by decide +kernel), List.mem_of_getElem? (i := 1026) (by decide +kernel)⟩
theorem lw_p41 : lw_okq (⟨"TuesdayKnewModel", "takesNumber", "(I)Z"⟩, 58) := ⟨⟨by decide +kernel, by decide +kernel⟩, List.mem_of_getElem? (i := 788) (by decide +kernel), List.mem_of_getElem? (i := 1030) (by decide +kernel), List.mem_of_getElem? (i := 1031) (by decide +kernel)⟩
theorem lw_p42 : lw_okq (⟨"TuesdayKnewModel", "isDigit", "()Z"⟩, 58) := ⟨⟨by decide +kernel, by decide +kernel⟩, List.mem_of_getElem? (i := 788) (by decide +kernel), List.mem_of_getElem? (i := 1034) (by decide +kernel), List.mem_of_getElem? (i := 1035) (by decide +kernel)⟩
theorem lw_p43 : lw_okq (⟨"TuesdayKnewModel", "takesE", "(I)Z"⟩, 58) := ⟨⟨by decide +kernel, by decide +kernel⟩, List.mem_of_getElem? (i := 788) (by decide +kernel), List.mem_of_getElem? (i := 1038) (by decide +kernel), List.mem_of_getElem? (i := 1039) (by decide +kernel)⟩
theorem lw_p44 : lw_okq (⟨"TuesdayKnewModel", "takesTest", "()Z"⟩, 58) := ⟨⟨by decide +kernel, by decide +kernel⟩, List.mem_of_getElem? (i := 788) (by decide +kernel), List.mem_of_getElem? (i := 1042) (by decide +kernel), List.mem_of_getElem? (i := 1043) (by decide +kernel)⟩
theorem lw_p45 : lw_okq (⟨"TuesdayKnewModel", "place", "(I)I"⟩, 58) := ⟨⟨by decide +kernel, by decide +kernel⟩, List.mem_of_getElem? (i := 788) (by decide +kernel), List.mem_of_getElem? (i := 1046) (by decide +kernel), List.mem_of_getElem? (i := 1047) (by decide +kernel)⟩
theorem lw_p46 : lw_okq (⟨"TuesdayKnewModel", "put", "(I)V"⟩, 58) := ⟨⟨by decide +kernel, by decide +kernel⟩, List.mem_of_getElem? (i := 788) (by decide +kernel), List.mem_of_getElem? (i := 1050) (by decide +kernel), List.mem_of_getElem? (i := 1051) (by decide +kernel)⟩
theorem lw_p47 : lw_okq (⟨"TuesdayKnewModel", "whole", "()V"⟩, 58) := ⟨⟨by decide +kernel, by decide +kernel⟩, List.mem_of_getElem? (i := 788) (by decide +kernel), List.mem_of_getElem? (i := 1054) (by decide +kernel), List.mem_of_getElem? (i := 1055) (by decide +kernel)⟩
def lw_privs_3 : List (MethodName × Nat) := [(⟨"TuesdayKnewModel", "in", "(III)Z"⟩, 58), (⟨"TuesdayKnewModel", "isName", "(I)Z"⟩, 58), (⟨"TuesdayKnewModel", "goesText", "(I)Z"⟩, 58), (⟨"TuesdayKnewModel", "takesClause", "(I)Z"⟩, 58), (⟨"TuesdayKnewModel", "takesHead", "(I)Z"⟩, 58), (⟨"TuesdayKnewModel", "next", "()I"⟩, 58), (⟨"TuesdayKnewModel", "takesWord", "(II)Z"⟩, 58), (⟨"TuesdayKnewModel", "takes", "(I)Z"⟩, 58), (⟨"TuesdayKnewModel", "third", "()I"⟩, 58), (⟨"TuesdayKnewModel", "takesNumber", "(I)Z"⟩, 58), (⟨"TuesdayKnewModel", "isDigit", "()Z"⟩, 58), (⟨"TuesdayKnewModel", "takesE", "(I)Z"⟩, 58), (⟨"TuesdayKnewModel", "takesTest", "()Z"⟩, 58), (⟨"TuesdayKnewModel", "place", "(I)I"⟩, 58), (⟨"TuesdayKnewModel", "put", "(I)V"⟩, 58), (⟨"TuesdayKnewModel", "whole", "()V"⟩, 58)]
theorem lw_r3 : ∀ q ∈ lw_privs_3, lw_okq q := List.forall_mem_cons.mpr ⟨lw_p32, List.forall_mem_cons.mpr ⟨lw_p33, List.forall_mem_cons.mpr ⟨lw_p34, List.forall_mem_cons.mpr ⟨lw_p35, List.forall_mem_cons.mpr ⟨lw_p36, List.forall_mem_cons.mpr ⟨lw_p37, List.forall_mem_cons.mpr ⟨lw_p38, List.forall_mem_cons.mpr ⟨lw_p39, List.forall_mem_cons.mpr ⟨lw_p40, List.forall_mem_cons.mpr ⟨lw_p41, List.forall_mem_cons.mpr ⟨lw_p42, List.forall_mem_cons.mpr ⟨lw_p43, List.forall_mem_cons.mpr ⟨lw_p44, List.forall_mem_cons.mpr ⟨lw_p45, List.forall_mem_cons.mpr ⟨lw_p46, List.forall_mem_cons.mpr ⟨lw_p47, fun _ h => absurd h List.not_mem_nil⟩⟩⟩⟩⟩⟩⟩⟩⟩⟩⟩⟩⟩⟩⟩⟩
theorem lw_p48 : lw_okq (⟨"TuesdayKnewModel", "settle", "(I)V"⟩, 58) := ⟨⟨by decide +kernel, by decide +kernel⟩, List.mem_of_getElem? (i := 788) (by decide +kernel), List.mem_of_getElem? (i := 1058) (by decide +kernel), List.mem_of_getElem? (i := 1059) (by decide +kernel)⟩
theorem lw_p49 : lw_okq (⟨"TuesdayKnewModel", "goesIn", "(II)I"⟩, 58) := ⟨⟨by decide +kernel, by decide +kernel⟩, List.mem_of_getElem? (i := 788) (by decide +kernel), List.mem_of_getElem? (i := 1066) (by decide +kernel), List.mem_of_getElem? (i := 1067) (by decide +kernel)⟩
theorem lw_p50 : lw_okq (⟨"TuesdayKnewModel", "ask", "(IIIII)V"⟩, 58) := ⟨⟨by decide +kernel, by decide +kernel⟩, List.mem_of_getElem? (i := 788) (by decide +kernel), List.mem_of_getElem? (i := 1070) (by decide +kernel), List.mem_of_getElem? (i := 1071) (by decide +kernel)⟩
theorem lw_p51 : lw_okq (⟨"TuesdayKnewModel", "first", "()I"⟩, 58) := ⟨⟨by decide +kernel, by decide +kernel⟩, List.mem_of_getElem? (i := 788) (by decide +kernel), List.mem_of_getElem? (i := 1074) (by decide +kernel), List.mem_of_getElem? (i := 1075) (by decide +kernel)⟩
theorem lw_p52 : lw_okq (⟨"TuesdayKnewModel", "behind", "()I"⟩, 58) := ⟨⟨by decide +kernel, by decide +kernel⟩, List.mem_of_getElem? (i := 788) (by decide +kernel), List.mem_of_getElem? (i := 1078) (by decide +kernel), List.mem_of_getElem? (i := 1079) (by decide +kernel)⟩
theorem lw_p53 : lw_okq (⟨"TuesdayKnewModel", "holds", "(I)Z"⟩, 58) := ⟨⟨by decide +kernel, by decide +kernel⟩, List.mem_of_getElem? (i := 788) (by decide +kernel), List.mem_of_getElem? (i := 1082) (by decide +kernel), List.mem_of_getElem? (i := 1083) (by decide +kernel)⟩
theorem lw_p54 : lw_okq (⟨"TuesdayKnewModel", "habitOf", "(II)I"⟩, 58) := ⟨⟨by decide +kernel, by decide +kernel⟩, List.mem_of_getElem? (i := 788) (by decide +kernel), List.mem_of_getElem? (i := 1090) (by decide +kernel), List.mem_of_getElem? (i := 1091) (by decide +kernel)⟩
theorem lw_p55 : lw_okq (⟨"TuesdayKnewModel", "layHours", "()V"⟩, 58) := ⟨⟨by decide +kernel, by decide +kernel⟩, List.mem_of_getElem? (i := 788) (by decide +kernel), List.mem_of_getElem? (i := 1098) (by decide +kernel), List.mem_of_getElem? (i := 1099) (by decide +kernel)⟩
theorem lw_p56 : lw_okq (⟨"TuesdayKnewModel", "last", "(II)I"⟩, 58) := ⟨⟨by decide +kernel, by decide +kernel⟩, List.mem_of_getElem? (i := 788) (by decide +kernel), List.mem_of_getElem? (i := 1102) (by decide +kernel), List.mem_of_getElem? (i := 1103) (by decide +kernel)⟩
theorem lw_p57 : lw_okq (⟨"TuesdayKnewModel", "spread", "(I)V"⟩, 58) := ⟨⟨by decide +kernel, by decide +kernel⟩, List.mem_of_getElem? (i := 788) (by decide +kernel), List.mem_of_getElem? (i := 1106) (by decide +kernel), List.mem_of_getElem? (i := 1107) (by decide +kernel)⟩
theorem lw_p58 : lw_okq (⟨"TuesdayKnewModel", "has", "(II)Z"⟩, 58) := ⟨⟨by decide +kernel, by decide +kernel⟩, List.mem_of_getElem? (i := 788) (by decide +kernel), List.mem_of_getElem? (i := 1111) (by decide +kernel), List.mem_of_getElem? (i := 1112) (by decide +kernel)⟩
theorem lw_p59 : lw_okq (⟨"TuesdayKnewModel", "earliest", "(I)I"⟩, 58) := ⟨⟨by decide +kernel, by decide +kernel⟩, List.mem_of_getElem? (i := 788) (by decide +kernel), List.mem_of_getElem? (i := 1115) (by decide +kernel), List.mem_of_getElem? (i := 1116) (by decide +kernel)⟩
theorem lw_p60 : lw_okq (⟨"TuesdayKnewModel", "findWay", "(I)I"⟩, 58) := ⟨⟨by decide +kernel, by decide +kernel⟩, List.mem_of_getElem? (i := 788) (by decide +kernel), List.mem_of_getElem? (i := 1123) (by decide +kernel), List.mem_of_getElem? (i := 1124) (by decide +kernel)⟩
theorem lw_p61 : lw_okq (⟨"TuesdayKnewModel", "isHour", "(I)Z"⟩, 58) := ⟨⟨by decide +kernel, by decide +kernel⟩, List.mem_of_getElem? (i := 788) (by decide +kernel), List.mem_of_getElem? (i := 1131) (by decide +kernel), List.mem_of_getElem? (i := 1132) (by decide +kernel)⟩
theorem lw_p62 : lw_okq (⟨"TuesdayKnewModel", "ones", "(I)I"⟩, 58) := ⟨⟨by decide +kernel, by decide +kernel⟩, List.mem_of_getElem? (i := 788) (by decide +kernel), List.mem_of_getElem? (i := 1135) (by decide +kernel), List.mem_of_getElem? (i := 1136) (by decide +kernel)⟩
theorem lw_p63 : lw_okq (⟨"TuesdayKnewModel", "isTrade", "(I)Z"⟩, 58) := ⟨⟨by decide +kernel, by decide +kernel⟩, List.mem_of_getElem? (i := 788) (by decide +kernel), List.mem_of_getElem? (i := 1147) (by decide +kernel), List.mem_of_getElem? (i := 1148) (by decide +kernel)⟩
def lw_privs_4 : List (MethodName × Nat) := [(⟨"TuesdayKnewModel", "settle", "(I)V"⟩, 58), (⟨"TuesdayKnewModel", "goesIn", "(II)I"⟩, 58), (⟨"TuesdayKnewModel", "ask", "(IIIII)V"⟩, 58), (⟨"TuesdayKnewModel", "first", "()I"⟩, 58), (⟨"TuesdayKnewModel", "behind", "()I"⟩, 58), (⟨"TuesdayKnewModel", "holds", "(I)Z"⟩, 58), (⟨"TuesdayKnewModel", "habitOf", "(II)I"⟩, 58), (⟨"TuesdayKnewModel", "layHours", "()V"⟩, 58), (⟨"TuesdayKnewModel", "last", "(II)I"⟩, 58), (⟨"TuesdayKnewModel", "spread", "(I)V"⟩, 58), (⟨"TuesdayKnewModel", "has", "(II)Z"⟩, 58), (⟨"TuesdayKnewModel", "earliest", "(I)I"⟩, 58), (⟨"TuesdayKnewModel", "findWay", "(I)I"⟩, 58), (⟨"TuesdayKnewModel", "isHour", "(I)Z"⟩, 58), (⟨"TuesdayKnewModel", "ones", "(I)I"⟩, 58), (⟨"TuesdayKnewModel", "isTrade", "(I)Z"⟩, 58)]
theorem lw_r4 : ∀ q ∈ lw_privs_4, lw_okq q := List.forall_mem_cons.mpr ⟨lw_p48, List.forall_mem_cons.mpr ⟨lw_p49, List.forall_mem_cons.mpr ⟨lw_p50, List.forall_mem_cons.mpr ⟨lw_p51, List.forall_mem_cons.mpr ⟨lw_p52, List.forall_mem_cons.mpr ⟨lw_p53, List.forall_mem_cons.mpr ⟨lw_p54, List.forall_mem_cons.mpr ⟨lw_p55, List.forall_mem_cons.mpr ⟨lw_p56, List.forall_mem_cons.mpr ⟨lw_p57, List.forall_mem_cons.mpr ⟨lw_p58, List.forall_mem_cons.mpr ⟨lw_p59, List.forall_mem_cons.mpr ⟨lw_p60, List.forall_mem_cons.mpr ⟨lw_p61, List.forall_mem_cons.mpr ⟨lw_p62, List.forall_mem_cons.mpr ⟨lw_p63, fun _ h => absurd h List.not_mem_nil⟩⟩⟩⟩⟩⟩⟩⟩⟩⟩⟩⟩⟩⟩⟩⟩
theorem lw_p64 : lw_okq (⟨"TuesdayKnewModel", "allOf", "(I)I"⟩, 58) := ⟨⟨by decide +kernel, by decide +kernel⟩, List.mem_of_getElem? (i := 788) (by decide +kernel), List.mem_of_getElem? (i := 1151) (by decide +kernel), List.mem_of_getElem? (i := 1152) (by decide +kernel)⟩
theorem lw_p65 : lw_okq (⟨"TuesdayKnewModel", "explains", "(II)Z"⟩, 58) := ⟨⟨by decide +kernel, by decide +kernel⟩, List.mem_of_getElem? (i := 788) (by decide +kernel), List.mem_of_getElem? (i := 1155) (by decide +kernel), List.mem_of_getElem? (i := 1156) (by decide +kernel)⟩
theorem lw_p66 : lw_okq (⟨"TuesdayKnewModel", "hasOther", "(I)Z"⟩, 58) := ⟨⟨by decide +kernel, by decide +kernel⟩, List.mem_of_getElem? (i := 788) (by decide +kernel), List.mem_of_getElem? (i := 1159) (by decide +kernel), List.mem_of_getElem? (i := 1160) (by decide +kernel)⟩
theorem lw_p67 : lw_okq (⟨"TuesdayKnewModel", "fridaysOf", "(I)I"⟩, 58) := ⟨⟨by decide +kernel, by decide +kernel⟩, List.mem_of_getElem? (i := 788) (by decide +kernel), List.mem_of_getElem? (i := 1171) (by decide +kernel), List.mem_of_getElem? (i := 1172) (by decide +kernel)⟩
theorem lw_p68 : lw_okq (⟨"TuesdayKnewModel", "againOf", "(II)J"⟩, 58) := ⟨⟨by decide +kernel, by decide +kernel⟩, List.mem_of_getElem? (i := 788) (by decide +kernel), List.mem_of_getElem? (i := 1180) (by decide +kernel), List.mem_of_getElem? (i := 1181) (by decide +kernel)⟩
theorem lw_p69 : lw_okq (⟨"TuesdayKnewModel", "divisor", "(JJ)J"⟩, 58) := ⟨⟨by decide +kernel, by decide +kernel⟩, List.mem_of_getElem? (i := 788) (by decide +kernel), List.mem_of_getElem? (i := 1185) (by decide +kernel), List.mem_of_getElem? (i := 1186) (by decide +kernel)⟩
theorem lw_p70 : lw_okq (⟨"TuesdayKnewModel", "knowers", "(I)I"⟩, 58) := ⟨⟨by decide +kernel, by decide +kernel⟩, List.mem_of_getElem? (i := 788) (by decide +kernel), List.mem_of_getElem? (i := 1201) (by decide +kernel), List.mem_of_getElem? (i := 1202) (by decide +kernel)⟩
theorem lw_p71 : lw_okq (⟨"TuesdayKnewModel", "fewest", "(III)I"⟩, 58) := ⟨⟨by decide +kernel, by decide +kernel⟩, List.mem_of_getElem? (i := 788) (by decide +kernel), List.mem_of_getElem? (i := 1205) (by decide +kernel), List.mem_of_getElem? (i := 1206) (by decide +kernel)⟩
theorem lw_p72 : lw_okq (⟨"TuesdayKnewModel", "fillAll", "()I"⟩, 58) := ⟨⟨by decide +kernel, by decide +kernel⟩, List.mem_of_getElem? (i := 788) (by decide +kernel), List.mem_of_getElem? (i := 1225) (by decide +kernel), List.mem_of_getElem? (i := 1226) (by decide +kernel)⟩
theorem lw_p73 : lw_okq (⟨"TuesdayKnewModel", "isTape", "(I)Z"⟩, 58) := ⟨⟨by decide +kernel, by decide +kernel⟩, List.mem_of_getElem? (i := 788) (by decide +kernel), List.mem_of_getElem? (i := 1237) (by decide +kernel), List.mem_of_getElem? (i := 1238) (by decide +kernel)⟩
theorem lw_p74 : lw_okq (⟨"TuesdayKnewModel", "copy", "([I[I)V"⟩, 58) := ⟨⟨by decide +kernel, by decide +kernel⟩, List.mem_of_getElem? (i := 788) (by decide +kernel), List.mem_of_getElem? (i := 1245) (by decide +kernel), List.mem_of_getElem? (i := 1246) (by decide +kernel)⟩
theorem lw_p75 : lw_okq (⟨"TuesdayKnewModel", "buys", "(II)I"⟩, 58) := ⟨⟨by decide +kernel, by decide +kernel⟩, List.mem_of_getElem? (i := 788) (by decide +kernel), List.mem_of_getElem? (i := 1257) (by decide +kernel), List.mem_of_getElem? (i := 1258) (by decide +kernel)⟩
theorem lw_p76 : lw_okq (⟨"TuesdayKnewModel", "body", "(I)V"⟩, 58) := ⟨⟨by decide +kernel, by decide +kernel⟩, List.mem_of_getElem? (i := 788) (by decide +kernel), List.mem_of_getElem? (i := 1261) (by decide +kernel), List.mem_of_getElem? (i := 1262) (by decide +kernel)⟩
theorem lw_p77 : lw_okq (⟨"TuesdayKnewModel", "plainBuys", "(II)I"⟩, 58) := ⟨⟨by decide +kernel, by decide +kernel⟩, List.mem_of_getElem? (i := 788) (by decide +kernel), List.mem_of_getElem? (i := 1265) (by decide +kernel), List.mem_of_getElem? (i := 1266) (by decide +kernel)⟩
theorem lw_p78 : lw_okq (⟨"TuesdayKnewModel", "knowsAct", "(II)I"⟩, 58) := ⟨⟨by decide +kernel, by decide +kernel⟩, List.mem_of_getElem? (i := 788) (by decide +kernel), List.mem_of_getElem? (i := 1269) (by decide +kernel), List.mem_of_getElem? (i := 1270) (by decide +kernel)⟩
theorem lw_p79 : lw_okq (⟨"TuesdayKnewModel", "usualKnows", "(II)I"⟩, 58) := ⟨⟨by decide +kernel, by decide +kernel⟩, List.mem_of_getElem? (i := 788) (by decide +kernel), List.mem_of_getElem? (i := 1273) (by decide +kernel), List.mem_of_getElem? (i := 1274) (by decide +kernel)⟩
def lw_privs_5 : List (MethodName × Nat) := [(⟨"TuesdayKnewModel", "allOf", "(I)I"⟩, 58), (⟨"TuesdayKnewModel", "explains", "(II)Z"⟩, 58), (⟨"TuesdayKnewModel", "hasOther", "(I)Z"⟩, 58), (⟨"TuesdayKnewModel", "fridaysOf", "(I)I"⟩, 58), (⟨"TuesdayKnewModel", "againOf", "(II)J"⟩, 58), (⟨"TuesdayKnewModel", "divisor", "(JJ)J"⟩, 58), (⟨"TuesdayKnewModel", "knowers", "(I)I"⟩, 58), (⟨"TuesdayKnewModel", "fewest", "(III)I"⟩, 58), (⟨"TuesdayKnewModel", "fillAll", "()I"⟩, 58), (⟨"TuesdayKnewModel", "isTape", "(I)Z"⟩, 58), (⟨"TuesdayKnewModel", "copy", "([I[I)V"⟩, 58), (⟨"TuesdayKnewModel", "buys", "(II)I"⟩, 58), (⟨"TuesdayKnewModel", "body", "(I)V"⟩, 58), (⟨"TuesdayKnewModel", "plainBuys", "(II)I"⟩, 58), (⟨"TuesdayKnewModel", "knowsAct", "(II)I"⟩, 58), (⟨"TuesdayKnewModel", "usualKnows", "(II)I"⟩, 58)]
theorem lw_r5 : ∀ q ∈ lw_privs_5, lw_okq q := List.forall_mem_cons.mpr ⟨lw_p64, List.forall_mem_cons.mpr ⟨lw_p65, List.forall_mem_cons.mpr ⟨lw_p66, List.forall_mem_cons.mpr ⟨lw_p67, List.forall_mem_cons.mpr ⟨lw_p68, List.forall_mem_cons.mpr ⟨lw_p69, List.forall_mem_cons.mpr ⟨lw_p70, List.forall_mem_cons.mpr ⟨lw_p71, List.forall_mem_cons.mpr ⟨lw_p72, List.forall_mem_cons.mpr ⟨lw_p73, List.forall_mem_cons.mpr ⟨lw_p74, List.forall_mem_cons.mpr ⟨lw_p75, List.forall_mem_cons.mpr ⟨lw_p76, List.forall_mem_cons.mpr ⟨lw_p77, List.forall_mem_cons.mpr ⟨lw_p78, List.forall_mem_cons.mpr ⟨lw_p79, fun _ h => absurd h List.not_mem_nil⟩⟩⟩⟩⟩⟩⟩⟩⟩⟩⟩⟩⟩⟩⟩⟩
theorem lw_p80 : lw_okq (⟨"TuesdayKnewModel", "plainKnows", "(II)I"⟩, 58) := ⟨⟨by decide +kernel, by decide +kernel⟩, List.mem_of_getElem? (i := 788) (by decide +kernel), List.mem_of_getElem? (i := 1277) (by decide +kernel), List.mem_of_getElem? (i := 1278) (by decide +kernel)⟩
theorem lw_p81 : lw_okq (⟨"TuesdayKnewModel", "tells", "(II)I"⟩, 58) := ⟨⟨by decide +kernel, by decide +kernel⟩, List.mem_of_getElem? (i := 788) (by decide +kernel), List.mem_of_getElem? (i := 1281) (by decide +kernel), List.mem_of_getElem? (i := 1282) (by decide +kernel)⟩
theorem lw_p82 : lw_okq (⟨"TuesdayKnewModel", "knownTells", "(II)I"⟩, 58) := ⟨⟨by decide +kernel, by decide +kernel⟩, List.mem_of_getElem? (i := 788) (by decide +kernel), List.mem_of_getElem? (i := 1285) (by decide +kernel), List.mem_of_getElem? (i := 1286) (by decide +kernel)⟩
theorem lw_p83 : lw_okq (⟨"TuesdayKnewModel", "plainTells", "(II)I"⟩, 58) := ⟨⟨by decide +kernel, by decide +kernel⟩, List.mem_of_getElem? (i := 788) (by decide +kernel), List.mem_of_getElem? (i := 1289) (by decide +kernel), List.mem_of_getElem? (i := 1290) (by decide +kernel)⟩
theorem lw_p84 : lw_okq (⟨"TuesdayKnewModel", "narrow", "(IJ)J"⟩, 58) := ⟨⟨by decide +kernel, by decide +kernel⟩, List.mem_of_getElem? (i := 788) (by decide +kernel), List.mem_of_getElem? (i := 1313) (by decide +kernel), List.mem_of_getElem? (i := 1314) (by decide +kernel)⟩
def lw_privs_6 : List (MethodName × Nat) := [(⟨"TuesdayKnewModel", "plainKnows", "(II)I"⟩, 58), (⟨"TuesdayKnewModel", "tells", "(II)I"⟩, 58), (⟨"TuesdayKnewModel", "knownTells", "(II)I"⟩, 58), (⟨"TuesdayKnewModel", "plainTells", "(II)I"⟩, 58), (⟨"TuesdayKnewModel", "narrow", "(IJ)J"⟩, 58)]
theorem lw_r6 : ∀ q ∈ lw_privs_6, lw_okq q := List.forall_mem_cons.mpr ⟨lw_p80, List.forall_mem_cons.mpr ⟨lw_p81, List.forall_mem_cons.mpr ⟨lw_p82, List.forall_mem_cons.mpr ⟨lw_p83, List.forall_mem_cons.mpr ⟨lw_p84, fun _ h => absurd h List.not_mem_nil⟩⟩⟩⟩⟩
def lw_privs : List (MethodName × Nat) := lw_privs_1 ++ (lw_privs_2 ++ (lw_privs_3 ++ (lw_privs_4 ++ (lw_privs_5 ++ (lw_privs_6)))))
def lw_tbl : List Cond := k2_sels lw_privs ++ tables_1
theorem lw_privs_ok : ∀ q ∈ lw_privs, lw_okq q := by
  show ∀ q ∈ lw_privs_1 ++ (lw_privs_2 ++ (lw_privs_3 ++ (lw_privs_4 ++ (lw_privs_5 ++ (lw_privs_6))))), lw_okq q
  exact List.forall_mem_append.mpr ⟨lw_r1, List.forall_mem_append.mpr ⟨lw_r2, List.forall_mem_append.mpr ⟨lw_r3, List.forall_mem_append.mpr ⟨lw_r4, List.forall_mem_append.mpr ⟨lw_r5, lw_r6⟩⟩⟩⟩⟩
end
section
theorem goodIn_r {big : List Cond} (ws : List Cond) (ps : List Nat) (hp : ws = ps.filterMap (fun i => big[i]?)) (h : ws.all goodWord = true) : GoodIn big ws := by
  intro w hw
  have h1 := List.all_eq_true.mp h w hw
  rw [hp] at hw
  obtain ⟨i, -, hi⟩ := List.mem_filterMap.mp hw
  have hm : w ∈ big := by first | exact List.mem_of_getElem? hi | exact List.getElem?_mem hi
  exact ⟨hm, good_of_word h1⟩
theorem goodIn_app {big a b : List Cond} (ha : GoodIn big a) (hb : GoodIn big b) : GoodIn big (a ++ b) := fun w h => (List.mem_append.mp h).elim (ha w) (hb w)
theorem goodIn_ca {big a b : List Cond} {c : Cond} (ha : GoodIn big (c :: a)) (hb : GoodIn big b) : GoodIn big (c :: (a ++ b)) := fun w h => (List.mem_cons.mp h).elim (fun e => ha w (List.mem_cons.mpr (Or.inl e))) (fun h => (List.mem_append.mp h).elim (fun h => ha w (List.mem_cons.mpr (Or.inr h))) (hb w))
theorem goodIn_sub {big ws : List Cond} (hm : ∀ w ∈ ws, w ∈ big) (h : ws.all goodWord = true) : GoodIn big ws := fun w hw => ⟨hm w hw, good_of_word (List.all_eq_true.mp h w hw)⟩
def RX0 : String := "TuesdayKnew$Actor"
def TX0 : u_T := fun k => match k with
  | 0 => ("TuesdayKnew$Actor", "bodies", "[I", true)
  | 1 => ("TuesdayKnew$Actor", "began", "I", false)
  | 2 => ("TuesdayKnew$Actor", "number", "I", false)
  | 3 => ("TuesdayKnew$Actor", "kind", "I", false)
  | _ => ("TuesdayKnew$Actor", "lots", "I", false)
def tyX0 : Nat → FieldType := fun k => match k with
  | 0 => .array .int
  | 1 => .int
  | 2 => .int
  | 3 => .int
  | _ => .int
abbrev wsX00 : List Cond := u_ws RX0 TX0 5
theorem nmX0 : ∀ a, a < 5 → ∀ b, b < 5 → a ≠ b → (TX0 a).2.1 ≠ (TX0 b).2.1 := by decide +kernel
theorem tyX0_ok : ∀ k, k < 5 → parseFieldDescriptor (TX0 k).2.2.1 = some (tyX0 k) := by decide +kernel
abbrev cX0_init : ByteArray := prog_2_method_1_code
def yX0_init : MethodName := ⟨RX0, "<init>", "()V"⟩
abbrev cX0_forget : ByteArray := prog_2_method_2_code
def yX0_forget : MethodName := ⟨RX0, "forget", "()V"⟩
abbrev cX0_takeOn : ByteArray := prog_2_method_3_code
def yX0_takeOn : MethodName := ⟨RX0, "takeOn", "(III)V"⟩
abbrev cX0_answer : ByteArray := prog_2_method_4_code
def yX0_answer : MethodName := ⟨RX0, "answer", "(II)I"⟩
abbrev cX0_perform : ByteArray := prog_2_method_5_code
def yX0_perform : MethodName := ⟨RX0, "perform", "(IIII)I"⟩
abbrev cX0_ownerOf : ByteArray := prog_2_method_6_code
def yX0_ownerOf : MethodName := ⟨RX0, "ownerOf", "(II)I"⟩
abbrev cX0_begin : ByteArray := prog_2_method_7_code
def yX0_begin : MethodName := ⟨RX0, "begin", "(I)V"⟩
def RX1 : String := "TuesdayKnew$Law"
def TX1 : u_T := fun k => match k with
  | 0 => ("TuesdayKnew$Law", "words", "[I", true)
  | 1 => ("TuesdayKnew$Law", "numbers", "[I", true)
  | 2 => ("TuesdayKnew$Law", "ends", "[I", true)
  | 3 => ("TuesdayKnew$Law", "clauses", "I", false)
  | 4 => ("TuesdayKnew$Law", "signs", "[I", true)
  | _ => ("TuesdayKnew$Law", "used", "I", false)
def tyX1 : Nat → FieldType := fun k => match k with
  | 0 => .array .int
  | 1 => .array .int
  | 2 => .array .int
  | 3 => .int
  | 4 => .array .int
  | _ => .int
abbrev wsX10 : List Cond := u_ws RX1 TX1 6
theorem nmX1 : ∀ a, a < 6 → ∀ b, b < 6 → a ≠ b → (TX1 a).2.1 ≠ (TX1 b).2.1 := by decide +kernel
theorem tyX1_ok : ∀ k, k < 6 → parseFieldDescriptor (TX1 k).2.2.1 = some (tyX1 k) := by decide +kernel
abbrev cX1_init : ByteArray := prog_3_method_1_code
def yX1_init : MethodName := ⟨RX1, "<init>", "()V"⟩
abbrev cX1_clear : ByteArray := prog_3_method_2_code
def yX1_clear : MethodName := ⟨RX1, "clear", "()V"⟩
abbrev cX1_testSign : ByteArray := prog_3_method_3_code
def yX1_testSign : MethodName := ⟨RX1, "testSign", "(III)I"⟩
abbrev cX1_addSign : ByteArray := prog_3_method_4_code
def yX1_addSign : MethodName := ⟨RX1, "addSign", "(I)V"⟩
abbrev cX1_endClause : ByteArray := prog_3_method_5_code
def yX1_endClause : MethodName := ⟨RX1, "endClause", "(II)V"⟩
abbrev cX1_hoursOf : ByteArray := prog_3_method_6_code
def yX1_hoursOf : MethodName := ⟨RX1, "hoursOf", "(III)I"⟩
abbrev cX1_habitOf : ByteArray := prog_3_method_7_code
def yX1_habitOf : MethodName := ⟨RX1, "habitOf", "(III)I"⟩
abbrev cX1_lastOf : ByteArray := prog_3_method_8_code
def yX1_lastOf : MethodName := ⟨RX1, "lastOf", "(II)I"⟩
abbrev cX1_mostSteps : ByteArray := prog_3_method_9_code
def yX1_mostSteps : MethodName := ⟨RX1, "mostSteps", "()I"⟩
abbrev cX1_holds : ByteArray := prog_3_method_10_code
def yX1_holds : MethodName := ⟨RX1, "holds", "(IIIIII)Z"⟩
abbrev cX1_valueOf : ByteArray := prog_3_method_11_code
def yX1_valueOf : MethodName := ⟨RX1, "valueOf", "(IIIIII)I"⟩
abbrev cX1_passes : ByteArray := prog_3_method_12_code
def yX1_passes : MethodName := ⟨RX1, "passes", "(III)Z"⟩
def RX2 : String := "TuesdayKnew$Odds"
def TX2 : u_T := fun k => match k with
  | 0 => ("TuesdayKnew$Odds", "weights", "[J", true)
  | 1 => ("TuesdayKnew$Odds", "days", "I", false)
  | 2 => ("TuesdayKnew$Odds", "above", "J", false)
  | _ => ("TuesdayKnew$Odds", "below", "J", false)
def tyX2 : Nat → FieldType := fun k => match k with
  | 0 => .array .long
  | 1 => .int
  | 2 => .long
  | _ => .long
abbrev wsX20 : List Cond := u_ws RX2 TX2 4
theorem nmX2 : ∀ a, a < 4 → ∀ b, b < 4 → a ≠ b → (TX2 a).2.1 ≠ (TX2 b).2.1 := by decide +kernel
theorem tyX2_ok : ∀ k, k < 4 → parseFieldDescriptor (TX2 k).2.2.1 = some (tyX2 k) := by decide +kernel
abbrev cX2_init : ByteArray := prog_4_method_1_code
def yX2_init : MethodName := ⟨RX2, "<init>", "()V"⟩
abbrev cX2_start : ByteArray := prog_4_method_2_code
def yX2_start : MethodName := ⟨RX2, "start", "()V"⟩
abbrev cX2_addFriday : ByteArray := prog_4_method_3_code
def yX2_addFriday : MethodName := ⟨RX2, "addFriday", "(I)V"⟩
abbrev cX2_atLeast : ByteArray := prog_4_method_4_code
def yX2_atLeast : MethodName := ⟨RX2, "atLeast", "(I)V"⟩
abbrev cX2_multiply : ByteArray := prog_4_method_5_code
def yX2_multiply : MethodName := ⟨RX2, "multiply", "(I)V"⟩
abbrev cX2_reduce : ByteArray := prog_4_method_6_code
def yX2_reduce : MethodName := ⟨RX2, "reduce", "()V"⟩
def RX3 : String := "TuesdayKnew$Spread"
def TX3 : u_T := fun k => match k with
  | 0 => ("TuesdayKnew$Spread", "goes", "[I", true)
  | 1 => ("TuesdayKnew$Spread", "had", "[I", true)
  | 2 => ("TuesdayKnew$Spread", "hours", "[I", true)
  | 3 => ("TuesdayKnew$Spread", "later", "[I", true)
  | 4 => ("TuesdayKnew$Spread", "left", "[I", true)
  | 5 => ("TuesdayKnew$Spread", "row", "[I", true)
  | 6 => ("TuesdayKnew$Spread", "names", "I", false)
  | _ => ("TuesdayKnew$Spread", "steps", "I", false)
def tyX3 : Nat → FieldType := fun k => match k with
  | 0 => .array .int
  | 1 => .array .int
  | 2 => .array .int
  | 3 => .array .int
  | 4 => .array .int
  | 5 => .array .int
  | 6 => .int
  | _ => .int
abbrev wsX30 : List Cond := u_ws RX3 TX3 8
theorem nmX3 : ∀ a, a < 8 → ∀ b, b < 8 → a ≠ b → (TX3 a).2.1 ≠ (TX3 b).2.1 := by decide +kernel
theorem tyX3_ok : ∀ k, k < 8 → parseFieldDescriptor (TX3 k).2.2.1 = some (tyX3 k) := by decide +kernel
abbrev cX3_init : ByteArray := prog_5_method_1_code
def yX3_init : MethodName := ⟨RX3, "<init>", "()V"⟩
abbrev cX3_take : ByteArray := prog_5_method_2_code
def yX3_take : MethodName := ⟨RX3, "take", "(LTuesdayKnew$World;I)V"⟩
abbrev cX3_run : ByteArray := prog_5_method_3_code
def yX3_run : MethodName := ⟨RX3, "run", "(I)V"⟩
abbrev cX3_runStep : ByteArray := prog_5_method_4_code
def yX3_runStep : MethodName := ⟨RX3, "runStep", "(I)Z"⟩
abbrev cX3_hourOf : ByteArray := prog_5_method_5_code
def yX3_hourOf : MethodName := ⟨RX3, "hourOf", "(I)I"⟩
abbrev cX3_knownBy : ByteArray := prog_5_method_6_code
def yX3_knownBy : MethodName := ⟨RX3, "knownBy", "(II)Z"⟩
abbrev cX3_knownByAll : ByteArray := prog_5_method_7_code
def yX3_knownByAll : MethodName := ⟨RX3, "knownByAll", "(I)I"⟩
abbrev cX3_rowTo : ByteArray := prog_5_method_8_code
def yX3_rowTo : MethodName := ⟨RX3, "rowTo", "(I)I"⟩
abbrev cX3_lookBack : ByteArray := prog_5_method_9_code
def yX3_lookBack : MethodName := ⟨RX3, "lookBack", "(I)V"⟩
abbrev cX3_walk : ByteArray := prog_5_method_10_code
def yX3_walk : MethodName := ⟨RX3, "walk", "(II)V"⟩
def RX4 : String := "TuesdayKnew$Tape"
def TX4 : u_T := fun k => match k with
  | 0 => ("TuesdayKnew$Tape", "sort", "I", false)
  | 1 => ("TuesdayKnew$Tape", "length", "I", false)
  | _ => ("TuesdayKnew$Tape", "items", "[J", true)
def tyX4 : Nat → FieldType := fun k => match k with
  | 0 => .int
  | 1 => .int
  | _ => .array .long
abbrev wsX40 : List Cond := u_ws RX4 TX4 3
theorem nmX4 : ∀ a, a < 3 → ∀ b, b < 3 → a ≠ b → (TX4 a).2.1 ≠ (TX4 b).2.1 := by decide +kernel
theorem tyX4_ok : ∀ k, k < 3 → parseFieldDescriptor (TX4 k).2.2.1 = some (tyX4 k) := by decide +kernel
abbrev cX4_init : ByteArray := prog_6_method_1_code
def yX4_init : MethodName := ⟨RX4, "<init>", "()V"⟩
abbrev cX4_become : ByteArray := prog_6_method_2_code
def yX4_become : MethodName := ⟨RX4, "become", "(II)V"⟩
abbrev cX4_hasPlace : ByteArray := prog_6_method_3_code
def yX4_hasPlace : MethodName := ⟨RX4, "hasPlace", "(I)Z"⟩
abbrev cX4_hasRun : ByteArray := prog_6_method_4_code
def yX4_hasRun : MethodName := ⟨RX4, "hasRun", "(II)Z"⟩
abbrev cX4_cut : ByteArray := prog_6_method_5_code
def yX4_cut : MethodName := ⟨RX4, "cut", "(IJ)J"⟩
def RX5 : String := "TuesdayKnew$Text"
def TX5 : u_T := fun k => match k with
  | 0 => ("TuesdayKnew$Text", "bytes", "[I", true)
  | 1 => ("TuesdayKnew$Text", "length", "I", false)
  | _ => ("TuesdayKnew$Text", "at", "I", false)
def tyX5 : Nat → FieldType := fun k => match k with
  | 0 => .array .int
  | 1 => .int
  | _ => .int
abbrev wsX50 : List Cond := u_ws RX5 TX5 3
theorem nmX5 : ∀ a, a < 3 → ∀ b, b < 3 → a ≠ b → (TX5 a).2.1 ≠ (TX5 b).2.1 := by decide +kernel
theorem tyX5_ok : ∀ k, k < 3 → parseFieldDescriptor (TX5 k).2.2.1 = some (tyX5 k) := by decide +kernel
abbrev cX5_init : ByteArray := prog_7_method_1_code
def yX5_init : MethodName := ⟨RX5, "<init>", "()V"⟩
abbrev cX5_append : ByteArray := prog_7_method_2_code
def yX5_append : MethodName := ⟨RX5, "append", "(I)V"⟩
abbrev cX5_readInto : ByteArray := prog_7_method_3_code
def yX5_readInto : MethodName := ⟨RX5, "readInto", "(LTuesdayKnew$Law;)I"⟩
abbrev cX5_readClause : ByteArray := prog_7_method_4_code
def yX5_readClause : MethodName := ⟨RX5, "readClause", "(LTuesdayKnew$Law;)Z"⟩
abbrev cX5_spelling : ByteArray := prog_7_method_5_code
def yX5_spelling : MethodName := ⟨RX5, "spelling", "(I)Ljava/lang/String;"⟩
abbrev cX5_readWord : ByteArray := prog_7_method_6_code
def yX5_readWord : MethodName := ⟨RX5, "readWord", "()I"⟩
abbrev cX5_readNumber : ByteArray := prog_7_method_7_code
def yX5_readNumber : MethodName := ⟨RX5, "readNumber", "(I)I"⟩
abbrev cX5_readEither : ByteArray := prog_7_method_8_code
def yX5_readEither : MethodName := ⟨RX5, "readEither", "(LTuesdayKnew$Law;I)Z"⟩
abbrev cX5_readAll : ByteArray := prog_7_method_9_code
def yX5_readAll : MethodName := ⟨RX5, "readAll", "(LTuesdayKnew$Law;I)Z"⟩
abbrev cX5_readOne : ByteArray := prog_7_method_10_code
def yX5_readOne : MethodName := ⟨RX5, "readOne", "(LTuesdayKnew$Law;I)Z"⟩
abbrev cX5_readTest : ByteArray := prog_7_method_11_code
def yX5_readTest : MethodName := ⟨RX5, "readTest", "(LTuesdayKnew$Law;)Z"⟩
abbrev cX5_readSign : ByteArray := prog_7_method_12_code
def yX5_readSign : MethodName := ⟨RX5, "readSign", "(Ljava/lang/String;)I"⟩
abbrev cX5_eats : ByteArray := prog_7_method_13_code
def yX5_eats : MethodName := ⟨RX5, "eats", "(C)Z"⟩
def RX6 : String := "TuesdayKnew$World"
def TX6 : u_T := fun k => match k with
  | 0 => ("TuesdayKnew$World", "joined", "[I", true)
  | 1 => ("TuesdayKnew$World", "had", "[I", true)
  | 2 => ("TuesdayKnew$World", "held", "LTuesdayKnew$Law;", false)
  | 3 => ("TuesdayKnew$World", "kinds", "[I", true)
  | 4 => ("TuesdayKnew$World", "buyers", "[I", true)
  | 5 => ("TuesdayKnew$World", "fridays", "[I", true)
  | 6 => ("TuesdayKnew$World", "hours", "[I", true)
  | 7 => ("TuesdayKnew$World", "lots", "[I", true)
  | 8 => ("TuesdayKnew$World", "trades", "I", false)
  | 9 => ("TuesdayKnew$World", "blanks", "[I", true)
  | _ => ("TuesdayKnew$World", "blankCount", "I", false)
def tyX6 : Nat → FieldType := fun k => match k with
  | 0 => .array .int
  | 1 => .array .int
  | 2 => .object "TuesdayKnew$Law"
  | 3 => .array .int
  | 4 => .array .int
  | 5 => .array .int
  | 6 => .array .int
  | 7 => .array .int
  | 8 => .int
  | 9 => .array .int
  | _ => .int
abbrev wsX60 : List Cond := u_ws RX6 TX6 11
theorem nmX6 : ∀ a, a < 11 → ∀ b, b < 11 → a ≠ b → (TX6 a).2.1 ≠ (TX6 b).2.1 := by decide +kernel
theorem tyX6_ok : ∀ k, k < 11 → parseFieldDescriptor (TX6 k).2.2.1 = some (tyX6 k) := by decide +kernel
abbrev cX6_init : ByteArray := prog_8_method_1_code
def yX6_init : MethodName := ⟨RX6, "<init>", "(LTuesdayKnew$Law;)V"⟩
abbrev cX6_become : ByteArray := prog_8_method_2_code
def yX6_become : MethodName := ⟨RX6, "become", "(LTuesdayKnew$World;)V"⟩
abbrev cX6_joinBoth : ByteArray := prog_8_method_3_code
def yX6_joinBoth : MethodName := ⟨RX6, "joinBoth", "(III)I"⟩
abbrev cX6_hoursBetween : ByteArray := prog_8_method_4_code
def yX6_hoursBetween : MethodName := ⟨RX6, "hoursBetween", "(II)I"⟩
abbrev cX6_addTrade : ByteArray := prog_8_method_5_code
def yX6_addTrade : MethodName := ⟨RX6, "addTrade", "(IIIII)I"⟩
abbrev cX6_fridaysOf : ByteArray := prog_8_method_6_code
def yX6_fridaysOf : MethodName := ⟨RX6, "fridaysOf", "(I)I"⟩
abbrev cX6_hasFellow : ByteArray := prog_8_method_7_code
def yX6_hasFellow : MethodName := ⟨RX6, "hasFellow", "(I)Z"⟩
def RX7 : String := "TuesdayKnew"
def TX7 : u_T := fun k => match k with
  | 0 => ("TuesdayKnew", "letters", "[I", true)
  | 1 => ("TuesdayKnew", "names", "I", false)
  | 2 => ("TuesdayKnew", "text", "LTuesdayKnew$Text;", true)
  | 3 => ("TuesdayKnew", "laws", "[LTuesdayKnew$Law;", true)
  | 4 => ("TuesdayKnew", "lawCount", "I", false)
  | 5 => ("TuesdayKnew", "now", "LTuesdayKnew$World;", true)
  | 6 => ("TuesdayKnew", "kept", "LTuesdayKnew$World;", true)
  | 7 => ("TuesdayKnew", "imageTaken", "Z", false)
  | 8 => ("TuesdayKnew", "spread", "LTuesdayKnew$Spread;", true)
  | 9 => ("TuesdayKnew", "odds", "LTuesdayKnew$Odds;", true)
  | 10 => ("TuesdayKnew", "actor", "LTuesdayKnew$Actor;", true)
  | _ => ("TuesdayKnew", "tapes", "[LTuesdayKnew$Tape;", true)
def tyX7 : Nat → FieldType := fun k => match k with
  | 0 => .array .int
  | 1 => .int
  | 2 => .object "TuesdayKnew$Text"
  | 3 => .array (.object "TuesdayKnew$Law")
  | 4 => .int
  | 5 => .object "TuesdayKnew$World"
  | 6 => .object "TuesdayKnew$World"
  | 7 => .boolean
  | 8 => .object "TuesdayKnew$Spread"
  | 9 => .object "TuesdayKnew$Odds"
  | 10 => .object "TuesdayKnew$Actor"
  | _ => .array (.object "TuesdayKnew$Tape")
abbrev wsX70 : List Cond := u_ws RX7 TX7 12
theorem nmX7 : ∀ a, a < 12 → ∀ b, b < 12 → a ≠ b → (TX7 a).2.1 ≠ (TX7 b).2.1 := by decide +kernel
theorem tyX7_ok : ∀ k, k < 12 → parseFieldDescriptor (TX7 k).2.2.1 = some (tyX7 k) := by decide +kernel
abbrev cX7_init : ByteArray := prog_1_method_1_code
def yX7_init : MethodName := ⟨RX7, "<init>", "()V"⟩
abbrev cX7_name : ByteArray := prog_1_method_2_code
def yX7_name : MethodName := ⟨RX7, "name", "(I)I"⟩
abbrev cX7_join : ByteArray := prog_1_method_3_code
def yX7_join : MethodName := ⟨RX7, "join", "(III)I"⟩
abbrev cX7_news : ByteArray := prog_1_method_4_code
def yX7_news : MethodName := ⟨RX7, "news", "(II)I"⟩
abbrev cX7_feed : ByteArray := prog_1_method_5_code
def yX7_feed : MethodName := ⟨RX7, "feed", "(II)I"⟩
abbrev cX7_law : ByteArray := prog_1_method_6_code
def yX7_law : MethodName := ⟨RX7, "law", "()I"⟩
abbrev cX7_goes : ByteArray := prog_1_method_7_code
def yX7_goes : MethodName := ⟨RX7, "goes", "(II)I"⟩
abbrev cX7_habit : ByteArray := prog_1_method_8_code
def yX7_habit : MethodName := ⟨RX7, "habit", "(II)I"⟩
abbrev cX7_knows : ByteArray := prog_1_method_9_code
def yX7_knows : MethodName := ⟨RX7, "knows", "(I)I"⟩
abbrev cX7_way : ByteArray := prog_1_method_10_code
def yX7_way : MethodName := ⟨RX7, "way", "(II)I"⟩
abbrev cX7_silent : ByteArray := prog_1_method_11_code
def yX7_silent : MethodName := ⟨RX7, "silent", "(II)I"⟩
abbrev cX7_leastSilence : ByteArray := prog_1_method_12_code
def yX7_leastSilence : MethodName := ⟨RX7, "leastSilence", "(III)I"⟩
abbrev cX7_trade : ByteArray := prog_1_method_13_code
def yX7_trade : MethodName := ⟨RX7, "trade", "(IIIII)I"⟩
abbrev cX7_of : ByteArray := prog_1_method_14_code
def yX7_of : MethodName := ⟨RX7, "of", "(II)I"⟩
abbrev cX7_sure : ByteArray := prog_1_method_15_code
def yX7_sure : MethodName := ⟨RX7, "sure", "(I)I"⟩
abbrev cX7_fridays : ByteArray := prog_1_method_16_code
def yX7_fridays : MethodName := ⟨RX7, "fridays", "(I)I"⟩
abbrev cX7_again : ByteArray := prog_1_method_17_code
def yX7_again : MethodName := ⟨RX7, "again", "(IIII)J"⟩
abbrev cX7_oddest : ByteArray := prog_1_method_18_code
def yX7_oddest : MethodName := ⟨RX7, "oddest", "(I)I"⟩
abbrev cX7_ring : ByteArray := prog_1_method_19_code
def yX7_ring : MethodName := ⟨RX7, "ring", "(I)I"⟩
abbrev cX7_explaining : ByteArray := prog_1_method_20_code
def yX7_explaining : MethodName := ⟨RX7, "explaining", "(I)I"⟩
abbrev cX7_knownAlone : ByteArray := prog_1_method_21_code
def yX7_knownAlone : MethodName := ⟨RX7, "knownAlone", "(I)Z"⟩
abbrev cX7_weighAgain : ByteArray := prog_1_method_22_code
def yX7_weighAgain : MethodName := ⟨RX7, "weighAgain", "(II)V"⟩
abbrev cX7_alikeWith : ByteArray := prog_1_method_23_code
def yX7_alikeWith : MethodName := ⟨RX7, "alikeWith", "(I)I"⟩
abbrev cX7_alikePairs : ByteArray := prog_1_method_24_code
def yX7_alikePairs : MethodName := ⟨RX7, "alikePairs", "()I"⟩
abbrev cX7_greatestRing : ByteArray := prog_1_method_25_code
def yX7_greatestRing : MethodName := ⟨RX7, "greatestRing", "()I"⟩
abbrev cX7_parted : ByteArray := prog_1_method_26_code
def yX7_parted : MethodName := ⟨RX7, "parted", "(II)I"⟩
abbrev cX7_watch : ByteArray := prog_1_method_27_code
def yX7_watch : MethodName := ⟨RX7, "watch", "(III)I"⟩
abbrev cX7_ask : ByteArray := prog_1_method_28_code
def yX7_ask : MethodName := ⟨RX7, "ask", "(I)I"⟩
abbrev cX7_blank : ByteArray := prog_1_method_29_code
def yX7_blank : MethodName := ⟨RX7, "blank", "(I)I"⟩
abbrev cX7_fills : ByteArray := prog_1_method_30_code
def yX7_fills : MethodName := ⟨RX7, "fills", "(I)I"⟩
abbrev cX7_filled : ByteArray := prog_1_method_31_code
def yX7_filled : MethodName := ⟨RX7, "filled", "(I)I"⟩
abbrev cX7_knowers : ByteArray := prog_1_method_32_code
def yX7_knowers : MethodName := ⟨RX7, "knowers", "(I)I"⟩
abbrev cX7_namesOfLetters : ByteArray := prog_1_method_33_code
def yX7_namesOfLetters : MethodName := ⟨RX7, "namesOfLetters", "(I)I"⟩
abbrev cX7_leastOf : ByteArray := prog_1_method_34_code
def yX7_leastOf : MethodName := ⟨RX7, "leastOf", "(I)I"⟩
abbrev cX7_waysToFill : ByteArray := prog_1_method_35_code
def yX7_waysToFill : MethodName := ⟨RX7, "waysToFill", "()I"⟩
abbrev cX7_judge : ByteArray := prog_1_method_36_code
def yX7_judge : MethodName := ⟨RX7, "judge", "(III)I"⟩
abbrev cX7_image : ByteArray := prog_1_method_37_code
def yX7_image : MethodName := ⟨RX7, "image", "()I"⟩
abbrev cX7_undo : ByteArray := prog_1_method_38_code
def yX7_undo : MethodName := ⟨RX7, "undo", "()I"⟩
abbrev cX7_act : ByteArray := prog_1_method_39_code
def yX7_act : MethodName := ⟨RX7, "act", "(III)I"⟩
abbrev cX7_trace : ByteArray := prog_1_method_40_code
def yX7_trace : MethodName := ⟨RX7, "trace", "(I)I"⟩
abbrev cX7_taken : ByteArray := prog_1_method_41_code
def yX7_taken : MethodName := ⟨RX7, "taken", "(II)I"⟩
abbrev cX7_count : ByteArray := prog_1_method_42_code
def yX7_count : MethodName := ⟨RX7, "count", "(I)I"⟩
abbrev cX7_tape : ByteArray := prog_1_method_43_code
def yX7_tape : MethodName := ⟨RX7, "tape", "(III)I"⟩
abbrev cX7_item : ByteArray := prog_1_method_44_code
def yX7_item : MethodName := ⟨RX7, "item", "(IIJ)I"⟩
abbrev cX7_read : ByteArray := prog_1_method_45_code
def yX7_read : MethodName := ⟨RX7, "read", "(II)J"⟩
abbrev cX7_shift : ByteArray := prog_1_method_46_code
def yX7_shift : MethodName := ⟨RX7, "shift", "(IIIII)I"⟩
abbrev cX7_judgeRow : ByteArray := prog_1_method_47_code
def yX7_judgeRow : MethodName := ⟨RX7, "judgeRow", "(LTuesdayKnew$Tape;II)I"⟩
abbrev cX7_isName : ByteArray := prog_1_method_48_code
def yX7_isName : MethodName := ⟨RX7, "isName", "(I)Z"⟩
abbrev cX7_isTrade : ByteArray := prog_1_method_49_code
def yX7_isTrade : MethodName := ⟨RX7, "isTrade", "(I)Z"⟩
abbrev cX7_isBlank : ByteArray := prog_1_method_50_code
def yX7_isBlank : MethodName := ⟨RX7, "isBlank", "(I)Z"⟩
abbrev cX7_isLetters : ByteArray := prog_1_method_51_code
def yX7_isLetters : MethodName := ⟨RX7, "isLetters", "(I)Z"⟩
abbrev cX7_isHour : ByteArray := prog_1_method_52_code
def yX7_isHour : MethodName := ⟨RX7, "isHour", "(I)Z"⟩
abbrev cX7_isFriday : ByteArray := prog_1_method_53_code
def yX7_isFriday : MethodName := ⟨RX7, "isFriday", "(I)Z"⟩
abbrev cX7_isKind : ByteArray := prog_1_method_54_code
def yX7_isKind : MethodName := ⟨RX7, "isKind", "(I)Z"⟩
abbrev cX7_isParted : ByteArray := prog_1_method_55_code
def yX7_isParted : MethodName := ⟨RX7, "isParted", "(I)Z"⟩
abbrev cX7_tapeAt : ByteArray := prog_1_method_56_code
def yX7_tapeAt : MethodName := ⟨RX7, "tapeAt", "(I)LTuesdayKnew$Tape;"⟩
abbrev cX7_habitOf : ByteArray := prog_1_method_57_code
def yX7_habitOf : MethodName := ⟨RX7, "habitOf", "(II)I"⟩
abbrev cX7_spreadAll : ByteArray := prog_1_method_58_code
def yX7_spreadAll : MethodName := ⟨RX7, "spreadAll", "()V"⟩
def RX8 : String := "TuesdayKnewModel"
def TX8 : u_T := fun k => match k with
  | 0 => ("TuesdayKnewModel", "names", "I", false)
  | 1 => ("TuesdayKnewModel", "letters", "[I", true)
  | 2 => ("TuesdayKnewModel", "joined", "[I", true)
  | 3 => ("TuesdayKnewModel", "had", "[I", true)
  | 4 => ("TuesdayKnewModel", "laws", "I", false)
  | 5 => ("TuesdayKnewModel", "the", "I", false)
  | 6 => ("TuesdayKnewModel", "fed", "I", false)
  | 7 => ("TuesdayKnewModel", "at", "I", false)
  | 8 => ("TuesdayKnewModel", "digits", "I", false)
  | 9 => ("TuesdayKnewModel", "text", "[I", true)
  | 10 => ("TuesdayKnewModel", "clauses", "[I", true)
  | 11 => ("TuesdayKnewModel", "word", "[I", true)
  | 12 => ("TuesdayKnewModel", "number", "[I", true)
  | 13 => ("TuesdayKnewModel", "from", "[I", true)
  | 14 => ("TuesdayKnewModel", "to", "[I", true)
  | 15 => ("TuesdayKnewModel", "sign", "[I", true)
  | 16 => ("TuesdayKnewModel", "waits", "[I", true)
  | 17 => ("TuesdayKnewModel", "signs", "I", false)
  | 18 => ("TuesdayKnewModel", "waiting", "I", false)
  | 19 => ("TuesdayKnewModel", "open", "I", false)
  | 20 => ("TuesdayKnewModel", "fact", "[I", true)
  | 21 => ("TuesdayKnewModel", "pile", "[Z", true)
  | 22 => ("TuesdayKnewModel", "hours", "[I", true)
  | 23 => ("TuesdayKnewModel", "when", "[I", true)
  | 24 => ("TuesdayKnewModel", "rest", "[I", true)
  | 25 => ("TuesdayKnewModel", "steps", "I", false)
  | 26 => ("TuesdayKnewModel", "row", "[I", true)
  | 27 => ("TuesdayKnewModel", "trades", "I", false)
  | 28 => ("TuesdayKnewModel", "kind", "[I", true)
  | 29 => ("TuesdayKnewModel", "who", "[I", true)
  | 30 => ("TuesdayKnewModel", "friday", "[I", true)
  | 31 => ("TuesdayKnewModel", "hour", "[I", true)
  | 32 => ("TuesdayKnewModel", "lots", "[I", true)
  | 33 => ("TuesdayKnewModel", "ways", "[J", true)
  | 34 => ("TuesdayKnewModel", "below", "J", false)
  | 35 => ("TuesdayKnewModel", "blanks", "I", false)
  | 36 => ("TuesdayKnewModel", "blank", "[I", true)
  | 37 => ("TuesdayKnewModel", "goesOn", "[I", true)
  | 38 => ("TuesdayKnewModel", "used", "[I", true)
  | 39 => ("TuesdayKnewModel", "sure", "[I", true)
  | 40 => ("TuesdayKnewModel", "hasImage", "Z", false)
  | 41 => ("TuesdayKnewModel", "imageThe", "I", false)
  | 42 => ("TuesdayKnewModel", "imageTrades", "I", false)
  | 43 => ("TuesdayKnewModel", "imageBlanks", "I", false)
  | 44 => ("TuesdayKnewModel", "imageJoined", "[I", true)
  | 45 => ("TuesdayKnewModel", "imageHad", "[I", true)
  | 46 => ("TuesdayKnewModel", "imageKind", "[I", true)
  | 47 => ("TuesdayKnewModel", "imageWho", "[I", true)
  | 48 => ("TuesdayKnewModel", "imageFriday", "[I", true)
  | 49 => ("TuesdayKnewModel", "imageHour", "[I", true)
  | 50 => ("TuesdayKnewModel", "imageLots", "[I", true)
  | 51 => ("TuesdayKnewModel", "imageBlank", "[I", true)
  | 52 => ("TuesdayKnewModel", "ran", "I", false)
  | 53 => ("TuesdayKnewModel", "bodies", "[I", true)
  | 54 => ("TuesdayKnewModel", "sort", "[I", true)
  | 55 => ("TuesdayKnewModel", "length", "[I", true)
  | 56 => ("TuesdayKnewModel", "item", "[J", true)
  | _ => ("TuesdayKnewModel", "aside", "[J", true)
def tyX8 : Nat → FieldType := fun k => match k with
  | 0 => .int
  | 1 => .array .int
  | 2 => .array .int
  | 3 => .array .int
  | 4 => .int
  | 5 => .int
  | 6 => .int
  | 7 => .int
  | 8 => .int
  | 9 => .array .int
  | 10 => .array .int
  | 11 => .array .int
  | 12 => .array .int
  | 13 => .array .int
  | 14 => .array .int
  | 15 => .array .int
  | 16 => .array .int
  | 17 => .int
  | 18 => .int
  | 19 => .int
  | 20 => .array .int
  | 21 => .array .boolean
  | 22 => .array .int
  | 23 => .array .int
  | 24 => .array .int
  | 25 => .int
  | 26 => .array .int
  | 27 => .int
  | 28 => .array .int
  | 29 => .array .int
  | 30 => .array .int
  | 31 => .array .int
  | 32 => .array .int
  | 33 => .array .long
  | 34 => .long
  | 35 => .int
  | 36 => .array .int
  | 37 => .array .int
  | 38 => .array .int
  | 39 => .array .int
  | 40 => .boolean
  | 41 => .int
  | 42 => .int
  | 43 => .int
  | 44 => .array .int
  | 45 => .array .int
  | 46 => .array .int
  | 47 => .array .int
  | 48 => .array .int
  | 49 => .array .int
  | 50 => .array .int
  | 51 => .array .int
  | 52 => .int
  | 53 => .array .int
  | 54 => .array .int
  | 55 => .array .int
  | 56 => .array .long
  | _ => .array .long
abbrev wsX80 : List Cond := u_ws RX8 TX8 58
theorem nmX8 : ∀ a, a < 58 → ∀ b, b < 58 → a ≠ b → (TX8 a).2.1 ≠ (TX8 b).2.1 := by decide +kernel
theorem tyX8_ok : ∀ k, k < 58 → parseFieldDescriptor (TX8 k).2.2.1 = some (tyX8 k) := by decide +kernel
abbrev cX8_init : ByteArray := prog_10_method_1_code
def yX8_init : MethodName := ⟨RX8, "<init>", "()V"⟩
abbrev cX8_in : ByteArray := prog_10_method_2_code
def yX8_in : MethodName := ⟨RX8, "in", "(III)Z"⟩
abbrev cX8_has : ByteArray := prog_10_method_3_code
def yX8_has : MethodName := ⟨RX8, "has", "(II)Z"⟩
abbrev cX8_ones : ByteArray := prog_10_method_4_code
def yX8_ones : MethodName := ⟨RX8, "ones", "(I)I"⟩
abbrev cX8_isName : ByteArray := prog_10_method_5_code
def yX8_isName : MethodName := ⟨RX8, "isName", "(I)Z"⟩
abbrev cX8_isHour : ByteArray := prog_10_method_6_code
def yX8_isHour : MethodName := ⟨RX8, "isHour", "(I)Z"⟩
abbrev cX8_name : ByteArray := prog_10_method_7_code
def yX8_name : MethodName := ⟨RX8, "name", "(I)I"⟩
abbrev cX8_join : ByteArray := prog_10_method_8_code
def yX8_join : MethodName := ⟨RX8, "join", "(III)I"⟩
abbrev cX8_news : ByteArray := prog_10_method_9_code
def yX8_news : MethodName := ⟨RX8, "news", "(II)I"⟩
abbrev cX8_feed : ByteArray := prog_10_method_10_code
def yX8_feed : MethodName := ⟨RX8, "feed", "(II)I"⟩
abbrev cX8_next : ByteArray := prog_10_method_11_code
def yX8_next : MethodName := ⟨RX8, "next", "()I"⟩
abbrev cX8_third : ByteArray := prog_10_method_12_code
def yX8_third : MethodName := ⟨RX8, "third", "()I"⟩
abbrev cX8_takes : ByteArray := prog_10_method_13_code
def yX8_takes : MethodName := ⟨RX8, "takes", "(I)Z"⟩
abbrev cX8_takesWord : ByteArray := prog_10_method_14_code
def yX8_takesWord : MethodName := ⟨RX8, "takesWord", "(II)Z"⟩
abbrev cX8_isDigit : ByteArray := prog_10_method_15_code
def yX8_isDigit : MethodName := ⟨RX8, "isDigit", "()Z"⟩
abbrev cX8_takesNumber : ByteArray := prog_10_method_16_code
def yX8_takesNumber : MethodName := ⟨RX8, "takesNumber", "(I)Z"⟩
abbrev cX8_put : ByteArray := prog_10_method_17_code
def yX8_put : MethodName := ⟨RX8, "put", "(I)V"⟩
abbrev cX8_whole : ByteArray := prog_10_method_18_code
def yX8_whole : MethodName := ⟨RX8, "whole", "()V"⟩
abbrev cX8_settle : ByteArray := prog_10_method_19_code
def yX8_settle : MethodName := ⟨RX8, "settle", "(I)V"⟩
abbrev cX8_place : ByteArray := prog_10_method_20_code
def yX8_place : MethodName := ⟨RX8, "place", "(I)I"⟩
abbrev cX8_takesTest : ByteArray := prog_10_method_21_code
def yX8_takesTest : MethodName := ⟨RX8, "takesTest", "()Z"⟩
abbrev cX8_takesE : ByteArray := prog_10_method_22_code
def yX8_takesE : MethodName := ⟨RX8, "takesE", "(I)Z"⟩
abbrev cX8_takesHead : ByteArray := prog_10_method_23_code
def yX8_takesHead : MethodName := ⟨RX8, "takesHead", "(I)Z"⟩
abbrev cX8_takesClause : ByteArray := prog_10_method_24_code
def yX8_takesClause : MethodName := ⟨RX8, "takesClause", "(I)Z"⟩
abbrev cX8_goesText : ByteArray := prog_10_method_25_code
def yX8_goesText : MethodName := ⟨RX8, "goesText", "(I)Z"⟩
abbrev cX8_law : ByteArray := prog_10_method_26_code
def yX8_law : MethodName := ⟨RX8, "law", "()I"⟩
abbrev cX8_first : ByteArray := prog_10_method_27_code
def yX8_first : MethodName := ⟨RX8, "first", "()I"⟩
abbrev cX8_behind : ByteArray := prog_10_method_28_code
def yX8_behind : MethodName := ⟨RX8, "behind", "()I"⟩
abbrev cX8_last : ByteArray := prog_10_method_29_code
def yX8_last : MethodName := ⟨RX8, "last", "(II)I"⟩
abbrev cX8_ask : ByteArray := prog_10_method_30_code
def yX8_ask : MethodName := ⟨RX8, "ask", "(IIIII)V"⟩
abbrev cX8_holds : ByteArray := prog_10_method_31_code
def yX8_holds : MethodName := ⟨RX8, "holds", "(I)Z"⟩
abbrev cX8_goesIn : ByteArray := prog_10_method_32_code
def yX8_goesIn : MethodName := ⟨RX8, "goesIn", "(II)I"⟩
abbrev cX8_goes : ByteArray := prog_10_method_33_code
def yX8_goes : MethodName := ⟨RX8, "goes", "(II)I"⟩
abbrev cX8_habitOf : ByteArray := prog_10_method_34_code
def yX8_habitOf : MethodName := ⟨RX8, "habitOf", "(II)I"⟩
abbrev cX8_habit : ByteArray := prog_10_method_35_code
def yX8_habit : MethodName := ⟨RX8, "habit", "(II)I"⟩
abbrev cX8_layHours : ByteArray := prog_10_method_36_code
def yX8_layHours : MethodName := ⟨RX8, "layHours", "()V"⟩
abbrev cX8_spread : ByteArray := prog_10_method_37_code
def yX8_spread : MethodName := ⟨RX8, "spread", "(I)V"⟩
abbrev cX8_earliest : ByteArray := prog_10_method_38_code
def yX8_earliest : MethodName := ⟨RX8, "earliest", "(I)I"⟩
abbrev cX8_knows : ByteArray := prog_10_method_39_code
def yX8_knows : MethodName := ⟨RX8, "knows", "(I)I"⟩
abbrev cX8_findWay : ByteArray := prog_10_method_40_code
def yX8_findWay : MethodName := ⟨RX8, "findWay", "(I)I"⟩
abbrev cX8_way : ByteArray := prog_10_method_41_code
def yX8_way : MethodName := ⟨RX8, "way", "(II)I"⟩
abbrev cX8_silent : ByteArray := prog_10_method_42_code
def yX8_silent : MethodName := ⟨RX8, "silent", "(II)I"⟩
abbrev cX8_isTrade : ByteArray := prog_10_method_43_code
def yX8_isTrade : MethodName := ⟨RX8, "isTrade", "(I)Z"⟩
abbrev cX8_trade : ByteArray := prog_10_method_44_code
def yX8_trade : MethodName := ⟨RX8, "trade", "(IIIII)I"⟩
abbrev cX8_hasOther : ByteArray := prog_10_method_45_code
def yX8_hasOther : MethodName := ⟨RX8, "hasOther", "(I)Z"⟩
abbrev cX8_explains : ByteArray := prog_10_method_46_code
def yX8_explains : MethodName := ⟨RX8, "explains", "(II)Z"⟩
abbrev cX8_allOf : ByteArray := prog_10_method_47_code
def yX8_allOf : MethodName := ⟨RX8, "allOf", "(I)I"⟩
abbrev cX8_of : ByteArray := prog_10_method_48_code
def yX8_of : MethodName := ⟨RX8, "of", "(II)I"⟩
abbrev cX8_sure : ByteArray := prog_10_method_49_code
def yX8_sure : MethodName := ⟨RX8, "sure", "(I)I"⟩
abbrev cX8_fridaysOf : ByteArray := prog_10_method_50_code
def yX8_fridaysOf : MethodName := ⟨RX8, "fridaysOf", "(I)I"⟩
abbrev cX8_fridays : ByteArray := prog_10_method_51_code
def yX8_fridays : MethodName := ⟨RX8, "fridays", "(I)I"⟩
abbrev cX8_againOf : ByteArray := prog_10_method_52_code
def yX8_againOf : MethodName := ⟨RX8, "againOf", "(II)J"⟩
abbrev cX8_divisor : ByteArray := prog_10_method_53_code
def yX8_divisor : MethodName := ⟨RX8, "divisor", "(JJ)J"⟩
abbrev cX8_again : ByteArray := prog_10_method_54_code
def yX8_again : MethodName := ⟨RX8, "again", "(IIII)J"⟩
abbrev cX8_oddest : ByteArray := prog_10_method_55_code
def yX8_oddest : MethodName := ⟨RX8, "oddest", "(I)I"⟩
abbrev cX8_ring : ByteArray := prog_10_method_56_code
def yX8_ring : MethodName := ⟨RX8, "ring", "(I)I"⟩
abbrev cX8_knowers : ByteArray := prog_10_method_57_code
def yX8_knowers : MethodName := ⟨RX8, "knowers", "(I)I"⟩
abbrev cX8_fewest : ByteArray := prog_10_method_58_code
def yX8_fewest : MethodName := ⟨RX8, "fewest", "(III)I"⟩
abbrev cX8_parted : ByteArray := prog_10_method_59_code
def yX8_parted : MethodName := ⟨RX8, "parted", "(II)I"⟩
abbrev cX8_watch : ByteArray := prog_10_method_60_code
def yX8_watch : MethodName := ⟨RX8, "watch", "(III)I"⟩
abbrev cX8_ask_ : ByteArray := prog_10_method_61_code
def yX8_ask_ : MethodName := ⟨RX8, "ask", "(I)I"⟩
abbrev cX8_blank : ByteArray := prog_10_method_62_code
def yX8_blank : MethodName := ⟨RX8, "blank", "(I)I"⟩
abbrev cX8_fillAll : ByteArray := prog_10_method_63_code
def yX8_fillAll : MethodName := ⟨RX8, "fillAll", "()I"⟩
abbrev cX8_fills : ByteArray := prog_10_method_64_code
def yX8_fills : MethodName := ⟨RX8, "fills", "(I)I"⟩
abbrev cX8_filled : ByteArray := prog_10_method_65_code
def yX8_filled : MethodName := ⟨RX8, "filled", "(I)I"⟩
abbrev cX8_judge : ByteArray := prog_10_method_66_code
def yX8_judge : MethodName := ⟨RX8, "judge", "(III)I"⟩
abbrev cX8_copy : ByteArray := prog_10_method_67_code
def yX8_copy : MethodName := ⟨RX8, "copy", "([I[I)V"⟩
abbrev cX8_image : ByteArray := prog_10_method_68_code
def yX8_image : MethodName := ⟨RX8, "image", "()I"⟩
abbrev cX8_undo : ByteArray := prog_10_method_69_code
def yX8_undo : MethodName := ⟨RX8, "undo", "()I"⟩
abbrev cX8_body : ByteArray := prog_10_method_70_code
def yX8_body : MethodName := ⟨RX8, "body", "(I)V"⟩
abbrev cX8_plainBuys : ByteArray := prog_10_method_71_code
def yX8_plainBuys : MethodName := ⟨RX8, "plainBuys", "(II)I"⟩
abbrev cX8_buys : ByteArray := prog_10_method_72_code
def yX8_buys : MethodName := ⟨RX8, "buys", "(II)I"⟩
abbrev cX8_plainKnows : ByteArray := prog_10_method_73_code
def yX8_plainKnows : MethodName := ⟨RX8, "plainKnows", "(II)I"⟩
abbrev cX8_usualKnows : ByteArray := prog_10_method_74_code
def yX8_usualKnows : MethodName := ⟨RX8, "usualKnows", "(II)I"⟩
abbrev cX8_knowsAct : ByteArray := prog_10_method_75_code
def yX8_knowsAct : MethodName := ⟨RX8, "knowsAct", "(II)I"⟩
abbrev cX8_plainTells : ByteArray := prog_10_method_76_code
def yX8_plainTells : MethodName := ⟨RX8, "plainTells", "(II)I"⟩
abbrev cX8_knownTells : ByteArray := prog_10_method_77_code
def yX8_knownTells : MethodName := ⟨RX8, "knownTells", "(II)I"⟩
abbrev cX8_tells : ByteArray := prog_10_method_78_code
def yX8_tells : MethodName := ⟨RX8, "tells", "(II)I"⟩
abbrev cX8_act : ByteArray := prog_10_method_79_code
def yX8_act : MethodName := ⟨RX8, "act", "(III)I"⟩
abbrev cX8_trace : ByteArray := prog_10_method_80_code
def yX8_trace : MethodName := ⟨RX8, "trace", "(I)I"⟩
abbrev cX8_taken : ByteArray := prog_10_method_81_code
def yX8_taken : MethodName := ⟨RX8, "taken", "(II)I"⟩
abbrev cX8_count : ByteArray := prog_10_method_82_code
def yX8_count : MethodName := ⟨RX8, "count", "(I)I"⟩
abbrev cX8_isTape : ByteArray := prog_10_method_83_code
def yX8_isTape : MethodName := ⟨RX8, "isTape", "(I)Z"⟩
abbrev cX8_tape : ByteArray := prog_10_method_84_code
def yX8_tape : MethodName := ⟨RX8, "tape", "(III)I"⟩
abbrev cX8_narrow : ByteArray := prog_10_method_85_code
def yX8_narrow : MethodName := ⟨RX8, "narrow", "(IJ)J"⟩
abbrev cX8_item : ByteArray := prog_10_method_86_code
def yX8_item : MethodName := ⟨RX8, "item", "(IIJ)I"⟩
abbrev cX8_read : ByteArray := prog_10_method_87_code
def yX8_read : MethodName := ⟨RX8, "read", "(II)J"⟩
abbrev cX8_shift : ByteArray := prog_10_method_88_code
def yX8_shift : MethodName := ⟨RX8, "shift", "(IIIII)I"⟩
def RJx145de : String := "java/io/Serializable"
def TJx145de : u_T := fun k => match k with
  | _ => ("", "", "", false)
def tyJx145de : Nat → FieldType := fun k => match k with
  | _ => .int
abbrev wsJx145de0 : List Cond := u_ws RJx145de TJx145de 0
theorem nmJx145de : ∀ a, a < 0 → ∀ b, b < 0 → a ≠ b → (TJx145de a).2.1 ≠ (TJx145de b).2.1 := by decide +kernel
theorem tyJx145de_ok : ∀ k, k < 0 → parseFieldDescriptor (TJx145de k).2.2.1 = some (tyJx145de k) := by decide +kernel
def RJx9f9b0 : String := "java/lang/CharSequence"
def TJx9f9b0 : u_T := fun k => match k with
  | _ => ("", "", "", false)
def tyJx9f9b0 : Nat → FieldType := fun k => match k with
  | _ => .int
abbrev wsJx9f9b00 : List Cond := u_ws RJx9f9b0 TJx9f9b0 0
theorem nmJx9f9b0 : ∀ a, a < 0 → ∀ b, b < 0 → a ≠ b → (TJx9f9b0 a).2.1 ≠ (TJx9f9b0 b).2.1 := by decide +kernel
theorem tyJx9f9b0_ok : ∀ k, k < 0 → parseFieldDescriptor (TJx9f9b0 k).2.2.1 = some (tyJx9f9b0 k) := by decide +kernel
def RJxb160c : String := "java/lang/Comparable"
def TJxb160c : u_T := fun k => match k with
  | _ => ("", "", "", false)
def tyJxb160c : Nat → FieldType := fun k => match k with
  | _ => .int
abbrev wsJxb160c0 : List Cond := u_ws RJxb160c TJxb160c 0
theorem nmJxb160c : ∀ a, a < 0 → ∀ b, b < 0 → a ≠ b → (TJxb160c a).2.1 ≠ (TJxb160c b).2.1 := by decide +kernel
theorem tyJxb160c_ok : ∀ k, k < 0 → parseFieldDescriptor (TJxb160c k).2.2.1 = some (tyJxb160c k) := by decide +kernel
def RJ6 : String := "java/lang/Integer"
def TJ6 : u_T := fun k => match k with
  | _ => ("", "", "", false)
def tyJ6 : Nat → FieldType := fun k => match k with
  | _ => .int
abbrev wsJ60 : List Cond := u_ws RJ6 TJ6 0
theorem nmJ6 : ∀ a, a < 0 → ∀ b, b < 0 → a ≠ b → (TJ6 a).2.1 ≠ (TJ6 b).2.1 := by decide +kernel
theorem tyJ6_ok : ∀ k, k < 0 → parseFieldDescriptor (TJ6 k).2.2.1 = some (tyJ6 k) := by decide +kernel
abbrev cJ6_bitCount_0f7a4 : ByteArray := prog_11_method_49_code
def yJ6_bitCount_0f7a4 : MethodName := ⟨RJ6, "bitCount", "(I)I"⟩
def RJ9 : String := "java/lang/Math"
def TJ9 : u_T := fun k => match k with
  | _ => ("", "", "", false)
def tyJ9 : Nat → FieldType := fun k => match k with
  | _ => .int
abbrev wsJ90 : List Cond := u_ws RJ9 TJ9 0
theorem nmJ9 : ∀ a, a < 0 → ∀ b, b < 0 → a ≠ b → (TJ9 a).2.1 ≠ (TJ9 b).2.1 := by decide +kernel
theorem tyJ9_ok : ∀ k, k < 0 → parseFieldDescriptor (TJ9 k).2.2.1 = some (tyJ9 k) := by decide +kernel
abbrev cJ9_max_7cf53 : ByteArray := prog_12_method_65_code
def yJ9_max_7cf53 : MethodName := ⟨RJ9, "max", "(II)I"⟩
abbrev cJ9_min_7cf53 : ByteArray := prog_12_method_69_code
def yJ9_min_7cf53 : MethodName := ⟨RJ9, "min", "(II)I"⟩
abbrev cJ9_min_f86c9 : ByteArray := prog_12_method_70_code
def yJ9_min_f86c9 : MethodName := ⟨RJ9, "min", "(JJ)J"⟩
def RJ0 : String := "java/lang/String"
def TJ0 : u_T := fun k => match k with
  | _ => ("", "", "", false)
def tyJ0 : Nat → FieldType := fun k => match k with
  | _ => .int
abbrev wsJ00 : List Cond := u_ws RJ0 TJ0 0
theorem nmJ0 : ∀ a, a < 0 → ∀ b, b < 0 → a ≠ b → (TJ0 a).2.1 ≠ (TJ0 b).2.1 := by decide +kernel
theorem tyJ0_ok : ∀ k, k < 0 → parseFieldDescriptor (TJ0 k).2.2.1 = some (tyJ0 k) := by decide +kernel
abbrev cJ0_length_8abf5 : ByteArray := prog_13_method_54_code
def yJ0_length_8abf5 : MethodName := ⟨RJ0, "length", "()I"⟩
abbrev cJ0_charAt_5068e : ByteArray := prog_13_method_56_code
def yJ0_charAt_5068e : MethodName := ⟨RJ0, "charAt", "(I)C"⟩
abbrev cJ0_coder_7d493 : ByteArray := prog_13_method_152_code
def yJ0_coder_7d493 : MethodName := ⟨RJ0, "coder", "()B"⟩
abbrev cJ0_isLatin1_aae02 : ByteArray := prog_13_method_154_code
def yJ0_isLatin1_aae02 : MethodName := ⟨RJ0, "isLatin1", "()Z"⟩
abbrev cJ0_checkIndex_df160 : ByteArray := prog_13_method_155_code
def yJ0_checkIndex_df160 : MethodName := ⟨RJ0, "checkIndex", "(II)V"⟩
def RJ1 : String := "java/lang/StringLatin1"
def TJ1 : u_T := fun k => match k with
  | _ => ("", "", "", false)
def tyJ1 : Nat → FieldType := fun k => match k with
  | _ => .int
abbrev wsJ10 : List Cond := u_ws RJ1 TJ1 0
theorem nmJ1 : ∀ a, a < 0 → ∀ b, b < 0 → a ≠ b → (TJ1 a).2.1 ≠ (TJ1 b).2.1 := by decide +kernel
theorem tyJ1_ok : ∀ k, k < 0 → parseFieldDescriptor (TJ1 k).2.2.1 = some (tyJ1 k) := by decide +kernel
abbrev cJ1_charAt_3b067 : ByteArray := prog_14_method_2_code
def yJ1_charAt_3b067 : MethodName := ⟨RJ1, "charAt", "([BI)C"⟩
def RJ2 : String := "java/lang/StringUTF16"
def TJ2 : u_T := fun k => match k with
  | _ => ("", "", "", false)
def tyJ2 : Nat → FieldType := fun k => match k with
  | _ => .int
abbrev wsJ20 : List Cond := u_ws RJ2 TJ2 0
theorem nmJ2 : ∀ a, a < 0 → ∀ b, b < 0 → a ≠ b → (TJ2 a).2.1 ≠ (TJ2 b).2.1 := by decide +kernel
theorem tyJ2_ok : ∀ k, k < 0 → parseFieldDescriptor (TJ2 k).2.2.1 = some (tyJ2 k) := by decide +kernel
abbrev cJ2_getChar_3b067 : ByteArray := prog_15_method_5_code
def yJ2_getChar_3b067 : MethodName := ⟨RJ2, "getChar", "([BI)C"⟩
abbrev cJ2_length_9d52b : ByteArray := prog_15_method_6_code
def yJ2_length_9d52b : MethodName := ⟨RJ2, "length", "([B)I"⟩
abbrev cJ2_charAt_3b067 : ByteArray := prog_15_method_83_code
def yJ2_charAt_3b067 : MethodName := ⟨RJ2, "charAt", "([BI)C"⟩
abbrev cJ2_checkIndex_2214a : ByteArray := prog_15_method_91_code
def yJ2_checkIndex_2214a : MethodName := ⟨RJ2, "checkIndex", "(I[B)V"⟩
def RJ10 : String := "java/lang/System"
def TJ10 : u_T := fun k => match k with
  | _ => ("", "", "", false)
def tyJ10 : Nat → FieldType := fun k => match k with
  | _ => .int
abbrev wsJ100 : List Cond := u_ws RJ10 TJ10 0
theorem nmJ10 : ∀ a, a < 0 → ∀ b, b < 0 → a ≠ b → (TJ10 a).2.1 ≠ (TJ10 b).2.1 := by decide +kernel
theorem tyJ10_ok : ∀ k, k < 0 → parseFieldDescriptor (TJ10 k).2.2.1 = some (tyJ10 k) := by decide +kernel
def RJxfd54e : String := "java/lang/constant/Constable"
def TJxfd54e : u_T := fun k => match k with
  | _ => ("", "", "", false)
def tyJxfd54e : Nat → FieldType := fun k => match k with
  | _ => .int
abbrev wsJxfd54e0 : List Cond := u_ws RJxfd54e TJxfd54e 0
theorem nmJxfd54e : ∀ a, a < 0 → ∀ b, b < 0 → a ≠ b → (TJxfd54e a).2.1 ≠ (TJxfd54e b).2.1 := by decide +kernel
theorem tyJxfd54e_ok : ∀ k, k < 0 → parseFieldDescriptor (TJxfd54e k).2.2.1 = some (tyJxfd54e k) := by decide +kernel
def RJx3cf43 : String := "java/lang/constant/ConstantDesc"
def TJx3cf43 : u_T := fun k => match k with
  | _ => ("", "", "", false)
def tyJx3cf43 : Nat → FieldType := fun k => match k with
  | _ => .int
abbrev wsJx3cf430 : List Cond := u_ws RJx3cf43 TJx3cf43 0
theorem nmJx3cf43 : ∀ a, a < 0 → ∀ b, b < 0 → a ≠ b → (TJx3cf43 a).2.1 ≠ (TJx3cf43 b).2.1 := by decide +kernel
theorem tyJx3cf43_ok : ∀ k, k < 0 → parseFieldDescriptor (TJx3cf43 k).2.2.1 = some (tyJx3cf43 k) := by decide +kernel
def RJ7 : String := "java/util/Arrays"
def TJ7 : u_T := fun k => match k with
  | _ => ("", "", "", false)
def tyJ7 : Nat → FieldType := fun k => match k with
  | _ => .int
abbrev wsJ70 : List Cond := u_ws RJ7 TJ7 0
theorem nmJ7 : ∀ a, a < 0 → ∀ b, b < 0 → a ≠ b → (TJ7 a).2.1 ≠ (TJ7 b).2.1 := by decide +kernel
theorem tyJ7_ok : ∀ k, k < 0 → parseFieldDescriptor (TJ7 k).2.2.1 = some (tyJ7 k) := by decide +kernel
abbrev cJ7_fill_d0a16 : ByteArray := prog_17_method_101_code
def yJ7_fill_d0a16 : MethodName := ⟨RJ7, "fill", "([JJ)V"⟩
abbrev cJ7_fill_53178 : ByteArray := prog_17_method_103_code
def yJ7_fill_53178 : MethodName := ⟨RJ7, "fill", "([II)V"⟩
def RJ3 : String := "jdk/internal/util/Preconditions"
def TJ3 : u_T := fun k => match k with
  | _ => ("", "", "", false)
def tyJ3 : Nat → FieldType := fun k => match k with
  | _ => .int
abbrev wsJ30 : List Cond := u_ws RJ3 TJ3 0
theorem nmJ3 : ∀ a, a < 0 → ∀ b, b < 0 → a ≠ b → (TJ3 a).2.1 ≠ (TJ3 b).2.1 := by decide +kernel
theorem tyJ3_ok : ∀ k, k < 0 → parseFieldDescriptor (TJ3 k).2.2.1 = some (tyJ3 k) := by decide +kernel
abbrev cJ3_checkIndex_8e157 : ByteArray := prog_18_method_11_code
def yJ3_checkIndex_8e157 : MethodName := ⟨RJ3, "checkIndex", "(IILjava/util/function/BiFunction;)I"⟩
def RL : String := "TuesdayKnewLaw"
abbrev cL_law : ByteArray := code
def yL_law : MethodName := ⟨RL, "law", "([I)Z"⟩
def wsL_law_r1 : List Cond := [Cond.classLink RL 7 RX7, Cond.instantiable RX7 12, Cond.initialized RX7, Cond.classLink RL 10 RX8, Cond.instantiable RX8 58, Cond.initialized RX8, Cond.constantLong RL 143 (4294967295), Cond.methodLink RL 9 yX7_init, Cond.instanceMethod yX7_init, Cond.code yX7_init cX7_init 2 none, Cond.methodLink RX7 3 objectInit, Cond.instanceMethod objectInit, Cond.code objectInit ⟨#[0xb1]⟩ 1 none, Cond.arrayClass .int, Cond.fieldLink RX7 11 "TuesdayKnew" "letters" "[I", Cond.classLink RX7 15 RX5, Cond.instantiable RX5 3, Cond.initialized RX5, Cond.fieldLink RX7 18 "TuesdayKnew" "text" "LTuesdayKnew$Text;", Cond.classLink RX7 22 RX1, Cond.fieldLink RX7 24 "TuesdayKnew" "laws" "[LTuesdayKnew$Law;", Cond.classLink RX7 28 RX3, Cond.instantiable RX3 8, Cond.initialized RX3]
def wsL_law_r2 : List Cond := [Cond.fieldLink RX7 31 "TuesdayKnew" "spread" "LTuesdayKnew$Spread;", Cond.classLink RX7 35 RX2, Cond.instantiable RX2 4, Cond.initialized RX2, Cond.fieldLink RX7 38 "TuesdayKnew" "odds" "LTuesdayKnew$Odds;", Cond.classLink RX7 42 RX0, Cond.instantiable RX0 5, Cond.initialized RX0, Cond.fieldLink RX7 45 "TuesdayKnew" "actor" "LTuesdayKnew$Actor;", Cond.classLink RX7 49 RX4, Cond.fieldLink RX7 51 "TuesdayKnew" "tapes" "[LTuesdayKnew$Tape;", Cond.instantiable RX1 6, Cond.initialized RX1, Cond.instantiable RX4 3, Cond.initialized RX4, Cond.classLink RX7 57 RX6, Cond.instantiable RX6 11, Cond.initialized RX6, Cond.fieldLink RX7 62 "TuesdayKnew" "now" "LTuesdayKnew$World;", Cond.fieldLink RX7 66 "TuesdayKnew" "kept" "LTuesdayKnew$World;", Cond.instanceMethod yX5_init, Cond.code yX5_init cX5_init 1 none, Cond.methodLink RX5 3 objectInit, Cond.fieldLink RX5 9 "TuesdayKnew$Text" "bytes" "[I"]
def wsL_law_r3 : List Cond := [Cond.instanceMethod yX3_init, Cond.code yX3_init cX3_init 1 none, Cond.methodLink RX3 3 objectInit, Cond.fieldLink RX3 9 "TuesdayKnew$Spread" "goes" "[I", Cond.fieldLink RX3 15 "TuesdayKnew$Spread" "had" "[I", Cond.fieldLink RX3 18 "TuesdayKnew$Spread" "hours" "[I", Cond.fieldLink RX3 21 "TuesdayKnew$Spread" "later" "[I", Cond.fieldLink RX3 24 "TuesdayKnew$Spread" "left" "[I", Cond.fieldLink RX3 27 "TuesdayKnew$Spread" "row" "[I", Cond.instanceMethod yX2_init, Cond.code yX2_init cX2_init 1 none, Cond.methodLink RX2 3 objectInit, Cond.arrayClass .long, Cond.fieldLink RX2 9 "TuesdayKnew$Odds" "weights" "[J", Cond.instanceMethod yX0_init, Cond.code yX0_init cX0_init 1 none, Cond.methodLink RX0 3 objectInit, Cond.fieldLink RX0 11 "TuesdayKnew$Actor" "bodies" "[I", Cond.instanceMethod yX1_init, Cond.code yX1_init cX1_init 1 none, Cond.methodLink RX1 3 objectInit, Cond.fieldLink RX1 9 "TuesdayKnew$Law" "words" "[I", Cond.fieldLink RX1 15 "TuesdayKnew$Law" "numbers" "[I", Cond.fieldLink RX1 18 "TuesdayKnew$Law" "ends" "[I"]
def wsL_law_r4 : List Cond := [Cond.fieldLink RX1 21 "TuesdayKnew$Law" "signs" "[I", Cond.instanceMethod yX4_init, Cond.code yX4_init cX4_init 1 none, Cond.methodLink RX4 3 objectInit, Cond.fieldLink RX4 11 "TuesdayKnew$Tape" "sort" "I", Cond.fieldLink RX4 15 "TuesdayKnew$Tape" "items" "[J", Cond.methodLink RX7 59 yX6_init, Cond.instanceMethod yX6_init, Cond.code yX6_init cX6_init 2 none, Cond.methodLink RX6 3 objectInit, Cond.fieldLink RX6 9 "TuesdayKnew$World" "joined" "[I", Cond.fieldLink RX6 15 "TuesdayKnew$World" "had" "[I", Cond.fieldLink RX6 18 "TuesdayKnew$World" "kinds" "[I", Cond.fieldLink RX6 21 "TuesdayKnew$World" "buyers" "[I", Cond.fieldLink RX6 24 "TuesdayKnew$World" "fridays" "[I", Cond.fieldLink RX6 27 "TuesdayKnew$World" "hours" "[I", Cond.fieldLink RX6 30 "TuesdayKnew$World" "lots" "[I", Cond.fieldLink RX6 33 "TuesdayKnew$World" "blanks" "[I", Cond.fieldLink RX6 36 "TuesdayKnew$World" "held" "LTuesdayKnew$Law;", Cond.methodLink RX6 40 yJ7_fill_53178, Cond.static yJ7_fill_53178, Cond.initialized RJ7, Cond.code yJ7_fill_53178 cJ7_fill_53178 4 none, Cond.methodLink RL 12 yX8_init]
def wsL_law_r5 : List Cond := [Cond.instanceMethod yX8_init, Cond.code yX8_init cX8_init 1 none, Cond.methodLink RX8 1 objectInit, Cond.fieldLink RX8 7 "TuesdayKnewModel" "names" "I", Cond.fieldLink RX8 13 "TuesdayKnewModel" "letters" "[I", Cond.fieldLink RX8 17 "TuesdayKnewModel" "joined" "[I", Cond.fieldLink RX8 20 "TuesdayKnewModel" "had" "[I", Cond.fieldLink RX8 23 "TuesdayKnewModel" "laws" "I", Cond.fieldLink RX8 26 "TuesdayKnewModel" "the" "I", Cond.fieldLink RX8 29 "TuesdayKnewModel" "fed" "I", Cond.fieldLink RX8 32 "TuesdayKnewModel" "at" "I", Cond.fieldLink RX8 35 "TuesdayKnewModel" "digits" "I", Cond.fieldLink RX8 38 "TuesdayKnewModel" "text" "[I", Cond.fieldLink RX8 41 "TuesdayKnewModel" "clauses" "[I", Cond.fieldLink RX8 44 "TuesdayKnewModel" "word" "[I", Cond.fieldLink RX8 47 "TuesdayKnewModel" "number" "[I", Cond.fieldLink RX8 50 "TuesdayKnewModel" "from" "[I", Cond.fieldLink RX8 53 "TuesdayKnewModel" "to" "[I", Cond.fieldLink RX8 56 "TuesdayKnewModel" "sign" "[I", Cond.fieldLink RX8 59 "TuesdayKnewModel" "waits" "[I", Cond.fieldLink RX8 62 "TuesdayKnewModel" "signs" "I", Cond.fieldLink RX8 65 "TuesdayKnewModel" "waiting" "I", Cond.fieldLink RX8 68 "TuesdayKnewModel" "open" "I", Cond.fieldLink RX8 71 "TuesdayKnewModel" "fact" "[I"]
def wsL_law_r6 : List Cond := [Cond.arrayClass .boolean, Cond.fieldLink RX8 74 "TuesdayKnewModel" "pile" "[Z", Cond.fieldLink RX8 78 "TuesdayKnewModel" "hours" "[I", Cond.fieldLink RX8 81 "TuesdayKnewModel" "when" "[I", Cond.fieldLink RX8 84 "TuesdayKnewModel" "rest" "[I", Cond.fieldLink RX8 87 "TuesdayKnewModel" "steps" "I", Cond.fieldLink RX8 90 "TuesdayKnewModel" "row" "[I", Cond.fieldLink RX8 93 "TuesdayKnewModel" "trades" "I", Cond.fieldLink RX8 96 "TuesdayKnewModel" "kind" "[I", Cond.fieldLink RX8 99 "TuesdayKnewModel" "who" "[I", Cond.fieldLink RX8 102 "TuesdayKnewModel" "friday" "[I", Cond.fieldLink RX8 105 "TuesdayKnewModel" "hour" "[I", Cond.fieldLink RX8 108 "TuesdayKnewModel" "lots" "[I", Cond.fieldLink RX8 111 "TuesdayKnewModel" "ways" "[J", Cond.fieldLink RX8 115 "TuesdayKnewModel" "below" "J", Cond.fieldLink RX8 119 "TuesdayKnewModel" "blanks" "I", Cond.fieldLink RX8 122 "TuesdayKnewModel" "blank" "[I", Cond.fieldLink RX8 125 "TuesdayKnewModel" "goesOn" "[I", Cond.fieldLink RX8 128 "TuesdayKnewModel" "used" "[I", Cond.fieldLink RX8 131 "TuesdayKnewModel" "sure" "[I", Cond.fieldLink RX8 134 "TuesdayKnewModel" "hasImage" "Z", Cond.fieldLink RX8 138 "TuesdayKnewModel" "imageThe" "I", Cond.fieldLink RX8 141 "TuesdayKnewModel" "imageTrades" "I", Cond.fieldLink RX8 144 "TuesdayKnewModel" "imageBlanks" "I"]
def wsL_law_r7 : List Cond := [Cond.fieldLink RX8 147 "TuesdayKnewModel" "imageJoined" "[I", Cond.fieldLink RX8 150 "TuesdayKnewModel" "imageHad" "[I", Cond.fieldLink RX8 153 "TuesdayKnewModel" "imageKind" "[I", Cond.fieldLink RX8 156 "TuesdayKnewModel" "imageWho" "[I", Cond.fieldLink RX8 159 "TuesdayKnewModel" "imageFriday" "[I", Cond.fieldLink RX8 162 "TuesdayKnewModel" "imageHour" "[I", Cond.fieldLink RX8 165 "TuesdayKnewModel" "imageLots" "[I", Cond.fieldLink RX8 168 "TuesdayKnewModel" "imageBlank" "[I", Cond.fieldLink RX8 171 "TuesdayKnewModel" "ran" "I", Cond.fieldLink RX8 174 "TuesdayKnewModel" "bodies" "[I", Cond.fieldLink RX8 177 "TuesdayKnewModel" "sort" "[I", Cond.fieldLink RX8 180 "TuesdayKnewModel" "length" "[I", Cond.fieldLink RX8 183 "TuesdayKnewModel" "item" "[J", Cond.fieldLink RX8 186 "TuesdayKnewModel" "aside" "[J", Cond.methodLink RL 13 yX7_name, Cond.instanceMethod yX7_name, Cond.selects RX7 yX7_name yX7_name, Cond.code yX7_name cX7_name 2 (some .int), Cond.fieldLink RX7 73 "TuesdayKnew" "names" "I", Cond.methodLink RX7 69 yX7_isLetters, Cond.static yX7_isLetters, Cond.code yX7_isLetters cX7_isLetters 1 (some .boolean), Cond.methodLink RL 17 yX8_name, Cond.instanceMethod yX8_name]
def wsL_law_r8 : List Cond := [Cond.selects RX8 yX8_name yX8_name, Cond.code yX8_name cX8_name 2 (some .int), Cond.methodLink RX8 189 yX8_in, Cond.instanceMethod yX8_in, Cond.selects RX8 yX8_in yX8_in, Cond.code yX8_in cX8_in 4 (some .boolean), Cond.methodLink RL 18 yX7_join, Cond.instanceMethod yX7_join, Cond.selects RX7 yX7_join yX7_join, Cond.code yX7_join cX7_join 4 (some .int), Cond.methodLink RX7 77 yX7_isName, Cond.instanceMethod yX7_isName, Cond.selects RX7 yX7_isName yX7_isName, Cond.code yX7_isName cX7_isName 2 (some .boolean), Cond.methodLink RX7 80 yX6_joinBoth, Cond.instanceMethod yX6_joinBoth, Cond.selects RX6 yX6_joinBoth yX6_joinBoth, Cond.code yX6_joinBoth cX6_joinBoth 5 (some .int), Cond.methodLink RL 22 yX8_join, Cond.instanceMethod yX8_join, Cond.selects RX8 yX8_join yX8_join, Cond.code yX8_join cX8_join 5 (some .int), Cond.methodLink RX8 193 yX8_isName, Cond.instanceMethod yX8_isName]
def wsL_law_r9 : List Cond := [Cond.selects RX8 yX8_isName yX8_isName, Cond.code yX8_isName cX8_isName 2 (some .boolean), Cond.methodLink RL 23 yX7_news, Cond.instanceMethod yX7_news, Cond.selects RX7 yX7_news yX7_news, Cond.code yX7_news cX7_news 4 (some .int), Cond.fieldLink RX7 87 "TuesdayKnew$World" "had" "[I", Cond.methodLink RX7 84 yX7_isHour, Cond.static yX7_isHour, Cond.code yX7_isHour cX7_isHour 1 (some .boolean), Cond.methodLink RL 27 yX8_news, Cond.instanceMethod yX8_news, Cond.selects RX8 yX8_news yX8_news, Cond.code yX8_news cX8_news 4 (some .int), Cond.methodLink RL 28 yX7_feed, Cond.instanceMethod yX7_feed, Cond.selects RX7 yX7_feed yX7_feed, Cond.code yX7_feed cX7_feed 4 (some .int), Cond.fieldLink RX7 90 "TuesdayKnew$Text" "length" "I", Cond.methodLink RX7 93 yX5_append, Cond.instanceMethod yX5_append, Cond.selects RX5 yX5_append yX5_append, Cond.code yX5_append cX5_append 2 none, Cond.fieldLink RX5 15 "TuesdayKnew$Text" "length" "I"]
def wsL_law_r10 : List Cond := [Cond.methodLink RL 31 yX8_feed, Cond.instanceMethod yX8_feed, Cond.selects RX8 yX8_feed yX8_feed, Cond.code yX8_feed cX8_feed 4 (some .int), Cond.methodLink RL 32 yX7_law, Cond.instanceMethod yX7_law, Cond.selects RX7 yX7_law yX7_law, Cond.code yX7_law cX7_law 3 (some .int), Cond.fieldLink RX7 97 "TuesdayKnew" "lawCount" "I", Cond.fieldLink RX7 104 "TuesdayKnew$World" "held" "LTuesdayKnew$Law;", Cond.methodLink RX7 100 yX5_readInto, Cond.instanceMethod yX5_readInto, Cond.selects RX5 yX5_readInto yX5_readInto, Cond.code yX5_readInto cX5_readInto 3 (some .int), Cond.fieldLink RX5 24 "TuesdayKnew$Text" "at" "I", Cond.methodLink RX5 19 yX1_clear, Cond.instanceMethod yX1_clear, Cond.selects RX1 yX1_clear yX1_clear, Cond.code yX1_clear cX1_clear 1 none, Cond.fieldLink RX1 24 "TuesdayKnew$Law" "clauses" "I", Cond.fieldLink RX1 28 "TuesdayKnew$Law" "used" "I", Cond.methodLink RX5 27 yX5_readClause, Cond.instanceMethod yX5_readClause, Cond.selects RX5 yX5_readClause yX5_readClause]
def wsL_law_r11 : List Cond := [Cond.code yX5_readClause cX5_readClause 4 (some .boolean), Cond.methodLink RX5 35 yX5_readWord, Cond.instanceMethod yX5_readWord, Cond.selects RX5 yX5_readWord yX5_readWord, Cond.code yX5_readWord cX5_readWord 5 (some .int), Cond.methodLink RX5 73 Lib.Math.max.name, Cond.static Lib.Math.max.name, Cond.initialized "java/lang/Math", Cond.code Lib.Math.max.name Lib.Math.max.code 2 (some .int), Cond.methodLink RX5 61 yX5_spelling, Cond.static yX5_spelling, Cond.code yX5_spelling cX5_spelling 1 (some (.object "java/lang/String")), Cond.methodLink RX5 65 yJ0_length_8abf5, Cond.instanceMethod yJ0_length_8abf5, Cond.selects RJ0 yJ0_length_8abf5 yJ0_length_8abf5, Cond.initialized RJ0, Cond.code yJ0_length_8abf5 cJ0_length_8abf5 1 (some .int), Cond.fieldLink RJ0 9 "java/lang/String" "value" "[B", Cond.methodLink RJ0 335 yJ0_coder_7d493, Cond.instanceMethod yJ0_coder_7d493, Cond.selects RJ0 yJ0_coder_7d493 yJ0_coder_7d493, Cond.code yJ0_coder_7d493 cJ0_coder_7d493 1 (some .byte), Cond.fieldLink RJ0 38 "java/lang/String" "COMPACT_STRINGS" "Z", Cond.fieldLink RJ0 15 "java/lang/String" "coder" "B"]
def wsL_law_r12 : List Cond := [Cond.methodLink RX5 69 yJ0_charAt_5068e, Cond.instanceMethod yJ0_charAt_5068e, Cond.selects RJ0 yJ0_charAt_5068e yJ0_charAt_5068e, Cond.code yJ0_charAt_5068e cJ0_charAt_5068e 2 (some .char), Cond.methodLink RJ0 492 yJ0_isLatin1_aae02, Cond.instanceMethod yJ0_isLatin1_aae02, Cond.selects RJ0 yJ0_isLatin1_aae02 yJ0_isLatin1_aae02, Cond.code yJ0_isLatin1_aae02 cJ0_isLatin1_aae02 1 (some .boolean), Cond.methodLink RJ0 495 yJ1_charAt_3b067, Cond.static yJ1_charAt_3b067, Cond.initialized RJ1, Cond.code yJ1_charAt_3b067 cJ1_charAt_3b067 2 (some .char), Cond.methodLink RJ1 9 yJ0_checkIndex_df160, Cond.static yJ0_checkIndex_df160, Cond.code yJ0_checkIndex_df160 cJ0_checkIndex_df160 2 none, Cond.fieldLink RJ0 1053 "jdk/internal/util/Preconditions" "SIOOBE_FORMATTER" "Ljava/util/function/BiFunction;", Cond.methodLink RJ0 1059 yJ3_checkIndex_8e157, Cond.static yJ3_checkIndex_8e157, Cond.initialized RJ3, Cond.code yJ3_checkIndex_8e157 cJ3_checkIndex_8e157 3 (some .int), Cond.methodLink RJ0 498 yJ2_charAt_3b067, Cond.static yJ2_charAt_3b067, Cond.initialized RJ2, Cond.code yJ2_charAt_3b067 cJ2_charAt_3b067 2 (some .char)]
def wsL_law_r13 : List Cond := [Cond.methodLink RJ2 67 yJ2_checkIndex_2214a, Cond.static yJ2_checkIndex_2214a, Cond.code yJ2_checkIndex_2214a cJ2_checkIndex_2214a 2 none, Cond.methodLink RJ2 48 yJ2_length_9d52b, Cond.static yJ2_length_9d52b, Cond.code yJ2_length_9d52b cJ2_length_9d52b 1 (some .int), Cond.methodLink RJ2 414 yJ0_checkIndex_df160, Cond.methodLink RJ2 71 yJ2_getChar_3b067, Cond.static yJ2_getChar_3b067, Cond.code yJ2_getChar_3b067 cJ2_getChar_3b067 2 (some .char), Cond.fieldLink RJ2 44 "java/lang/StringUTF16" "$assertionsDisabled" "Z", Cond.fieldLink RJ2 59 "java/lang/StringUTF16" "HI_BYTE_SHIFT" "I", Cond.fieldLink RJ2 63 "java/lang/StringUTF16" "LO_BYTE_SHIFT" "I", Cond.methodLink RX5 31 yX5_eats, Cond.instanceMethod yX5_eats, Cond.selects RX5 yX5_eats yX5_eats, Cond.code yX5_eats cX5_eats 2 (some .boolean), Cond.methodLink RX5 39 yX5_readNumber, Cond.instanceMethod yX5_readNumber, Cond.selects RX5 yX5_readNumber yX5_readNumber, Cond.code yX5_readNumber cX5_readNumber 4 (some .int), Cond.methodLink RX5 43 yX5_readEither, Cond.instanceMethod yX5_readEither, Cond.selects RX5 yX5_readEither yX5_readEither]
def wsL_law_r14 : List Cond := [Cond.code yX5_readEither cX5_readEither 4 (some .boolean), Cond.methodLink RX5 79 yX5_readAll, Cond.instanceMethod yX5_readAll, Cond.selects RX5 yX5_readAll yX5_readAll, Cond.methodLink RX5 82 yX1_addSign, Cond.instanceMethod yX1_addSign, Cond.selects RX1 yX1_addSign yX1_addSign, Cond.code yX1_addSign cX1_addSign 2 none, Cond.code yX5_readAll cX5_readAll 4 (some .boolean), Cond.methodLink RX5 86 yX5_readOne, Cond.instanceMethod yX5_readOne, Cond.selects RX5 yX5_readOne yX5_readOne, Cond.code yX5_readOne cX5_readOne 4 (some .boolean), Cond.methodLink RX5 89 yX5_readTest, Cond.instanceMethod yX5_readTest, Cond.selects RX5 yX5_readTest yX5_readTest, Cond.code yX5_readTest cX5_readTest 5 (some .boolean), Cond.methodLink RX5 94 yX5_readSign, Cond.instanceMethod yX5_readSign, Cond.selects RX5 yX5_readSign yX5_readSign, Cond.code yX5_readSign cX5_readSign 3 (some .int), Cond.methodLink RX5 100 yX1_testSign, Cond.static yX1_testSign, Cond.code yX1_testSign cX1_testSign 3 (some .int)]
def wsL_law_r15 : List Cond := [Cond.methodLink RX5 47 yX1_endClause, Cond.instanceMethod yX1_endClause, Cond.selects RX1 yX1_endClause yX1_endClause, Cond.code yX1_endClause cX1_endClause 3 none, Cond.methodLink RL 36 yX8_law, Cond.instanceMethod yX8_law, Cond.selects RX8 yX8_law yX8_law, Cond.code yX8_law cX8_law 2 (some .int), Cond.methodLink RX8 248 yX8_goesText, Cond.instanceMethod yX8_goesText, Cond.selects RX8 yX8_goesText yX8_goesText, Cond.code yX8_goesText cX8_goesText 3 (some .boolean), Cond.methodLink RX8 245 yX8_takesClause, Cond.instanceMethod yX8_takesClause, Cond.selects RX8 yX8_takesClause yX8_takesClause, Cond.code yX8_takesClause cX8_takesClause 2 (some .boolean), Cond.methodLink RX8 239 yX8_takesHead, Cond.instanceMethod yX8_takesHead, Cond.selects RX8 yX8_takesHead yX8_takesHead, Cond.code yX8_takesHead cX8_takesHead 2 (some .boolean), Cond.constant RX8 228 (8423732), Cond.constant RX8 233 (16826546), Cond.constant RX8 234 (20583955), Cond.constant RX8 238 (24170600)]
def wsL_law_r16 : List Cond := [Cond.methodLink RX8 197 yX8_next, Cond.instanceMethod yX8_next, Cond.selects RX8 yX8_next yX8_next, Cond.code yX8_next cX8_next 1 (some .int), Cond.methodLink RX8 229 yX8_takesWord, Cond.instanceMethod yX8_takesWord, Cond.selects RX8 yX8_takesWord yX8_takesWord, Cond.code yX8_takesWord cX8_takesWord 4 (some .boolean), Cond.methodLink RX8 201 yX8_takes, Cond.instanceMethod yX8_takes, Cond.selects RX8 yX8_takes yX8_takes, Cond.code yX8_takes cX8_takes 2 (some .boolean), Cond.methodLink RX8 235 yX8_third, Cond.instanceMethod yX8_third, Cond.selects RX8 yX8_third yX8_third, Cond.code yX8_third cX8_third 1 (some .int), Cond.methodLink RX8 216 yX8_takesNumber, Cond.instanceMethod yX8_takesNumber, Cond.selects RX8 yX8_takesNumber yX8_takesNumber, Cond.code yX8_takesNumber cX8_takesNumber 3 (some .boolean), Cond.methodLink RX8 204 yX8_isDigit, Cond.instanceMethod yX8_isDigit, Cond.selects RX8 yX8_isDigit yX8_isDigit, Cond.code yX8_isDigit cX8_isDigit 1 (some .boolean)]
def wsL_law_r17 : List Cond := [Cond.methodLink RX8 242 yX8_takesE, Cond.instanceMethod yX8_takesE, Cond.selects RX8 yX8_takesE yX8_takesE, Cond.code yX8_takesE cX8_takesE 4 (some .boolean), Cond.methodLink RX8 222 yX8_takesTest, Cond.instanceMethod yX8_takesTest, Cond.selects RX8 yX8_takesTest yX8_takesTest, Cond.code yX8_takesTest cX8_takesTest 3 (some .boolean), Cond.methodLink RX8 212 yX8_place, Cond.instanceMethod yX8_place, Cond.selects RX8 yX8_place yX8_place, Cond.code yX8_place cX8_place 2 (some .int), Cond.methodLink RX8 208 yX8_put, Cond.instanceMethod yX8_put, Cond.selects RX8 yX8_put yX8_put, Cond.code yX8_put cX8_put 2 none, Cond.methodLink RX8 219 yX8_whole, Cond.instanceMethod yX8_whole, Cond.selects RX8 yX8_whole yX8_whole, Cond.code yX8_whole cX8_whole 1 none, Cond.methodLink RX8 225 yX8_settle, Cond.instanceMethod yX8_settle, Cond.selects RX8 yX8_settle yX8_settle, Cond.code yX8_settle cX8_settle 2 none]
def wsL_law_r18 : List Cond := [Cond.methodLink RL 37 yX7_goes, Cond.instanceMethod yX7_goes, Cond.selects RX7 yX7_goes yX7_goes, Cond.code yX7_goes cX7_goes 3 (some .int), Cond.methodLink RX7 108 yX6_hoursBetween, Cond.instanceMethod yX6_hoursBetween, Cond.selects RX6 yX6_hoursBetween yX6_hoursBetween, Cond.code yX6_hoursBetween cX6_hoursBetween 4 (some .int), Cond.methodLink RX6 59 yX1_hoursOf, Cond.instanceMethod yX1_hoursOf, Cond.selects RX1 yX1_hoursOf yX1_hoursOf, Cond.code yX1_hoursOf cX1_hoursOf 5 (some .int), Cond.methodLink RX1 31 yX1_holds, Cond.instanceMethod yX1_holds, Cond.selects RX1 yX1_holds yX1_holds, Cond.code yX1_holds cX1_holds 12 (some .boolean), Cond.methodLink RX1 44 yX1_valueOf, Cond.static yX1_valueOf, Cond.code yX1_valueOf cX1_valueOf 6 (some .int), Cond.methodLink RX1 48 yX1_passes, Cond.static yX1_passes, Cond.code yX1_passes cX1_passes 3 (some .boolean), Cond.methodLink RL 40 yX8_goes, Cond.instanceMethod yX8_goes]
def wsL_law_r19 : List Cond := [Cond.selects RX8 yX8_goes yX8_goes, Cond.code yX8_goes cX8_goes 3 (some .int), Cond.methodLink RX8 264 yX8_goesIn, Cond.instanceMethod yX8_goesIn, Cond.selects RX8 yX8_goesIn yX8_goesIn, Cond.code yX8_goesIn cX8_goesIn 5 (some .int), Cond.methodLink RX8 257 yX8_ask, Cond.instanceMethod yX8_ask, Cond.selects RX8 yX8_ask yX8_ask, Cond.code yX8_ask cX8_ask 6 none, Cond.methodLink RX8 251 yX8_first, Cond.instanceMethod yX8_first, Cond.selects RX8 yX8_first yX8_first, Cond.code yX8_first cX8_first 1 (some .int), Cond.methodLink RX8 254 yX8_behind, Cond.instanceMethod yX8_behind, Cond.selects RX8 yX8_behind yX8_behind, Cond.code yX8_behind cX8_behind 1 (some .int), Cond.methodLink RX8 261 yX8_holds, Cond.instanceMethod yX8_holds, Cond.selects RX8 yX8_holds yX8_holds, Cond.code yX8_holds cX8_holds 7 (some .boolean), Cond.methodLink RL 41 yX7_habit, Cond.instanceMethod yX7_habit]
def wsL_law_r20 : List Cond := [Cond.selects RX7 yX7_habit yX7_habit, Cond.code yX7_habit cX7_habit 3 (some .int), Cond.methodLink RX7 112 yX7_isFriday, Cond.static yX7_isFriday, Cond.code yX7_isFriday cX7_isFriday 1 (some .boolean), Cond.methodLink RX7 115 yX7_habitOf, Cond.instanceMethod yX7_habitOf, Cond.selects RX7 yX7_habitOf yX7_habitOf, Cond.code yX7_habitOf cX7_habitOf 3 (some .int), Cond.methodLink RX7 330 yX1_habitOf, Cond.instanceMethod yX1_habitOf, Cond.selects RX1 yX1_habitOf yX1_habitOf, Cond.code yX1_habitOf cX1_habitOf 6 (some .int), Cond.methodLink RX1 35 Lib.Math.min.name, Cond.static Lib.Math.min.name, Cond.code Lib.Math.min.name Lib.Math.min.code 2 (some .int), Cond.methodLink RL 44 yX8_habit, Cond.instanceMethod yX8_habit, Cond.selects RX8 yX8_habit yX8_habit, Cond.code yX8_habit cX8_habit 3 (some .int), Cond.methodLink RX8 268 yX8_habitOf, Cond.instanceMethod yX8_habitOf, Cond.selects RX8 yX8_habitOf yX8_habitOf, Cond.code yX8_habitOf cX8_habitOf 5 (some .int)]
def wsL_law_r21 : List Cond := [Cond.methodLink RL 45 yX7_knows, Cond.instanceMethod yX7_knows, Cond.selects RX7 yX7_knows yX7_knows, Cond.code yX7_knows cX7_knows 2 (some .int), Cond.methodLink RX7 118 yX7_spreadAll, Cond.instanceMethod yX7_spreadAll, Cond.selects RX7 yX7_spreadAll yX7_spreadAll, Cond.code yX7_spreadAll cX7_spreadAll 1 none, Cond.methodLink RX7 125 yX3_take, Cond.instanceMethod yX3_take, Cond.selects RX3 yX3_take yX3_take, Cond.code yX3_take cX3_take 6 none, Cond.fieldLink RX3 30 "TuesdayKnew$Spread" "names" "I", Cond.fieldLink RX3 34 "TuesdayKnew$World" "held" "LTuesdayKnew$Law;", Cond.fieldLink RX3 46 "TuesdayKnew$Spread" "steps" "I", Cond.fieldLink RX3 49 "TuesdayKnew$World" "had" "[I", Cond.constant RX3 50 (1000000), Cond.methodLink RX3 40 yX1_mostSteps, Cond.instanceMethod yX1_mostSteps, Cond.selects RX1 yX1_mostSteps yX1_mostSteps, Cond.code yX1_mostSteps cX1_mostSteps 1 (some .int), Cond.methodLink RX1 41 yX1_lastOf, Cond.instanceMethod yX1_lastOf, Cond.selects RX1 yX1_lastOf yX1_lastOf]
def wsL_law_r22 : List Cond := [Cond.code yX1_lastOf cX1_lastOf 5 (some .int), Cond.methodLink RX3 51 yX6_hoursBetween, Cond.methodLink RX7 143 yX3_run, Cond.instanceMethod yX3_run, Cond.selects RX3 yX3_run yX3_run, Cond.code yX3_run cX3_run 4 none, Cond.methodLink RX3 55 arraycopyName, Cond.native arraycopyName, Cond.static arraycopyName, Cond.initialized "java/lang/System", Cond.methodLink RX3 61 yX3_runStep, Cond.instanceMethod yX3_runStep, Cond.selects RX3 yX3_runStep yX3_runStep, Cond.code yX3_runStep cX3_runStep 6 (some .boolean), Cond.methodLink RX7 121 yX3_hourOf, Cond.instanceMethod yX3_hourOf, Cond.selects RX3 yX3_hourOf yX3_hourOf, Cond.code yX3_hourOf cX3_hourOf 2 (some .int), Cond.methodLink RL 48 yX8_knows, Cond.instanceMethod yX8_knows, Cond.selects RX8 yX8_knows yX8_knows, Cond.code yX8_knows cX8_knows 2 (some .int), Cond.constant RX8 274 (1000000), Cond.methodLink RX8 278 yX8_layHours]
def wsL_law_r23 : List Cond := [Cond.instanceMethod yX8_layHours, Cond.selects RX8 yX8_layHours yX8_layHours, Cond.code yX8_layHours cX8_layHours 3 none, Cond.methodLink RX8 271 yX8_last, Cond.instanceMethod yX8_last, Cond.selects RX8 yX8_last yX8_last, Cond.code yX8_last cX8_last 5 (some .int), Cond.methodLink RX8 281 yX8_spread, Cond.instanceMethod yX8_spread, Cond.selects RX8 yX8_spread yX8_spread, Cond.code yX8_spread cX8_spread 7 none, Cond.methodLink RX8 275 yX8_has, Cond.instanceMethod yX8_has, Cond.selects RX8 yX8_has yX8_has, Cond.code yX8_has cX8_has 3 (some .boolean), Cond.methodLink RX8 284 yX8_earliest, Cond.instanceMethod yX8_earliest, Cond.selects RX8 yX8_earliest yX8_earliest, Cond.code yX8_earliest cX8_earliest 4 (some .int), Cond.methodLink RL 49 yX7_way, Cond.instanceMethod yX7_way, Cond.selects RX7 yX7_way yX7_way, Cond.code yX7_way cX7_way 4 (some .int), Cond.fieldLink RX7 132 "TuesdayKnew$Spread" "row" "[I"]
def wsL_law_r24 : List Cond := [Cond.methodLink RX7 129 yX3_rowTo, Cond.instanceMethod yX3_rowTo, Cond.selects RX3 yX3_rowTo yX3_rowTo, Cond.code yX3_rowTo cX3_rowTo 5 (some .int), Cond.methodLink RX3 69 yX3_run, Cond.methodLink RX3 73 yX3_lookBack, Cond.instanceMethod yX3_lookBack, Cond.selects RX3 yX3_lookBack yX3_lookBack, Cond.code yX3_lookBack cX3_lookBack 7 none, Cond.methodLink RX3 86 Lib.Math.min.name, Cond.methodLink RX3 80 yJ7_fill_53178, Cond.methodLink RX3 76 yX3_walk, Cond.instanceMethod yX3_walk, Cond.selects RX3 yX3_walk yX3_walk, Cond.code yX3_walk cX3_walk 8 none, Cond.methodLink RL 52 yX8_way, Cond.instanceMethod yX8_way, Cond.selects RX8 yX8_way yX8_way, Cond.code yX8_way cX8_way 4 (some .int), Cond.methodLink RX8 287 yX8_findWay, Cond.instanceMethod yX8_findWay, Cond.selects RX8 yX8_findWay yX8_findWay, Cond.code yX8_findWay cX8_findWay 9 (some .int), Cond.methodLink RL 53 yX7_silent]
def wsL_law_r25 : List Cond := [Cond.instanceMethod yX7_silent, Cond.selects RX7 yX7_silent yX7_silent, Cond.code yX7_silent cX7_silent 5 (some .int), Cond.methodLink RX7 135 yX7_leastSilence, Cond.instanceMethod yX7_leastSilence, Cond.selects RX7 yX7_leastSilence yX7_leastSilence, Cond.code yX7_leastSilence cX7_leastSilence 6 (some .int), Cond.methodLink RX7 138 yJ6_bitCount_0f7a4, Cond.static yJ6_bitCount_0f7a4, Cond.initialized RJ6, Cond.code yJ6_bitCount_0f7a4 cJ6_bitCount_0f7a4 1 (some .int), Cond.constant RJ6 265 (1431655765), Cond.constant RJ6 266 (858993459), Cond.constant RJ6 267 (252645135), Cond.methodLink RX7 146 yX3_knownBy, Cond.instanceMethod yX3_knownBy, Cond.selects RX3 yX3_knownBy yX3_knownBy, Cond.code yX3_knownBy cX3_knownBy 3 (some .boolean), Cond.methodLink RL 56 yX8_silent, Cond.instanceMethod yX8_silent, Cond.selects RX8 yX8_silent yX8_silent, Cond.code yX8_silent cX8_silent 5 (some .int), Cond.methodLink RX8 290 yX8_isHour, Cond.instanceMethod yX8_isHour]
def wsL_law_r26 : List Cond := [Cond.selects RX8 yX8_isHour yX8_isHour, Cond.code yX8_isHour cX8_isHour 2 (some .boolean), Cond.methodLink RX8 293 yX8_ones, Cond.instanceMethod yX8_ones, Cond.selects RX8 yX8_ones yX8_ones, Cond.code yX8_ones cX8_ones 4 (some .int), Cond.methodLink RL 57 yX7_trade, Cond.instanceMethod yX7_trade, Cond.selects RX7 yX7_trade yX7_trade, Cond.code yX7_trade cX7_trade 6 (some .int), Cond.fieldLink RX7 153 "TuesdayKnew$World" "trades" "I", Cond.methodLink RX7 150 yX7_isKind, Cond.static yX7_isKind, Cond.code yX7_isKind cX7_isKind 1 (some .boolean), Cond.methodLink RX7 156 yX6_addTrade, Cond.instanceMethod yX6_addTrade, Cond.selects RX6 yX6_addTrade yX6_addTrade, Cond.code yX6_addTrade cX6_addTrade 6 (some .int), Cond.fieldLink RX6 52 "TuesdayKnew$World" "trades" "I", Cond.methodLink RL 61 yX8_trade, Cond.instanceMethod yX8_trade, Cond.selects RX8 yX8_trade yX8_trade, Cond.code yX8_trade cX8_trade 6 (some .int), Cond.methodLink RL 62 yX7_of]
def wsL_law_r27 : List Cond := [Cond.instanceMethod yX7_of, Cond.selects RX7 yX7_of yX7_of, Cond.code yX7_of cX7_of 3 (some .int), Cond.fieldLink RX7 163 "TuesdayKnew$World" "kinds" "[I", Cond.fieldLink RX7 166 "TuesdayKnew$World" "buyers" "[I", Cond.fieldLink RX7 169 "TuesdayKnew$World" "fridays" "[I", Cond.fieldLink RX7 172 "TuesdayKnew$World" "hours" "[I", Cond.fieldLink RX7 175 "TuesdayKnew$World" "lots" "[I", Cond.methodLink RX7 160 yX7_isTrade, Cond.instanceMethod yX7_isTrade, Cond.selects RX7 yX7_isTrade yX7_isTrade, Cond.code yX7_isTrade cX7_isTrade 2 (some .boolean), Cond.methodLink RX7 178 yX7_explaining, Cond.instanceMethod yX7_explaining, Cond.selects RX7 yX7_explaining yX7_explaining, Cond.code yX7_explaining cX7_explaining 5 (some .int), Cond.methodLink RX7 213 yX1_lastOf, Cond.methodLink RX7 216 yX6_hasFellow, Cond.instanceMethod yX6_hasFellow, Cond.selects RX6 yX6_hasFellow yX6_hasFellow, Cond.code yX6_hasFellow cX6_hasFellow 3 (some .boolean), Cond.methodLink RL 65 yX8_of, Cond.instanceMethod yX8_of, Cond.selects RX8 yX8_of yX8_of]
def wsL_law_r28 : List Cond := [Cond.code yX8_of cX8_of 3 (some .int), Cond.methodLink RX8 302 yX8_isTrade, Cond.instanceMethod yX8_isTrade, Cond.selects RX8 yX8_isTrade yX8_isTrade, Cond.code yX8_isTrade cX8_isTrade 2 (some .boolean), Cond.methodLink RX8 305 yX8_allOf, Cond.instanceMethod yX8_allOf, Cond.selects RX8 yX8_allOf yX8_allOf, Cond.code yX8_allOf cX8_allOf 4 (some .int), Cond.methodLink RX8 299 yX8_explains, Cond.instanceMethod yX8_explains, Cond.selects RX8 yX8_explains yX8_explains, Cond.code yX8_explains cX8_explains 4 (some .boolean), Cond.methodLink RX8 296 yX8_hasOther, Cond.instanceMethod yX8_hasOther, Cond.selects RX8 yX8_hasOther yX8_hasOther, Cond.code yX8_hasOther cX8_hasOther 3 (some .boolean), Cond.methodLink RL 66 yX7_sure, Cond.instanceMethod yX7_sure, Cond.selects RX7 yX7_sure yX7_sure, Cond.code yX7_sure cX7_sure 6 (some .int), Cond.methodLink RX7 181 yX7_knownAlone, Cond.static yX7_knownAlone, Cond.code yX7_knownAlone cX7_knownAlone 2 (some .boolean)]
def wsL_law_r29 : List Cond := [Cond.methodLink RL 69 yX8_sure, Cond.instanceMethod yX8_sure, Cond.selects RX8 yX8_sure yX8_sure, Cond.code yX8_sure cX8_sure 6 (some .int), Cond.methodLink RL 70 yX7_fridays, Cond.instanceMethod yX7_fridays, Cond.selects RX7 yX7_fridays yX7_fridays, Cond.code yX7_fridays cX7_fridays 2 (some .int), Cond.methodLink RX7 184 yX6_fridaysOf, Cond.instanceMethod yX6_fridaysOf, Cond.selects RX6 yX6_fridaysOf yX6_fridaysOf, Cond.code yX6_fridaysOf cX6_fridaysOf 4 (some .int), Cond.methodLink RL 73 yX8_fridays, Cond.instanceMethod yX8_fridays, Cond.selects RX8 yX8_fridays yX8_fridays, Cond.code yX8_fridays cX8_fridays 2 (some .int), Cond.methodLink RX8 308 yX8_fridaysOf, Cond.instanceMethod yX8_fridaysOf, Cond.selects RX8 yX8_fridaysOf yX8_fridaysOf, Cond.code yX8_fridaysOf cX8_fridaysOf 4 (some .int), Cond.methodLink RL 74 yX7_again, Cond.instanceMethod yX7_again, Cond.selects RX7 yX7_again yX7_again, Cond.code yX7_again cX7_again 5 (some .long)]
def wsL_law_r30 : List Cond := [Cond.constantLong RX7 187 (-9223372036854775808), Cond.fieldLink RX7 199 "TuesdayKnew$Odds" "above" "J", Cond.fieldLink RX7 203 "TuesdayKnew$Odds" "below" "J", Cond.methodLink RX7 189 yX7_weighAgain, Cond.instanceMethod yX7_weighAgain, Cond.selects RX7 yX7_weighAgain yX7_weighAgain, Cond.code yX7_weighAgain cX7_weighAgain 4 none, Cond.methodLink RX7 219 yX2_start, Cond.instanceMethod yX2_start, Cond.selects RX2 yX2_start yX2_start, Cond.code yX2_start cX2_start 1 none, Cond.fieldLink RX2 21 "TuesdayKnew$Odds" "days" "I", Cond.fieldLink RX2 25 "TuesdayKnew$Odds" "below" "J", Cond.methodLink RX2 15 yJ7_fill_d0a16, Cond.static yJ7_fill_d0a16, Cond.code yJ7_fill_d0a16 cJ7_fill_d0a16 5 none, Cond.methodLink RX7 222 yX2_addFriday, Cond.instanceMethod yX2_addFriday, Cond.selects RX2 yX2_addFriday yX2_addFriday, Cond.code yX2_addFriday cX2_addFriday 5 none, Cond.constantLong RX2 29 (100), Cond.methodLink RX7 225 yX2_atLeast, Cond.instanceMethod yX2_atLeast, Cond.selects RX2 yX2_atLeast yX2_atLeast]
def wsL_law_r31 : List Cond := [Cond.code yX2_atLeast cX2_atLeast 3 none, Cond.fieldLink RX2 31 "TuesdayKnew$Odds" "above" "J", Cond.methodLink RX2 34 Lib.Math.max.name, Cond.methodLink RX7 193 yX2_multiply, Cond.instanceMethod yX2_multiply, Cond.selects RX2 yX2_multiply yX2_multiply, Cond.code yX2_multiply cX2_multiply 2 none, Cond.methodLink RX2 40 Lib.MathLoose.min_long.x, Cond.static Lib.MathLoose.min_long.x, Cond.code Lib.MathLoose.min_long.x Lib.MathLoose.min_long.code 4 (some .long), Cond.methodLink RX7 196 yX2_reduce, Cond.instanceMethod yX2_reduce, Cond.selects RX2 yX2_reduce yX2_reduce, Cond.code yX2_reduce cX2_reduce 8 none, Cond.methodLink RL 78 yX8_again, Cond.instanceMethod yX8_again, Cond.selects RX8 yX8_again yX8_again, Cond.code yX8_again cX8_again 9 (some .long), Cond.constantLong RX8 313 (-9223372036854775808), Cond.methodLink RX8 315 yX8_againOf, Cond.instanceMethod yX8_againOf, Cond.selects RX8 yX8_againOf yX8_againOf, Cond.code yX8_againOf cX8_againOf 6 (some .long), Cond.constantLong RX8 311 (100)]
def wsL_law_r32 : List Cond := [Cond.methodLink RX8 319 yX8_divisor, Cond.instanceMethod yX8_divisor, Cond.selects RX8 yX8_divisor yX8_divisor, Cond.code yX8_divisor cX8_divisor 11 (some .long), Cond.methodLink RL 79 yX7_oddest, Cond.instanceMethod yX7_oddest, Cond.selects RX7 yX7_oddest yX7_oddest, Cond.code yX7_oddest cX7_oddest 6 (some .int), Cond.methodLink RL 82 yX8_oddest, Cond.instanceMethod yX8_oddest, Cond.selects RX8 yX8_oddest yX8_oddest, Cond.code yX8_oddest cX8_oddest 8 (some .int), Cond.methodLink RL 83 yX7_ring, Cond.instanceMethod yX7_ring, Cond.selects RX7 yX7_ring yX7_ring, Cond.code yX7_ring cX7_ring 2 (some .int), Cond.methodLink RX7 206 yX7_alikePairs, Cond.instanceMethod yX7_alikePairs, Cond.selects RX7 yX7_alikePairs yX7_alikePairs, Cond.code yX7_alikePairs cX7_alikePairs 3 (some .int), Cond.methodLink RX7 228 yX7_alikeWith, Cond.instanceMethod yX7_alikeWith, Cond.selects RX7 yX7_alikeWith yX7_alikeWith, Cond.code yX7_alikeWith cX7_alikeWith 5 (some .int)]
def wsL_law_r33 : List Cond := [Cond.methodLink RX7 210 yX7_greatestRing, Cond.instanceMethod yX7_greatestRing, Cond.selects RX7 yX7_greatestRing yX7_greatestRing, Cond.code yX7_greatestRing cX7_greatestRing 6 (some .int), Cond.methodLink RL 86 yX8_ring, Cond.instanceMethod yX8_ring, Cond.selects RX8 yX8_ring yX8_ring, Cond.code yX8_ring cX8_ring 7 (some .int), Cond.methodLink RL 87 yX7_parted, Cond.instanceMethod yX7_parted, Cond.selects RX7 yX7_parted yX7_parted, Cond.code yX7_parted cX7_parted 5 (some .int), Cond.methodLink RX7 231 yX7_isParted, Cond.static yX7_isParted, Cond.code yX7_isParted cX7_isParted 1 (some .boolean), Cond.methodLink RX7 234 yX7_knowers, Cond.instanceMethod yX7_knowers, Cond.selects RX7 yX7_knowers yX7_knowers, Cond.code yX7_knowers cX7_knowers 2 (some .int), Cond.methodLink RX7 242 yX3_knownByAll, Cond.instanceMethod yX3_knownByAll, Cond.selects RX3 yX3_knownByAll yX3_knownByAll, Cond.code yX3_knownByAll cX3_knownByAll 4 (some .int), Cond.methodLink RX3 65 yX3_knownBy]
def wsL_law_r34 : List Cond := [Cond.methodLink RL 90 yX8_parted, Cond.instanceMethod yX8_parted, Cond.selects RX8 yX8_parted yX8_parted, Cond.code yX8_parted cX8_parted 3 (some .int), Cond.methodLink RX8 323 yX8_knowers, Cond.instanceMethod yX8_knowers, Cond.selects RX8 yX8_knowers yX8_knowers, Cond.code yX8_knowers cX8_knowers 4 (some .int), Cond.methodLink RX8 326 yX8_fewest, Cond.instanceMethod yX8_fewest, Cond.selects RX8 yX8_fewest yX8_fewest, Cond.code yX8_fewest cX8_fewest 5 (some .int), Cond.methodLink RL 91 yX7_watch, Cond.instanceMethod yX7_watch, Cond.selects RX7 yX7_watch yX7_watch, Cond.code yX7_watch cX7_watch 6 (some .int), Cond.methodLink RX7 237 Lib.Math.min.name, Cond.methodLink RL 94 yX8_watch, Cond.instanceMethod yX8_watch, Cond.selects RX8 yX8_watch yX8_watch, Cond.code yX8_watch cX8_watch 7 (some .int), Cond.methodLink RL 95 yX7_ask, Cond.instanceMethod yX7_ask, Cond.selects RX7 yX7_ask yX7_ask]
def wsL_law_r35 : List Cond := [Cond.code yX7_ask cX7_ask 8 (some .int), Cond.methodLink RL 98 yX8_ask_, Cond.instanceMethod yX8_ask_, Cond.selects RX8 yX8_ask_ yX8_ask_, Cond.code yX8_ask_ cX8_ask_ 7 (some .int), Cond.methodLink RL 99 yX7_blank, Cond.instanceMethod yX7_blank, Cond.selects RX7 yX7_blank yX7_blank, Cond.code yX7_blank cX7_blank 2 (some .int), Cond.fieldLink RX7 245 "TuesdayKnew$World" "blankCount" "I", Cond.fieldLink RX7 248 "TuesdayKnew$World" "blanks" "[I", Cond.methodLink RL 102 yX8_blank, Cond.instanceMethod yX8_blank, Cond.selects RX8 yX8_blank yX8_blank, Cond.code yX8_blank cX8_blank 2 (some .int), Cond.methodLink RL 103 yX7_fills, Cond.instanceMethod yX7_fills, Cond.selects RX7 yX7_fills yX7_fills, Cond.code yX7_fills cX7_fills 2 (some .int), Cond.methodLink RX7 251 yX7_waysToFill, Cond.instanceMethod yX7_waysToFill, Cond.selects RX7 yX7_waysToFill yX7_waysToFill, Cond.code yX7_waysToFill cX7_waysToFill 5 (some .int), Cond.methodLink RX7 263 Lib.Math.max.name]
def wsL_law_r36 : List Cond := [Cond.methodLink RX7 257 yX7_namesOfLetters, Cond.instanceMethod yX7_namesOfLetters, Cond.selects RX7 yX7_namesOfLetters yX7_namesOfLetters, Cond.code yX7_namesOfLetters cX7_namesOfLetters 4 (some .int), Cond.methodLink RX7 254 yX7_isBlank, Cond.instanceMethod yX7_isBlank, Cond.selects RX7 yX7_isBlank yX7_isBlank, Cond.code yX7_isBlank cX7_isBlank 2 (some .boolean), Cond.methodLink RL 106 yX8_fills, Cond.instanceMethod yX8_fills, Cond.selects RX8 yX8_fills yX8_fills, Cond.code yX8_fills cX8_fills 4 (some .int), Cond.methodLink RX8 330 yX8_fillAll, Cond.instanceMethod yX8_fillAll, Cond.selects RX8 yX8_fillAll yX8_fillAll, Cond.code yX8_fillAll cX8_fillAll 4 (some .int), Cond.methodLink RL 107 yX7_filled, Cond.instanceMethod yX7_filled, Cond.selects RX7 yX7_filled yX7_filled, Cond.code yX7_filled cX7_filled 3 (some .int), Cond.methodLink RX7 260 yX7_leastOf, Cond.instanceMethod yX7_leastOf, Cond.selects RX7 yX7_leastOf yX7_leastOf, Cond.code yX7_leastOf cX7_leastOf 3 (some .int)]
def wsL_law_r37 : List Cond := [Cond.methodLink RL 110 yX8_filled, Cond.instanceMethod yX8_filled, Cond.selects RX8 yX8_filled yX8_filled, Cond.code yX8_filled cX8_filled 3 (some .int), Cond.methodLink RL 111 yX7_judge, Cond.instanceMethod yX7_judge, Cond.selects RX7 yX7_judge yX7_judge, Cond.code yX7_judge cX7_judge 5 (some .int), Cond.fieldLink RX7 270 "TuesdayKnew$Tape" "sort" "I", Cond.methodLink RX7 266 yX7_tapeAt, Cond.instanceMethod yX7_tapeAt, Cond.selects RX7 yX7_tapeAt yX7_tapeAt, Cond.code yX7_tapeAt cX7_tapeAt 2 (some (.object "TuesdayKnew$Tape")), Cond.methodLink RX7 273 yX4_hasPlace, Cond.instanceMethod yX4_hasPlace, Cond.selects RX4 yX4_hasPlace yX4_hasPlace, Cond.code yX4_hasPlace cX4_hasPlace 2 (some .boolean), Cond.fieldLink RX4 19 "TuesdayKnew$Tape" "length" "I", Cond.methodLink RX7 276 yX7_judgeRow, Cond.instanceMethod yX7_judgeRow, Cond.selects RX7 yX7_judgeRow yX7_judgeRow, Cond.code yX7_judgeRow cX7_judgeRow 11 (some .int), Cond.fieldLink RX7 329 "TuesdayKnew$Tape" "length" "I", Cond.fieldLink RX7 309 "TuesdayKnew$Tape" "items" "[J"]
def wsL_law_r38 : List Cond := [Cond.methodLink RX7 326 yX1_mostSteps, Cond.methodLink RL 114 yX8_judge, Cond.instanceMethod yX8_judge, Cond.selects RX8 yX8_judge yX8_judge, Cond.code yX8_judge cX8_judge 8 (some .int), Cond.methodLink RX8 333 yX8_isTape, Cond.instanceMethod yX8_isTape, Cond.selects RX8 yX8_isTape yX8_isTape, Cond.code yX8_isTape cX8_isTape 2 (some .boolean), Cond.methodLink RL 115 yX7_image, Cond.instanceMethod yX7_image, Cond.selects RX7 yX7_image yX7_image, Cond.code yX7_image cX7_image 1 (some .int), Cond.fieldLink RX7 284 "TuesdayKnew" "imageTaken" "Z", Cond.methodLink RX7 280 yX6_become, Cond.instanceMethod yX6_become, Cond.selects RX6 yX6_become yX6_become, Cond.code yX6_become cX6_become 2 none, Cond.methodLink RX6 46 arraycopyName, Cond.fieldLink RX6 56 "TuesdayKnew$World" "blankCount" "I", Cond.methodLink RL 118 yX8_image, Cond.instanceMethod yX8_image, Cond.selects RX8 yX8_image yX8_image, Cond.code yX8_image cX8_image 1 (some .int)]
def wsL_law_r39 : List Cond := [Cond.methodLink RX8 336 yX8_copy, Cond.instanceMethod yX8_copy, Cond.selects RX8 yX8_copy yX8_copy, Cond.code yX8_copy cX8_copy 4 none, Cond.methodLink RL 119 yX7_undo, Cond.instanceMethod yX7_undo, Cond.selects RX7 yX7_undo yX7_undo, Cond.code yX7_undo cX7_undo 1 (some .int), Cond.methodLink RL 122 yX8_undo, Cond.instanceMethod yX8_undo, Cond.selects RX8 yX8_undo yX8_undo, Cond.code yX8_undo cX8_undo 1 (some .int), Cond.methodLink RL 123 yX7_act, Cond.instanceMethod yX7_act, Cond.selects RX7 yX7_act yX7_act, Cond.code yX7_act cX7_act 4 (some .int), Cond.methodLink RX7 288 yX0_forget, Cond.instanceMethod yX0_forget, Cond.selects RX0 yX0_forget yX0_forget, Cond.code yX0_forget cX0_forget 1 none, Cond.fieldLink RX0 15 "TuesdayKnew$Actor" "began" "I", Cond.methodLink RX7 291 yX0_takeOn, Cond.instanceMethod yX0_takeOn, Cond.selects RX0 yX0_takeOn yX0_takeOn]
def wsL_law_r40 : List Cond := [Cond.code yX0_takeOn cX0_takeOn 4 none, Cond.fieldLink RX0 19 "TuesdayKnew$Actor" "number" "I", Cond.fieldLink RX0 22 "TuesdayKnew$Actor" "kind" "I", Cond.fieldLink RX0 25 "TuesdayKnew$Actor" "lots" "I", Cond.methodLink RX7 295 yX0_answer, Cond.instanceMethod yX0_answer, Cond.selects RX0 yX0_answer yX0_answer, Cond.code yX0_answer cX0_answer 3 (some .int), Cond.methodLink RX0 28 yX0_perform, Cond.instanceMethod yX0_perform, Cond.selects RX0 yX0_perform yX0_perform, Cond.code yX0_perform cX0_perform 9 (some .int), Cond.methodLink RX0 39 Lib.Math.max.name, Cond.fieldLink RX0 44 "TuesdayKnew$Actor" "BODIES" "[I", Cond.methodLink RX0 32 yX0_ownerOf, Cond.static yX0_ownerOf, Cond.code yX0_ownerOf cX0_ownerOf 4 (some .int), Cond.methodLink RX0 47 yX0_begin, Cond.instanceMethod yX0_begin, Cond.selects RX0 yX0_begin yX0_begin, Cond.code yX0_begin cX0_begin 2 none, Cond.methodLink RL 126 yX8_act, Cond.instanceMethod yX8_act, Cond.selects RX8 yX8_act yX8_act]
def wsL_law_r41 : List Cond := [Cond.code yX8_act cX8_act 4 (some .int), Cond.methodLink RX8 346 yX8_buys, Cond.instanceMethod yX8_buys, Cond.selects RX8 yX8_buys yX8_buys, Cond.code yX8_buys cX8_buys 3 (some .int), Cond.methodLink RX8 340 yX8_body, Cond.instanceMethod yX8_body, Cond.selects RX8 yX8_body yX8_body, Cond.code yX8_body cX8_body 2 none, Cond.methodLink RX8 343 yX8_plainBuys, Cond.instanceMethod yX8_plainBuys, Cond.selects RX8 yX8_plainBuys yX8_plainBuys, Cond.code yX8_plainBuys cX8_plainBuys 3 (some .int), Cond.methodLink RX8 355 yX8_knowsAct, Cond.instanceMethod yX8_knowsAct, Cond.selects RX8 yX8_knowsAct yX8_knowsAct, Cond.code yX8_knowsAct cX8_knowsAct 4 (some .int), Cond.methodLink RX8 352 yX8_usualKnows, Cond.instanceMethod yX8_usualKnows, Cond.selects RX8 yX8_usualKnows yX8_usualKnows, Cond.code yX8_usualKnows cX8_usualKnows 3 (some .int), Cond.methodLink RX8 349 yX8_plainKnows, Cond.instanceMethod yX8_plainKnows, Cond.selects RX8 yX8_plainKnows yX8_plainKnows]
def wsL_law_r42 : List Cond := [Cond.code yX8_plainKnows cX8_plainKnows 3 (some .int), Cond.methodLink RX8 364 yX8_tells, Cond.instanceMethod yX8_tells, Cond.selects RX8 yX8_tells yX8_tells, Cond.code yX8_tells cX8_tells 3 (some .int), Cond.methodLink RX8 361 yX8_knownTells, Cond.instanceMethod yX8_knownTells, Cond.selects RX8 yX8_knownTells yX8_knownTells, Cond.code yX8_knownTells cX8_knownTells 4 (some .int), Cond.methodLink RX8 358 yX8_plainTells, Cond.instanceMethod yX8_plainTells, Cond.selects RX8 yX8_plainTells yX8_plainTells, Cond.code yX8_plainTells cX8_plainTells 3 (some .int), Cond.methodLink RL 127 yX7_trace, Cond.instanceMethod yX7_trace, Cond.selects RX7 yX7_trace yX7_trace, Cond.code yX7_trace cX7_trace 2 (some .int), Cond.fieldLink RX7 298 "TuesdayKnew$Actor" "began" "I", Cond.fieldLink RX7 301 "TuesdayKnew$Actor" "bodies" "[I", Cond.methodLink RL 130 yX8_trace, Cond.instanceMethod yX8_trace, Cond.selects RX8 yX8_trace yX8_trace, Cond.code yX8_trace cX8_trace 2 (some .int), Cond.methodLink RL 131 yX7_taken]
def wsL_law_r43 : List Cond := [Cond.instanceMethod yX7_taken, Cond.selects RX7 yX7_taken yX7_taken, Cond.code yX7_taken cX7_taken 6 (some .int), Cond.fieldLink RX7 304 "TuesdayKnew" "ABOVE" "[I", Cond.methodLink RL 134 yX8_taken, Cond.instanceMethod yX8_taken, Cond.selects RX8 yX8_taken yX8_taken, Cond.code yX8_taken cX8_taken 4 (some .int), Cond.methodLink RL 135 yX7_count, Cond.instanceMethod yX7_count, Cond.selects RX7 yX7_count yX7_count, Cond.code yX7_count cX7_count 2 (some .int), Cond.methodLink RL 138 yX8_count, Cond.instanceMethod yX8_count, Cond.selects RX8 yX8_count yX8_count, Cond.code yX8_count cX8_count 2 (some .int), Cond.methodLink RL 139 yX7_tape, Cond.instanceMethod yX7_tape, Cond.selects RX7 yX7_tape yX7_tape, Cond.code yX7_tape cX7_tape 5 (some .int), Cond.methodLink RX7 307 yX4_become, Cond.instanceMethod yX4_become, Cond.selects RX4 yX4_become yX4_become, Cond.code yX4_become cX4_become 3 none]
def wsL_law_r44 : List Cond := [Cond.methodLink RX4 22 yJ7_fill_d0a16, Cond.methodLink RL 142 yX8_tape, Cond.instanceMethod yX8_tape, Cond.selects RX8 yX8_tape yX8_tape, Cond.code yX8_tape cX8_tape 5 (some .int), Cond.methodLink RL 145 yX7_item, Cond.instanceMethod yX7_item, Cond.selects RX7 yX7_item yX7_item, Cond.code yX7_item cX7_item 6 (some .int), Cond.methodLink RX7 313 yX4_cut, Cond.static yX4_cut, Cond.code yX4_cut cX4_cut 3 (some .long), Cond.methodLink RL 149 yX8_item, Cond.instanceMethod yX8_item, Cond.selects RX8 yX8_item yX8_item, Cond.code yX8_item cX8_item 5 (some .int), Cond.methodLink RX8 367 yX8_narrow, Cond.instanceMethod yX8_narrow, Cond.selects RX8 yX8_narrow yX8_narrow, Cond.code yX8_narrow cX8_narrow 4 (some .long), Cond.methodLink RL 150 yX7_read, Cond.instanceMethod yX7_read, Cond.selects RX7 yX7_read yX7_read, Cond.code yX7_read cX7_read 4 (some .long)]
def wsL_law_r45 : List Cond := [Cond.methodLink RL 154 yX8_read, Cond.instanceMethod yX8_read, Cond.selects RX8 yX8_read yX8_read, Cond.code yX8_read cX8_read 3 (some .long), Cond.methodLink RL 155 yX7_shift, Cond.instanceMethod yX7_shift, Cond.selects RX7 yX7_shift yX7_shift, Cond.code yX7_shift cX7_shift 8 (some .int), Cond.methodLink RX7 320 arraycopyName, Cond.methodLink RX7 317 yX4_hasRun, Cond.instanceMethod yX4_hasRun, Cond.selects RX4 yX4_hasRun yX4_hasRun, Cond.code yX4_hasRun cX4_hasRun 3 (some .boolean), Cond.methodLink RL 158 yX8_shift, Cond.instanceMethod yX8_shift, Cond.selects RX8 yX8_shift yX8_shift, Cond.code yX8_shift cX8_shift 7 (some .int)]
def wsL_law : List Cond := (wsL_law_r1 ++ (wsL_law_r2 ++ (wsL_law_r3 ++ (wsL_law_r4 ++ (wsL_law_r5 ++ (wsL_law_r6 ++ (wsL_law_r7 ++ (wsL_law_r8 ++ (wsL_law_r9 ++ (wsL_law_r10 ++ (wsL_law_r11 ++ (wsL_law_r12 ++ (wsL_law_r13 ++ (wsL_law_r14 ++ (wsL_law_r15 ++ (wsL_law_r16 ++ (wsL_law_r17 ++ (wsL_law_r18 ++ (wsL_law_r19 ++ (wsL_law_r20 ++ (wsL_law_r21 ++ (wsL_law_r22 ++ (wsL_law_r23 ++ (wsL_law_r24 ++ (wsL_law_r25 ++ (wsL_law_r26 ++ (wsL_law_r27 ++ (wsL_law_r28 ++ (wsL_law_r29 ++ (wsL_law_r30 ++ (wsL_law_r31 ++ (wsL_law_r32 ++ (wsL_law_r33 ++ (wsL_law_r34 ++ (wsL_law_r35 ++ (wsL_law_r36 ++ (wsL_law_r37 ++ (wsL_law_r38 ++ (wsL_law_r39 ++ (wsL_law_r40 ++ (wsL_law_r41 ++ (wsL_law_r42 ++ (wsL_law_r43 ++ (wsL_law_r44 ++ wsL_law_r45)))))))))))))))))))))))))))))))))))))))))))) ++ wsX70 ++ wsX80 ++ wsX50 ++ wsX30 ++ wsX20 ++ wsX00 ++ wsX10 ++ wsX40 ++ wsX60 ++ ([] : List Cond)
theorem inlX0 : ∀ w ∈ wsX00, w ∈ wsL_law := fun _ h => List.mem_append_left _ (List.mem_append_left _ (List.mem_append_left _ (List.mem_append_left _ (List.mem_append_right _ h))))
theorem inlX1 : ∀ w ∈ wsX10, w ∈ wsL_law := fun _ h => List.mem_append_left _ (List.mem_append_left _ (List.mem_append_left _ (List.mem_append_right _ h)))
theorem inlX2 : ∀ w ∈ wsX20, w ∈ wsL_law := fun _ h => List.mem_append_left _ (List.mem_append_left _ (List.mem_append_left _ (List.mem_append_left _ (List.mem_append_left _ (List.mem_append_right _ h)))))
theorem inlX3 : ∀ w ∈ wsX30, w ∈ wsL_law := fun _ h => List.mem_append_left _ (List.mem_append_left _ (List.mem_append_left _ (List.mem_append_left _ (List.mem_append_left _ (List.mem_append_left _ (List.mem_append_right _ h))))))
theorem inlX4 : ∀ w ∈ wsX40, w ∈ wsL_law := fun _ h => List.mem_append_left _ (List.mem_append_left _ (List.mem_append_right _ h))
theorem inlX5 : ∀ w ∈ wsX50, w ∈ wsL_law := fun _ h => List.mem_append_left _ (List.mem_append_left _ (List.mem_append_left _ (List.mem_append_left _ (List.mem_append_left _ (List.mem_append_left _ (List.mem_append_left _ (List.mem_append_right _ h)))))))
theorem inlX6 : ∀ w ∈ wsX60, w ∈ wsL_law := fun _ h => List.mem_append_left _ (List.mem_append_right _ h)
theorem inlX7 : ∀ w ∈ wsX70, w ∈ wsL_law := fun _ h => List.mem_append_left _ (List.mem_append_left _ (List.mem_append_left _ (List.mem_append_left _ (List.mem_append_left _ (List.mem_append_left _ (List.mem_append_left _ (List.mem_append_left _ (List.mem_append_left _ (List.mem_append_right _ h)))))))))
theorem inlX8 : ∀ w ∈ wsX80, w ∈ wsL_law := fun _ h => List.mem_append_left _ (List.mem_append_left _ (List.mem_append_left _ (List.mem_append_left _ (List.mem_append_left _ (List.mem_append_left _ (List.mem_append_left _ (List.mem_append_left _ (List.mem_append_right _ h))))))))
abbrev vwCl : List vw_C := [(RX0, TX0, 5), (RX1, TX1, 6), (RX2, TX2, 4), (RX3, TX3, 8), (RX4, TX4, 3), (RX5, TX5, 3), (RX6, TX6, 11), (RX7, TX7, 12), (RX8, TX8, 58)]
end
section
theorem dX0_init_0 : decode cX0_init 0 = .ok (.aload_n 0, 1) := by decide +kernel
theorem dX0_init_1 : decode cX0_init 1 = .ok (.invokespecial 3, 3) := by decide +kernel
theorem dX0_init_4 : decode cX0_init 4 = .ok (.aload_n 0, 1) := by decide +kernel
theorem dX0_init_5 : decode cX0_init 5 = .ok (.bipush 20, 2) := by decide +kernel
theorem dX0_init_7 : decode cX0_init 7 = .ok (.newarray .int, 2) := by decide +kernel
theorem dX0_init_9 : decode cX0_init 9 = .ok (.putfield 11, 3) := by decide +kernel
theorem dX0_init_12 : decode cX0_init 12 = .ok (.return_, 1) := by decide +kernel
theorem dX0_forget_0 : decode cX0_forget 0 = .ok (.aload_n 0, 1) := by decide +kernel
theorem dX0_forget_1 : decode cX0_forget 1 = .ok (.iconst 0, 1) := by decide +kernel
theorem dX0_forget_2 : decode cX0_forget 2 = .ok (.putfield 15, 3) := by decide +kernel
theorem dX0_forget_5 : decode cX0_forget 5 = .ok (.return_, 1) := by decide +kernel
theorem dX0_takeOn_0 : decode cX0_takeOn 0 = .ok (.aload_n 0, 1) := by decide +kernel
theorem dX0_takeOn_1 : decode cX0_takeOn 1 = .ok (.iload_n 1, 1) := by decide +kernel
theorem dX0_takeOn_2 : decode cX0_takeOn 2 = .ok (.putfield 19, 3) := by decide +kernel
theorem dX0_takeOn_5 : decode cX0_takeOn 5 = .ok (.aload_n 0, 1) := by decide +kernel
theorem dX0_takeOn_6 : decode cX0_takeOn 6 = .ok (.iload_n 2, 1) := by decide +kernel
theorem dX0_takeOn_7 : decode cX0_takeOn 7 = .ok (.putfield 22, 3) := by decide +kernel
theorem dX0_takeOn_10 : decode cX0_takeOn 10 = .ok (.aload_n 0, 1) := by decide +kernel
theorem dX0_takeOn_11 : decode cX0_takeOn 11 = .ok (.iload_n 3, 1) := by decide +kernel
theorem dX0_takeOn_12 : decode cX0_takeOn 12 = .ok (.putfield 25, 3) := by decide +kernel
theorem dX0_takeOn_15 : decode cX0_takeOn 15 = .ok (.return_, 1) := by decide +kernel
theorem dX0_answer_0 : decode cX0_answer 0 = .ok (.aload_n 0, 1) := by decide +kernel
theorem dX0_answer_1 : decode cX0_answer 1 = .ok (.aload_n 0, 1) := by decide +kernel
theorem dX0_answer_2 : decode cX0_answer 2 = .ok (.getfield 22, 3) := by decide +kernel
theorem dX0_answer_5 : decode cX0_answer 5 = .ok (.iload_n 1, 1) := by decide +kernel
theorem dX0_answer_6 : decode cX0_answer 6 = .ok (.iload_n 2, 1) := by decide +kernel
theorem dX0_answer_7 : decode cX0_answer 7 = .ok (.iconst 0, 1) := by decide +kernel
theorem dX0_answer_8 : decode cX0_answer 8 = .ok (.invokevirtual 28, 3) := by decide +kernel
theorem dX0_answer_11 : decode cX0_answer 11 = .ok (.ireturn, 1) := by decide +kernel
theorem dX0_perform_0 : decode cX0_perform 0 = .ok (.iload 4, 2) := by decide +kernel
theorem dX0_perform_2 : decode cX0_perform 2 = .ok (.bipush 40, 2) := by decide +kernel
theorem dX0_perform_4 : decode cX0_perform 4 = .ok (.if_icmp .le 5, 3) := by decide +kernel
theorem dX0_perform_7 : decode cX0_perform 7 = .ok (.iconst 0, 1) := by decide +kernel
theorem dX0_perform_8 : decode cX0_perform 8 = .ok (.ireturn, 1) := by decide +kernel
theorem dX0_perform_9 : decode cX0_perform 9 = .ok (.iload_n 1, 1) := by decide +kernel
theorem dX0_perform_10 : decode cX0_perform 10 = .ok (.iload_n 2, 1) := by decide +kernel
theorem dX0_perform_11 : decode cX0_perform 11 = .ok (.invokestatic 32, 3) := by decide +kernel
theorem dX0_perform_14 : decode cX0_perform 14 = .ok (.istore 5, 2) := by decide +kernel
theorem dX0_perform_16 : decode cX0_perform 16 = .ok (.getstatic 36, 3) := by decide +kernel
theorem dX0_perform_19 : decode cX0_perform 19 = .ok (.iload 5, 2) := by decide +kernel
theorem dX0_perform_21 : decode cX0_perform 21 = .ok (.iaload, 1) := by decide +kernel
theorem dX0_perform_22 : decode cX0_perform 22 = .ok (.iconst 0, 1) := by decide +kernel
theorem dX0_perform_23 : decode cX0_perform 23 = .ok (.invokestatic 39, 3) := by decide +kernel
theorem dX0_perform_26 : decode cX0_perform 26 = .ok (.istore 6, 2) := by decide +kernel
theorem dX0_perform_28 : decode cX0_perform 28 = .ok (.getstatic 44, 3) := by decide +kernel
theorem dX0_perform_31 : decode cX0_perform 31 = .ok (.iload 5, 2) := by decide +kernel
theorem dX0_perform_33 : decode cX0_perform 33 = .ok (.iconst 3, 1) := by decide +kernel
theorem dX0_perform_34 : decode cX0_perform 34 = .ok (.imul, 1) := by decide +kernel
theorem dX0_perform_35 : decode cX0_perform 35 = .ok (.iload_n 2, 1) := by decide +kernel
theorem dX0_perform_36 : decode cX0_perform 36 = .ok (.iadd, 1) := by decide +kernel
theorem dX0_perform_37 : decode cX0_perform 37 = .ok (.iaload, 1) := by decide +kernel
theorem dX0_perform_38 : decode cX0_perform 38 = .ok (.istore 7, 2) := by decide +kernel
theorem dX0_perform_40 : decode cX0_perform 40 = .ok (.iload 4, 2) := by decide +kernel
theorem dX0_perform_42 : decode cX0_perform 42 = .ok (.iconst 1, 1) := by decide +kernel
theorem dX0_perform_43 : decode cX0_perform 43 = .ok (.iadd, 1) := by decide +kernel
theorem dX0_perform_44 : decode cX0_perform 44 = .ok (.istore 8, 2) := by decide +kernel
theorem dX0_perform_46 : decode cX0_perform 46 = .ok (.aload_n 0, 1) := by decide +kernel
theorem dX0_perform_47 : decode cX0_perform 47 = .ok (.iload 7, 2) := by decide +kernel
theorem dX0_perform_49 : decode cX0_perform 49 = .ok (.invokevirtual 47, 3) := by decide +kernel
theorem dX0_perform_52 : decode cX0_perform 52 = .ok (.iload 7, 2) := by decide +kernel
theorem dX0_perform_54 : decode cX0_perform 54 = .ok (.lookupswitch 268 #[(10, 98), (11, 105), (12, 123), (20, 138), (30, 152), (40, 165), (50, 189), (51, 201), (60, 214), (70, 230), (71, 252)], 98) := by decide +kernel
theorem dX0_perform_152 : decode cX0_perform 152 = .ok (.iload_n 3, 1) := by decide +kernel
theorem dX0_perform_153 : decode cX0_perform 153 = .ok (.aload_n 0, 1) := by decide +kernel
theorem dX0_perform_154 : decode cX0_perform 154 = .ok (.getfield 19, 3) := by decide +kernel
theorem dX0_perform_157 : decode cX0_perform 157 = .ok (.iadd, 1) := by decide +kernel
theorem dX0_perform_158 : decode cX0_perform 158 = .ok (.ireturn, 1) := by decide +kernel
theorem dX0_perform_159 : decode cX0_perform 159 = .ok (.aload_n 0, 1) := by decide +kernel
theorem dX0_perform_160 : decode cX0_perform 160 = .ok (.aload_n 0, 1) := by decide +kernel
theorem dX0_perform_161 : decode cX0_perform 161 = .ok (.getfield 22, 3) := by decide +kernel
theorem dX0_perform_164 : decode cX0_perform 164 = .ok (.iconst 0, 1) := by decide +kernel
theorem dX0_perform_165 : decode cX0_perform 165 = .ok (.iload_n 3, 1) := by decide +kernel
theorem dX0_perform_166 : decode cX0_perform 166 = .ok (.iload 8, 2) := by decide +kernel
theorem dX0_perform_168 : decode cX0_perform 168 = .ok (.invokevirtual 28, 3) := by decide +kernel
theorem dX0_perform_171 : decode cX0_perform 171 = .ok (.aload_n 0, 1) := by decide +kernel
theorem dX0_perform_172 : decode cX0_perform 172 = .ok (.getfield 25, 3) := by decide +kernel
theorem dX0_perform_175 : decode cX0_perform 175 = .ok (.isub, 1) := by decide +kernel
theorem dX0_perform_176 : decode cX0_perform 176 = .ok (.ireturn, 1) := by decide +kernel
theorem dX0_perform_177 : decode cX0_perform 177 = .ok (.aload_n 0, 1) := by decide +kernel
theorem dX0_perform_178 : decode cX0_perform 178 = .ok (.aload_n 0, 1) := by decide +kernel
theorem dX0_perform_179 : decode cX0_perform 179 = .ok (.getfield 22, 3) := by decide +kernel
theorem dX0_perform_182 : decode cX0_perform 182 = .ok (.iconst 1, 1) := by decide +kernel
theorem dX0_perform_183 : decode cX0_perform 183 = .ok (.iload_n 3, 1) := by decide +kernel
theorem dX0_perform_184 : decode cX0_perform 184 = .ok (.iload 8, 2) := by decide +kernel
theorem dX0_perform_186 : decode cX0_perform 186 = .ok (.invokevirtual 28, 3) := by decide +kernel
theorem dX0_perform_189 : decode cX0_perform 189 = .ok (.iconst 2, 1) := by decide +kernel
theorem dX0_perform_190 : decode cX0_perform 190 = .ok (.imul, 1) := by decide +kernel
theorem dX0_perform_191 : decode cX0_perform 191 = .ok (.ireturn, 1) := by decide +kernel
theorem dX0_perform_192 : decode cX0_perform 192 = .ok (.aload_n 0, 1) := by decide +kernel
theorem dX0_perform_193 : decode cX0_perform 193 = .ok (.iload 6, 2) := by decide +kernel
theorem dX0_perform_195 : decode cX0_perform 195 = .ok (.iconst 1, 1) := by decide +kernel
theorem dX0_perform_196 : decode cX0_perform 196 = .ok (.iload_n 3, 1) := by decide +kernel
theorem dX0_perform_197 : decode cX0_perform 197 = .ok (.iload 8, 2) := by decide +kernel
theorem dX0_perform_199 : decode cX0_perform 199 = .ok (.invokevirtual 28, 3) := by decide +kernel
theorem dX0_perform_202 : decode cX0_perform 202 = .ok (.bipush 6, 2) := by decide +kernel
theorem dX0_perform_204 : decode cX0_perform 204 = .ok (.ixor, 1) := by decide +kernel
theorem dX0_perform_205 : decode cX0_perform 205 = .ok (.ireturn, 1) := by decide +kernel
theorem dX0_perform_206 : decode cX0_perform 206 = .ok (.aload_n 0, 1) := by decide +kernel
theorem dX0_perform_207 : decode cX0_perform 207 = .ok (.iload 6, 2) := by decide +kernel
theorem dX0_perform_209 : decode cX0_perform 209 = .ok (.iconst 0, 1) := by decide +kernel
theorem dX0_perform_210 : decode cX0_perform 210 = .ok (.iload_n 3, 1) := by decide +kernel
theorem dX0_perform_211 : decode cX0_perform 211 = .ok (.iconst 3, 1) := by decide +kernel
theorem dX0_perform_212 : decode cX0_perform 212 = .ok (.imul, 1) := by decide +kernel
theorem dX0_perform_213 : decode cX0_perform 213 = .ok (.iload 8, 2) := by decide +kernel
theorem dX0_perform_215 : decode cX0_perform 215 = .ok (.invokevirtual 28, 3) := by decide +kernel
theorem dX0_perform_218 : decode cX0_perform 218 = .ok (.ireturn, 1) := by decide +kernel
theorem dX0_perform_219 : decode cX0_perform 219 = .ok (.aload_n 0, 1) := by decide +kernel
theorem dX0_perform_220 : decode cX0_perform 220 = .ok (.iload 6, 2) := by decide +kernel
theorem dX0_perform_222 : decode cX0_perform 222 = .ok (.iconst 2, 1) := by decide +kernel
theorem dX0_perform_223 : decode cX0_perform 223 = .ok (.iload_n 3, 1) := by decide +kernel
theorem dX0_perform_224 : decode cX0_perform 224 = .ok (.iload 8, 2) := by decide +kernel
theorem dX0_perform_226 : decode cX0_perform 226 = .ok (.invokevirtual 28, 3) := by decide +kernel
theorem dX0_perform_229 : decode cX0_perform 229 = .ok (.aload_n 0, 1) := by decide +kernel
theorem dX0_perform_230 : decode cX0_perform 230 = .ok (.aload_n 0, 1) := by decide +kernel
theorem dX0_perform_231 : decode cX0_perform 231 = .ok (.getfield 22, 3) := by decide +kernel
theorem dX0_perform_234 : decode cX0_perform 234 = .ok (.iconst 1, 1) := by decide +kernel
theorem dX0_perform_235 : decode cX0_perform 235 = .ok (.iconst 1, 1) := by decide +kernel
theorem dX0_perform_236 : decode cX0_perform 236 = .ok (.iload 8, 2) := by decide +kernel
theorem dX0_perform_238 : decode cX0_perform 238 = .ok (.invokevirtual 28, 3) := by decide +kernel
theorem dX0_perform_241 : decode cX0_perform 241 = .ok (.iadd, 1) := by decide +kernel
theorem dX0_perform_242 : decode cX0_perform 242 = .ok (.ireturn, 1) := by decide +kernel
theorem dX0_perform_243 : decode cX0_perform 243 = .ok (.aload_n 0, 1) := by decide +kernel
theorem dX0_perform_244 : decode cX0_perform 244 = .ok (.iload 6, 2) := by decide +kernel
theorem dX0_perform_246 : decode cX0_perform 246 = .ok (.iconst 0, 1) := by decide +kernel
theorem dX0_perform_247 : decode cX0_perform 247 = .ok (.iload_n 3, 1) := by decide +kernel
theorem dX0_perform_248 : decode cX0_perform 248 = .ok (.iload 8, 2) := by decide +kernel
theorem dX0_perform_250 : decode cX0_perform 250 = .ok (.invokevirtual 28, 3) := by decide +kernel
theorem dX0_perform_253 : decode cX0_perform 253 = .ok (.ineg, 1) := by decide +kernel
theorem dX0_perform_254 : decode cX0_perform 254 = .ok (.ireturn, 1) := by decide +kernel
theorem dX0_perform_255 : decode cX0_perform 255 = .ok (.aload_n 0, 1) := by decide +kernel
theorem dX0_perform_256 : decode cX0_perform 256 = .ok (.iload 6, 2) := by decide +kernel
theorem dX0_perform_258 : decode cX0_perform 258 = .ok (.iconst 1, 1) := by decide +kernel
theorem dX0_perform_259 : decode cX0_perform 259 = .ok (.iload_n 3, 1) := by decide +kernel
theorem dX0_perform_260 : decode cX0_perform 260 = .ok (.iconst 1, 1) := by decide +kernel
theorem dX0_perform_261 : decode cX0_perform 261 = .ok (.iadd, 1) := by decide +kernel
theorem dX0_perform_262 : decode cX0_perform 262 = .ok (.iload 8, 2) := by decide +kernel
theorem dX0_perform_264 : decode cX0_perform 264 = .ok (.invokevirtual 28, 3) := by decide +kernel
theorem dX0_perform_267 : decode cX0_perform 267 = .ok (.ireturn, 1) := by decide +kernel
theorem dX0_perform_268 : decode cX0_perform 268 = .ok (.aload_n 0, 1) := by decide +kernel
theorem dX0_perform_269 : decode cX0_perform 269 = .ok (.iload 6, 2) := by decide +kernel
theorem dX0_perform_271 : decode cX0_perform 271 = .ok (.iconst 2, 1) := by decide +kernel
theorem dX0_perform_272 : decode cX0_perform 272 = .ok (.iload_n 3, 1) := by decide +kernel
theorem dX0_perform_273 : decode cX0_perform 273 = .ok (.aload_n 0, 1) := by decide +kernel
theorem dX0_perform_274 : decode cX0_perform 274 = .ok (.getfield 19, 3) := by decide +kernel
theorem dX0_perform_277 : decode cX0_perform 277 = .ok (.isub, 1) := by decide +kernel
theorem dX0_perform_278 : decode cX0_perform 278 = .ok (.iload 8, 2) := by decide +kernel
theorem dX0_perform_280 : decode cX0_perform 280 = .ok (.invokevirtual 28, 3) := by decide +kernel
theorem dX0_perform_283 : decode cX0_perform 283 = .ok (.ireturn, 1) := by decide +kernel
theorem dX0_perform_284 : decode cX0_perform 284 = .ok (.aload_n 0, 1) := by decide +kernel
theorem dX0_perform_285 : decode cX0_perform 285 = .ok (.iload 6, 2) := by decide +kernel
theorem dX0_perform_287 : decode cX0_perform 287 = .ok (.iconst 1, 1) := by decide +kernel
theorem dX0_perform_288 : decode cX0_perform 288 = .ok (.iload_n 3, 1) := by decide +kernel
theorem dX0_perform_289 : decode cX0_perform 289 = .ok (.iload 8, 2) := by decide +kernel
theorem dX0_perform_291 : decode cX0_perform 291 = .ok (.invokevirtual 28, 3) := by decide +kernel
theorem dX0_perform_294 : decode cX0_perform 294 = .ok (.aload_n 0, 1) := by decide +kernel
theorem dX0_perform_295 : decode cX0_perform 295 = .ok (.iload 6, 2) := by decide +kernel
theorem dX0_perform_297 : decode cX0_perform 297 = .ok (.iconst 0, 1) := by decide +kernel
theorem dX0_perform_298 : decode cX0_perform 298 = .ok (.iconst 2, 1) := by decide +kernel
theorem dX0_perform_299 : decode cX0_perform 299 = .ok (.iload 8, 2) := by decide +kernel
theorem dX0_perform_301 : decode cX0_perform 301 = .ok (.invokevirtual 28, 3) := by decide +kernel
theorem dX0_perform_304 : decode cX0_perform 304 = .ok (.iadd, 1) := by decide +kernel
theorem dX0_perform_305 : decode cX0_perform 305 = .ok (.ireturn, 1) := by decide +kernel
theorem dX0_perform_306 : decode cX0_perform 306 = .ok (.aload_n 0, 1) := by decide +kernel
theorem dX0_perform_307 : decode cX0_perform 307 = .ok (.iload 6, 2) := by decide +kernel
theorem dX0_perform_309 : decode cX0_perform 309 = .ok (.iconst 0, 1) := by decide +kernel
theorem dX0_perform_310 : decode cX0_perform 310 = .ok (.iload_n 3, 1) := by decide +kernel
theorem dX0_perform_311 : decode cX0_perform 311 = .ok (.iload 8, 2) := by decide +kernel
theorem dX0_perform_313 : decode cX0_perform 313 = .ok (.invokevirtual 28, 3) := by decide +kernel
theorem dX0_perform_316 : decode cX0_perform 316 = .ok (.aload_n 0, 1) := by decide +kernel
theorem dX0_perform_317 : decode cX0_perform 317 = .ok (.getfield 25, 3) := by decide +kernel
theorem dX0_perform_320 : decode cX0_perform 320 = .ok (.ixor, 1) := by decide +kernel
theorem dX0_perform_321 : decode cX0_perform 321 = .ok (.ireturn, 1) := by decide +kernel
theorem dX0_perform_322 : decode cX0_perform 322 = .ok (.iconst 0, 1) := by decide +kernel
theorem dX0_perform_323 : decode cX0_perform 323 = .ok (.ireturn, 1) := by decide +kernel
theorem dX0_ownerOf_0 : decode cX0_ownerOf 0 = .ok (.iload_n 0, 1) := by decide +kernel
theorem dX0_ownerOf_1 : decode cX0_ownerOf 1 = .ok (.istore_n 2, 1) := by decide +kernel
theorem dX0_ownerOf_2 : decode cX0_ownerOf 2 = .ok (.iconst 0, 1) := by decide +kernel
theorem dX0_ownerOf_3 : decode cX0_ownerOf 3 = .ok (.istore_n 3, 1) := by decide +kernel
theorem dX0_ownerOf_4 : decode cX0_ownerOf 4 = .ok (.iload_n 3, 1) := by decide +kernel
theorem dX0_ownerOf_5 : decode cX0_ownerOf 5 = .ok (.bipush 7, 2) := by decide +kernel
theorem dX0_ownerOf_7 : decode cX0_ownerOf 7 = .ok (.if_icmp .ge 31, 3) := by decide +kernel
theorem dX0_ownerOf_10 : decode cX0_ownerOf 10 = .ok (.iload_n 2, 1) := by decide +kernel
theorem dX0_ownerOf_11 : decode cX0_ownerOf 11 = .ok (.ifCond .le 27, 3) := by decide +kernel
theorem dX0_ownerOf_14 : decode cX0_ownerOf 14 = .ok (.getstatic 44, 3) := by decide +kernel
theorem dX0_ownerOf_17 : decode cX0_ownerOf 17 = .ok (.iload_n 2, 1) := by decide +kernel
theorem dX0_ownerOf_18 : decode cX0_ownerOf 18 = .ok (.iconst 3, 1) := by decide +kernel
theorem dX0_ownerOf_19 : decode cX0_ownerOf 19 = .ok (.imul, 1) := by decide +kernel
theorem dX0_ownerOf_20 : decode cX0_ownerOf 20 = .ok (.iload_n 1, 1) := by decide +kernel
theorem dX0_ownerOf_21 : decode cX0_ownerOf 21 = .ok (.iadd, 1) := by decide +kernel
theorem dX0_ownerOf_22 : decode cX0_ownerOf 22 = .ok (.iaload, 1) := by decide +kernel
theorem dX0_ownerOf_23 : decode cX0_ownerOf 23 = .ok (.ifCond .ne 15, 3) := by decide +kernel
theorem dX0_ownerOf_26 : decode cX0_ownerOf 26 = .ok (.getstatic 36, 3) := by decide +kernel
theorem dX0_ownerOf_29 : decode cX0_ownerOf 29 = .ok (.iload_n 2, 1) := by decide +kernel
theorem dX0_ownerOf_30 : decode cX0_ownerOf 30 = .ok (.iaload, 1) := by decide +kernel
theorem dX0_ownerOf_31 : decode cX0_ownerOf 31 = .ok (.istore_n 2, 1) := by decide +kernel
theorem dX0_ownerOf_32 : decode cX0_ownerOf 32 = .ok (.iinc 3 1, 3) := by decide +kernel
theorem dX0_ownerOf_35 : decode cX0_ownerOf 35 = .ok (.goto (-31), 3) := by decide +kernel
theorem dX0_ownerOf_38 : decode cX0_ownerOf 38 = .ok (.iload_n 2, 1) := by decide +kernel
theorem dX0_ownerOf_39 : decode cX0_ownerOf 39 = .ok (.ireturn, 1) := by decide +kernel
theorem dX0_begin_0 : decode cX0_begin 0 = .ok (.aload_n 0, 1) := by decide +kernel
theorem dX0_begin_1 : decode cX0_begin 1 = .ok (.getfield 15, 3) := by decide +kernel
theorem dX0_begin_4 : decode cX0_begin 4 = .ok (.aload_n 0, 1) := by decide +kernel
theorem dX0_begin_5 : decode cX0_begin 5 = .ok (.getfield 11, 3) := by decide +kernel
theorem dX0_begin_8 : decode cX0_begin 8 = .ok (.arraylength, 1) := by decide +kernel
theorem dX0_begin_9 : decode cX0_begin 9 = .ok (.if_icmp .ge 13, 3) := by decide +kernel
theorem dX0_begin_12 : decode cX0_begin 12 = .ok (.aload_n 0, 1) := by decide +kernel
theorem dX0_begin_13 : decode cX0_begin 13 = .ok (.getfield 11, 3) := by decide +kernel
theorem dX0_begin_16 : decode cX0_begin 16 = .ok (.aload_n 0, 1) := by decide +kernel
theorem dX0_begin_17 : decode cX0_begin 17 = .ok (.getfield 15, 3) := by decide +kernel
theorem dX0_begin_20 : decode cX0_begin 20 = .ok (.iload_n 1, 1) := by decide +kernel
theorem dX0_begin_21 : decode cX0_begin 21 = .ok (.iastore, 1) := by decide +kernel
theorem dX0_begin_22 : decode cX0_begin 22 = .ok (.aload_n 0, 1) := by decide +kernel
theorem dX0_begin_23 : decode cX0_begin 23 = .ok (.dup, 1) := by decide +kernel
theorem dX0_begin_24 : decode cX0_begin 24 = .ok (.getfield 15, 3) := by decide +kernel
theorem dX0_begin_27 : decode cX0_begin 27 = .ok (.iconst 1, 1) := by decide +kernel
theorem dX0_begin_28 : decode cX0_begin 28 = .ok (.iadd, 1) := by decide +kernel
theorem dX0_begin_29 : decode cX0_begin 29 = .ok (.putfield 15, 3) := by decide +kernel
theorem dX0_begin_32 : decode cX0_begin 32 = .ok (.return_, 1) := by decide +kernel
theorem dX1_init_0 : decode cX1_init 0 = .ok (.aload_n 0, 1) := by decide +kernel
theorem dX1_init_1 : decode cX1_init 1 = .ok (.invokespecial 3, 3) := by decide +kernel
theorem dX1_init_4 : decode cX1_init 4 = .ok (.aload_n 0, 1) := by decide +kernel
theorem dX1_init_5 : decode cX1_init 5 = .ok (.bipush 10, 2) := by decide +kernel
theorem dX1_init_7 : decode cX1_init 7 = .ok (.newarray .int, 2) := by decide +kernel
theorem dX1_init_9 : decode cX1_init 9 = .ok (.putfield 9, 3) := by decide +kernel
theorem dX1_init_12 : decode cX1_init 12 = .ok (.aload_n 0, 1) := by decide +kernel
theorem dX1_init_13 : decode cX1_init 13 = .ok (.bipush 10, 2) := by decide +kernel
theorem dX1_init_15 : decode cX1_init 15 = .ok (.newarray .int, 2) := by decide +kernel
theorem dX1_init_17 : decode cX1_init 17 = .ok (.putfield 15, 3) := by decide +kernel
theorem dX1_init_20 : decode cX1_init 20 = .ok (.aload_n 0, 1) := by decide +kernel
theorem dX1_init_21 : decode cX1_init 21 = .ok (.bipush 10, 2) := by decide +kernel
theorem dX1_init_23 : decode cX1_init 23 = .ok (.newarray .int, 2) := by decide +kernel
theorem dX1_init_25 : decode cX1_init 25 = .ok (.putfield 18, 3) := by decide +kernel
theorem dX1_init_28 : decode cX1_init 28 = .ok (.aload_n 0, 1) := by decide +kernel
theorem dX1_init_29 : decode cX1_init 29 = .ok (.bipush 100, 2) := by decide +kernel
theorem dX1_init_31 : decode cX1_init 31 = .ok (.newarray .int, 2) := by decide +kernel
theorem dX1_init_33 : decode cX1_init 33 = .ok (.putfield 21, 3) := by decide +kernel
theorem dX1_init_36 : decode cX1_init 36 = .ok (.return_, 1) := by decide +kernel
theorem dX1_clear_0 : decode cX1_clear 0 = .ok (.aload_n 0, 1) := by decide +kernel
theorem dX1_clear_1 : decode cX1_clear 1 = .ok (.iconst 0, 1) := by decide +kernel
theorem dX1_clear_2 : decode cX1_clear 2 = .ok (.putfield 24, 3) := by decide +kernel
theorem dX1_clear_5 : decode cX1_clear 5 = .ok (.aload_n 0, 1) := by decide +kernel
theorem dX1_clear_6 : decode cX1_clear 6 = .ok (.iconst 0, 1) := by decide +kernel
theorem dX1_clear_7 : decode cX1_clear 7 = .ok (.putfield 28, 3) := by decide +kernel
theorem dX1_clear_10 : decode cX1_clear 10 = .ok (.return_, 1) := by decide +kernel
theorem dX1_testSign_0 : decode cX1_testSign 0 = .ok (.iload_n 0, 1) := by decide +kernel
theorem dX1_testSign_1 : decode cX1_testSign 1 = .ok (.iconst 3, 1) := by decide +kernel
theorem dX1_testSign_2 : decode cX1_testSign 2 = .ok (.imul, 1) := by decide +kernel
theorem dX1_testSign_3 : decode cX1_testSign 3 = .ok (.iload_n 1, 1) := by decide +kernel
theorem dX1_testSign_4 : decode cX1_testSign 4 = .ok (.iadd, 1) := by decide +kernel
theorem dX1_testSign_5 : decode cX1_testSign 5 = .ok (.bipush 100, 2) := by decide +kernel
theorem dX1_testSign_7 : decode cX1_testSign 7 = .ok (.imul, 1) := by decide +kernel
theorem dX1_testSign_8 : decode cX1_testSign 8 = .ok (.iload_n 2, 1) := by decide +kernel
theorem dX1_testSign_9 : decode cX1_testSign 9 = .ok (.iadd, 1) := by decide +kernel
theorem dX1_testSign_10 : decode cX1_testSign 10 = .ok (.ireturn, 1) := by decide +kernel
theorem dX1_addSign_0 : decode cX1_addSign 0 = .ok (.aload_n 0, 1) := by decide +kernel
theorem dX1_addSign_1 : decode cX1_addSign 1 = .ok (.getfield 28, 3) := by decide +kernel
theorem dX1_addSign_4 : decode cX1_addSign 4 = .ok (.aload_n 0, 1) := by decide +kernel
theorem dX1_addSign_5 : decode cX1_addSign 5 = .ok (.getfield 21, 3) := by decide +kernel
theorem dX1_addSign_8 : decode cX1_addSign 8 = .ok (.arraylength, 1) := by decide +kernel
theorem dX1_addSign_9 : decode cX1_addSign 9 = .ok (.if_icmp .ge 23, 3) := by decide +kernel
theorem dX1_addSign_12 : decode cX1_addSign 12 = .ok (.aload_n 0, 1) := by decide +kernel
theorem dX1_addSign_13 : decode cX1_addSign 13 = .ok (.getfield 21, 3) := by decide +kernel
theorem dX1_addSign_16 : decode cX1_addSign 16 = .ok (.aload_n 0, 1) := by decide +kernel
theorem dX1_addSign_17 : decode cX1_addSign 17 = .ok (.getfield 28, 3) := by decide +kernel
theorem dX1_addSign_20 : decode cX1_addSign 20 = .ok (.iload_n 1, 1) := by decide +kernel
theorem dX1_addSign_21 : decode cX1_addSign 21 = .ok (.iastore, 1) := by decide +kernel
theorem dX1_addSign_22 : decode cX1_addSign 22 = .ok (.aload_n 0, 1) := by decide +kernel
theorem dX1_addSign_23 : decode cX1_addSign 23 = .ok (.dup, 1) := by decide +kernel
theorem dX1_addSign_24 : decode cX1_addSign 24 = .ok (.getfield 28, 3) := by decide +kernel
theorem dX1_addSign_27 : decode cX1_addSign 27 = .ok (.iconst 1, 1) := by decide +kernel
theorem dX1_addSign_28 : decode cX1_addSign 28 = .ok (.iadd, 1) := by decide +kernel
theorem dX1_addSign_29 : decode cX1_addSign 29 = .ok (.putfield 28, 3) := by decide +kernel
theorem dX1_addSign_32 : decode cX1_addSign 32 = .ok (.return_, 1) := by decide +kernel
theorem dX1_endClause_0 : decode cX1_endClause 0 = .ok (.aload_n 0, 1) := by decide +kernel
theorem dX1_endClause_1 : decode cX1_endClause 1 = .ok (.getfield 24, 3) := by decide +kernel
theorem dX1_endClause_4 : decode cX1_endClause 4 = .ok (.aload_n 0, 1) := by decide +kernel
theorem dX1_endClause_5 : decode cX1_endClause 5 = .ok (.getfield 9, 3) := by decide +kernel
theorem dX1_endClause_8 : decode cX1_endClause 8 = .ok (.arraylength, 1) := by decide +kernel
theorem dX1_endClause_9 : decode cX1_endClause 9 = .ok (.if_icmp .ge 46, 3) := by decide +kernel
theorem dX1_endClause_12 : decode cX1_endClause 12 = .ok (.aload_n 0, 1) := by decide +kernel
theorem dX1_endClause_13 : decode cX1_endClause 13 = .ok (.getfield 9, 3) := by decide +kernel
theorem dX1_endClause_16 : decode cX1_endClause 16 = .ok (.aload_n 0, 1) := by decide +kernel
theorem dX1_endClause_17 : decode cX1_endClause 17 = .ok (.getfield 24, 3) := by decide +kernel
theorem dX1_endClause_20 : decode cX1_endClause 20 = .ok (.iload_n 1, 1) := by decide +kernel
theorem dX1_endClause_21 : decode cX1_endClause 21 = .ok (.iastore, 1) := by decide +kernel
theorem dX1_endClause_22 : decode cX1_endClause 22 = .ok (.aload_n 0, 1) := by decide +kernel
theorem dX1_endClause_23 : decode cX1_endClause 23 = .ok (.getfield 15, 3) := by decide +kernel
theorem dX1_endClause_26 : decode cX1_endClause 26 = .ok (.aload_n 0, 1) := by decide +kernel
theorem dX1_endClause_27 : decode cX1_endClause 27 = .ok (.getfield 24, 3) := by decide +kernel
theorem dX1_endClause_30 : decode cX1_endClause 30 = .ok (.iload_n 2, 1) := by decide +kernel
theorem dX1_endClause_31 : decode cX1_endClause 31 = .ok (.iastore, 1) := by decide +kernel
theorem dX1_endClause_32 : decode cX1_endClause 32 = .ok (.aload_n 0, 1) := by decide +kernel
theorem dX1_endClause_33 : decode cX1_endClause 33 = .ok (.getfield 18, 3) := by decide +kernel
theorem dX1_endClause_36 : decode cX1_endClause 36 = .ok (.aload_n 0, 1) := by decide +kernel
theorem dX1_endClause_37 : decode cX1_endClause 37 = .ok (.getfield 24, 3) := by decide +kernel
theorem dX1_endClause_40 : decode cX1_endClause 40 = .ok (.aload_n 0, 1) := by decide +kernel
theorem dX1_endClause_41 : decode cX1_endClause 41 = .ok (.getfield 28, 3) := by decide +kernel
theorem dX1_endClause_44 : decode cX1_endClause 44 = .ok (.iastore, 1) := by decide +kernel
theorem dX1_endClause_45 : decode cX1_endClause 45 = .ok (.aload_n 0, 1) := by decide +kernel
theorem dX1_endClause_46 : decode cX1_endClause 46 = .ok (.dup, 1) := by decide +kernel
theorem dX1_endClause_47 : decode cX1_endClause 47 = .ok (.getfield 24, 3) := by decide +kernel
theorem dX1_endClause_50 : decode cX1_endClause 50 = .ok (.iconst 1, 1) := by decide +kernel
theorem dX1_endClause_51 : decode cX1_endClause 51 = .ok (.iadd, 1) := by decide +kernel
theorem dX1_endClause_52 : decode cX1_endClause 52 = .ok (.putfield 24, 3) := by decide +kernel
theorem dX1_endClause_55 : decode cX1_endClause 55 = .ok (.return_, 1) := by decide +kernel
theorem dX1_hoursOf_0 : decode cX1_hoursOf 0 = .ok (.iconst 0, 1) := by decide +kernel
theorem dX1_hoursOf_1 : decode cX1_hoursOf 1 = .ok (.istore 4, 2) := by decide +kernel
theorem dX1_hoursOf_3 : decode cX1_hoursOf 3 = .ok (.iload 4, 2) := by decide +kernel
theorem dX1_hoursOf_5 : decode cX1_hoursOf 5 = .ok (.aload_n 0, 1) := by decide +kernel
theorem dX1_hoursOf_6 : decode cX1_hoursOf 6 = .ok (.getfield 24, 3) := by decide +kernel
theorem dX1_hoursOf_9 : decode cX1_hoursOf 9 = .ok (.if_icmp .ge 41, 3) := by decide +kernel
theorem dX1_hoursOf_12 : decode cX1_hoursOf 12 = .ok (.aload_n 0, 1) := by decide +kernel
theorem dX1_hoursOf_13 : decode cX1_hoursOf 13 = .ok (.getfield 9, 3) := by decide +kernel
theorem dX1_hoursOf_16 : decode cX1_hoursOf 16 = .ok (.iload 4, 2) := by decide +kernel
theorem dX1_hoursOf_18 : decode cX1_hoursOf 18 = .ok (.iaload, 1) := by decide +kernel
theorem dX1_hoursOf_19 : decode cX1_hoursOf 19 = .ok (.ifCond .ne 25, 3) := by decide +kernel
theorem dX1_hoursOf_22 : decode cX1_hoursOf 22 = .ok (.aload_n 0, 1) := by decide +kernel
theorem dX1_hoursOf_23 : decode cX1_hoursOf 23 = .ok (.iload 4, 2) := by decide +kernel
theorem dX1_hoursOf_25 : decode cX1_hoursOf 25 = .ok (.iload_n 1, 1) := by decide +kernel
theorem dX1_hoursOf_26 : decode cX1_hoursOf 26 = .ok (.iload_n 2, 1) := by decide +kernel
theorem dX1_hoursOf_27 : decode cX1_hoursOf 27 = .ok (.iload_n 3, 1) := by decide +kernel
theorem dX1_hoursOf_28 : decode cX1_hoursOf 28 = .ok (.iconst 0, 1) := by decide +kernel
theorem dX1_hoursOf_29 : decode cX1_hoursOf 29 = .ok (.iconst 0, 1) := by decide +kernel
theorem dX1_hoursOf_30 : decode cX1_hoursOf 30 = .ok (.invokevirtual 31, 3) := by decide +kernel
theorem dX1_hoursOf_33 : decode cX1_hoursOf 33 = .ok (.ifCond .eq 11, 3) := by decide +kernel
theorem dX1_hoursOf_36 : decode cX1_hoursOf 36 = .ok (.aload_n 0, 1) := by decide +kernel
theorem dX1_hoursOf_37 : decode cX1_hoursOf 37 = .ok (.getfield 15, 3) := by decide +kernel
theorem dX1_hoursOf_40 : decode cX1_hoursOf 40 = .ok (.iload 4, 2) := by decide +kernel
theorem dX1_hoursOf_42 : decode cX1_hoursOf 42 = .ok (.iaload, 1) := by decide +kernel
theorem dX1_hoursOf_43 : decode cX1_hoursOf 43 = .ok (.ireturn, 1) := by decide +kernel
theorem dX1_hoursOf_44 : decode cX1_hoursOf 44 = .ok (.iinc 4 1, 3) := by decide +kernel
theorem dX1_hoursOf_47 : decode cX1_hoursOf 47 = .ok (.goto (-44), 3) := by decide +kernel
theorem dX1_hoursOf_50 : decode cX1_hoursOf 50 = .ok (.bipush (-5), 2) := by decide +kernel
theorem dX1_hoursOf_52 : decode cX1_hoursOf 52 = .ok (.ireturn, 1) := by decide +kernel
theorem dX1_habitOf_0 : decode cX1_habitOf 0 = .ok (.iconst 0, 1) := by decide +kernel
theorem dX1_habitOf_1 : decode cX1_habitOf 1 = .ok (.istore 4, 2) := by decide +kernel
theorem dX1_habitOf_3 : decode cX1_habitOf 3 = .ok (.iconst 0, 1) := by decide +kernel
theorem dX1_habitOf_4 : decode cX1_habitOf 4 = .ok (.istore 5, 2) := by decide +kernel
theorem dX1_habitOf_6 : decode cX1_habitOf 6 = .ok (.iload 5, 2) := by decide +kernel
theorem dX1_habitOf_8 : decode cX1_habitOf 8 = .ok (.aload_n 0, 1) := by decide +kernel
theorem dX1_habitOf_9 : decode cX1_habitOf 9 = .ok (.getfield 24, 3) := by decide +kernel
theorem dX1_habitOf_12 : decode cX1_habitOf 12 = .ok (.if_icmp .ge 46, 3) := by decide +kernel
theorem dX1_habitOf_15 : decode cX1_habitOf 15 = .ok (.aload_n 0, 1) := by decide +kernel
theorem dX1_habitOf_16 : decode cX1_habitOf 16 = .ok (.getfield 9, 3) := by decide +kernel
theorem dX1_habitOf_19 : decode cX1_habitOf 19 = .ok (.iload 5, 2) := by decide +kernel
theorem dX1_habitOf_21 : decode cX1_habitOf 21 = .ok (.iaload, 1) := by decide +kernel
theorem dX1_habitOf_22 : decode cX1_habitOf 22 = .ok (.iconst 1, 1) := by decide +kernel
theorem dX1_habitOf_23 : decode cX1_habitOf 23 = .ok (.if_icmp .ne 29, 3) := by decide +kernel
theorem dX1_habitOf_26 : decode cX1_habitOf 26 = .ok (.aload_n 0, 1) := by decide +kernel
theorem dX1_habitOf_27 : decode cX1_habitOf 27 = .ok (.iload 5, 2) := by decide +kernel
theorem dX1_habitOf_29 : decode cX1_habitOf 29 = .ok (.iload_n 1, 1) := by decide +kernel
theorem dX1_habitOf_30 : decode cX1_habitOf 30 = .ok (.iconst 0, 1) := by decide +kernel
theorem dX1_habitOf_31 : decode cX1_habitOf 31 = .ok (.iconst 0, 1) := by decide +kernel
theorem dX1_habitOf_32 : decode cX1_habitOf 32 = .ok (.iload_n 2, 1) := by decide +kernel
theorem dX1_habitOf_33 : decode cX1_habitOf 33 = .ok (.iload_n 3, 1) := by decide +kernel
theorem dX1_habitOf_34 : decode cX1_habitOf 34 = .ok (.invokevirtual 31, 3) := by decide +kernel
theorem dX1_habitOf_37 : decode cX1_habitOf 37 = .ok (.ifCond .eq 15, 3) := by decide +kernel
theorem dX1_habitOf_40 : decode cX1_habitOf 40 = .ok (.iload 4, 2) := by decide +kernel
theorem dX1_habitOf_42 : decode cX1_habitOf 42 = .ok (.aload_n 0, 1) := by decide +kernel
theorem dX1_habitOf_43 : decode cX1_habitOf 43 = .ok (.getfield 15, 3) := by decide +kernel
theorem dX1_habitOf_46 : decode cX1_habitOf 46 = .ok (.iload 5, 2) := by decide +kernel
theorem dX1_habitOf_48 : decode cX1_habitOf 48 = .ok (.iaload, 1) := by decide +kernel
theorem dX1_habitOf_49 : decode cX1_habitOf 49 = .ok (.iadd, 1) := by decide +kernel
theorem dX1_habitOf_50 : decode cX1_habitOf 50 = .ok (.istore 4, 2) := by decide +kernel
theorem dX1_habitOf_52 : decode cX1_habitOf 52 = .ok (.iinc 5 1, 3) := by decide +kernel
theorem dX1_habitOf_55 : decode cX1_habitOf 55 = .ok (.goto (-49), 3) := by decide +kernel
theorem dX1_habitOf_58 : decode cX1_habitOf 58 = .ok (.iload 4, 2) := by decide +kernel
theorem dX1_habitOf_60 : decode cX1_habitOf 60 = .ok (.bipush 100, 2) := by decide +kernel
theorem dX1_habitOf_62 : decode cX1_habitOf 62 = .ok (.invokestatic 35, 3) := by decide +kernel
theorem dX1_habitOf_65 : decode cX1_habitOf 65 = .ok (.ireturn, 1) := by decide +kernel
theorem dX1_lastOf_0 : decode cX1_lastOf 0 = .ok (.iload_n 2, 1) := by decide +kernel
theorem dX1_lastOf_1 : decode cX1_lastOf 1 = .ok (.istore_n 3, 1) := by decide +kernel
theorem dX1_lastOf_2 : decode cX1_lastOf 2 = .ok (.iconst 0, 1) := by decide +kernel
theorem dX1_lastOf_3 : decode cX1_lastOf 3 = .ok (.istore 4, 2) := by decide +kernel
theorem dX1_lastOf_5 : decode cX1_lastOf 5 = .ok (.iload 4, 2) := by decide +kernel
theorem dX1_lastOf_7 : decode cX1_lastOf 7 = .ok (.aload_n 0, 1) := by decide +kernel
theorem dX1_lastOf_8 : decode cX1_lastOf 8 = .ok (.getfield 24, 3) := by decide +kernel
theorem dX1_lastOf_11 : decode cX1_lastOf 11 = .ok (.if_icmp .ge 28, 3) := by decide +kernel
theorem dX1_lastOf_14 : decode cX1_lastOf 14 = .ok (.aload_n 0, 1) := by decide +kernel
theorem dX1_lastOf_15 : decode cX1_lastOf 15 = .ok (.getfield 9, 3) := by decide +kernel
theorem dX1_lastOf_18 : decode cX1_lastOf 18 = .ok (.iload 4, 2) := by decide +kernel
theorem dX1_lastOf_20 : decode cX1_lastOf 20 = .ok (.iaload, 1) := by decide +kernel
theorem dX1_lastOf_21 : decode cX1_lastOf 21 = .ok (.iload_n 1, 1) := by decide +kernel
theorem dX1_lastOf_22 : decode cX1_lastOf 22 = .ok (.if_icmp .ne 11, 3) := by decide +kernel
theorem dX1_lastOf_25 : decode cX1_lastOf 25 = .ok (.aload_n 0, 1) := by decide +kernel
theorem dX1_lastOf_26 : decode cX1_lastOf 26 = .ok (.getfield 15, 3) := by decide +kernel
theorem dX1_lastOf_29 : decode cX1_lastOf 29 = .ok (.iload 4, 2) := by decide +kernel
theorem dX1_lastOf_31 : decode cX1_lastOf 31 = .ok (.iaload, 1) := by decide +kernel
theorem dX1_lastOf_32 : decode cX1_lastOf 32 = .ok (.istore_n 3, 1) := by decide +kernel
theorem dX1_lastOf_33 : decode cX1_lastOf 33 = .ok (.iinc 4 1, 3) := by decide +kernel
theorem dX1_lastOf_36 : decode cX1_lastOf 36 = .ok (.goto (-31), 3) := by decide +kernel
theorem dX1_lastOf_39 : decode cX1_lastOf 39 = .ok (.iload_n 3, 1) := by decide +kernel
theorem dX1_lastOf_40 : decode cX1_lastOf 40 = .ok (.ireturn, 1) := by decide +kernel
theorem dX1_mostSteps_0 : decode cX1_mostSteps 0 = .ok (.aload_n 0, 1) := by decide +kernel
theorem dX1_mostSteps_1 : decode cX1_mostSteps 1 = .ok (.iconst 4, 1) := by decide +kernel
theorem dX1_mostSteps_2 : decode cX1_mostSteps 2 = .ok (.bipush 9, 2) := by decide +kernel
theorem dX1_mostSteps_4 : decode cX1_mostSteps 4 = .ok (.invokevirtual 41, 3) := by decide +kernel
theorem dX1_mostSteps_7 : decode cX1_mostSteps 7 = .ok (.bipush 9, 2) := by decide +kernel
theorem dX1_mostSteps_9 : decode cX1_mostSteps 9 = .ok (.invokestatic 35, 3) := by decide +kernel
theorem dX1_mostSteps_12 : decode cX1_mostSteps 12 = .ok (.ireturn, 1) := by decide +kernel
theorem dX1_holds_0 : decode cX1_holds 0 = .ok (.iconst 0, 1) := by decide +kernel
theorem dX1_holds_1 : decode cX1_holds 1 = .ok (.istore 7, 2) := by decide +kernel
theorem dX1_holds_3 : decode cX1_holds 3 = .ok (.iload_n 1, 1) := by decide +kernel
theorem dX1_holds_4 : decode cX1_holds 4 = .ok (.ifCond .ne 7, 3) := by decide +kernel
theorem dX1_holds_7 : decode cX1_holds 7 = .ok (.iconst 0, 1) := by decide +kernel
theorem dX1_holds_8 : decode cX1_holds 8 = .ok (.goto 11, 3) := by decide +kernel
theorem dX1_holds_11 : decode cX1_holds 11 = .ok (.aload_n 0, 1) := by decide +kernel
theorem dX1_holds_12 : decode cX1_holds 12 = .ok (.getfield 18, 3) := by decide +kernel
theorem dX1_holds_15 : decode cX1_holds 15 = .ok (.iload_n 1, 1) := by decide +kernel
theorem dX1_holds_16 : decode cX1_holds 16 = .ok (.iconst 1, 1) := by decide +kernel
theorem dX1_holds_17 : decode cX1_holds 17 = .ok (.isub, 1) := by decide +kernel
theorem dX1_holds_18 : decode cX1_holds 18 = .ok (.iaload, 1) := by decide +kernel
theorem dX1_holds_19 : decode cX1_holds 19 = .ok (.istore 8, 2) := by decide +kernel
theorem dX1_holds_21 : decode cX1_holds 21 = .ok (.iload 8, 2) := by decide +kernel
theorem dX1_holds_23 : decode cX1_holds 23 = .ok (.aload_n 0, 1) := by decide +kernel
theorem dX1_holds_24 : decode cX1_holds 24 = .ok (.getfield 18, 3) := by decide +kernel
theorem dX1_holds_27 : decode cX1_holds 27 = .ok (.iload_n 1, 1) := by decide +kernel
theorem dX1_holds_28 : decode cX1_holds 28 = .ok (.iaload, 1) := by decide +kernel
theorem dX1_holds_29 : decode cX1_holds 29 = .ok (.if_icmp .ge 131, 3) := by decide +kernel
theorem dX1_holds_32 : decode cX1_holds 32 = .ok (.aload_n 0, 1) := by decide +kernel
theorem dX1_holds_33 : decode cX1_holds 33 = .ok (.getfield 21, 3) := by decide +kernel
theorem dX1_holds_36 : decode cX1_holds 36 = .ok (.iload 8, 2) := by decide +kernel
theorem dX1_holds_38 : decode cX1_holds 38 = .ok (.iaload, 1) := by decide +kernel
theorem dX1_holds_39 : decode cX1_holds 39 = .ok (.istore 9, 2) := by decide +kernel
theorem dX1_holds_41 : decode cX1_holds 41 = .ok (.iload 7, 2) := by decide +kernel
theorem dX1_holds_43 : decode cX1_holds 43 = .ok (.iconst 1, 1) := by decide +kernel
theorem dX1_holds_44 : decode cX1_holds 44 = .ok (.iand, 1) := by decide +kernel
theorem dX1_holds_45 : decode cX1_holds 45 = .ok (.istore 10, 2) := by decide +kernel
theorem dX1_holds_47 : decode cX1_holds 47 = .ok (.iload 9, 2) := by decide +kernel
theorem dX1_holds_49 : decode cX1_holds 49 = .ok (.bipush (-3), 2) := by decide +kernel
theorem dX1_holds_51 : decode cX1_holds 51 = .ok (.if_icmp .ne 12, 3) := by decide +kernel
theorem dX1_holds_54 : decode cX1_holds 54 = .ok (.iload 7, 2) := by decide +kernel
theorem dX1_holds_56 : decode cX1_holds 56 = .ok (.iconst 1, 1) := by decide +kernel
theorem dX1_holds_57 : decode cX1_holds 57 = .ok (.ixor, 1) := by decide +kernel
theorem dX1_holds_58 : decode cX1_holds 58 = .ok (.istore 7, 2) := by decide +kernel
theorem dX1_holds_60 : decode cX1_holds 60 = .ok (.goto 94, 3) := by decide +kernel
theorem dX1_holds_63 : decode cX1_holds 63 = .ok (.iload 9, 2) := by decide +kernel
theorem dX1_holds_65 : decode cX1_holds 65 = .ok (.iconst (-1), 1) := by decide +kernel
theorem dX1_holds_66 : decode cX1_holds 66 = .ok (.if_icmp .ne 18, 3) := by decide +kernel
theorem dX1_holds_69 : decode cX1_holds 69 = .ok (.iload 7, 2) := by decide +kernel
theorem dX1_holds_71 : decode cX1_holds 71 = .ok (.iconst 1, 1) := by decide +kernel
theorem dX1_holds_72 : decode cX1_holds 72 = .ok (.ishr, 1) := by decide +kernel
theorem dX1_holds_73 : decode cX1_holds 73 = .ok (.iload 10, 2) := by decide +kernel
theorem dX1_holds_75 : decode cX1_holds 75 = .ok (.bipush (-2), 2) := by decide +kernel
theorem dX1_holds_77 : decode cX1_holds 77 = .ok (.ior, 1) := by decide +kernel
theorem dX1_holds_78 : decode cX1_holds 78 = .ok (.iand, 1) := by decide +kernel
theorem dX1_holds_79 : decode cX1_holds 79 = .ok (.istore 7, 2) := by decide +kernel
theorem dX1_holds_81 : decode cX1_holds 81 = .ok (.goto 73, 3) := by decide +kernel
theorem dX1_holds_84 : decode cX1_holds 84 = .ok (.iload 9, 2) := by decide +kernel
theorem dX1_holds_86 : decode cX1_holds 86 = .ok (.bipush (-2), 2) := by decide +kernel
theorem dX1_holds_88 : decode cX1_holds 88 = .ok (.if_icmp .ne 15, 3) := by decide +kernel
theorem dX1_holds_91 : decode cX1_holds 91 = .ok (.iload 7, 2) := by decide +kernel
theorem dX1_holds_93 : decode cX1_holds 93 = .ok (.iconst 1, 1) := by decide +kernel
theorem dX1_holds_94 : decode cX1_holds 94 = .ok (.ishr, 1) := by decide +kernel
theorem dX1_holds_95 : decode cX1_holds 95 = .ok (.iload 10, 2) := by decide +kernel
theorem dX1_holds_97 : decode cX1_holds 97 = .ok (.ior, 1) := by decide +kernel
theorem dX1_holds_98 : decode cX1_holds 98 = .ok (.istore 7, 2) := by decide +kernel
theorem dX1_holds_100 : decode cX1_holds 100 = .ok (.goto 54, 3) := by decide +kernel
theorem dX1_holds_103 : decode cX1_holds 103 = .ok (.iload 9, 2) := by decide +kernel
theorem dX1_holds_105 : decode cX1_holds 105 = .ok (.sipush 300, 3) := by decide +kernel
theorem dX1_holds_108 : decode cX1_holds 108 = .ok (.idiv, 1) := by decide +kernel
theorem dX1_holds_109 : decode cX1_holds 109 = .ok (.iload_n 2, 1) := by decide +kernel
theorem dX1_holds_110 : decode cX1_holds 110 = .ok (.iload_n 3, 1) := by decide +kernel
theorem dX1_holds_111 : decode cX1_holds 111 = .ok (.iload 4, 2) := by decide +kernel
theorem dX1_holds_113 : decode cX1_holds 113 = .ok (.iload 5, 2) := by decide +kernel
theorem dX1_holds_115 : decode cX1_holds 115 = .ok (.iload 6, 2) := by decide +kernel
theorem dX1_holds_117 : decode cX1_holds 117 = .ok (.invokestatic 44, 3) := by decide +kernel
theorem dX1_holds_120 : decode cX1_holds 120 = .ok (.istore 11, 2) := by decide +kernel
theorem dX1_holds_122 : decode cX1_holds 122 = .ok (.iload 7, 2) := by decide +kernel
theorem dX1_holds_124 : decode cX1_holds 124 = .ok (.iconst 1, 1) := by decide +kernel
theorem dX1_holds_125 : decode cX1_holds 125 = .ok (.ishl, 1) := by decide +kernel
theorem dX1_holds_126 : decode cX1_holds 126 = .ok (.iload 11, 2) := by decide +kernel
theorem dX1_holds_128 : decode cX1_holds 128 = .ok (.iload 9, 2) := by decide +kernel
theorem dX1_holds_130 : decode cX1_holds 130 = .ok (.bipush 100, 2) := by decide +kernel
theorem dX1_holds_132 : decode cX1_holds 132 = .ok (.idiv, 1) := by decide +kernel
theorem dX1_holds_133 : decode cX1_holds 133 = .ok (.iconst 3, 1) := by decide +kernel
theorem dX1_holds_134 : decode cX1_holds 134 = .ok (.irem, 1) := by decide +kernel
theorem dX1_holds_135 : decode cX1_holds 135 = .ok (.iload 9, 2) := by decide +kernel
theorem dX1_holds_137 : decode cX1_holds 137 = .ok (.bipush 100, 2) := by decide +kernel
theorem dX1_holds_139 : decode cX1_holds 139 = .ok (.irem, 1) := by decide +kernel
theorem dX1_holds_140 : decode cX1_holds 140 = .ok (.invokestatic 48, 3) := by decide +kernel
theorem dX1_holds_143 : decode cX1_holds 143 = .ok (.ifCond .eq 7, 3) := by decide +kernel
theorem dX1_holds_146 : decode cX1_holds 146 = .ok (.iconst 1, 1) := by decide +kernel
theorem dX1_holds_147 : decode cX1_holds 147 = .ok (.goto 4, 3) := by decide +kernel
theorem dX1_holds_150 : decode cX1_holds 150 = .ok (.iconst 0, 1) := by decide +kernel
theorem dX1_holds_151 : decode cX1_holds 151 = .ok (.ior, 1) := by decide +kernel
theorem dX1_holds_152 : decode cX1_holds 152 = .ok (.istore 7, 2) := by decide +kernel
theorem dX1_holds_154 : decode cX1_holds 154 = .ok (.iinc 8 1, 3) := by decide +kernel
theorem dX1_holds_157 : decode cX1_holds 157 = .ok (.goto (-136), 3) := by decide +kernel
theorem dX1_holds_160 : decode cX1_holds 160 = .ok (.iload 7, 2) := by decide +kernel
theorem dX1_holds_162 : decode cX1_holds 162 = .ok (.iconst 1, 1) := by decide +kernel
theorem dX1_holds_163 : decode cX1_holds 163 = .ok (.iand, 1) := by decide +kernel
theorem dX1_holds_164 : decode cX1_holds 164 = .ok (.ifCond .eq 7, 3) := by decide +kernel
theorem dX1_holds_167 : decode cX1_holds 167 = .ok (.iconst 1, 1) := by decide +kernel
theorem dX1_holds_168 : decode cX1_holds 168 = .ok (.goto 4, 3) := by decide +kernel
theorem dX1_holds_171 : decode cX1_holds 171 = .ok (.iconst 0, 1) := by decide +kernel
theorem dX1_holds_172 : decode cX1_holds 172 = .ok (.ireturn, 1) := by decide +kernel
theorem dX1_valueOf_0 : decode cX1_valueOf 0 = .ok (.iload_n 0, 1) := by decide +kernel
theorem dX1_valueOf_1 : decode cX1_valueOf 1 = .ok (.tableswitch 40 0 3 #[31, 33, 35, 37], 31) := by decide +kernel
theorem dX1_valueOf_32 : decode cX1_valueOf 32 = .ok (.iload_n 1, 1) := by decide +kernel
theorem dX1_valueOf_33 : decode cX1_valueOf 33 = .ok (.ireturn, 1) := by decide +kernel
theorem dX1_valueOf_34 : decode cX1_valueOf 34 = .ok (.iload_n 2, 1) := by decide +kernel
theorem dX1_valueOf_35 : decode cX1_valueOf 35 = .ok (.ireturn, 1) := by decide +kernel
theorem dX1_valueOf_36 : decode cX1_valueOf 36 = .ok (.iload_n 3, 1) := by decide +kernel
theorem dX1_valueOf_37 : decode cX1_valueOf 37 = .ok (.ireturn, 1) := by decide +kernel
theorem dX1_valueOf_38 : decode cX1_valueOf 38 = .ok (.iload 4, 2) := by decide +kernel
theorem dX1_valueOf_40 : decode cX1_valueOf 40 = .ok (.ireturn, 1) := by decide +kernel
theorem dX1_valueOf_41 : decode cX1_valueOf 41 = .ok (.iload 5, 2) := by decide +kernel
theorem dX1_valueOf_43 : decode cX1_valueOf 43 = .ok (.ireturn, 1) := by decide +kernel
theorem dX1_passes_0 : decode cX1_passes 0 = .ok (.iload_n 1, 1) := by decide +kernel
theorem dX1_passes_1 : decode cX1_passes 1 = .ok (.lookupswitch 49 #[(0, 27), (1, 38)], 27) := by decide +kernel
theorem dX1_passes_28 : decode cX1_passes 28 = .ok (.iload_n 0, 1) := by decide +kernel
theorem dX1_passes_29 : decode cX1_passes 29 = .ok (.iload_n 2, 1) := by decide +kernel
theorem dX1_passes_30 : decode cX1_passes 30 = .ok (.if_icmp .ge 7, 3) := by decide +kernel
theorem dX1_passes_33 : decode cX1_passes 33 = .ok (.iconst 1, 1) := by decide +kernel
theorem dX1_passes_34 : decode cX1_passes 34 = .ok (.goto 4, 3) := by decide +kernel
theorem dX1_passes_37 : decode cX1_passes 37 = .ok (.iconst 0, 1) := by decide +kernel
theorem dX1_passes_38 : decode cX1_passes 38 = .ok (.ireturn, 1) := by decide +kernel
theorem dX1_passes_39 : decode cX1_passes 39 = .ok (.iload_n 0, 1) := by decide +kernel
theorem dX1_passes_40 : decode cX1_passes 40 = .ok (.iload_n 2, 1) := by decide +kernel
theorem dX1_passes_41 : decode cX1_passes 41 = .ok (.if_icmp .ne 7, 3) := by decide +kernel
theorem dX1_passes_44 : decode cX1_passes 44 = .ok (.iconst 1, 1) := by decide +kernel
theorem dX1_passes_45 : decode cX1_passes 45 = .ok (.goto 4, 3) := by decide +kernel
theorem dX1_passes_48 : decode cX1_passes 48 = .ok (.iconst 0, 1) := by decide +kernel
theorem dX1_passes_49 : decode cX1_passes 49 = .ok (.ireturn, 1) := by decide +kernel
theorem dX1_passes_50 : decode cX1_passes 50 = .ok (.iload_n 0, 1) := by decide +kernel
theorem dX1_passes_51 : decode cX1_passes 51 = .ok (.iload_n 2, 1) := by decide +kernel
theorem dX1_passes_52 : decode cX1_passes 52 = .ok (.if_icmp .le 7, 3) := by decide +kernel
theorem dX1_passes_55 : decode cX1_passes 55 = .ok (.iconst 1, 1) := by decide +kernel
theorem dX1_passes_56 : decode cX1_passes 56 = .ok (.goto 4, 3) := by decide +kernel
theorem dX1_passes_59 : decode cX1_passes 59 = .ok (.iconst 0, 1) := by decide +kernel
theorem dX1_passes_60 : decode cX1_passes 60 = .ok (.ireturn, 1) := by decide +kernel
theorem dX2_init_0 : decode cX2_init 0 = .ok (.aload_n 0, 1) := by decide +kernel
theorem dX2_init_1 : decode cX2_init 1 = .ok (.invokespecial 3, 3) := by decide +kernel
theorem dX2_init_4 : decode cX2_init 4 = .ok (.aload_n 0, 1) := by decide +kernel
theorem dX2_init_5 : decode cX2_init 5 = .ok (.bipush 10, 2) := by decide +kernel
theorem dX2_init_7 : decode cX2_init 7 = .ok (.newarray .long, 2) := by decide +kernel
theorem dX2_init_9 : decode cX2_init 9 = .ok (.putfield 9, 3) := by decide +kernel
theorem dX2_init_12 : decode cX2_init 12 = .ok (.return_, 1) := by decide +kernel
theorem dX2_start_0 : decode cX2_start 0 = .ok (.aload_n 0, 1) := by decide +kernel
theorem dX2_start_1 : decode cX2_start 1 = .ok (.getfield 9, 3) := by decide +kernel
theorem dX2_start_4 : decode cX2_start 4 = .ok (.lconst 0, 1) := by decide +kernel
theorem dX2_start_5 : decode cX2_start 5 = .ok (.invokestatic 15, 3) := by decide +kernel
theorem dX2_start_8 : decode cX2_start 8 = .ok (.aload_n 0, 1) := by decide +kernel
theorem dX2_start_9 : decode cX2_start 9 = .ok (.getfield 9, 3) := by decide +kernel
theorem dX2_start_12 : decode cX2_start 12 = .ok (.iconst 0, 1) := by decide +kernel
theorem dX2_start_13 : decode cX2_start 13 = .ok (.lconst 1, 1) := by decide +kernel
theorem dX2_start_14 : decode cX2_start 14 = .ok (.lastore, 1) := by decide +kernel
theorem dX2_start_15 : decode cX2_start 15 = .ok (.aload_n 0, 1) := by decide +kernel
theorem dX2_start_16 : decode cX2_start 16 = .ok (.iconst 0, 1) := by decide +kernel
theorem dX2_start_17 : decode cX2_start 17 = .ok (.putfield 21, 3) := by decide +kernel
theorem dX2_start_20 : decode cX2_start 20 = .ok (.aload_n 0, 1) := by decide +kernel
theorem dX2_start_21 : decode cX2_start 21 = .ok (.lconst 1, 1) := by decide +kernel
theorem dX2_start_22 : decode cX2_start 22 = .ok (.putfield 25, 3) := by decide +kernel
theorem dX2_start_25 : decode cX2_start 25 = .ok (.return_, 1) := by decide +kernel
theorem dX2_addFriday_0 : decode cX2_addFriday 0 = .ok (.aload_n 0, 1) := by decide +kernel
theorem dX2_addFriday_1 : decode cX2_addFriday 1 = .ok (.getfield 21, 3) := by decide +kernel
theorem dX2_addFriday_4 : decode cX2_addFriday 4 = .ok (.bipush 9, 2) := by decide +kernel
theorem dX2_addFriday_6 : decode cX2_addFriday 6 = .ok (.if_icmp .lt 4, 3) := by decide +kernel
theorem dX2_addFriday_9 : decode cX2_addFriday 9 = .ok (.return_, 1) := by decide +kernel
theorem dX2_addFriday_10 : decode cX2_addFriday 10 = .ok (.aload_n 0, 1) := by decide +kernel
theorem dX2_addFriday_11 : decode cX2_addFriday 11 = .ok (.dup, 1) := by decide +kernel
theorem dX2_addFriday_12 : decode cX2_addFriday 12 = .ok (.getfield 21, 3) := by decide +kernel
theorem dX2_addFriday_15 : decode cX2_addFriday 15 = .ok (.iconst 1, 1) := by decide +kernel
theorem dX2_addFriday_16 : decode cX2_addFriday 16 = .ok (.iadd, 1) := by decide +kernel
theorem dX2_addFriday_17 : decode cX2_addFriday 17 = .ok (.putfield 21, 3) := by decide +kernel
theorem dX2_addFriday_20 : decode cX2_addFriday 20 = .ok (.aload_n 0, 1) := by decide +kernel
theorem dX2_addFriday_21 : decode cX2_addFriday 21 = .ok (.getfield 21, 3) := by decide +kernel
theorem dX2_addFriday_24 : decode cX2_addFriday 24 = .ok (.istore_n 2, 1) := by decide +kernel
theorem dX2_addFriday_25 : decode cX2_addFriday 25 = .ok (.iload_n 2, 1) := by decide +kernel
theorem dX2_addFriday_26 : decode cX2_addFriday 26 = .ok (.ifCond .lt 49, 3) := by decide +kernel
theorem dX2_addFriday_29 : decode cX2_addFriday 29 = .ok (.iload_n 2, 1) := by decide +kernel
theorem dX2_addFriday_30 : decode cX2_addFriday 30 = .ok (.ifCond .ne 7, 3) := by decide +kernel
theorem dX2_addFriday_33 : decode cX2_addFriday 33 = .ok (.lconst 0, 1) := by decide +kernel
theorem dX2_addFriday_34 : decode cX2_addFriday 34 = .ok (.goto 14, 3) := by decide +kernel
theorem dX2_addFriday_37 : decode cX2_addFriday 37 = .ok (.aload_n 0, 1) := by decide +kernel
theorem dX2_addFriday_38 : decode cX2_addFriday 38 = .ok (.getfield 9, 3) := by decide +kernel
theorem dX2_addFriday_41 : decode cX2_addFriday 41 = .ok (.iload_n 2, 1) := by decide +kernel
theorem dX2_addFriday_42 : decode cX2_addFriday 42 = .ok (.iconst 1, 1) := by decide +kernel
theorem dX2_addFriday_43 : decode cX2_addFriday 43 = .ok (.isub, 1) := by decide +kernel
theorem dX2_addFriday_44 : decode cX2_addFriday 44 = .ok (.laload, 1) := by decide +kernel
theorem dX2_addFriday_45 : decode cX2_addFriday 45 = .ok (.iload_n 1, 1) := by decide +kernel
theorem dX2_addFriday_46 : decode cX2_addFriday 46 = .ok (.i2l, 1) := by decide +kernel
theorem dX2_addFriday_47 : decode cX2_addFriday 47 = .ok (.lmul, 1) := by decide +kernel
theorem dX2_addFriday_48 : decode cX2_addFriday 48 = .ok (.lstore_n 3, 1) := by decide +kernel
theorem dX2_addFriday_49 : decode cX2_addFriday 49 = .ok (.aload_n 0, 1) := by decide +kernel
theorem dX2_addFriday_50 : decode cX2_addFriday 50 = .ok (.getfield 9, 3) := by decide +kernel
theorem dX2_addFriday_53 : decode cX2_addFriday 53 = .ok (.iload_n 2, 1) := by decide +kernel
theorem dX2_addFriday_54 : decode cX2_addFriday 54 = .ok (.aload_n 0, 1) := by decide +kernel
theorem dX2_addFriday_55 : decode cX2_addFriday 55 = .ok (.getfield 9, 3) := by decide +kernel
theorem dX2_addFriday_58 : decode cX2_addFriday 58 = .ok (.iload_n 2, 1) := by decide +kernel
theorem dX2_addFriday_59 : decode cX2_addFriday 59 = .ok (.laload, 1) := by decide +kernel
theorem dX2_addFriday_60 : decode cX2_addFriday 60 = .ok (.bipush 100, 2) := by decide +kernel
theorem dX2_addFriday_62 : decode cX2_addFriday 62 = .ok (.iload_n 1, 1) := by decide +kernel
theorem dX2_addFriday_63 : decode cX2_addFriday 63 = .ok (.isub, 1) := by decide +kernel
theorem dX2_addFriday_64 : decode cX2_addFriday 64 = .ok (.i2l, 1) := by decide +kernel
theorem dX2_addFriday_65 : decode cX2_addFriday 65 = .ok (.lmul, 1) := by decide +kernel
theorem dX2_addFriday_66 : decode cX2_addFriday 66 = .ok (.lload_n 3, 1) := by decide +kernel
theorem dX2_addFriday_67 : decode cX2_addFriday 67 = .ok (.ladd, 1) := by decide +kernel
theorem dX2_addFriday_68 : decode cX2_addFriday 68 = .ok (.lastore, 1) := by decide +kernel
theorem dX2_addFriday_69 : decode cX2_addFriday 69 = .ok (.iinc 2 (-1), 3) := by decide +kernel
theorem dX2_addFriday_72 : decode cX2_addFriday 72 = .ok (.goto (-47), 3) := by decide +kernel
theorem dX2_addFriday_75 : decode cX2_addFriday 75 = .ok (.aload_n 0, 1) := by decide +kernel
theorem dX2_addFriday_76 : decode cX2_addFriday 76 = .ok (.dup, 1) := by decide +kernel
theorem dX2_addFriday_77 : decode cX2_addFriday 77 = .ok (.getfield 25, 3) := by decide +kernel
theorem dX2_addFriday_80 : decode cX2_addFriday 80 = .ok (.ldc2_w 29, 3) := by decide +kernel
theorem dX2_addFriday_83 : decode cX2_addFriday 83 = .ok (.lmul, 1) := by decide +kernel
theorem dX2_addFriday_84 : decode cX2_addFriday 84 = .ok (.putfield 25, 3) := by decide +kernel
theorem dX2_addFriday_87 : decode cX2_addFriday 87 = .ok (.return_, 1) := by decide +kernel
theorem dX2_atLeast_0 : decode cX2_atLeast 0 = .ok (.aload_n 0, 1) := by decide +kernel
theorem dX2_atLeast_1 : decode cX2_atLeast 1 = .ok (.lconst 0, 1) := by decide +kernel
theorem dX2_atLeast_2 : decode cX2_atLeast 2 = .ok (.putfield 31, 3) := by decide +kernel
theorem dX2_atLeast_5 : decode cX2_atLeast 5 = .ok (.iload_n 1, 1) := by decide +kernel
theorem dX2_atLeast_6 : decode cX2_atLeast 6 = .ok (.iconst 0, 1) := by decide +kernel
theorem dX2_atLeast_7 : decode cX2_atLeast 7 = .ok (.invokestatic 34, 3) := by decide +kernel
theorem dX2_atLeast_10 : decode cX2_atLeast 10 = .ok (.istore_n 2, 1) := by decide +kernel
theorem dX2_atLeast_11 : decode cX2_atLeast 11 = .ok (.iload_n 2, 1) := by decide +kernel
theorem dX2_atLeast_12 : decode cX2_atLeast 12 = .ok (.aload_n 0, 1) := by decide +kernel
theorem dX2_atLeast_13 : decode cX2_atLeast 13 = .ok (.getfield 21, 3) := by decide +kernel
theorem dX2_atLeast_16 : decode cX2_atLeast 16 = .ok (.if_icmp .gt 24, 3) := by decide +kernel
theorem dX2_atLeast_19 : decode cX2_atLeast 19 = .ok (.aload_n 0, 1) := by decide +kernel
theorem dX2_atLeast_20 : decode cX2_atLeast 20 = .ok (.dup, 1) := by decide +kernel
theorem dX2_atLeast_21 : decode cX2_atLeast 21 = .ok (.getfield 31, 3) := by decide +kernel
theorem dX2_atLeast_24 : decode cX2_atLeast 24 = .ok (.aload_n 0, 1) := by decide +kernel
theorem dX2_atLeast_25 : decode cX2_atLeast 25 = .ok (.getfield 9, 3) := by decide +kernel
theorem dX2_atLeast_28 : decode cX2_atLeast 28 = .ok (.iload_n 2, 1) := by decide +kernel
theorem dX2_atLeast_29 : decode cX2_atLeast 29 = .ok (.laload, 1) := by decide +kernel
theorem dX2_atLeast_30 : decode cX2_atLeast 30 = .ok (.ladd, 1) := by decide +kernel
theorem dX2_atLeast_31 : decode cX2_atLeast 31 = .ok (.putfield 31, 3) := by decide +kernel
theorem dX2_atLeast_34 : decode cX2_atLeast 34 = .ok (.iinc 2 1, 3) := by decide +kernel
theorem dX2_atLeast_37 : decode cX2_atLeast 37 = .ok (.goto (-26), 3) := by decide +kernel
theorem dX2_atLeast_40 : decode cX2_atLeast 40 = .ok (.return_, 1) := by decide +kernel
theorem dX2_multiply_0 : decode cX2_multiply 0 = .ok (.aload_n 0, 1) := by decide +kernel
theorem dX2_multiply_1 : decode cX2_multiply 1 = .ok (.aload_n 0, 1) := by decide +kernel
theorem dX2_multiply_2 : decode cX2_multiply 2 = .ok (.getfield 31, 3) := by decide +kernel
theorem dX2_multiply_5 : decode cX2_multiply 5 = .ok (.iload_n 1, 1) := by decide +kernel
theorem dX2_multiply_6 : decode cX2_multiply 6 = .ok (.i2l, 1) := by decide +kernel
theorem dX2_multiply_7 : decode cX2_multiply 7 = .ok (.lmul, 1) := by decide +kernel
theorem dX2_multiply_8 : decode cX2_multiply 8 = .ok (.aload_n 0, 1) := by decide +kernel
theorem dX2_multiply_9 : decode cX2_multiply 9 = .ok (.getfield 25, 3) := by decide +kernel
theorem dX2_multiply_12 : decode cX2_multiply 12 = .ok (.invokestatic 40, 3) := by decide +kernel
theorem dX2_multiply_15 : decode cX2_multiply 15 = .ok (.putfield 31, 3) := by decide +kernel
theorem dX2_multiply_18 : decode cX2_multiply 18 = .ok (.return_, 1) := by decide +kernel
theorem dX2_reduce_0 : decode cX2_reduce 0 = .ok (.aload_n 0, 1) := by decide +kernel
theorem dX2_reduce_1 : decode cX2_reduce 1 = .ok (.getfield 25, 3) := by decide +kernel
theorem dX2_reduce_4 : decode cX2_reduce 4 = .ok (.lstore_n 1, 1) := by decide +kernel
theorem dX2_reduce_5 : decode cX2_reduce 5 = .ok (.aload_n 0, 1) := by decide +kernel
theorem dX2_reduce_6 : decode cX2_reduce 6 = .ok (.getfield 31, 3) := by decide +kernel
theorem dX2_reduce_9 : decode cX2_reduce 9 = .ok (.lstore_n 3, 1) := by decide +kernel
theorem dX2_reduce_10 : decode cX2_reduce 10 = .ok (.iconst 0, 1) := by decide +kernel
theorem dX2_reduce_11 : decode cX2_reduce 11 = .ok (.istore 5, 2) := by decide +kernel
theorem dX2_reduce_13 : decode cX2_reduce 13 = .ok (.iload 5, 2) := by decide +kernel
theorem dX2_reduce_15 : decode cX2_reduce 15 = .ok (.sipush 200, 3) := by decide +kernel
theorem dX2_reduce_18 : decode cX2_reduce 18 = .ok (.if_icmp .ge 25, 3) := by decide +kernel
theorem dX2_reduce_21 : decode cX2_reduce 21 = .ok (.lload_n 3, 1) := by decide +kernel
theorem dX2_reduce_22 : decode cX2_reduce 22 = .ok (.lconst 0, 1) := by decide +kernel
theorem dX2_reduce_23 : decode cX2_reduce 23 = .ok (.lcmp, 1) := by decide +kernel
theorem dX2_reduce_24 : decode cX2_reduce 24 = .ok (.ifCond .eq 19, 3) := by decide +kernel
theorem dX2_reduce_27 : decode cX2_reduce 27 = .ok (.lload_n 1, 1) := by decide +kernel
theorem dX2_reduce_28 : decode cX2_reduce 28 = .ok (.lload_n 3, 1) := by decide +kernel
theorem dX2_reduce_29 : decode cX2_reduce 29 = .ok (.lrem, 1) := by decide +kernel
theorem dX2_reduce_30 : decode cX2_reduce 30 = .ok (.lstore 6, 2) := by decide +kernel
theorem dX2_reduce_32 : decode cX2_reduce 32 = .ok (.lload_n 3, 1) := by decide +kernel
theorem dX2_reduce_33 : decode cX2_reduce 33 = .ok (.lstore_n 1, 1) := by decide +kernel
theorem dX2_reduce_34 : decode cX2_reduce 34 = .ok (.lload 6, 2) := by decide +kernel
theorem dX2_reduce_36 : decode cX2_reduce 36 = .ok (.lstore_n 3, 1) := by decide +kernel
theorem dX2_reduce_37 : decode cX2_reduce 37 = .ok (.iinc 5 1, 3) := by decide +kernel
theorem dX2_reduce_40 : decode cX2_reduce 40 = .ok (.goto (-27), 3) := by decide +kernel
theorem dX2_reduce_43 : decode cX2_reduce 43 = .ok (.lload_n 1, 1) := by decide +kernel
theorem dX2_reduce_44 : decode cX2_reduce 44 = .ok (.lconst 0, 1) := by decide +kernel
theorem dX2_reduce_45 : decode cX2_reduce 45 = .ok (.lcmp, 1) := by decide +kernel
theorem dX2_reduce_46 : decode cX2_reduce 46 = .ok (.ifCond .eq 23, 3) := by decide +kernel
theorem dX2_reduce_49 : decode cX2_reduce 49 = .ok (.aload_n 0, 1) := by decide +kernel
theorem dX2_reduce_50 : decode cX2_reduce 50 = .ok (.dup, 1) := by decide +kernel
theorem dX2_reduce_51 : decode cX2_reduce 51 = .ok (.getfield 31, 3) := by decide +kernel
theorem dX2_reduce_54 : decode cX2_reduce 54 = .ok (.lload_n 1, 1) := by decide +kernel
theorem dX2_reduce_55 : decode cX2_reduce 55 = .ok (.ldiv, 1) := by decide +kernel
theorem dX2_reduce_56 : decode cX2_reduce 56 = .ok (.putfield 31, 3) := by decide +kernel
theorem dX2_reduce_59 : decode cX2_reduce 59 = .ok (.aload_n 0, 1) := by decide +kernel
theorem dX2_reduce_60 : decode cX2_reduce 60 = .ok (.dup, 1) := by decide +kernel
theorem dX2_reduce_61 : decode cX2_reduce 61 = .ok (.getfield 25, 3) := by decide +kernel
theorem dX2_reduce_64 : decode cX2_reduce 64 = .ok (.lload_n 1, 1) := by decide +kernel
theorem dX2_reduce_65 : decode cX2_reduce 65 = .ok (.ldiv, 1) := by decide +kernel
theorem dX2_reduce_66 : decode cX2_reduce 66 = .ok (.putfield 25, 3) := by decide +kernel
theorem dX2_reduce_69 : decode cX2_reduce 69 = .ok (.return_, 1) := by decide +kernel
theorem dX3_init_0 : decode cX3_init 0 = .ok (.aload_n 0, 1) := by decide +kernel
theorem dX3_init_1 : decode cX3_init 1 = .ok (.invokespecial 3, 3) := by decide +kernel
theorem dX3_init_4 : decode cX3_init 4 = .ok (.aload_n 0, 1) := by decide +kernel
theorem dX3_init_5 : decode cX3_init 5 = .ok (.bipush 64, 2) := by decide +kernel
theorem dX3_init_7 : decode cX3_init 7 = .ok (.newarray .int, 2) := by decide +kernel
theorem dX3_init_9 : decode cX3_init 9 = .ok (.putfield 9, 3) := by decide +kernel
theorem dX3_init_12 : decode cX3_init 12 = .ok (.aload_n 0, 1) := by decide +kernel
theorem dX3_init_13 : decode cX3_init 13 = .ok (.bipush 8, 2) := by decide +kernel
theorem dX3_init_15 : decode cX3_init 15 = .ok (.newarray .int, 2) := by decide +kernel
theorem dX3_init_17 : decode cX3_init 17 = .ok (.putfield 15, 3) := by decide +kernel
theorem dX3_init_20 : decode cX3_init 20 = .ok (.aload_n 0, 1) := by decide +kernel
theorem dX3_init_21 : decode cX3_init 21 = .ok (.bipush 8, 2) := by decide +kernel
theorem dX3_init_23 : decode cX3_init 23 = .ok (.newarray .int, 2) := by decide +kernel
theorem dX3_init_25 : decode cX3_init 25 = .ok (.putfield 18, 3) := by decide +kernel
theorem dX3_init_28 : decode cX3_init 28 = .ok (.aload_n 0, 1) := by decide +kernel
theorem dX3_init_29 : decode cX3_init 29 = .ok (.bipush 8, 2) := by decide +kernel
theorem dX3_init_31 : decode cX3_init 31 = .ok (.newarray .int, 2) := by decide +kernel
theorem dX3_init_33 : decode cX3_init 33 = .ok (.putfield 21, 3) := by decide +kernel
theorem dX3_init_36 : decode cX3_init 36 = .ok (.aload_n 0, 1) := by decide +kernel
theorem dX3_init_37 : decode cX3_init 37 = .ok (.bipush 80, 2) := by decide +kernel
theorem dX3_init_39 : decode cX3_init 39 = .ok (.newarray .int, 2) := by decide +kernel
theorem dX3_init_41 : decode cX3_init 41 = .ok (.putfield 24, 3) := by decide +kernel
theorem dX3_init_44 : decode cX3_init 44 = .ok (.aload_n 0, 1) := by decide +kernel
theorem dX3_init_45 : decode cX3_init 45 = .ok (.bipush 10, 2) := by decide +kernel
theorem dX3_init_47 : decode cX3_init 47 = .ok (.newarray .int, 2) := by decide +kernel
theorem dX3_init_49 : decode cX3_init 49 = .ok (.putfield 27, 3) := by decide +kernel
theorem dX3_init_52 : decode cX3_init 52 = .ok (.return_, 1) := by decide +kernel
theorem dX3_take_0 : decode cX3_take 0 = .ok (.aload_n 0, 1) := by decide +kernel
theorem dX3_take_1 : decode cX3_take 1 = .ok (.iload_n 2, 1) := by decide +kernel
theorem dX3_take_2 : decode cX3_take 2 = .ok (.putfield 30, 3) := by decide +kernel
theorem dX3_take_5 : decode cX3_take 5 = .ok (.aload_n 0, 1) := by decide +kernel
theorem dX3_take_6 : decode cX3_take 6 = .ok (.aload_n 1, 1) := by decide +kernel
theorem dX3_take_7 : decode cX3_take 7 = .ok (.getfield 34, 3) := by decide +kernel
theorem dX3_take_10 : decode cX3_take 10 = .ok (.invokevirtual 40, 3) := by decide +kernel
theorem dX3_take_13 : decode cX3_take 13 = .ok (.putfield 46, 3) := by decide +kernel
theorem dX3_take_16 : decode cX3_take 16 = .ok (.iconst 0, 1) := by decide +kernel
theorem dX3_take_17 : decode cX3_take 17 = .ok (.istore_n 3, 1) := by decide +kernel
theorem dX3_take_18 : decode cX3_take 18 = .ok (.iload_n 3, 1) := by decide +kernel
theorem dX3_take_19 : decode cX3_take 19 = .ok (.iload_n 2, 1) := by decide +kernel
theorem dX3_take_20 : decode cX3_take 20 = .ok (.if_icmp .ge 83, 3) := by decide +kernel
theorem dX3_take_23 : decode cX3_take 23 = .ok (.aload_n 0, 1) := by decide +kernel
theorem dX3_take_24 : decode cX3_take 24 = .ok (.getfield 15, 3) := by decide +kernel
theorem dX3_take_27 : decode cX3_take 27 = .ok (.iload_n 3, 1) := by decide +kernel
theorem dX3_take_28 : decode cX3_take 28 = .ok (.aload_n 1, 1) := by decide +kernel
theorem dX3_take_29 : decode cX3_take 29 = .ok (.getfield 49, 3) := by decide +kernel
theorem dX3_take_32 : decode cX3_take 32 = .ok (.iload_n 3, 1) := by decide +kernel
theorem dX3_take_33 : decode cX3_take 33 = .ok (.iaload, 1) := by decide +kernel
theorem dX3_take_34 : decode cX3_take 34 = .ok (.ifCond .ge 8, 3) := by decide +kernel
theorem dX3_take_37 : decode cX3_take 37 = .ok (.ldc 50, 2) := by decide +kernel
theorem dX3_take_39 : decode cX3_take 39 = .ok (.goto 9, 3) := by decide +kernel
theorem dX3_take_42 : decode cX3_take 42 = .ok (.aload_n 1, 1) := by decide +kernel
theorem dX3_take_43 : decode cX3_take 43 = .ok (.getfield 49, 3) := by decide +kernel
theorem dX3_take_46 : decode cX3_take 46 = .ok (.iload_n 3, 1) := by decide +kernel
theorem dX3_take_47 : decode cX3_take 47 = .ok (.iaload, 1) := by decide +kernel
theorem dX3_take_48 : decode cX3_take 48 = .ok (.iastore, 1) := by decide +kernel
theorem dX3_take_49 : decode cX3_take 49 = .ok (.iconst 0, 1) := by decide +kernel
theorem dX3_take_50 : decode cX3_take 50 = .ok (.istore 4, 2) := by decide +kernel
theorem dX3_take_52 : decode cX3_take 52 = .ok (.iload 4, 2) := by decide +kernel
theorem dX3_take_54 : decode cX3_take 54 = .ok (.iload_n 2, 1) := by decide +kernel
theorem dX3_take_55 : decode cX3_take 55 = .ok (.if_icmp .ge 42, 3) := by decide +kernel
theorem dX3_take_58 : decode cX3_take 58 = .ok (.aload_n 1, 1) := by decide +kernel
theorem dX3_take_59 : decode cX3_take 59 = .ok (.iload_n 3, 1) := by decide +kernel
theorem dX3_take_60 : decode cX3_take 60 = .ok (.iload 4, 2) := by decide +kernel
theorem dX3_take_62 : decode cX3_take 62 = .ok (.invokevirtual 51, 3) := by decide +kernel
theorem dX3_take_65 : decode cX3_take 65 = .ok (.istore 5, 2) := by decide +kernel
theorem dX3_take_67 : decode cX3_take 67 = .ok (.aload_n 0, 1) := by decide +kernel
theorem dX3_take_68 : decode cX3_take 68 = .ok (.getfield 9, 3) := by decide +kernel
theorem dX3_take_71 : decode cX3_take 71 = .ok (.iload_n 3, 1) := by decide +kernel
theorem dX3_take_72 : decode cX3_take 72 = .ok (.bipush 8, 2) := by decide +kernel
theorem dX3_take_74 : decode cX3_take 74 = .ok (.imul, 1) := by decide +kernel
theorem dX3_take_75 : decode cX3_take 75 = .ok (.iload 4, 2) := by decide +kernel
theorem dX3_take_77 : decode cX3_take 77 = .ok (.iadd, 1) := by decide +kernel
theorem dX3_take_78 : decode cX3_take 78 = .ok (.iload 5, 2) := by decide +kernel
theorem dX3_take_80 : decode cX3_take 80 = .ok (.ifCond .ge 8, 3) := by decide +kernel
theorem dX3_take_83 : decode cX3_take 83 = .ok (.ldc 50, 2) := by decide +kernel
theorem dX3_take_85 : decode cX3_take 85 = .ok (.goto 5, 3) := by decide +kernel
theorem dX3_take_88 : decode cX3_take 88 = .ok (.iload 5, 2) := by decide +kernel
theorem dX3_take_90 : decode cX3_take 90 = .ok (.iastore, 1) := by decide +kernel
theorem dX3_take_91 : decode cX3_take 91 = .ok (.iinc 4 1, 3) := by decide +kernel
theorem dX3_take_94 : decode cX3_take 94 = .ok (.goto (-42), 3) := by decide +kernel
theorem dX3_take_97 : decode cX3_take 97 = .ok (.iinc 3 1, 3) := by decide +kernel
theorem dX3_take_100 : decode cX3_take 100 = .ok (.goto (-82), 3) := by decide +kernel
theorem dX3_take_103 : decode cX3_take 103 = .ok (.return_, 1) := by decide +kernel
theorem dX3_run_0 : decode cX3_run 0 = .ok (.aload_n 0, 1) := by decide +kernel
theorem dX3_run_1 : decode cX3_run 1 = .ok (.getfield 15, 3) := by decide +kernel
theorem dX3_run_4 : decode cX3_run 4 = .ok (.iconst 0, 1) := by decide +kernel
theorem dX3_run_5 : decode cX3_run 5 = .ok (.aload_n 0, 1) := by decide +kernel
theorem dX3_run_6 : decode cX3_run 6 = .ok (.getfield 18, 3) := by decide +kernel
theorem dX3_run_9 : decode cX3_run 9 = .ok (.iconst 0, 1) := by decide +kernel
theorem dX3_run_10 : decode cX3_run 10 = .ok (.bipush 8, 2) := by decide +kernel
theorem dX3_run_12 : decode cX3_run 12 = .ok (.invokestatic 55, 3) := by decide +kernel
theorem dX3_run_15 : decode cX3_run 15 = .ok (.iconst 1, 1) := by decide +kernel
theorem dX3_run_16 : decode cX3_run 16 = .ok (.istore_n 2, 1) := by decide +kernel
theorem dX3_run_17 : decode cX3_run 17 = .ok (.iconst 0, 1) := by decide +kernel
theorem dX3_run_18 : decode cX3_run 18 = .ok (.istore_n 3, 1) := by decide +kernel
theorem dX3_run_19 : decode cX3_run 19 = .ok (.iload_n 3, 1) := by decide +kernel
theorem dX3_run_20 : decode cX3_run 20 = .ok (.aload_n 0, 1) := by decide +kernel
theorem dX3_run_21 : decode cX3_run 21 = .ok (.getfield 46, 3) := by decide +kernel
theorem dX3_run_24 : decode cX3_run 24 = .ok (.if_icmp .ge 19, 3) := by decide +kernel
theorem dX3_run_27 : decode cX3_run 27 = .ok (.iload_n 2, 1) := by decide +kernel
theorem dX3_run_28 : decode cX3_run 28 = .ok (.ifCond .eq 15, 3) := by decide +kernel
theorem dX3_run_31 : decode cX3_run 31 = .ok (.aload_n 0, 1) := by decide +kernel
theorem dX3_run_32 : decode cX3_run 32 = .ok (.iload_n 1, 1) := by decide +kernel
theorem dX3_run_33 : decode cX3_run 33 = .ok (.invokevirtual 61, 3) := by decide +kernel
theorem dX3_run_36 : decode cX3_run 36 = .ok (.istore_n 2, 1) := by decide +kernel
theorem dX3_run_37 : decode cX3_run 37 = .ok (.iinc 3 1, 3) := by decide +kernel
theorem dX3_run_40 : decode cX3_run 40 = .ok (.goto (-21), 3) := by decide +kernel
theorem dX3_run_43 : decode cX3_run 43 = .ok (.return_, 1) := by decide +kernel
theorem dX3_runStep_0 : decode cX3_runStep 0 = .ok (.aload_n 0, 1) := by decide +kernel
theorem dX3_runStep_1 : decode cX3_runStep 1 = .ok (.getfield 18, 3) := by decide +kernel
theorem dX3_runStep_4 : decode cX3_runStep 4 = .ok (.iconst 0, 1) := by decide +kernel
theorem dX3_runStep_5 : decode cX3_runStep 5 = .ok (.aload_n 0, 1) := by decide +kernel
theorem dX3_runStep_6 : decode cX3_runStep 6 = .ok (.getfield 21, 3) := by decide +kernel
theorem dX3_runStep_9 : decode cX3_runStep 9 = .ok (.iconst 0, 1) := by decide +kernel
theorem dX3_runStep_10 : decode cX3_runStep 10 = .ok (.bipush 8, 2) := by decide +kernel
theorem dX3_runStep_12 : decode cX3_runStep 12 = .ok (.invokestatic 55, 3) := by decide +kernel
theorem dX3_runStep_15 : decode cX3_runStep 15 = .ok (.iconst 0, 1) := by decide +kernel
theorem dX3_runStep_16 : decode cX3_runStep 16 = .ok (.istore_n 2, 1) := by decide +kernel
theorem dX3_runStep_17 : decode cX3_runStep 17 = .ok (.iconst 0, 1) := by decide +kernel
theorem dX3_runStep_18 : decode cX3_runStep 18 = .ok (.istore_n 3, 1) := by decide +kernel
theorem dX3_runStep_19 : decode cX3_runStep 19 = .ok (.iload_n 3, 1) := by decide +kernel
theorem dX3_runStep_20 : decode cX3_runStep 20 = .ok (.aload_n 0, 1) := by decide +kernel
theorem dX3_runStep_21 : decode cX3_runStep 21 = .ok (.getfield 30, 3) := by decide +kernel
theorem dX3_runStep_24 : decode cX3_runStep 24 = .ok (.if_icmp .ge 93, 3) := by decide +kernel
theorem dX3_runStep_27 : decode cX3_runStep 27 = .ok (.iload_n 1, 1) := by decide +kernel
theorem dX3_runStep_28 : decode cX3_runStep 28 = .ok (.iload_n 3, 1) := by decide +kernel
theorem dX3_runStep_29 : decode cX3_runStep 29 = .ok (.ishr, 1) := by decide +kernel
theorem dX3_runStep_30 : decode cX3_runStep 30 = .ok (.iconst 1, 1) := by decide +kernel
theorem dX3_runStep_31 : decode cX3_runStep 31 = .ok (.iand, 1) := by decide +kernel
theorem dX3_runStep_32 : decode cX3_runStep 32 = .ok (.ifCond .ne 79, 3) := by decide +kernel
theorem dX3_runStep_35 : decode cX3_runStep 35 = .ok (.aload_n 0, 1) := by decide +kernel
theorem dX3_runStep_36 : decode cX3_runStep 36 = .ok (.getfield 21, 3) := by decide +kernel
theorem dX3_runStep_39 : decode cX3_runStep 39 = .ok (.iload_n 3, 1) := by decide +kernel
theorem dX3_runStep_40 : decode cX3_runStep 40 = .ok (.iaload, 1) := by decide +kernel
theorem dX3_runStep_41 : decode cX3_runStep 41 = .ok (.ldc 50, 2) := by decide +kernel
theorem dX3_runStep_43 : decode cX3_runStep 43 = .ok (.if_icmp .lt 6, 3) := by decide +kernel
theorem dX3_runStep_46 : decode cX3_runStep 46 = .ok (.goto 65, 3) := by decide +kernel
theorem dX3_runStep_49 : decode cX3_runStep 49 = .ok (.iconst 0, 1) := by decide +kernel
theorem dX3_runStep_50 : decode cX3_runStep 50 = .ok (.istore 4, 2) := by decide +kernel
theorem dX3_runStep_52 : decode cX3_runStep 52 = .ok (.iload 4, 2) := by decide +kernel
theorem dX3_runStep_54 : decode cX3_runStep 54 = .ok (.aload_n 0, 1) := by decide +kernel
theorem dX3_runStep_55 : decode cX3_runStep 55 = .ok (.getfield 30, 3) := by decide +kernel
theorem dX3_runStep_58 : decode cX3_runStep 58 = .ok (.if_icmp .ge 53, 3) := by decide +kernel
theorem dX3_runStep_61 : decode cX3_runStep 61 = .ok (.aload_n 0, 1) := by decide +kernel
theorem dX3_runStep_62 : decode cX3_runStep 62 = .ok (.getfield 21, 3) := by decide +kernel
theorem dX3_runStep_65 : decode cX3_runStep 65 = .ok (.iload_n 3, 1) := by decide +kernel
theorem dX3_runStep_66 : decode cX3_runStep 66 = .ok (.iaload, 1) := by decide +kernel
theorem dX3_runStep_67 : decode cX3_runStep 67 = .ok (.aload_n 0, 1) := by decide +kernel
theorem dX3_runStep_68 : decode cX3_runStep 68 = .ok (.getfield 9, 3) := by decide +kernel
theorem dX3_runStep_71 : decode cX3_runStep 71 = .ok (.iload_n 3, 1) := by decide +kernel
theorem dX3_runStep_72 : decode cX3_runStep 72 = .ok (.bipush 8, 2) := by decide +kernel
theorem dX3_runStep_74 : decode cX3_runStep 74 = .ok (.imul, 1) := by decide +kernel
theorem dX3_runStep_75 : decode cX3_runStep 75 = .ok (.iload 4, 2) := by decide +kernel
theorem dX3_runStep_77 : decode cX3_runStep 77 = .ok (.iadd, 1) := by decide +kernel
theorem dX3_runStep_78 : decode cX3_runStep 78 = .ok (.iaload, 1) := by decide +kernel
theorem dX3_runStep_79 : decode cX3_runStep 79 = .ok (.iadd, 1) := by decide +kernel
theorem dX3_runStep_80 : decode cX3_runStep 80 = .ok (.istore 5, 2) := by decide +kernel
theorem dX3_runStep_82 : decode cX3_runStep 82 = .ok (.iload 5, 2) := by decide +kernel
theorem dX3_runStep_84 : decode cX3_runStep 84 = .ok (.aload_n 0, 1) := by decide +kernel
theorem dX3_runStep_85 : decode cX3_runStep 85 = .ok (.getfield 18, 3) := by decide +kernel
theorem dX3_runStep_88 : decode cX3_runStep 88 = .ok (.iload 4, 2) := by decide +kernel
theorem dX3_runStep_90 : decode cX3_runStep 90 = .ok (.iaload, 1) := by decide +kernel
theorem dX3_runStep_91 : decode cX3_runStep 91 = .ok (.if_icmp .ge 14, 3) := by decide +kernel
theorem dX3_runStep_94 : decode cX3_runStep 94 = .ok (.aload_n 0, 1) := by decide +kernel
theorem dX3_runStep_95 : decode cX3_runStep 95 = .ok (.getfield 18, 3) := by decide +kernel
theorem dX3_runStep_98 : decode cX3_runStep 98 = .ok (.iload 4, 2) := by decide +kernel
theorem dX3_runStep_100 : decode cX3_runStep 100 = .ok (.iload 5, 2) := by decide +kernel
theorem dX3_runStep_102 : decode cX3_runStep 102 = .ok (.iastore, 1) := by decide +kernel
theorem dX3_runStep_103 : decode cX3_runStep 103 = .ok (.iconst 1, 1) := by decide +kernel
theorem dX3_runStep_104 : decode cX3_runStep 104 = .ok (.istore_n 2, 1) := by decide +kernel
theorem dX3_runStep_105 : decode cX3_runStep 105 = .ok (.iinc 4 1, 3) := by decide +kernel
theorem dX3_runStep_108 : decode cX3_runStep 108 = .ok (.goto (-56), 3) := by decide +kernel
theorem dX3_runStep_111 : decode cX3_runStep 111 = .ok (.iinc 3 1, 3) := by decide +kernel
theorem dX3_runStep_114 : decode cX3_runStep 114 = .ok (.goto (-95), 3) := by decide +kernel
theorem dX3_runStep_117 : decode cX3_runStep 117 = .ok (.iload_n 2, 1) := by decide +kernel
theorem dX3_runStep_118 : decode cX3_runStep 118 = .ok (.ireturn, 1) := by decide +kernel
theorem dX3_hourOf_0 : decode cX3_hourOf 0 = .ok (.aload_n 0, 1) := by decide +kernel
theorem dX3_hourOf_1 : decode cX3_hourOf 1 = .ok (.getfield 18, 3) := by decide +kernel
theorem dX3_hourOf_4 : decode cX3_hourOf 4 = .ok (.iload_n 1, 1) := by decide +kernel
theorem dX3_hourOf_5 : decode cX3_hourOf 5 = .ok (.iaload, 1) := by decide +kernel
theorem dX3_hourOf_6 : decode cX3_hourOf 6 = .ok (.ldc 50, 2) := by decide +kernel
theorem dX3_hourOf_8 : decode cX3_hourOf 8 = .ok (.if_icmp .ge 12, 3) := by decide +kernel
theorem dX3_hourOf_11 : decode cX3_hourOf 11 = .ok (.aload_n 0, 1) := by decide +kernel
theorem dX3_hourOf_12 : decode cX3_hourOf 12 = .ok (.getfield 18, 3) := by decide +kernel
theorem dX3_hourOf_15 : decode cX3_hourOf 15 = .ok (.iload_n 1, 1) := by decide +kernel
theorem dX3_hourOf_16 : decode cX3_hourOf 16 = .ok (.iaload, 1) := by decide +kernel
theorem dX3_hourOf_17 : decode cX3_hourOf 17 = .ok (.goto 5, 3) := by decide +kernel
theorem dX3_hourOf_20 : decode cX3_hourOf 20 = .ok (.bipush (-5), 2) := by decide +kernel
theorem dX3_hourOf_22 : decode cX3_hourOf 22 = .ok (.ireturn, 1) := by decide +kernel
theorem dX3_knownBy_0 : decode cX3_knownBy 0 = .ok (.aload_n 0, 1) := by decide +kernel
theorem dX3_knownBy_1 : decode cX3_knownBy 1 = .ok (.getfield 18, 3) := by decide +kernel
theorem dX3_knownBy_4 : decode cX3_knownBy 4 = .ok (.iload_n 1, 1) := by decide +kernel
theorem dX3_knownBy_5 : decode cX3_knownBy 5 = .ok (.iaload, 1) := by decide +kernel
theorem dX3_knownBy_6 : decode cX3_knownBy 6 = .ok (.iload_n 2, 1) := by decide +kernel
theorem dX3_knownBy_7 : decode cX3_knownBy 7 = .ok (.if_icmp .gt 7, 3) := by decide +kernel
theorem dX3_knownBy_10 : decode cX3_knownBy 10 = .ok (.iconst 1, 1) := by decide +kernel
theorem dX3_knownBy_11 : decode cX3_knownBy 11 = .ok (.goto 4, 3) := by decide +kernel
theorem dX3_knownBy_14 : decode cX3_knownBy 14 = .ok (.iconst 0, 1) := by decide +kernel
theorem dX3_knownBy_15 : decode cX3_knownBy 15 = .ok (.ireturn, 1) := by decide +kernel
theorem dX3_knownByAll_0 : decode cX3_knownByAll 0 = .ok (.iconst 0, 1) := by decide +kernel
theorem dX3_knownByAll_1 : decode cX3_knownByAll 1 = .ok (.istore_n 2, 1) := by decide +kernel
theorem dX3_knownByAll_2 : decode cX3_knownByAll 2 = .ok (.iconst 0, 1) := by decide +kernel
theorem dX3_knownByAll_3 : decode cX3_knownByAll 3 = .ok (.istore_n 3, 1) := by decide +kernel
theorem dX3_knownByAll_4 : decode cX3_knownByAll 4 = .ok (.iload_n 3, 1) := by decide +kernel
theorem dX3_knownByAll_5 : decode cX3_knownByAll 5 = .ok (.aload_n 0, 1) := by decide +kernel
theorem dX3_knownByAll_6 : decode cX3_knownByAll 6 = .ok (.getfield 30, 3) := by decide +kernel
theorem dX3_knownByAll_9 : decode cX3_knownByAll 9 = .ok (.if_icmp .ge 24, 3) := by decide +kernel
theorem dX3_knownByAll_12 : decode cX3_knownByAll 12 = .ok (.aload_n 0, 1) := by decide +kernel
theorem dX3_knownByAll_13 : decode cX3_knownByAll 13 = .ok (.iload_n 3, 1) := by decide +kernel
theorem dX3_knownByAll_14 : decode cX3_knownByAll 14 = .ok (.iload_n 1, 1) := by decide +kernel
theorem dX3_knownByAll_15 : decode cX3_knownByAll 15 = .ok (.invokevirtual 65, 3) := by decide +kernel
theorem dX3_knownByAll_18 : decode cX3_knownByAll 18 = .ok (.ifCond .eq 9, 3) := by decide +kernel
theorem dX3_knownByAll_21 : decode cX3_knownByAll 21 = .ok (.iload_n 2, 1) := by decide +kernel
theorem dX3_knownByAll_22 : decode cX3_knownByAll 22 = .ok (.iconst 1, 1) := by decide +kernel
theorem dX3_knownByAll_23 : decode cX3_knownByAll 23 = .ok (.iload_n 3, 1) := by decide +kernel
theorem dX3_knownByAll_24 : decode cX3_knownByAll 24 = .ok (.ishl, 1) := by decide +kernel
theorem dX3_knownByAll_25 : decode cX3_knownByAll 25 = .ok (.ior, 1) := by decide +kernel
theorem dX3_knownByAll_26 : decode cX3_knownByAll 26 = .ok (.istore_n 2, 1) := by decide +kernel
theorem dX3_knownByAll_27 : decode cX3_knownByAll 27 = .ok (.iinc 3 1, 3) := by decide +kernel
theorem dX3_knownByAll_30 : decode cX3_knownByAll 30 = .ok (.goto (-26), 3) := by decide +kernel
theorem dX3_knownByAll_33 : decode cX3_knownByAll 33 = .ok (.iload_n 2, 1) := by decide +kernel
theorem dX3_knownByAll_34 : decode cX3_knownByAll 34 = .ok (.ireturn, 1) := by decide +kernel
theorem dX3_rowTo_0 : decode cX3_rowTo 0 = .ok (.aload_n 0, 1) := by decide +kernel
theorem dX3_rowTo_1 : decode cX3_rowTo 1 = .ok (.iconst 0, 1) := by decide +kernel
theorem dX3_rowTo_2 : decode cX3_rowTo 2 = .ok (.invokevirtual 69, 3) := by decide +kernel
theorem dX3_rowTo_5 : decode cX3_rowTo 5 = .ok (.aload_n 0, 1) := by decide +kernel
theorem dX3_rowTo_6 : decode cX3_rowTo 6 = .ok (.getfield 18, 3) := by decide +kernel
theorem dX3_rowTo_9 : decode cX3_rowTo 9 = .ok (.iload_n 1, 1) := by decide +kernel
theorem dX3_rowTo_10 : decode cX3_rowTo 10 = .ok (.iaload, 1) := by decide +kernel
theorem dX3_rowTo_11 : decode cX3_rowTo 11 = .ok (.istore_n 2, 1) := by decide +kernel
theorem dX3_rowTo_12 : decode cX3_rowTo 12 = .ok (.iload_n 2, 1) := by decide +kernel
theorem dX3_rowTo_13 : decode cX3_rowTo 13 = .ok (.ldc 50, 2) := by decide +kernel
theorem dX3_rowTo_15 : decode cX3_rowTo 15 = .ok (.if_icmp .lt 5, 3) := by decide +kernel
theorem dX3_rowTo_18 : decode cX3_rowTo 18 = .ok (.iconst 0, 1) := by decide +kernel
theorem dX3_rowTo_19 : decode cX3_rowTo 19 = .ok (.ireturn, 1) := by decide +kernel
theorem dX3_rowTo_20 : decode cX3_rowTo 20 = .ok (.aload_n 0, 1) := by decide +kernel
theorem dX3_rowTo_21 : decode cX3_rowTo 21 = .ok (.iload_n 1, 1) := by decide +kernel
theorem dX3_rowTo_22 : decode cX3_rowTo 22 = .ok (.invokevirtual 73, 3) := by decide +kernel
theorem dX3_rowTo_25 : decode cX3_rowTo 25 = .ok (.iconst 0, 1) := by decide +kernel
theorem dX3_rowTo_26 : decode cX3_rowTo 26 = .ok (.istore_n 3, 1) := by decide +kernel
theorem dX3_rowTo_27 : decode cX3_rowTo 27 = .ok (.iload_n 3, 1) := by decide +kernel
theorem dX3_rowTo_28 : decode cX3_rowTo 28 = .ok (.aload_n 0, 1) := by decide +kernel
theorem dX3_rowTo_29 : decode cX3_rowTo 29 = .ok (.getfield 46, 3) := by decide +kernel
theorem dX3_rowTo_32 : decode cX3_rowTo 32 = .ok (.if_icmp .gt 62, 3) := by decide +kernel
theorem dX3_rowTo_35 : decode cX3_rowTo 35 = .ok (.iconst 0, 1) := by decide +kernel
theorem dX3_rowTo_36 : decode cX3_rowTo 36 = .ok (.istore 4, 2) := by decide +kernel
theorem dX3_rowTo_38 : decode cX3_rowTo 38 = .ok (.iload 4, 2) := by decide +kernel
theorem dX3_rowTo_40 : decode cX3_rowTo 40 = .ok (.aload_n 0, 1) := by decide +kernel
theorem dX3_rowTo_41 : decode cX3_rowTo 41 = .ok (.getfield 30, 3) := by decide +kernel
theorem dX3_rowTo_44 : decode cX3_rowTo 44 = .ok (.if_icmp .ge 44, 3) := by decide +kernel
theorem dX3_rowTo_47 : decode cX3_rowTo 47 = .ok (.aload_n 0, 1) := by decide +kernel
theorem dX3_rowTo_48 : decode cX3_rowTo 48 = .ok (.getfield 15, 3) := by decide +kernel
theorem dX3_rowTo_51 : decode cX3_rowTo 51 = .ok (.iload 4, 2) := by decide +kernel
theorem dX3_rowTo_53 : decode cX3_rowTo 53 = .ok (.iaload, 1) := by decide +kernel
theorem dX3_rowTo_54 : decode cX3_rowTo 54 = .ok (.aload_n 0, 1) := by decide +kernel
theorem dX3_rowTo_55 : decode cX3_rowTo 55 = .ok (.getfield 24, 3) := by decide +kernel
theorem dX3_rowTo_58 : decode cX3_rowTo 58 = .ok (.iload_n 3, 1) := by decide +kernel
theorem dX3_rowTo_59 : decode cX3_rowTo 59 = .ok (.bipush 8, 2) := by decide +kernel
theorem dX3_rowTo_61 : decode cX3_rowTo 61 = .ok (.imul, 1) := by decide +kernel
theorem dX3_rowTo_62 : decode cX3_rowTo 62 = .ok (.iload 4, 2) := by decide +kernel
theorem dX3_rowTo_64 : decode cX3_rowTo 64 = .ok (.iadd, 1) := by decide +kernel
theorem dX3_rowTo_65 : decode cX3_rowTo 65 = .ok (.iaload, 1) := by decide +kernel
theorem dX3_rowTo_66 : decode cX3_rowTo 66 = .ok (.iadd, 1) := by decide +kernel
theorem dX3_rowTo_67 : decode cX3_rowTo 67 = .ok (.iload_n 2, 1) := by decide +kernel
theorem dX3_rowTo_68 : decode cX3_rowTo 68 = .ok (.if_icmp .ne 14, 3) := by decide +kernel
theorem dX3_rowTo_71 : decode cX3_rowTo 71 = .ok (.aload_n 0, 1) := by decide +kernel
theorem dX3_rowTo_72 : decode cX3_rowTo 72 = .ok (.iload 4, 2) := by decide +kernel
theorem dX3_rowTo_74 : decode cX3_rowTo 74 = .ok (.iload_n 3, 1) := by decide +kernel
theorem dX3_rowTo_75 : decode cX3_rowTo 75 = .ok (.invokevirtual 76, 3) := by decide +kernel
theorem dX3_rowTo_78 : decode cX3_rowTo 78 = .ok (.iload_n 3, 1) := by decide +kernel
theorem dX3_rowTo_79 : decode cX3_rowTo 79 = .ok (.iconst 1, 1) := by decide +kernel
theorem dX3_rowTo_80 : decode cX3_rowTo 80 = .ok (.iadd, 1) := by decide +kernel
theorem dX3_rowTo_81 : decode cX3_rowTo 81 = .ok (.ireturn, 1) := by decide +kernel
theorem dX3_rowTo_82 : decode cX3_rowTo 82 = .ok (.iinc 4 1, 3) := by decide +kernel
theorem dX3_rowTo_85 : decode cX3_rowTo 85 = .ok (.goto (-47), 3) := by decide +kernel
theorem dX3_rowTo_88 : decode cX3_rowTo 88 = .ok (.iinc 3 1, 3) := by decide +kernel
theorem dX3_rowTo_91 : decode cX3_rowTo 91 = .ok (.goto (-64), 3) := by decide +kernel
theorem dX3_rowTo_94 : decode cX3_rowTo 94 = .ok (.iconst 0, 1) := by decide +kernel
theorem dX3_rowTo_95 : decode cX3_rowTo 95 = .ok (.ireturn, 1) := by decide +kernel
theorem dX3_lookBack_0 : decode cX3_lookBack 0 = .ok (.aload_n 0, 1) := by decide +kernel
theorem dX3_lookBack_1 : decode cX3_lookBack 1 = .ok (.getfield 24, 3) := by decide +kernel
theorem dX3_lookBack_4 : decode cX3_lookBack 4 = .ok (.ldc 50, 2) := by decide +kernel
theorem dX3_lookBack_6 : decode cX3_lookBack 6 = .ok (.invokestatic 80, 3) := by decide +kernel
theorem dX3_lookBack_9 : decode cX3_lookBack 9 = .ok (.aload_n 0, 1) := by decide +kernel
theorem dX3_lookBack_10 : decode cX3_lookBack 10 = .ok (.getfield 24, 3) := by decide +kernel
theorem dX3_lookBack_13 : decode cX3_lookBack 13 = .ok (.iload_n 1, 1) := by decide +kernel
theorem dX3_lookBack_14 : decode cX3_lookBack 14 = .ok (.iconst 0, 1) := by decide +kernel
theorem dX3_lookBack_15 : decode cX3_lookBack 15 = .ok (.iastore, 1) := by decide +kernel
theorem dX3_lookBack_16 : decode cX3_lookBack 16 = .ok (.iconst 1, 1) := by decide +kernel
theorem dX3_lookBack_17 : decode cX3_lookBack 17 = .ok (.istore_n 2, 1) := by decide +kernel
theorem dX3_lookBack_18 : decode cX3_lookBack 18 = .ok (.iload_n 2, 1) := by decide +kernel
theorem dX3_lookBack_19 : decode cX3_lookBack 19 = .ok (.aload_n 0, 1) := by decide +kernel
theorem dX3_lookBack_20 : decode cX3_lookBack 20 = .ok (.getfield 46, 3) := by decide +kernel
theorem dX3_lookBack_23 : decode cX3_lookBack 23 = .ok (.if_icmp .gt 98, 3) := by decide +kernel
theorem dX3_lookBack_26 : decode cX3_lookBack 26 = .ok (.iconst 0, 1) := by decide +kernel
theorem dX3_lookBack_27 : decode cX3_lookBack 27 = .ok (.istore_n 3, 1) := by decide +kernel
theorem dX3_lookBack_28 : decode cX3_lookBack 28 = .ok (.iload_n 3, 1) := by decide +kernel
theorem dX3_lookBack_29 : decode cX3_lookBack 29 = .ok (.aload_n 0, 1) := by decide +kernel
theorem dX3_lookBack_30 : decode cX3_lookBack 30 = .ok (.getfield 30, 3) := by decide +kernel
theorem dX3_lookBack_33 : decode cX3_lookBack 33 = .ok (.if_icmp .ge 82, 3) := by decide +kernel
theorem dX3_lookBack_36 : decode cX3_lookBack 36 = .ok (.ldc 50, 2) := by decide +kernel
theorem dX3_lookBack_38 : decode cX3_lookBack 38 = .ok (.istore 4, 2) := by decide +kernel
theorem dX3_lookBack_40 : decode cX3_lookBack 40 = .ok (.iconst 0, 1) := by decide +kernel
theorem dX3_lookBack_41 : decode cX3_lookBack 41 = .ok (.istore 5, 2) := by decide +kernel
theorem dX3_lookBack_43 : decode cX3_lookBack 43 = .ok (.iload 5, 2) := by decide +kernel
theorem dX3_lookBack_45 : decode cX3_lookBack 45 = .ok (.aload_n 0, 1) := by decide +kernel
theorem dX3_lookBack_46 : decode cX3_lookBack 46 = .ok (.getfield 30, 3) := by decide +kernel
theorem dX3_lookBack_49 : decode cX3_lookBack 49 = .ok (.if_icmp .ge 47, 3) := by decide +kernel
theorem dX3_lookBack_52 : decode cX3_lookBack 52 = .ok (.aload_n 0, 1) := by decide +kernel
theorem dX3_lookBack_53 : decode cX3_lookBack 53 = .ok (.getfield 24, 3) := by decide +kernel
theorem dX3_lookBack_56 : decode cX3_lookBack 56 = .ok (.iload_n 2, 1) := by decide +kernel
theorem dX3_lookBack_57 : decode cX3_lookBack 57 = .ok (.iconst 1, 1) := by decide +kernel
theorem dX3_lookBack_58 : decode cX3_lookBack 58 = .ok (.isub, 1) := by decide +kernel
theorem dX3_lookBack_59 : decode cX3_lookBack 59 = .ok (.bipush 8, 2) := by decide +kernel
theorem dX3_lookBack_61 : decode cX3_lookBack 61 = .ok (.imul, 1) := by decide +kernel
theorem dX3_lookBack_62 : decode cX3_lookBack 62 = .ok (.iload 5, 2) := by decide +kernel
theorem dX3_lookBack_64 : decode cX3_lookBack 64 = .ok (.iadd, 1) := by decide +kernel
theorem dX3_lookBack_65 : decode cX3_lookBack 65 = .ok (.iaload, 1) := by decide +kernel
theorem dX3_lookBack_66 : decode cX3_lookBack 66 = .ok (.istore 6, 2) := by decide +kernel
theorem dX3_lookBack_68 : decode cX3_lookBack 68 = .ok (.iload 4, 2) := by decide +kernel
theorem dX3_lookBack_70 : decode cX3_lookBack 70 = .ok (.aload_n 0, 1) := by decide +kernel
theorem dX3_lookBack_71 : decode cX3_lookBack 71 = .ok (.getfield 9, 3) := by decide +kernel
theorem dX3_lookBack_74 : decode cX3_lookBack 74 = .ok (.iload_n 3, 1) := by decide +kernel
theorem dX3_lookBack_75 : decode cX3_lookBack 75 = .ok (.bipush 8, 2) := by decide +kernel
theorem dX3_lookBack_77 : decode cX3_lookBack 77 = .ok (.imul, 1) := by decide +kernel
theorem dX3_lookBack_78 : decode cX3_lookBack 78 = .ok (.iload 5, 2) := by decide +kernel
theorem dX3_lookBack_80 : decode cX3_lookBack 80 = .ok (.iadd, 1) := by decide +kernel
theorem dX3_lookBack_81 : decode cX3_lookBack 81 = .ok (.iaload, 1) := by decide +kernel
theorem dX3_lookBack_82 : decode cX3_lookBack 82 = .ok (.iload 6, 2) := by decide +kernel
theorem dX3_lookBack_84 : decode cX3_lookBack 84 = .ok (.iadd, 1) := by decide +kernel
theorem dX3_lookBack_85 : decode cX3_lookBack 85 = .ok (.invokestatic 86, 3) := by decide +kernel
theorem dX3_lookBack_88 : decode cX3_lookBack 88 = .ok (.istore 4, 2) := by decide +kernel
theorem dX3_lookBack_90 : decode cX3_lookBack 90 = .ok (.iinc 5 1, 3) := by decide +kernel
theorem dX3_lookBack_93 : decode cX3_lookBack 93 = .ok (.goto (-50), 3) := by decide +kernel
theorem dX3_lookBack_96 : decode cX3_lookBack 96 = .ok (.aload_n 0, 1) := by decide +kernel
theorem dX3_lookBack_97 : decode cX3_lookBack 97 = .ok (.getfield 24, 3) := by decide +kernel
theorem dX3_lookBack_100 : decode cX3_lookBack 100 = .ok (.iload_n 2, 1) := by decide +kernel
theorem dX3_lookBack_101 : decode cX3_lookBack 101 = .ok (.bipush 8, 2) := by decide +kernel
theorem dX3_lookBack_103 : decode cX3_lookBack 103 = .ok (.imul, 1) := by decide +kernel
theorem dX3_lookBack_104 : decode cX3_lookBack 104 = .ok (.iload_n 3, 1) := by decide +kernel
theorem dX3_lookBack_105 : decode cX3_lookBack 105 = .ok (.iadd, 1) := by decide +kernel
theorem dX3_lookBack_106 : decode cX3_lookBack 106 = .ok (.iload 4, 2) := by decide +kernel
theorem dX3_lookBack_108 : decode cX3_lookBack 108 = .ok (.iastore, 1) := by decide +kernel
theorem dX3_lookBack_109 : decode cX3_lookBack 109 = .ok (.iinc 3 1, 3) := by decide +kernel
theorem dX3_lookBack_112 : decode cX3_lookBack 112 = .ok (.goto (-84), 3) := by decide +kernel
theorem dX3_lookBack_115 : decode cX3_lookBack 115 = .ok (.iinc 2 1, 3) := by decide +kernel
theorem dX3_lookBack_118 : decode cX3_lookBack 118 = .ok (.goto (-100), 3) := by decide +kernel
theorem dX3_lookBack_121 : decode cX3_lookBack 121 = .ok (.return_, 1) := by decide +kernel
theorem dX3_walk_0 : decode cX3_walk 0 = .ok (.iload_n 1, 1) := by decide +kernel
theorem dX3_walk_1 : decode cX3_walk 1 = .ok (.istore_n 3, 1) := by decide +kernel
theorem dX3_walk_2 : decode cX3_walk 2 = .ok (.aload_n 0, 1) := by decide +kernel
theorem dX3_walk_3 : decode cX3_walk 3 = .ok (.getfield 27, 3) := by decide +kernel
theorem dX3_walk_6 : decode cX3_walk 6 = .ok (.iconst 0, 1) := by decide +kernel
theorem dX3_walk_7 : decode cX3_walk 7 = .ok (.iload_n 1, 1) := by decide +kernel
theorem dX3_walk_8 : decode cX3_walk 8 = .ok (.iastore, 1) := by decide +kernel
theorem dX3_walk_9 : decode cX3_walk 9 = .ok (.iconst 1, 1) := by decide +kernel
theorem dX3_walk_10 : decode cX3_walk 10 = .ok (.istore 4, 2) := by decide +kernel
theorem dX3_walk_12 : decode cX3_walk 12 = .ok (.iload 4, 2) := by decide +kernel
theorem dX3_walk_14 : decode cX3_walk 14 = .ok (.iload_n 2, 1) := by decide +kernel
theorem dX3_walk_15 : decode cX3_walk 15 = .ok (.if_icmp .gt 98, 3) := by decide +kernel
theorem dX3_walk_18 : decode cX3_walk 18 = .ok (.aload_n 0, 1) := by decide +kernel
theorem dX3_walk_19 : decode cX3_walk 19 = .ok (.getfield 24, 3) := by decide +kernel
theorem dX3_walk_22 : decode cX3_walk 22 = .ok (.iload_n 2, 1) := by decide +kernel
theorem dX3_walk_23 : decode cX3_walk 23 = .ok (.iload 4, 2) := by decide +kernel
theorem dX3_walk_25 : decode cX3_walk 25 = .ok (.isub, 1) := by decide +kernel
theorem dX3_walk_26 : decode cX3_walk 26 = .ok (.iconst 1, 1) := by decide +kernel
theorem dX3_walk_27 : decode cX3_walk 27 = .ok (.iadd, 1) := by decide +kernel
theorem dX3_walk_28 : decode cX3_walk 28 = .ok (.bipush 8, 2) := by decide +kernel
theorem dX3_walk_30 : decode cX3_walk 30 = .ok (.imul, 1) := by decide +kernel
theorem dX3_walk_31 : decode cX3_walk 31 = .ok (.iload_n 3, 1) := by decide +kernel
theorem dX3_walk_32 : decode cX3_walk 32 = .ok (.iadd, 1) := by decide +kernel
theorem dX3_walk_33 : decode cX3_walk 33 = .ok (.iaload, 1) := by decide +kernel
theorem dX3_walk_34 : decode cX3_walk 34 = .ok (.istore 5, 2) := by decide +kernel
theorem dX3_walk_36 : decode cX3_walk 36 = .ok (.iconst 0, 1) := by decide +kernel
theorem dX3_walk_37 : decode cX3_walk 37 = .ok (.istore 6, 2) := by decide +kernel
theorem dX3_walk_39 : decode cX3_walk 39 = .ok (.aload_n 0, 1) := by decide +kernel
theorem dX3_walk_40 : decode cX3_walk 40 = .ok (.getfield 30, 3) := by decide +kernel
theorem dX3_walk_43 : decode cX3_walk 43 = .ok (.iconst 1, 1) := by decide +kernel
theorem dX3_walk_44 : decode cX3_walk 44 = .ok (.isub, 1) := by decide +kernel
theorem dX3_walk_45 : decode cX3_walk 45 = .ok (.istore 7, 2) := by decide +kernel
theorem dX3_walk_47 : decode cX3_walk 47 = .ok (.iload 7, 2) := by decide +kernel
theorem dX3_walk_49 : decode cX3_walk 49 = .ok (.ifCond .lt 46, 3) := by decide +kernel
theorem dX3_walk_52 : decode cX3_walk 52 = .ok (.aload_n 0, 1) := by decide +kernel
theorem dX3_walk_53 : decode cX3_walk 53 = .ok (.getfield 9, 3) := by decide +kernel
theorem dX3_walk_56 : decode cX3_walk 56 = .ok (.iload_n 3, 1) := by decide +kernel
theorem dX3_walk_57 : decode cX3_walk 57 = .ok (.bipush 8, 2) := by decide +kernel
theorem dX3_walk_59 : decode cX3_walk 59 = .ok (.imul, 1) := by decide +kernel
theorem dX3_walk_60 : decode cX3_walk 60 = .ok (.iload 7, 2) := by decide +kernel
theorem dX3_walk_62 : decode cX3_walk 62 = .ok (.iadd, 1) := by decide +kernel
theorem dX3_walk_63 : decode cX3_walk 63 = .ok (.iaload, 1) := by decide +kernel
theorem dX3_walk_64 : decode cX3_walk 64 = .ok (.aload_n 0, 1) := by decide +kernel
theorem dX3_walk_65 : decode cX3_walk 65 = .ok (.getfield 24, 3) := by decide +kernel
theorem dX3_walk_68 : decode cX3_walk 68 = .ok (.iload_n 2, 1) := by decide +kernel
theorem dX3_walk_69 : decode cX3_walk 69 = .ok (.iload 4, 2) := by decide +kernel
theorem dX3_walk_71 : decode cX3_walk 71 = .ok (.isub, 1) := by decide +kernel
theorem dX3_walk_72 : decode cX3_walk 72 = .ok (.bipush 8, 2) := by decide +kernel
theorem dX3_walk_74 : decode cX3_walk 74 = .ok (.imul, 1) := by decide +kernel
theorem dX3_walk_75 : decode cX3_walk 75 = .ok (.iload 7, 2) := by decide +kernel
theorem dX3_walk_77 : decode cX3_walk 77 = .ok (.iadd, 1) := by decide +kernel
theorem dX3_walk_78 : decode cX3_walk 78 = .ok (.iaload, 1) := by decide +kernel
theorem dX3_walk_79 : decode cX3_walk 79 = .ok (.iadd, 1) := by decide +kernel
theorem dX3_walk_80 : decode cX3_walk 80 = .ok (.iload 5, 2) := by decide +kernel
theorem dX3_walk_82 : decode cX3_walk 82 = .ok (.if_icmp .ne 7, 3) := by decide +kernel
theorem dX3_walk_85 : decode cX3_walk 85 = .ok (.iload 7, 2) := by decide +kernel
theorem dX3_walk_87 : decode cX3_walk 87 = .ok (.istore 6, 2) := by decide +kernel
theorem dX3_walk_89 : decode cX3_walk 89 = .ok (.iinc 7 (-1), 3) := by decide +kernel
theorem dX3_walk_92 : decode cX3_walk 92 = .ok (.goto (-45), 3) := by decide +kernel
theorem dX3_walk_95 : decode cX3_walk 95 = .ok (.aload_n 0, 1) := by decide +kernel
theorem dX3_walk_96 : decode cX3_walk 96 = .ok (.getfield 27, 3) := by decide +kernel
theorem dX3_walk_99 : decode cX3_walk 99 = .ok (.iload 4, 2) := by decide +kernel
theorem dX3_walk_101 : decode cX3_walk 101 = .ok (.iload 6, 2) := by decide +kernel
theorem dX3_walk_103 : decode cX3_walk 103 = .ok (.iastore, 1) := by decide +kernel
theorem dX3_walk_104 : decode cX3_walk 104 = .ok (.iload 6, 2) := by decide +kernel
theorem dX3_walk_106 : decode cX3_walk 106 = .ok (.istore_n 3, 1) := by decide +kernel
theorem dX3_walk_107 : decode cX3_walk 107 = .ok (.iinc 4 1, 3) := by decide +kernel
theorem dX3_walk_110 : decode cX3_walk 110 = .ok (.goto (-98), 3) := by decide +kernel
theorem dX3_walk_113 : decode cX3_walk 113 = .ok (.return_, 1) := by decide +kernel
theorem dX4_init_0 : decode cX4_init 0 = .ok (.aload_n 0, 1) := by decide +kernel
theorem dX4_init_1 : decode cX4_init 1 = .ok (.invokespecial 3, 3) := by decide +kernel
theorem dX4_init_4 : decode cX4_init 4 = .ok (.aload_n 0, 1) := by decide +kernel
theorem dX4_init_5 : decode cX4_init 5 = .ok (.iconst (-1), 1) := by decide +kernel
theorem dX4_init_6 : decode cX4_init 6 = .ok (.putfield 11, 3) := by decide +kernel
theorem dX4_init_9 : decode cX4_init 9 = .ok (.aload_n 0, 1) := by decide +kernel
theorem dX4_init_10 : decode cX4_init 10 = .ok (.bipush 60, 2) := by decide +kernel
theorem dX4_init_12 : decode cX4_init 12 = .ok (.newarray .long, 2) := by decide +kernel
theorem dX4_init_14 : decode cX4_init 14 = .ok (.putfield 15, 3) := by decide +kernel
theorem dX4_init_17 : decode cX4_init 17 = .ok (.return_, 1) := by decide +kernel
theorem dX4_become_0 : decode cX4_become 0 = .ok (.aload_n 0, 1) := by decide +kernel
theorem dX4_become_1 : decode cX4_become 1 = .ok (.iload_n 1, 1) := by decide +kernel
theorem dX4_become_2 : decode cX4_become 2 = .ok (.putfield 11, 3) := by decide +kernel
theorem dX4_become_5 : decode cX4_become 5 = .ok (.aload_n 0, 1) := by decide +kernel
theorem dX4_become_6 : decode cX4_become 6 = .ok (.iload_n 2, 1) := by decide +kernel
theorem dX4_become_7 : decode cX4_become 7 = .ok (.putfield 19, 3) := by decide +kernel
theorem dX4_become_10 : decode cX4_become 10 = .ok (.aload_n 0, 1) := by decide +kernel
theorem dX4_become_11 : decode cX4_become 11 = .ok (.getfield 15, 3) := by decide +kernel
theorem dX4_become_14 : decode cX4_become 14 = .ok (.lconst 0, 1) := by decide +kernel
theorem dX4_become_15 : decode cX4_become 15 = .ok (.invokestatic 22, 3) := by decide +kernel
theorem dX4_become_18 : decode cX4_become 18 = .ok (.return_, 1) := by decide +kernel
theorem dX4_hasPlace_0 : decode cX4_hasPlace 0 = .ok (.iload_n 1, 1) := by decide +kernel
theorem dX4_hasPlace_1 : decode cX4_hasPlace 1 = .ok (.ifCond .lt 15, 3) := by decide +kernel
theorem dX4_hasPlace_4 : decode cX4_hasPlace 4 = .ok (.iload_n 1, 1) := by decide +kernel
theorem dX4_hasPlace_5 : decode cX4_hasPlace 5 = .ok (.aload_n 0, 1) := by decide +kernel
theorem dX4_hasPlace_6 : decode cX4_hasPlace 6 = .ok (.getfield 19, 3) := by decide +kernel
theorem dX4_hasPlace_9 : decode cX4_hasPlace 9 = .ok (.if_icmp .ge 7, 3) := by decide +kernel
theorem dX4_hasPlace_12 : decode cX4_hasPlace 12 = .ok (.iconst 1, 1) := by decide +kernel
theorem dX4_hasPlace_13 : decode cX4_hasPlace 13 = .ok (.goto 4, 3) := by decide +kernel
theorem dX4_hasPlace_16 : decode cX4_hasPlace 16 = .ok (.iconst 0, 1) := by decide +kernel
theorem dX4_hasPlace_17 : decode cX4_hasPlace 17 = .ok (.ireturn, 1) := by decide +kernel
theorem dX4_hasRun_0 : decode cX4_hasRun 0 = .ok (.iload_n 1, 1) := by decide +kernel
theorem dX4_hasRun_1 : decode cX4_hasRun 1 = .ok (.ifCond .lt 29, 3) := by decide +kernel
theorem dX4_hasRun_4 : decode cX4_hasRun 4 = .ok (.iload_n 2, 1) := by decide +kernel
theorem dX4_hasRun_5 : decode cX4_hasRun 5 = .ok (.ifCond .lt 25, 3) := by decide +kernel
theorem dX4_hasRun_8 : decode cX4_hasRun 8 = .ok (.iload_n 1, 1) := by decide +kernel
theorem dX4_hasRun_9 : decode cX4_hasRun 9 = .ok (.aload_n 0, 1) := by decide +kernel
theorem dX4_hasRun_10 : decode cX4_hasRun 10 = .ok (.getfield 19, 3) := by decide +kernel
theorem dX4_hasRun_13 : decode cX4_hasRun 13 = .ok (.if_icmp .gt 17, 3) := by decide +kernel
theorem dX4_hasRun_16 : decode cX4_hasRun 16 = .ok (.iload_n 2, 1) := by decide +kernel
theorem dX4_hasRun_17 : decode cX4_hasRun 17 = .ok (.aload_n 0, 1) := by decide +kernel
theorem dX4_hasRun_18 : decode cX4_hasRun 18 = .ok (.getfield 19, 3) := by decide +kernel
theorem dX4_hasRun_21 : decode cX4_hasRun 21 = .ok (.iload_n 1, 1) := by decide +kernel
theorem dX4_hasRun_22 : decode cX4_hasRun 22 = .ok (.isub, 1) := by decide +kernel
theorem dX4_hasRun_23 : decode cX4_hasRun 23 = .ok (.if_icmp .gt 7, 3) := by decide +kernel
theorem dX4_hasRun_26 : decode cX4_hasRun 26 = .ok (.iconst 1, 1) := by decide +kernel
theorem dX4_hasRun_27 : decode cX4_hasRun 27 = .ok (.goto 4, 3) := by decide +kernel
theorem dX4_hasRun_30 : decode cX4_hasRun 30 = .ok (.iconst 0, 1) := by decide +kernel
theorem dX4_hasRun_31 : decode cX4_hasRun 31 = .ok (.ireturn, 1) := by decide +kernel
theorem dX4_cut_0 : decode cX4_cut 0 = .ok (.iload_n 0, 1) := by decide +kernel
theorem dX4_cut_1 : decode cX4_cut 1 = .ok (.tableswitch 47 0 3 #[31, 36, 41, 45], 31) := by decide +kernel
theorem dX4_cut_32 : decode cX4_cut 32 = .ok (.lload_n 1, 1) := by decide +kernel
theorem dX4_cut_33 : decode cX4_cut 33 = .ok (.l2i, 1) := by decide +kernel
theorem dX4_cut_34 : decode cX4_cut 34 = .ok (.i2b, 1) := by decide +kernel
theorem dX4_cut_35 : decode cX4_cut 35 = .ok (.i2l, 1) := by decide +kernel
theorem dX4_cut_36 : decode cX4_cut 36 = .ok (.lreturn, 1) := by decide +kernel
theorem dX4_cut_37 : decode cX4_cut 37 = .ok (.lload_n 1, 1) := by decide +kernel
theorem dX4_cut_38 : decode cX4_cut 38 = .ok (.l2i, 1) := by decide +kernel
theorem dX4_cut_39 : decode cX4_cut 39 = .ok (.i2s, 1) := by decide +kernel
theorem dX4_cut_40 : decode cX4_cut 40 = .ok (.i2l, 1) := by decide +kernel
theorem dX4_cut_41 : decode cX4_cut 41 = .ok (.lreturn, 1) := by decide +kernel
theorem dX4_cut_42 : decode cX4_cut 42 = .ok (.lload_n 1, 1) := by decide +kernel
theorem dX4_cut_43 : decode cX4_cut 43 = .ok (.l2i, 1) := by decide +kernel
theorem dX4_cut_44 : decode cX4_cut 44 = .ok (.i2l, 1) := by decide +kernel
theorem dX4_cut_45 : decode cX4_cut 45 = .ok (.lreturn, 1) := by decide +kernel
theorem dX4_cut_46 : decode cX4_cut 46 = .ok (.lload_n 1, 1) := by decide +kernel
theorem dX4_cut_47 : decode cX4_cut 47 = .ok (.lreturn, 1) := by decide +kernel
theorem dX4_cut_48 : decode cX4_cut 48 = .ok (.lload_n 1, 1) := by decide +kernel
theorem dX4_cut_49 : decode cX4_cut 49 = .ok (.lconst 0, 1) := by decide +kernel
theorem dX4_cut_50 : decode cX4_cut 50 = .ok (.lcmp, 1) := by decide +kernel
theorem dX4_cut_51 : decode cX4_cut 51 = .ok (.ifCond .eq 7, 3) := by decide +kernel
theorem dX4_cut_54 : decode cX4_cut 54 = .ok (.lconst 1, 1) := by decide +kernel
theorem dX4_cut_55 : decode cX4_cut 55 = .ok (.goto 4, 3) := by decide +kernel
theorem dX4_cut_58 : decode cX4_cut 58 = .ok (.lconst 0, 1) := by decide +kernel
theorem dX4_cut_59 : decode cX4_cut 59 = .ok (.lreturn, 1) := by decide +kernel
theorem dX5_init_0 : decode cX5_init 0 = .ok (.aload_n 0, 1) := by decide +kernel
theorem dX5_init_1 : decode cX5_init 1 = .ok (.invokespecial 3, 3) := by decide +kernel
theorem dX5_init_4 : decode cX5_init 4 = .ok (.aload_n 0, 1) := by decide +kernel
theorem dX5_init_5 : decode cX5_init 5 = .ok (.bipush 100, 2) := by decide +kernel
theorem dX5_init_7 : decode cX5_init 7 = .ok (.newarray .int, 2) := by decide +kernel
theorem dX5_init_9 : decode cX5_init 9 = .ok (.putfield 9, 3) := by decide +kernel
theorem dX5_init_12 : decode cX5_init 12 = .ok (.return_, 1) := by decide +kernel
theorem dX5_append_0 : decode cX5_append 0 = .ok (.aload_n 0, 1) := by decide +kernel
theorem dX5_append_1 : decode cX5_append 1 = .ok (.getfield 15, 3) := by decide +kernel
theorem dX5_append_4 : decode cX5_append 4 = .ok (.aload_n 0, 1) := by decide +kernel
theorem dX5_append_5 : decode cX5_append 5 = .ok (.getfield 9, 3) := by decide +kernel
theorem dX5_append_8 : decode cX5_append 8 = .ok (.arraylength, 1) := by decide +kernel
theorem dX5_append_9 : decode cX5_append 9 = .ok (.if_icmp .ge 23, 3) := by decide +kernel
theorem dX5_append_12 : decode cX5_append 12 = .ok (.aload_n 0, 1) := by decide +kernel
theorem dX5_append_13 : decode cX5_append 13 = .ok (.getfield 9, 3) := by decide +kernel
theorem dX5_append_16 : decode cX5_append 16 = .ok (.aload_n 0, 1) := by decide +kernel
theorem dX5_append_17 : decode cX5_append 17 = .ok (.getfield 15, 3) := by decide +kernel
theorem dX5_append_20 : decode cX5_append 20 = .ok (.iload_n 1, 1) := by decide +kernel
theorem dX5_append_21 : decode cX5_append 21 = .ok (.iastore, 1) := by decide +kernel
theorem dX5_append_22 : decode cX5_append 22 = .ok (.aload_n 0, 1) := by decide +kernel
theorem dX5_append_23 : decode cX5_append 23 = .ok (.dup, 1) := by decide +kernel
theorem dX5_append_24 : decode cX5_append 24 = .ok (.getfield 15, 3) := by decide +kernel
theorem dX5_append_27 : decode cX5_append 27 = .ok (.iconst 1, 1) := by decide +kernel
theorem dX5_append_28 : decode cX5_append 28 = .ok (.iadd, 1) := by decide +kernel
theorem dX5_append_29 : decode cX5_append 29 = .ok (.putfield 15, 3) := by decide +kernel
theorem dX5_append_32 : decode cX5_append 32 = .ok (.return_, 1) := by decide +kernel
theorem dX5_readInto_0 : decode cX5_readInto 0 = .ok (.aload_n 1, 1) := by decide +kernel
theorem dX5_readInto_1 : decode cX5_readInto 1 = .ok (.invokevirtual 19, 3) := by decide +kernel
theorem dX5_readInto_4 : decode cX5_readInto 4 = .ok (.aload_n 0, 1) := by decide +kernel
theorem dX5_readInto_5 : decode cX5_readInto 5 = .ok (.iconst 0, 1) := by decide +kernel
theorem dX5_readInto_6 : decode cX5_readInto 6 = .ok (.putfield 24, 3) := by decide +kernel
theorem dX5_readInto_9 : decode cX5_readInto 9 = .ok (.iconst 1, 1) := by decide +kernel
theorem dX5_readInto_10 : decode cX5_readInto 10 = .ok (.istore_n 2, 1) := by decide +kernel
theorem dX5_readInto_11 : decode cX5_readInto 11 = .ok (.iload_n 2, 1) := by decide +kernel
theorem dX5_readInto_12 : decode cX5_readInto 12 = .ok (.bipush 10, 2) := by decide +kernel
theorem dX5_readInto_14 : decode cX5_readInto 14 = .ok (.if_icmp .gt 55, 3) := by decide +kernel
theorem dX5_readInto_17 : decode cX5_readInto 17 = .ok (.aload_n 0, 1) := by decide +kernel
theorem dX5_readInto_18 : decode cX5_readInto 18 = .ok (.aload_n 1, 1) := by decide +kernel
theorem dX5_readInto_19 : decode cX5_readInto 19 = .ok (.invokevirtual 27, 3) := by decide +kernel
theorem dX5_readInto_22 : decode cX5_readInto 22 = .ok (.ifCond .ne 8, 3) := by decide +kernel
theorem dX5_readInto_25 : decode cX5_readInto 25 = .ok (.aload_n 0, 1) := by decide +kernel
theorem dX5_readInto_26 : decode cX5_readInto 26 = .ok (.getfield 24, 3) := by decide +kernel
theorem dX5_readInto_29 : decode cX5_readInto 29 = .ok (.ireturn, 1) := by decide +kernel
theorem dX5_readInto_30 : decode cX5_readInto 30 = .ok (.aload_n 0, 1) := by decide +kernel
theorem dX5_readInto_31 : decode cX5_readInto 31 = .ok (.getfield 24, 3) := by decide +kernel
theorem dX5_readInto_34 : decode cX5_readInto 34 = .ok (.aload_n 0, 1) := by decide +kernel
theorem dX5_readInto_35 : decode cX5_readInto 35 = .ok (.getfield 15, 3) := by decide +kernel
theorem dX5_readInto_38 : decode cX5_readInto 38 = .ok (.if_icmp .lt 5, 3) := by decide +kernel
theorem dX5_readInto_41 : decode cX5_readInto 41 = .ok (.iconst (-1), 1) := by decide +kernel
theorem dX5_readInto_42 : decode cX5_readInto 42 = .ok (.ireturn, 1) := by decide +kernel
theorem dX5_readInto_43 : decode cX5_readInto 43 = .ok (.iload_n 2, 1) := by decide +kernel
theorem dX5_readInto_44 : decode cX5_readInto 44 = .ok (.bipush 10, 2) := by decide +kernel
theorem dX5_readInto_46 : decode cX5_readInto 46 = .ok (.if_icmp .eq 12, 3) := by decide +kernel
theorem dX5_readInto_49 : decode cX5_readInto 49 = .ok (.aload_n 0, 1) := by decide +kernel
theorem dX5_readInto_50 : decode cX5_readInto 50 = .ok (.bipush 59, 2) := by decide +kernel
theorem dX5_readInto_52 : decode cX5_readInto 52 = .ok (.invokevirtual 31, 3) := by decide +kernel
theorem dX5_readInto_55 : decode cX5_readInto 55 = .ok (.ifCond .ne 8, 3) := by decide +kernel
theorem dX5_readInto_58 : decode cX5_readInto 58 = .ok (.aload_n 0, 1) := by decide +kernel
theorem dX5_readInto_59 : decode cX5_readInto 59 = .ok (.getfield 24, 3) := by decide +kernel
theorem dX5_readInto_62 : decode cX5_readInto 62 = .ok (.ireturn, 1) := by decide +kernel
theorem dX5_readInto_63 : decode cX5_readInto 63 = .ok (.iinc 2 1, 3) := by decide +kernel
theorem dX5_readInto_66 : decode cX5_readInto 66 = .ok (.goto (-55), 3) := by decide +kernel
theorem dX5_readInto_69 : decode cX5_readInto 69 = .ok (.aload_n 0, 1) := by decide +kernel
theorem dX5_readInto_70 : decode cX5_readInto 70 = .ok (.getfield 24, 3) := by decide +kernel
theorem dX5_readInto_73 : decode cX5_readInto 73 = .ok (.ireturn, 1) := by decide +kernel
theorem dX5_readClause_0 : decode cX5_readClause 0 = .ok (.aload_n 0, 1) := by decide +kernel
theorem dX5_readClause_1 : decode cX5_readClause 1 = .ok (.invokevirtual 35, 3) := by decide +kernel
theorem dX5_readClause_4 : decode cX5_readClause 4 = .ok (.istore_n 2, 1) := by decide +kernel
theorem dX5_readClause_5 : decode cX5_readClause 5 = .ok (.iload_n 2, 1) := by decide +kernel
theorem dX5_readClause_6 : decode cX5_readClause 6 = .ok (.ifCond .lt 12, 3) := by decide +kernel
theorem dX5_readClause_9 : decode cX5_readClause 9 = .ok (.aload_n 0, 1) := by decide +kernel
theorem dX5_readClause_10 : decode cX5_readClause 10 = .ok (.bipush 32, 2) := by decide +kernel
theorem dX5_readClause_12 : decode cX5_readClause 12 = .ok (.invokevirtual 31, 3) := by decide +kernel
theorem dX5_readClause_15 : decode cX5_readClause 15 = .ok (.ifCond .ne 5, 3) := by decide +kernel
theorem dX5_readClause_18 : decode cX5_readClause 18 = .ok (.iconst 0, 1) := by decide +kernel
theorem dX5_readClause_19 : decode cX5_readClause 19 = .ok (.ireturn, 1) := by decide +kernel
theorem dX5_readClause_20 : decode cX5_readClause 20 = .ok (.aload_n 0, 1) := by decide +kernel
theorem dX5_readClause_21 : decode cX5_readClause 21 = .ok (.iconst 3, 1) := by decide +kernel
theorem dX5_readClause_22 : decode cX5_readClause 22 = .ok (.invokevirtual 39, 3) := by decide +kernel
theorem dX5_readClause_25 : decode cX5_readClause 25 = .ok (.istore_n 3, 1) := by decide +kernel
theorem dX5_readClause_26 : decode cX5_readClause 26 = .ok (.iload_n 3, 1) := by decide +kernel
theorem dX5_readClause_27 : decode cX5_readClause 27 = .ok (.ifCond .ge 5, 3) := by decide +kernel
theorem dX5_readClause_30 : decode cX5_readClause 30 = .ok (.iconst 0, 1) := by decide +kernel
theorem dX5_readClause_31 : decode cX5_readClause 31 = .ok (.ireturn, 1) := by decide +kernel
theorem dX5_readClause_32 : decode cX5_readClause 32 = .ok (.iload_n 2, 1) := by decide +kernel
theorem dX5_readClause_33 : decode cX5_readClause 33 = .ok (.ifCond .eq 8, 3) := by decide +kernel
theorem dX5_readClause_36 : decode cX5_readClause 36 = .ok (.iload_n 2, 1) := by decide +kernel
theorem dX5_readClause_37 : decode cX5_readClause 37 = .ok (.iconst 1, 1) := by decide +kernel
theorem dX5_readClause_38 : decode cX5_readClause 38 = .ok (.if_icmp .ne 23, 3) := by decide +kernel
theorem dX5_readClause_41 : decode cX5_readClause 41 = .ok (.aload_n 0, 1) := by decide +kernel
theorem dX5_readClause_42 : decode cX5_readClause 42 = .ok (.bipush 32, 2) := by decide +kernel
theorem dX5_readClause_44 : decode cX5_readClause 44 = .ok (.invokevirtual 31, 3) := by decide +kernel
theorem dX5_readClause_47 : decode cX5_readClause 47 = .ok (.ifCond .eq 12, 3) := by decide +kernel
theorem dX5_readClause_50 : decode cX5_readClause 50 = .ok (.aload_n 0, 1) := by decide +kernel
theorem dX5_readClause_51 : decode cX5_readClause 51 = .ok (.aload_n 1, 1) := by decide +kernel
theorem dX5_readClause_52 : decode cX5_readClause 52 = .ok (.iconst 0, 1) := by decide +kernel
theorem dX5_readClause_53 : decode cX5_readClause 53 = .ok (.invokevirtual 43, 3) := by decide +kernel
theorem dX5_readClause_56 : decode cX5_readClause 56 = .ok (.ifCond .ne 5, 3) := by decide +kernel
theorem dX5_readClause_59 : decode cX5_readClause 59 = .ok (.iconst 0, 1) := by decide +kernel
theorem dX5_readClause_60 : decode cX5_readClause 60 = .ok (.ireturn, 1) := by decide +kernel
theorem dX5_readClause_61 : decode cX5_readClause 61 = .ok (.aload_n 1, 1) := by decide +kernel
theorem dX5_readClause_62 : decode cX5_readClause 62 = .ok (.iload_n 2, 1) := by decide +kernel
theorem dX5_readClause_63 : decode cX5_readClause 63 = .ok (.iload_n 3, 1) := by decide +kernel
theorem dX5_readClause_64 : decode cX5_readClause 64 = .ok (.invokevirtual 47, 3) := by decide +kernel
theorem dX5_readClause_67 : decode cX5_readClause 67 = .ok (.iconst 1, 1) := by decide +kernel
theorem dX5_readClause_68 : decode cX5_readClause 68 = .ok (.ireturn, 1) := by decide +kernel
theorem dX5_spelling_0 : decode cX5_spelling 0 = .ok (.iload_n 0, 1) := by decide +kernel
theorem dX5_spelling_1 : decode cX5_spelling 1 = .ok (.tableswitch 43 0 3 #[31, 34, 37, 40], 31) := by decide +kernel
theorem dX5_spelling_32 : decode cX5_spelling 32 = .ok (.ldc 51, 2) := by decide +kernel
theorem dX5_spelling_34 : decode cX5_spelling 34 = .ok (.areturn, 1) := by decide +kernel
theorem dX5_spelling_35 : decode cX5_spelling 35 = .ok (.ldc 53, 2) := by decide +kernel
theorem dX5_spelling_37 : decode cX5_spelling 37 = .ok (.areturn, 1) := by decide +kernel
theorem dX5_spelling_38 : decode cX5_spelling 38 = .ok (.ldc 55, 2) := by decide +kernel
theorem dX5_spelling_40 : decode cX5_spelling 40 = .ok (.areturn, 1) := by decide +kernel
theorem dX5_spelling_41 : decode cX5_spelling 41 = .ok (.ldc 57, 2) := by decide +kernel
theorem dX5_spelling_43 : decode cX5_spelling 43 = .ok (.areturn, 1) := by decide +kernel
theorem dX5_spelling_44 : decode cX5_spelling 44 = .ok (.ldc 59, 2) := by decide +kernel
theorem dX5_spelling_46 : decode cX5_spelling 46 = .ok (.areturn, 1) := by decide +kernel
theorem dX5_readWord_0 : decode cX5_readWord 0 = .ok (.iconst 0, 1) := by decide +kernel
theorem dX5_readWord_1 : decode cX5_readWord 1 = .ok (.istore_n 1, 1) := by decide +kernel
theorem dX5_readWord_2 : decode cX5_readWord 2 = .ok (.iconst 0, 1) := by decide +kernel
theorem dX5_readWord_3 : decode cX5_readWord 3 = .ok (.istore_n 2, 1) := by decide +kernel
theorem dX5_readWord_4 : decode cX5_readWord 4 = .ok (.iload_n 2, 1) := by decide +kernel
theorem dX5_readWord_5 : decode cX5_readWord 5 = .ok (.iconst 5, 1) := by decide +kernel
theorem dX5_readWord_6 : decode cX5_readWord 6 = .ok (.if_icmp .ge 96, 3) := by decide +kernel
theorem dX5_readWord_9 : decode cX5_readWord 9 = .ok (.iload_n 2, 1) := by decide +kernel
theorem dX5_readWord_10 : decode cX5_readWord 10 = .ok (.invokestatic 61, 3) := by decide +kernel
theorem dX5_readWord_13 : decode cX5_readWord 13 = .ok (.astore_n 3, 1) := by decide +kernel
theorem dX5_readWord_14 : decode cX5_readWord 14 = .ok (.iconst 0, 1) := by decide +kernel
theorem dX5_readWord_15 : decode cX5_readWord 15 = .ok (.istore 4, 2) := by decide +kernel
theorem dX5_readWord_17 : decode cX5_readWord 17 = .ok (.iload 4, 2) := by decide +kernel
theorem dX5_readWord_19 : decode cX5_readWord 19 = .ok (.aload_n 3, 1) := by decide +kernel
theorem dX5_readWord_20 : decode cX5_readWord 20 = .ok (.invokevirtual 65, 3) := by decide +kernel
theorem dX5_readWord_23 : decode cX5_readWord 23 = .ok (.if_icmp .ge 44, 3) := by decide +kernel
theorem dX5_readWord_26 : decode cX5_readWord 26 = .ok (.aload_n 0, 1) := by decide +kernel
theorem dX5_readWord_27 : decode cX5_readWord 27 = .ok (.getfield 24, 3) := by decide +kernel
theorem dX5_readWord_30 : decode cX5_readWord 30 = .ok (.iload 4, 2) := by decide +kernel
theorem dX5_readWord_32 : decode cX5_readWord 32 = .ok (.iadd, 1) := by decide +kernel
theorem dX5_readWord_33 : decode cX5_readWord 33 = .ok (.aload_n 0, 1) := by decide +kernel
theorem dX5_readWord_34 : decode cX5_readWord 34 = .ok (.getfield 15, 3) := by decide +kernel
theorem dX5_readWord_37 : decode cX5_readWord 37 = .ok (.if_icmp .ge 30, 3) := by decide +kernel
theorem dX5_readWord_40 : decode cX5_readWord 40 = .ok (.aload_n 0, 1) := by decide +kernel
theorem dX5_readWord_41 : decode cX5_readWord 41 = .ok (.getfield 9, 3) := by decide +kernel
theorem dX5_readWord_44 : decode cX5_readWord 44 = .ok (.aload_n 0, 1) := by decide +kernel
theorem dX5_readWord_45 : decode cX5_readWord 45 = .ok (.getfield 24, 3) := by decide +kernel
theorem dX5_readWord_48 : decode cX5_readWord 48 = .ok (.iload 4, 2) := by decide +kernel
theorem dX5_readWord_50 : decode cX5_readWord 50 = .ok (.iadd, 1) := by decide +kernel
theorem dX5_readWord_51 : decode cX5_readWord 51 = .ok (.iaload, 1) := by decide +kernel
theorem dX5_readWord_52 : decode cX5_readWord 52 = .ok (.aload_n 3, 1) := by decide +kernel
theorem dX5_readWord_53 : decode cX5_readWord 53 = .ok (.iload 4, 2) := by decide +kernel
theorem dX5_readWord_55 : decode cX5_readWord 55 = .ok (.invokevirtual 69, 3) := by decide +kernel
theorem dX5_readWord_58 : decode cX5_readWord 58 = .ok (.if_icmp .ne 9, 3) := by decide +kernel
theorem dX5_readWord_61 : decode cX5_readWord 61 = .ok (.iinc 4 1, 3) := by decide +kernel
theorem dX5_readWord_64 : decode cX5_readWord 64 = .ok (.goto (-47), 3) := by decide +kernel
theorem dX5_readWord_67 : decode cX5_readWord 67 = .ok (.iload 4, 2) := by decide +kernel
theorem dX5_readWord_69 : decode cX5_readWord 69 = .ok (.aload_n 3, 1) := by decide +kernel
theorem dX5_readWord_70 : decode cX5_readWord 70 = .ok (.invokevirtual 65, 3) := by decide +kernel
theorem dX5_readWord_73 : decode cX5_readWord 73 = .ok (.if_icmp .ne 16, 3) := by decide +kernel
theorem dX5_readWord_76 : decode cX5_readWord 76 = .ok (.aload_n 0, 1) := by decide +kernel
theorem dX5_readWord_77 : decode cX5_readWord 77 = .ok (.dup, 1) := by decide +kernel
theorem dX5_readWord_78 : decode cX5_readWord 78 = .ok (.getfield 24, 3) := by decide +kernel
theorem dX5_readWord_81 : decode cX5_readWord 81 = .ok (.iload 4, 2) := by decide +kernel
theorem dX5_readWord_83 : decode cX5_readWord 83 = .ok (.iadd, 1) := by decide +kernel
theorem dX5_readWord_84 : decode cX5_readWord 84 = .ok (.putfield 24, 3) := by decide +kernel
theorem dX5_readWord_87 : decode cX5_readWord 87 = .ok (.iload_n 2, 1) := by decide +kernel
theorem dX5_readWord_88 : decode cX5_readWord 88 = .ok (.ireturn, 1) := by decide +kernel
theorem dX5_readWord_89 : decode cX5_readWord 89 = .ok (.iload_n 1, 1) := by decide +kernel
theorem dX5_readWord_90 : decode cX5_readWord 90 = .ok (.iload 4, 2) := by decide +kernel
theorem dX5_readWord_92 : decode cX5_readWord 92 = .ok (.invokestatic 73, 3) := by decide +kernel
theorem dX5_readWord_95 : decode cX5_readWord 95 = .ok (.istore_n 1, 1) := by decide +kernel
theorem dX5_readWord_96 : decode cX5_readWord 96 = .ok (.iinc 2 1, 3) := by decide +kernel
theorem dX5_readWord_99 : decode cX5_readWord 99 = .ok (.goto (-95), 3) := by decide +kernel
theorem dX5_readWord_102 : decode cX5_readWord 102 = .ok (.aload_n 0, 1) := by decide +kernel
theorem dX5_readWord_103 : decode cX5_readWord 103 = .ok (.dup, 1) := by decide +kernel
theorem dX5_readWord_104 : decode cX5_readWord 104 = .ok (.getfield 24, 3) := by decide +kernel
theorem dX5_readWord_107 : decode cX5_readWord 107 = .ok (.iload_n 1, 1) := by decide +kernel
theorem dX5_readWord_108 : decode cX5_readWord 108 = .ok (.iadd, 1) := by decide +kernel
theorem dX5_readWord_109 : decode cX5_readWord 109 = .ok (.putfield 24, 3) := by decide +kernel
theorem dX5_readWord_112 : decode cX5_readWord 112 = .ok (.iconst (-1), 1) := by decide +kernel
theorem dX5_readWord_113 : decode cX5_readWord 113 = .ok (.ireturn, 1) := by decide +kernel
theorem dX5_readNumber_0 : decode cX5_readNumber 0 = .ok (.iconst (-1), 1) := by decide +kernel
theorem dX5_readNumber_1 : decode cX5_readNumber 1 = .ok (.istore_n 2, 1) := by decide +kernel
theorem dX5_readNumber_2 : decode cX5_readNumber 2 = .ok (.iconst 0, 1) := by decide +kernel
theorem dX5_readNumber_3 : decode cX5_readNumber 3 = .ok (.istore_n 3, 1) := by decide +kernel
theorem dX5_readNumber_4 : decode cX5_readNumber 4 = .ok (.iload_n 3, 1) := by decide +kernel
theorem dX5_readNumber_5 : decode cX5_readNumber 5 = .ok (.iload_n 1, 1) := by decide +kernel
theorem dX5_readNumber_6 : decode cX5_readNumber 6 = .ok (.if_icmp .ge 80, 3) := by decide +kernel
theorem dX5_readNumber_9 : decode cX5_readNumber 9 = .ok (.aload_n 0, 1) := by decide +kernel
theorem dX5_readNumber_10 : decode cX5_readNumber 10 = .ok (.getfield 24, 3) := by decide +kernel
theorem dX5_readNumber_13 : decode cX5_readNumber 13 = .ok (.aload_n 0, 1) := by decide +kernel
theorem dX5_readNumber_14 : decode cX5_readNumber 14 = .ok (.getfield 15, 3) := by decide +kernel
theorem dX5_readNumber_17 : decode cX5_readNumber 17 = .ok (.if_icmp .ge 69, 3) := by decide +kernel
theorem dX5_readNumber_20 : decode cX5_readNumber 20 = .ok (.aload_n 0, 1) := by decide +kernel
theorem dX5_readNumber_21 : decode cX5_readNumber 21 = .ok (.getfield 9, 3) := by decide +kernel
theorem dX5_readNumber_24 : decode cX5_readNumber 24 = .ok (.aload_n 0, 1) := by decide +kernel
theorem dX5_readNumber_25 : decode cX5_readNumber 25 = .ok (.getfield 24, 3) := by decide +kernel
theorem dX5_readNumber_28 : decode cX5_readNumber 28 = .ok (.iaload, 1) := by decide +kernel
theorem dX5_readNumber_29 : decode cX5_readNumber 29 = .ok (.bipush 48, 2) := by decide +kernel
theorem dX5_readNumber_31 : decode cX5_readNumber 31 = .ok (.if_icmp .lt 55, 3) := by decide +kernel
theorem dX5_readNumber_34 : decode cX5_readNumber 34 = .ok (.aload_n 0, 1) := by decide +kernel
theorem dX5_readNumber_35 : decode cX5_readNumber 35 = .ok (.getfield 9, 3) := by decide +kernel
theorem dX5_readNumber_38 : decode cX5_readNumber 38 = .ok (.aload_n 0, 1) := by decide +kernel
theorem dX5_readNumber_39 : decode cX5_readNumber 39 = .ok (.getfield 24, 3) := by decide +kernel
theorem dX5_readNumber_42 : decode cX5_readNumber 42 = .ok (.iaload, 1) := by decide +kernel
theorem dX5_readNumber_43 : decode cX5_readNumber 43 = .ok (.bipush 57, 2) := by decide +kernel
theorem dX5_readNumber_45 : decode cX5_readNumber 45 = .ok (.if_icmp .gt 41, 3) := by decide +kernel
theorem dX5_readNumber_48 : decode cX5_readNumber 48 = .ok (.iload_n 2, 1) := by decide +kernel
theorem dX5_readNumber_49 : decode cX5_readNumber 49 = .ok (.iconst 0, 1) := by decide +kernel
theorem dX5_readNumber_50 : decode cX5_readNumber 50 = .ok (.invokestatic 73, 3) := by decide +kernel
theorem dX5_readNumber_53 : decode cX5_readNumber 53 = .ok (.bipush 10, 2) := by decide +kernel
theorem dX5_readNumber_55 : decode cX5_readNumber 55 = .ok (.imul, 1) := by decide +kernel
theorem dX5_readNumber_56 : decode cX5_readNumber 56 = .ok (.aload_n 0, 1) := by decide +kernel
theorem dX5_readNumber_57 : decode cX5_readNumber 57 = .ok (.getfield 9, 3) := by decide +kernel
theorem dX5_readNumber_60 : decode cX5_readNumber 60 = .ok (.aload_n 0, 1) := by decide +kernel
theorem dX5_readNumber_61 : decode cX5_readNumber 61 = .ok (.getfield 24, 3) := by decide +kernel
theorem dX5_readNumber_64 : decode cX5_readNumber 64 = .ok (.iaload, 1) := by decide +kernel
theorem dX5_readNumber_65 : decode cX5_readNumber 65 = .ok (.iadd, 1) := by decide +kernel
theorem dX5_readNumber_66 : decode cX5_readNumber 66 = .ok (.bipush 48, 2) := by decide +kernel
theorem dX5_readNumber_68 : decode cX5_readNumber 68 = .ok (.isub, 1) := by decide +kernel
theorem dX5_readNumber_69 : decode cX5_readNumber 69 = .ok (.istore_n 2, 1) := by decide +kernel
theorem dX5_readNumber_70 : decode cX5_readNumber 70 = .ok (.aload_n 0, 1) := by decide +kernel
theorem dX5_readNumber_71 : decode cX5_readNumber 71 = .ok (.dup, 1) := by decide +kernel
theorem dX5_readNumber_72 : decode cX5_readNumber 72 = .ok (.getfield 24, 3) := by decide +kernel
theorem dX5_readNumber_75 : decode cX5_readNumber 75 = .ok (.iconst 1, 1) := by decide +kernel
theorem dX5_readNumber_76 : decode cX5_readNumber 76 = .ok (.iadd, 1) := by decide +kernel
theorem dX5_readNumber_77 : decode cX5_readNumber 77 = .ok (.putfield 24, 3) := by decide +kernel
theorem dX5_readNumber_80 : decode cX5_readNumber 80 = .ok (.iinc 3 1, 3) := by decide +kernel
theorem dX5_readNumber_83 : decode cX5_readNumber 83 = .ok (.goto (-79), 3) := by decide +kernel
theorem dX5_readNumber_86 : decode cX5_readNumber 86 = .ok (.iload_n 2, 1) := by decide +kernel
theorem dX5_readNumber_87 : decode cX5_readNumber 87 = .ok (.ireturn, 1) := by decide +kernel
theorem dX5_readEither_0 : decode cX5_readEither 0 = .ok (.aload_n 0, 1) := by decide +kernel
theorem dX5_readEither_1 : decode cX5_readEither 1 = .ok (.aload_n 1, 1) := by decide +kernel
theorem dX5_readEither_2 : decode cX5_readEither 2 = .ok (.iload_n 2, 1) := by decide +kernel
theorem dX5_readEither_3 : decode cX5_readEither 3 = .ok (.invokevirtual 79, 3) := by decide +kernel
theorem dX5_readEither_6 : decode cX5_readEither 6 = .ok (.ifCond .ne 5, 3) := by decide +kernel
theorem dX5_readEither_9 : decode cX5_readEither 9 = .ok (.iconst 0, 1) := by decide +kernel
theorem dX5_readEither_10 : decode cX5_readEither 10 = .ok (.ireturn, 1) := by decide +kernel
theorem dX5_readEither_11 : decode cX5_readEither 11 = .ok (.iconst 0, 1) := by decide +kernel
theorem dX5_readEither_12 : decode cX5_readEither 12 = .ok (.istore_n 3, 1) := by decide +kernel
theorem dX5_readEither_13 : decode cX5_readEither 13 = .ok (.iload_n 3, 1) := by decide +kernel
theorem dX5_readEither_14 : decode cX5_readEither 14 = .ok (.bipush 100, 2) := by decide +kernel
theorem dX5_readEither_16 : decode cX5_readEither 16 = .ok (.if_icmp .ge 35, 3) := by decide +kernel
theorem dX5_readEither_19 : decode cX5_readEither 19 = .ok (.aload_n 0, 1) := by decide +kernel
theorem dX5_readEither_20 : decode cX5_readEither 20 = .ok (.bipush 124, 2) := by decide +kernel
theorem dX5_readEither_22 : decode cX5_readEither 22 = .ok (.invokevirtual 31, 3) := by decide +kernel
theorem dX5_readEither_25 : decode cX5_readEither 25 = .ok (.ifCond .eq 26, 3) := by decide +kernel
theorem dX5_readEither_28 : decode cX5_readEither 28 = .ok (.aload_n 0, 1) := by decide +kernel
theorem dX5_readEither_29 : decode cX5_readEither 29 = .ok (.aload_n 1, 1) := by decide +kernel
theorem dX5_readEither_30 : decode cX5_readEither 30 = .ok (.iload_n 2, 1) := by decide +kernel
theorem dX5_readEither_31 : decode cX5_readEither 31 = .ok (.invokevirtual 79, 3) := by decide +kernel
theorem dX5_readEither_34 : decode cX5_readEither 34 = .ok (.ifCond .ne 5, 3) := by decide +kernel
theorem dX5_readEither_37 : decode cX5_readEither 37 = .ok (.iconst 0, 1) := by decide +kernel
theorem dX5_readEither_38 : decode cX5_readEither 38 = .ok (.ireturn, 1) := by decide +kernel
theorem dX5_readEither_39 : decode cX5_readEither 39 = .ok (.aload_n 1, 1) := by decide +kernel
theorem dX5_readEither_40 : decode cX5_readEither 40 = .ok (.bipush (-2), 2) := by decide +kernel
theorem dX5_readEither_42 : decode cX5_readEither 42 = .ok (.invokevirtual 82, 3) := by decide +kernel
theorem dX5_readEither_45 : decode cX5_readEither 45 = .ok (.iinc 3 1, 3) := by decide +kernel
theorem dX5_readEither_48 : decode cX5_readEither 48 = .ok (.goto (-35), 3) := by decide +kernel
theorem dX5_readEither_51 : decode cX5_readEither 51 = .ok (.iconst 1, 1) := by decide +kernel
theorem dX5_readEither_52 : decode cX5_readEither 52 = .ok (.ireturn, 1) := by decide +kernel
theorem dX5_readAll_0 : decode cX5_readAll 0 = .ok (.aload_n 0, 1) := by decide +kernel
theorem dX5_readAll_1 : decode cX5_readAll 1 = .ok (.aload_n 1, 1) := by decide +kernel
theorem dX5_readAll_2 : decode cX5_readAll 2 = .ok (.iload_n 2, 1) := by decide +kernel
theorem dX5_readAll_3 : decode cX5_readAll 3 = .ok (.invokevirtual 86, 3) := by decide +kernel
theorem dX5_readAll_6 : decode cX5_readAll 6 = .ok (.ifCond .ne 5, 3) := by decide +kernel
theorem dX5_readAll_9 : decode cX5_readAll 9 = .ok (.iconst 0, 1) := by decide +kernel
theorem dX5_readAll_10 : decode cX5_readAll 10 = .ok (.ireturn, 1) := by decide +kernel
theorem dX5_readAll_11 : decode cX5_readAll 11 = .ok (.iconst 0, 1) := by decide +kernel
theorem dX5_readAll_12 : decode cX5_readAll 12 = .ok (.istore_n 3, 1) := by decide +kernel
theorem dX5_readAll_13 : decode cX5_readAll 13 = .ok (.iload_n 3, 1) := by decide +kernel
theorem dX5_readAll_14 : decode cX5_readAll 14 = .ok (.bipush 100, 2) := by decide +kernel
theorem dX5_readAll_16 : decode cX5_readAll 16 = .ok (.if_icmp .ge 34, 3) := by decide +kernel
theorem dX5_readAll_19 : decode cX5_readAll 19 = .ok (.aload_n 0, 1) := by decide +kernel
theorem dX5_readAll_20 : decode cX5_readAll 20 = .ok (.bipush 38, 2) := by decide +kernel
theorem dX5_readAll_22 : decode cX5_readAll 22 = .ok (.invokevirtual 31, 3) := by decide +kernel
theorem dX5_readAll_25 : decode cX5_readAll 25 = .ok (.ifCond .eq 25, 3) := by decide +kernel
theorem dX5_readAll_28 : decode cX5_readAll 28 = .ok (.aload_n 0, 1) := by decide +kernel
theorem dX5_readAll_29 : decode cX5_readAll 29 = .ok (.aload_n 1, 1) := by decide +kernel
theorem dX5_readAll_30 : decode cX5_readAll 30 = .ok (.iload_n 2, 1) := by decide +kernel
theorem dX5_readAll_31 : decode cX5_readAll 31 = .ok (.invokevirtual 86, 3) := by decide +kernel
theorem dX5_readAll_34 : decode cX5_readAll 34 = .ok (.ifCond .ne 5, 3) := by decide +kernel
theorem dX5_readAll_37 : decode cX5_readAll 37 = .ok (.iconst 0, 1) := by decide +kernel
theorem dX5_readAll_38 : decode cX5_readAll 38 = .ok (.ireturn, 1) := by decide +kernel
theorem dX5_readAll_39 : decode cX5_readAll 39 = .ok (.aload_n 1, 1) := by decide +kernel
theorem dX5_readAll_40 : decode cX5_readAll 40 = .ok (.iconst (-1), 1) := by decide +kernel
theorem dX5_readAll_41 : decode cX5_readAll 41 = .ok (.invokevirtual 82, 3) := by decide +kernel
theorem dX5_readAll_44 : decode cX5_readAll 44 = .ok (.iinc 3 1, 3) := by decide +kernel
theorem dX5_readAll_47 : decode cX5_readAll 47 = .ok (.goto (-34), 3) := by decide +kernel
theorem dX5_readAll_50 : decode cX5_readAll 50 = .ok (.iconst 1, 1) := by decide +kernel
theorem dX5_readAll_51 : decode cX5_readAll 51 = .ok (.ireturn, 1) := by decide +kernel
theorem dX5_readOne_0 : decode cX5_readOne 0 = .ok (.aload_n 0, 1) := by decide +kernel
theorem dX5_readOne_1 : decode cX5_readOne 1 = .ok (.getfield 24, 3) := by decide +kernel
theorem dX5_readOne_4 : decode cX5_readOne 4 = .ok (.aload_n 0, 1) := by decide +kernel
theorem dX5_readOne_5 : decode cX5_readOne 5 = .ok (.getfield 15, 3) := by decide +kernel
theorem dX5_readOne_8 : decode cX5_readOne 8 = .ok (.if_icmp .ge 15, 3) := by decide +kernel
theorem dX5_readOne_11 : decode cX5_readOne 11 = .ok (.aload_n 0, 1) := by decide +kernel
theorem dX5_readOne_12 : decode cX5_readOne 12 = .ok (.getfield 9, 3) := by decide +kernel
theorem dX5_readOne_15 : decode cX5_readOne 15 = .ok (.aload_n 0, 1) := by decide +kernel
theorem dX5_readOne_16 : decode cX5_readOne 16 = .ok (.getfield 24, 3) := by decide +kernel
theorem dX5_readOne_19 : decode cX5_readOne 19 = .ok (.iaload, 1) := by decide +kernel
theorem dX5_readOne_20 : decode cX5_readOne 20 = .ok (.goto 4, 3) := by decide +kernel
theorem dX5_readOne_23 : decode cX5_readOne 23 = .ok (.iconst (-1), 1) := by decide +kernel
theorem dX5_readOne_24 : decode cX5_readOne 24 = .ok (.istore_n 3, 1) := by decide +kernel
theorem dX5_readOne_25 : decode cX5_readOne 25 = .ok (.iload_n 3, 1) := by decide +kernel
theorem dX5_readOne_26 : decode cX5_readOne 26 = .ok (.bipush 33, 2) := by decide +kernel
theorem dX5_readOne_28 : decode cX5_readOne 28 = .ok (.if_icmp .eq 15, 3) := by decide +kernel
theorem dX5_readOne_31 : decode cX5_readOne 31 = .ok (.iload_n 3, 1) := by decide +kernel
theorem dX5_readOne_32 : decode cX5_readOne 32 = .ok (.bipush 40, 2) := by decide +kernel
theorem dX5_readOne_34 : decode cX5_readOne 34 = .ok (.if_icmp .eq 9, 3) := by decide +kernel
theorem dX5_readOne_37 : decode cX5_readOne 37 = .ok (.aload_n 0, 1) := by decide +kernel
theorem dX5_readOne_38 : decode cX5_readOne 38 = .ok (.aload_n 1, 1) := by decide +kernel
theorem dX5_readOne_39 : decode cX5_readOne 39 = .ok (.invokevirtual 89, 3) := by decide +kernel
theorem dX5_readOne_42 : decode cX5_readOne 42 = .ok (.ireturn, 1) := by decide +kernel
theorem dX5_readOne_43 : decode cX5_readOne 43 = .ok (.iload_n 2, 1) := by decide +kernel
theorem dX5_readOne_44 : decode cX5_readOne 44 = .ok (.iconst 4, 1) := by decide +kernel
theorem dX5_readOne_45 : decode cX5_readOne 45 = .ok (.if_icmp .lt 5, 3) := by decide +kernel
theorem dX5_readOne_48 : decode cX5_readOne 48 = .ok (.iconst 0, 1) := by decide +kernel
theorem dX5_readOne_49 : decode cX5_readOne 49 = .ok (.ireturn, 1) := by decide +kernel
theorem dX5_readOne_50 : decode cX5_readOne 50 = .ok (.aload_n 0, 1) := by decide +kernel
theorem dX5_readOne_51 : decode cX5_readOne 51 = .ok (.dup, 1) := by decide +kernel
theorem dX5_readOne_52 : decode cX5_readOne 52 = .ok (.getfield 24, 3) := by decide +kernel
theorem dX5_readOne_55 : decode cX5_readOne 55 = .ok (.iconst 1, 1) := by decide +kernel
theorem dX5_readOne_56 : decode cX5_readOne 56 = .ok (.iadd, 1) := by decide +kernel
theorem dX5_readOne_57 : decode cX5_readOne 57 = .ok (.putfield 24, 3) := by decide +kernel
theorem dX5_readOne_60 : decode cX5_readOne 60 = .ok (.iload_n 3, 1) := by decide +kernel
theorem dX5_readOne_61 : decode cX5_readOne 61 = .ok (.bipush 40, 2) := by decide +kernel
theorem dX5_readOne_63 : decode cX5_readOne 63 = .ok (.if_icmp .ne 29, 3) := by decide +kernel
theorem dX5_readOne_66 : decode cX5_readOne 66 = .ok (.aload_n 0, 1) := by decide +kernel
theorem dX5_readOne_67 : decode cX5_readOne 67 = .ok (.aload_n 1, 1) := by decide +kernel
theorem dX5_readOne_68 : decode cX5_readOne 68 = .ok (.iload_n 2, 1) := by decide +kernel
theorem dX5_readOne_69 : decode cX5_readOne 69 = .ok (.iconst 1, 1) := by decide +kernel
theorem dX5_readOne_70 : decode cX5_readOne 70 = .ok (.iadd, 1) := by decide +kernel
theorem dX5_readOne_71 : decode cX5_readOne 71 = .ok (.invokevirtual 43, 3) := by decide +kernel
theorem dX5_readOne_74 : decode cX5_readOne 74 = .ok (.ifCond .eq 16, 3) := by decide +kernel
theorem dX5_readOne_77 : decode cX5_readOne 77 = .ok (.aload_n 0, 1) := by decide +kernel
theorem dX5_readOne_78 : decode cX5_readOne 78 = .ok (.bipush 41, 2) := by decide +kernel
theorem dX5_readOne_80 : decode cX5_readOne 80 = .ok (.invokevirtual 31, 3) := by decide +kernel
theorem dX5_readOne_83 : decode cX5_readOne 83 = .ok (.ifCond .eq 7, 3) := by decide +kernel
theorem dX5_readOne_86 : decode cX5_readOne 86 = .ok (.iconst 1, 1) := by decide +kernel
theorem dX5_readOne_87 : decode cX5_readOne 87 = .ok (.goto 4, 3) := by decide +kernel
theorem dX5_readOne_90 : decode cX5_readOne 90 = .ok (.iconst 0, 1) := by decide +kernel
theorem dX5_readOne_91 : decode cX5_readOne 91 = .ok (.ireturn, 1) := by decide +kernel
theorem dX5_readOne_92 : decode cX5_readOne 92 = .ok (.aload_n 0, 1) := by decide +kernel
theorem dX5_readOne_93 : decode cX5_readOne 93 = .ok (.aload_n 1, 1) := by decide +kernel
theorem dX5_readOne_94 : decode cX5_readOne 94 = .ok (.iload_n 2, 1) := by decide +kernel
theorem dX5_readOne_95 : decode cX5_readOne 95 = .ok (.iconst 1, 1) := by decide +kernel
theorem dX5_readOne_96 : decode cX5_readOne 96 = .ok (.iadd, 1) := by decide +kernel
theorem dX5_readOne_97 : decode cX5_readOne 97 = .ok (.invokevirtual 86, 3) := by decide +kernel
theorem dX5_readOne_100 : decode cX5_readOne 100 = .ok (.ifCond .ne 5, 3) := by decide +kernel
theorem dX5_readOne_103 : decode cX5_readOne 103 = .ok (.iconst 0, 1) := by decide +kernel
theorem dX5_readOne_104 : decode cX5_readOne 104 = .ok (.ireturn, 1) := by decide +kernel
theorem dX5_readOne_105 : decode cX5_readOne 105 = .ok (.aload_n 1, 1) := by decide +kernel
theorem dX5_readOne_106 : decode cX5_readOne 106 = .ok (.bipush (-3), 2) := by decide +kernel
theorem dX5_readOne_108 : decode cX5_readOne 108 = .ok (.invokevirtual 82, 3) := by decide +kernel
theorem dX5_readOne_111 : decode cX5_readOne 111 = .ok (.iconst 1, 1) := by decide +kernel
theorem dX5_readOne_112 : decode cX5_readOne 112 = .ok (.ireturn, 1) := by decide +kernel
theorem dX5_readTest_0 : decode cX5_readTest 0 = .ok (.aload_n 0, 1) := by decide +kernel
theorem dX5_readTest_1 : decode cX5_readTest 1 = .ok (.ldc 92, 2) := by decide +kernel
theorem dX5_readTest_3 : decode cX5_readTest 3 = .ok (.invokevirtual 94, 3) := by decide +kernel
theorem dX5_readTest_6 : decode cX5_readTest 6 = .ok (.istore_n 2, 1) := by decide +kernel
theorem dX5_readTest_7 : decode cX5_readTest 7 = .ok (.iload_n 2, 1) := by decide +kernel
theorem dX5_readTest_8 : decode cX5_readTest 8 = .ok (.ifCond .ge 5, 3) := by decide +kernel
theorem dX5_readTest_11 : decode cX5_readTest 11 = .ok (.iconst 0, 1) := by decide +kernel
theorem dX5_readTest_12 : decode cX5_readTest 12 = .ok (.ireturn, 1) := by decide +kernel
theorem dX5_readTest_13 : decode cX5_readTest 13 = .ok (.aload_n 0, 1) := by decide +kernel
theorem dX5_readTest_14 : decode cX5_readTest 14 = .ok (.ldc 98, 2) := by decide +kernel
theorem dX5_readTest_16 : decode cX5_readTest 16 = .ok (.invokevirtual 94, 3) := by decide +kernel
theorem dX5_readTest_19 : decode cX5_readTest 19 = .ok (.istore_n 3, 1) := by decide +kernel
theorem dX5_readTest_20 : decode cX5_readTest 20 = .ok (.iload_n 3, 1) := by decide +kernel
theorem dX5_readTest_21 : decode cX5_readTest 21 = .ok (.ifCond .ge 5, 3) := by decide +kernel
theorem dX5_readTest_24 : decode cX5_readTest 24 = .ok (.iconst 0, 1) := by decide +kernel
theorem dX5_readTest_25 : decode cX5_readTest 25 = .ok (.ireturn, 1) := by decide +kernel
theorem dX5_readTest_26 : decode cX5_readTest 26 = .ok (.aload_n 0, 1) := by decide +kernel
theorem dX5_readTest_27 : decode cX5_readTest 27 = .ok (.iconst 2, 1) := by decide +kernel
theorem dX5_readTest_28 : decode cX5_readTest 28 = .ok (.invokevirtual 39, 3) := by decide +kernel
theorem dX5_readTest_31 : decode cX5_readTest 31 = .ok (.istore 4, 2) := by decide +kernel
theorem dX5_readTest_33 : decode cX5_readTest 33 = .ok (.iload 4, 2) := by decide +kernel
theorem dX5_readTest_35 : decode cX5_readTest 35 = .ok (.ifCond .ge 5, 3) := by decide +kernel
theorem dX5_readTest_38 : decode cX5_readTest 38 = .ok (.iconst 0, 1) := by decide +kernel
theorem dX5_readTest_39 : decode cX5_readTest 39 = .ok (.ireturn, 1) := by decide +kernel
theorem dX5_readTest_40 : decode cX5_readTest 40 = .ok (.aload_n 1, 1) := by decide +kernel
theorem dX5_readTest_41 : decode cX5_readTest 41 = .ok (.iload_n 2, 1) := by decide +kernel
theorem dX5_readTest_42 : decode cX5_readTest 42 = .ok (.iload_n 3, 1) := by decide +kernel
theorem dX5_readTest_43 : decode cX5_readTest 43 = .ok (.iload 4, 2) := by decide +kernel
theorem dX5_readTest_45 : decode cX5_readTest 45 = .ok (.invokestatic 100, 3) := by decide +kernel
theorem dX5_readTest_48 : decode cX5_readTest 48 = .ok (.invokevirtual 82, 3) := by decide +kernel
theorem dX5_readTest_51 : decode cX5_readTest 51 = .ok (.iconst 1, 1) := by decide +kernel
theorem dX5_readTest_52 : decode cX5_readTest 52 = .ok (.ireturn, 1) := by decide +kernel
theorem dX5_readSign_0 : decode cX5_readSign 0 = .ok (.iconst 0, 1) := by decide +kernel
theorem dX5_readSign_1 : decode cX5_readSign 1 = .ok (.istore_n 2, 1) := by decide +kernel
theorem dX5_readSign_2 : decode cX5_readSign 2 = .ok (.iload_n 2, 1) := by decide +kernel
theorem dX5_readSign_3 : decode cX5_readSign 3 = .ok (.aload_n 1, 1) := by decide +kernel
theorem dX5_readSign_4 : decode cX5_readSign 4 = .ok (.invokevirtual 65, 3) := by decide +kernel
theorem dX5_readSign_7 : decode cX5_readSign 7 = .ok (.if_icmp .ge 49, 3) := by decide +kernel
theorem dX5_readSign_10 : decode cX5_readSign 10 = .ok (.aload_n 0, 1) := by decide +kernel
theorem dX5_readSign_11 : decode cX5_readSign 11 = .ok (.getfield 24, 3) := by decide +kernel
theorem dX5_readSign_14 : decode cX5_readSign 14 = .ok (.aload_n 0, 1) := by decide +kernel
theorem dX5_readSign_15 : decode cX5_readSign 15 = .ok (.getfield 15, 3) := by decide +kernel
theorem dX5_readSign_18 : decode cX5_readSign 18 = .ok (.if_icmp .ge 38, 3) := by decide +kernel
theorem dX5_readSign_21 : decode cX5_readSign 21 = .ok (.aload_n 0, 1) := by decide +kernel
theorem dX5_readSign_22 : decode cX5_readSign 22 = .ok (.getfield 9, 3) := by decide +kernel
theorem dX5_readSign_25 : decode cX5_readSign 25 = .ok (.aload_n 0, 1) := by decide +kernel
theorem dX5_readSign_26 : decode cX5_readSign 26 = .ok (.getfield 24, 3) := by decide +kernel
theorem dX5_readSign_29 : decode cX5_readSign 29 = .ok (.iaload, 1) := by decide +kernel
theorem dX5_readSign_30 : decode cX5_readSign 30 = .ok (.aload_n 1, 1) := by decide +kernel
theorem dX5_readSign_31 : decode cX5_readSign 31 = .ok (.iload_n 2, 1) := by decide +kernel
theorem dX5_readSign_32 : decode cX5_readSign 32 = .ok (.invokevirtual 69, 3) := by decide +kernel
theorem dX5_readSign_35 : decode cX5_readSign 35 = .ok (.if_icmp .ne 15, 3) := by decide +kernel
theorem dX5_readSign_38 : decode cX5_readSign 38 = .ok (.aload_n 0, 1) := by decide +kernel
theorem dX5_readSign_39 : decode cX5_readSign 39 = .ok (.dup, 1) := by decide +kernel
theorem dX5_readSign_40 : decode cX5_readSign 40 = .ok (.getfield 24, 3) := by decide +kernel
theorem dX5_readSign_43 : decode cX5_readSign 43 = .ok (.iconst 1, 1) := by decide +kernel
theorem dX5_readSign_44 : decode cX5_readSign 44 = .ok (.iadd, 1) := by decide +kernel
theorem dX5_readSign_45 : decode cX5_readSign 45 = .ok (.putfield 24, 3) := by decide +kernel
theorem dX5_readSign_48 : decode cX5_readSign 48 = .ok (.iload_n 2, 1) := by decide +kernel
theorem dX5_readSign_49 : decode cX5_readSign 49 = .ok (.ireturn, 1) := by decide +kernel
theorem dX5_readSign_50 : decode cX5_readSign 50 = .ok (.iinc 2 1, 3) := by decide +kernel
theorem dX5_readSign_53 : decode cX5_readSign 53 = .ok (.goto (-51), 3) := by decide +kernel
theorem dX5_readSign_56 : decode cX5_readSign 56 = .ok (.iconst (-1), 1) := by decide +kernel
theorem dX5_readSign_57 : decode cX5_readSign 57 = .ok (.ireturn, 1) := by decide +kernel
theorem dX5_eats_0 : decode cX5_eats 0 = .ok (.aload_n 0, 1) := by decide +kernel
theorem dX5_eats_1 : decode cX5_eats 1 = .ok (.getfield 24, 3) := by decide +kernel
theorem dX5_eats_4 : decode cX5_eats 4 = .ok (.aload_n 0, 1) := by decide +kernel
theorem dX5_eats_5 : decode cX5_eats 5 = .ok (.getfield 15, 3) := by decide +kernel
theorem dX5_eats_8 : decode cX5_eats 8 = .ok (.if_icmp .ge 28, 3) := by decide +kernel
theorem dX5_eats_11 : decode cX5_eats 11 = .ok (.aload_n 0, 1) := by decide +kernel
theorem dX5_eats_12 : decode cX5_eats 12 = .ok (.getfield 9, 3) := by decide +kernel
theorem dX5_eats_15 : decode cX5_eats 15 = .ok (.aload_n 0, 1) := by decide +kernel
theorem dX5_eats_16 : decode cX5_eats 16 = .ok (.getfield 24, 3) := by decide +kernel
theorem dX5_eats_19 : decode cX5_eats 19 = .ok (.iaload, 1) := by decide +kernel
theorem dX5_eats_20 : decode cX5_eats 20 = .ok (.iload_n 1, 1) := by decide +kernel
theorem dX5_eats_21 : decode cX5_eats 21 = .ok (.if_icmp .ne 15, 3) := by decide +kernel
theorem dX5_eats_24 : decode cX5_eats 24 = .ok (.aload_n 0, 1) := by decide +kernel
theorem dX5_eats_25 : decode cX5_eats 25 = .ok (.dup, 1) := by decide +kernel
theorem dX5_eats_26 : decode cX5_eats 26 = .ok (.getfield 24, 3) := by decide +kernel
theorem dX5_eats_29 : decode cX5_eats 29 = .ok (.iconst 1, 1) := by decide +kernel
theorem dX5_eats_30 : decode cX5_eats 30 = .ok (.iadd, 1) := by decide +kernel
theorem dX5_eats_31 : decode cX5_eats 31 = .ok (.putfield 24, 3) := by decide +kernel
theorem dX5_eats_34 : decode cX5_eats 34 = .ok (.iconst 1, 1) := by decide +kernel
theorem dX5_eats_35 : decode cX5_eats 35 = .ok (.ireturn, 1) := by decide +kernel
theorem dX5_eats_36 : decode cX5_eats 36 = .ok (.iconst 0, 1) := by decide +kernel
theorem dX5_eats_37 : decode cX5_eats 37 = .ok (.ireturn, 1) := by decide +kernel
theorem dX6_init_0 : decode cX6_init 0 = .ok (.aload_n 0, 1) := by decide +kernel
theorem dX6_init_1 : decode cX6_init 1 = .ok (.invokespecial 3, 3) := by decide +kernel
theorem dX6_init_4 : decode cX6_init 4 = .ok (.aload_n 0, 1) := by decide +kernel
theorem dX6_init_5 : decode cX6_init 5 = .ok (.bipush 64, 2) := by decide +kernel
theorem dX6_init_7 : decode cX6_init 7 = .ok (.newarray .int, 2) := by decide +kernel
theorem dX6_init_9 : decode cX6_init 9 = .ok (.putfield 9, 3) := by decide +kernel
theorem dX6_init_12 : decode cX6_init 12 = .ok (.aload_n 0, 1) := by decide +kernel
theorem dX6_init_13 : decode cX6_init 13 = .ok (.bipush 8, 2) := by decide +kernel
theorem dX6_init_15 : decode cX6_init 15 = .ok (.newarray .int, 2) := by decide +kernel
theorem dX6_init_17 : decode cX6_init 17 = .ok (.putfield 15, 3) := by decide +kernel
theorem dX6_init_20 : decode cX6_init 20 = .ok (.aload_n 0, 1) := by decide +kernel
theorem dX6_init_21 : decode cX6_init 21 = .ok (.bipush 16, 2) := by decide +kernel
theorem dX6_init_23 : decode cX6_init 23 = .ok (.newarray .int, 2) := by decide +kernel
theorem dX6_init_25 : decode cX6_init 25 = .ok (.putfield 18, 3) := by decide +kernel
theorem dX6_init_28 : decode cX6_init 28 = .ok (.aload_n 0, 1) := by decide +kernel
theorem dX6_init_29 : decode cX6_init 29 = .ok (.bipush 16, 2) := by decide +kernel
theorem dX6_init_31 : decode cX6_init 31 = .ok (.newarray .int, 2) := by decide +kernel
theorem dX6_init_33 : decode cX6_init 33 = .ok (.putfield 21, 3) := by decide +kernel
theorem dX6_init_36 : decode cX6_init 36 = .ok (.aload_n 0, 1) := by decide +kernel
theorem dX6_init_37 : decode cX6_init 37 = .ok (.bipush 16, 2) := by decide +kernel
theorem dX6_init_39 : decode cX6_init 39 = .ok (.newarray .int, 2) := by decide +kernel
theorem dX6_init_41 : decode cX6_init 41 = .ok (.putfield 24, 3) := by decide +kernel
theorem dX6_init_44 : decode cX6_init 44 = .ok (.aload_n 0, 1) := by decide +kernel
theorem dX6_init_45 : decode cX6_init 45 = .ok (.bipush 16, 2) := by decide +kernel
theorem dX6_init_47 : decode cX6_init 47 = .ok (.newarray .int, 2) := by decide +kernel
theorem dX6_init_49 : decode cX6_init 49 = .ok (.putfield 27, 3) := by decide +kernel
theorem dX6_init_52 : decode cX6_init 52 = .ok (.aload_n 0, 1) := by decide +kernel
theorem dX6_init_53 : decode cX6_init 53 = .ok (.bipush 16, 2) := by decide +kernel
theorem dX6_init_55 : decode cX6_init 55 = .ok (.newarray .int, 2) := by decide +kernel
theorem dX6_init_57 : decode cX6_init 57 = .ok (.putfield 30, 3) := by decide +kernel
theorem dX6_init_60 : decode cX6_init 60 = .ok (.aload_n 0, 1) := by decide +kernel
theorem dX6_init_61 : decode cX6_init 61 = .ok (.bipush 6, 2) := by decide +kernel
theorem dX6_init_63 : decode cX6_init 63 = .ok (.newarray .int, 2) := by decide +kernel
theorem dX6_init_65 : decode cX6_init 65 = .ok (.putfield 33, 3) := by decide +kernel
theorem dX6_init_68 : decode cX6_init 68 = .ok (.aload_n 0, 1) := by decide +kernel
theorem dX6_init_69 : decode cX6_init 69 = .ok (.aload_n 1, 1) := by decide +kernel
theorem dX6_init_70 : decode cX6_init 70 = .ok (.putfield 36, 3) := by decide +kernel
theorem dX6_init_73 : decode cX6_init 73 = .ok (.aload_n 0, 1) := by decide +kernel
theorem dX6_init_74 : decode cX6_init 74 = .ok (.getfield 15, 3) := by decide +kernel
theorem dX6_init_77 : decode cX6_init 77 = .ok (.bipush (-5), 2) := by decide +kernel
theorem dX6_init_79 : decode cX6_init 79 = .ok (.invokestatic 40, 3) := by decide +kernel
theorem dX6_init_82 : decode cX6_init 82 = .ok (.return_, 1) := by decide +kernel
theorem dX6_become_0 : decode cX6_become 0 = .ok (.aload_n 1, 1) := by decide +kernel
theorem dX6_become_1 : decode cX6_become 1 = .ok (.getfield 9, 3) := by decide +kernel
theorem dX6_become_4 : decode cX6_become 4 = .ok (.iconst 0, 1) := by decide +kernel
theorem dX6_become_5 : decode cX6_become 5 = .ok (.aload_n 0, 1) := by decide +kernel
theorem dX6_become_6 : decode cX6_become 6 = .ok (.getfield 9, 3) := by decide +kernel
theorem dX6_become_9 : decode cX6_become 9 = .ok (.iconst 0, 1) := by decide +kernel
theorem dX6_become_10 : decode cX6_become 10 = .ok (.aload_n 0, 1) := by decide +kernel
theorem dX6_become_11 : decode cX6_become 11 = .ok (.getfield 9, 3) := by decide +kernel
theorem dX6_become_14 : decode cX6_become 14 = .ok (.arraylength, 1) := by decide +kernel
theorem dX6_become_15 : decode cX6_become 15 = .ok (.invokestatic 46, 3) := by decide +kernel
theorem dX6_become_18 : decode cX6_become 18 = .ok (.aload_n 1, 1) := by decide +kernel
theorem dX6_become_19 : decode cX6_become 19 = .ok (.getfield 15, 3) := by decide +kernel
theorem dX6_become_22 : decode cX6_become 22 = .ok (.iconst 0, 1) := by decide +kernel
theorem dX6_become_23 : decode cX6_become 23 = .ok (.aload_n 0, 1) := by decide +kernel
theorem dX6_become_24 : decode cX6_become 24 = .ok (.getfield 15, 3) := by decide +kernel
theorem dX6_become_27 : decode cX6_become 27 = .ok (.iconst 0, 1) := by decide +kernel
theorem dX6_become_28 : decode cX6_become 28 = .ok (.aload_n 0, 1) := by decide +kernel
theorem dX6_become_29 : decode cX6_become 29 = .ok (.getfield 15, 3) := by decide +kernel
theorem dX6_become_32 : decode cX6_become 32 = .ok (.arraylength, 1) := by decide +kernel
theorem dX6_become_33 : decode cX6_become 33 = .ok (.invokestatic 46, 3) := by decide +kernel
theorem dX6_become_36 : decode cX6_become 36 = .ok (.aload_n 0, 1) := by decide +kernel
theorem dX6_become_37 : decode cX6_become 37 = .ok (.aload_n 1, 1) := by decide +kernel
theorem dX6_become_38 : decode cX6_become 38 = .ok (.getfield 36, 3) := by decide +kernel
theorem dX6_become_41 : decode cX6_become 41 = .ok (.putfield 36, 3) := by decide +kernel
theorem dX6_become_44 : decode cX6_become 44 = .ok (.aload_n 1, 1) := by decide +kernel
theorem dX6_become_45 : decode cX6_become 45 = .ok (.getfield 18, 3) := by decide +kernel
theorem dX6_become_48 : decode cX6_become 48 = .ok (.iconst 0, 1) := by decide +kernel
theorem dX6_become_49 : decode cX6_become 49 = .ok (.aload_n 0, 1) := by decide +kernel
theorem dX6_become_50 : decode cX6_become 50 = .ok (.getfield 18, 3) := by decide +kernel
theorem dX6_become_53 : decode cX6_become 53 = .ok (.iconst 0, 1) := by decide +kernel
theorem dX6_become_54 : decode cX6_become 54 = .ok (.aload_n 0, 1) := by decide +kernel
theorem dX6_become_55 : decode cX6_become 55 = .ok (.getfield 18, 3) := by decide +kernel
theorem dX6_become_58 : decode cX6_become 58 = .ok (.arraylength, 1) := by decide +kernel
theorem dX6_become_59 : decode cX6_become 59 = .ok (.invokestatic 46, 3) := by decide +kernel
theorem dX6_become_62 : decode cX6_become 62 = .ok (.aload_n 1, 1) := by decide +kernel
theorem dX6_become_63 : decode cX6_become 63 = .ok (.getfield 21, 3) := by decide +kernel
theorem dX6_become_66 : decode cX6_become 66 = .ok (.iconst 0, 1) := by decide +kernel
theorem dX6_become_67 : decode cX6_become 67 = .ok (.aload_n 0, 1) := by decide +kernel
theorem dX6_become_68 : decode cX6_become 68 = .ok (.getfield 21, 3) := by decide +kernel
theorem dX6_become_71 : decode cX6_become 71 = .ok (.iconst 0, 1) := by decide +kernel
theorem dX6_become_72 : decode cX6_become 72 = .ok (.aload_n 0, 1) := by decide +kernel
theorem dX6_become_73 : decode cX6_become 73 = .ok (.getfield 21, 3) := by decide +kernel
theorem dX6_become_76 : decode cX6_become 76 = .ok (.arraylength, 1) := by decide +kernel
theorem dX6_become_77 : decode cX6_become 77 = .ok (.invokestatic 46, 3) := by decide +kernel
theorem dX6_become_80 : decode cX6_become 80 = .ok (.aload_n 1, 1) := by decide +kernel
theorem dX6_become_81 : decode cX6_become 81 = .ok (.getfield 24, 3) := by decide +kernel
theorem dX6_become_84 : decode cX6_become 84 = .ok (.iconst 0, 1) := by decide +kernel
theorem dX6_become_85 : decode cX6_become 85 = .ok (.aload_n 0, 1) := by decide +kernel
theorem dX6_become_86 : decode cX6_become 86 = .ok (.getfield 24, 3) := by decide +kernel
theorem dX6_become_89 : decode cX6_become 89 = .ok (.iconst 0, 1) := by decide +kernel
theorem dX6_become_90 : decode cX6_become 90 = .ok (.aload_n 0, 1) := by decide +kernel
theorem dX6_become_91 : decode cX6_become 91 = .ok (.getfield 24, 3) := by decide +kernel
theorem dX6_become_94 : decode cX6_become 94 = .ok (.arraylength, 1) := by decide +kernel
theorem dX6_become_95 : decode cX6_become 95 = .ok (.invokestatic 46, 3) := by decide +kernel
theorem dX6_become_98 : decode cX6_become 98 = .ok (.aload_n 1, 1) := by decide +kernel
theorem dX6_become_99 : decode cX6_become 99 = .ok (.getfield 27, 3) := by decide +kernel
theorem dX6_become_102 : decode cX6_become 102 = .ok (.iconst 0, 1) := by decide +kernel
theorem dX6_become_103 : decode cX6_become 103 = .ok (.aload_n 0, 1) := by decide +kernel
theorem dX6_become_104 : decode cX6_become 104 = .ok (.getfield 27, 3) := by decide +kernel
theorem dX6_become_107 : decode cX6_become 107 = .ok (.iconst 0, 1) := by decide +kernel
theorem dX6_become_108 : decode cX6_become 108 = .ok (.aload_n 0, 1) := by decide +kernel
theorem dX6_become_109 : decode cX6_become 109 = .ok (.getfield 27, 3) := by decide +kernel
theorem dX6_become_112 : decode cX6_become 112 = .ok (.arraylength, 1) := by decide +kernel
theorem dX6_become_113 : decode cX6_become 113 = .ok (.invokestatic 46, 3) := by decide +kernel
theorem dX6_become_116 : decode cX6_become 116 = .ok (.aload_n 1, 1) := by decide +kernel
theorem dX6_become_117 : decode cX6_become 117 = .ok (.getfield 30, 3) := by decide +kernel
theorem dX6_become_120 : decode cX6_become 120 = .ok (.iconst 0, 1) := by decide +kernel
theorem dX6_become_121 : decode cX6_become 121 = .ok (.aload_n 0, 1) := by decide +kernel
theorem dX6_become_122 : decode cX6_become 122 = .ok (.getfield 30, 3) := by decide +kernel
theorem dX6_become_125 : decode cX6_become 125 = .ok (.iconst 0, 1) := by decide +kernel
theorem dX6_become_126 : decode cX6_become 126 = .ok (.aload_n 0, 1) := by decide +kernel
theorem dX6_become_127 : decode cX6_become 127 = .ok (.getfield 30, 3) := by decide +kernel
theorem dX6_become_130 : decode cX6_become 130 = .ok (.arraylength, 1) := by decide +kernel
theorem dX6_become_131 : decode cX6_become 131 = .ok (.invokestatic 46, 3) := by decide +kernel
theorem dX6_become_134 : decode cX6_become 134 = .ok (.aload_n 0, 1) := by decide +kernel
theorem dX6_become_135 : decode cX6_become 135 = .ok (.aload_n 1, 1) := by decide +kernel
theorem dX6_become_136 : decode cX6_become 136 = .ok (.getfield 52, 3) := by decide +kernel
theorem dX6_become_139 : decode cX6_become 139 = .ok (.putfield 52, 3) := by decide +kernel
theorem dX6_become_142 : decode cX6_become 142 = .ok (.aload_n 1, 1) := by decide +kernel
theorem dX6_become_143 : decode cX6_become 143 = .ok (.getfield 33, 3) := by decide +kernel
theorem dX6_become_146 : decode cX6_become 146 = .ok (.iconst 0, 1) := by decide +kernel
theorem dX6_become_147 : decode cX6_become 147 = .ok (.aload_n 0, 1) := by decide +kernel
theorem dX6_become_148 : decode cX6_become 148 = .ok (.getfield 33, 3) := by decide +kernel
theorem dX6_become_151 : decode cX6_become 151 = .ok (.iconst 0, 1) := by decide +kernel
theorem dX6_become_152 : decode cX6_become 152 = .ok (.aload_n 0, 1) := by decide +kernel
theorem dX6_become_153 : decode cX6_become 153 = .ok (.getfield 33, 3) := by decide +kernel
theorem dX6_become_156 : decode cX6_become 156 = .ok (.arraylength, 1) := by decide +kernel
theorem dX6_become_157 : decode cX6_become 157 = .ok (.invokestatic 46, 3) := by decide +kernel
theorem dX6_become_160 : decode cX6_become 160 = .ok (.aload_n 0, 1) := by decide +kernel
theorem dX6_become_161 : decode cX6_become 161 = .ok (.aload_n 1, 1) := by decide +kernel
theorem dX6_become_162 : decode cX6_become 162 = .ok (.getfield 56, 3) := by decide +kernel
theorem dX6_become_165 : decode cX6_become 165 = .ok (.putfield 56, 3) := by decide +kernel
theorem dX6_become_168 : decode cX6_become 168 = .ok (.return_, 1) := by decide +kernel
theorem dX6_joinBoth_0 : decode cX6_joinBoth 0 = .ok (.aload_n 0, 1) := by decide +kernel
theorem dX6_joinBoth_1 : decode cX6_joinBoth 1 = .ok (.getfield 9, 3) := by decide +kernel
theorem dX6_joinBoth_4 : decode cX6_joinBoth 4 = .ok (.iload_n 1, 1) := by decide +kernel
theorem dX6_joinBoth_5 : decode cX6_joinBoth 5 = .ok (.bipush 8, 2) := by decide +kernel
theorem dX6_joinBoth_7 : decode cX6_joinBoth 7 = .ok (.imul, 1) := by decide +kernel
theorem dX6_joinBoth_8 : decode cX6_joinBoth 8 = .ok (.iload_n 2, 1) := by decide +kernel
theorem dX6_joinBoth_9 : decode cX6_joinBoth 9 = .ok (.iadd, 1) := by decide +kernel
theorem dX6_joinBoth_10 : decode cX6_joinBoth 10 = .ok (.iaload, 1) := by decide +kernel
theorem dX6_joinBoth_11 : decode cX6_joinBoth 11 = .ok (.istore 4, 2) := by decide +kernel
theorem dX6_joinBoth_13 : decode cX6_joinBoth 13 = .ok (.aload_n 0, 1) := by decide +kernel
theorem dX6_joinBoth_14 : decode cX6_joinBoth 14 = .ok (.getfield 9, 3) := by decide +kernel
theorem dX6_joinBoth_17 : decode cX6_joinBoth 17 = .ok (.iload_n 1, 1) := by decide +kernel
theorem dX6_joinBoth_18 : decode cX6_joinBoth 18 = .ok (.bipush 8, 2) := by decide +kernel
theorem dX6_joinBoth_20 : decode cX6_joinBoth 20 = .ok (.imul, 1) := by decide +kernel
theorem dX6_joinBoth_21 : decode cX6_joinBoth 21 = .ok (.iload_n 2, 1) := by decide +kernel
theorem dX6_joinBoth_22 : decode cX6_joinBoth 22 = .ok (.iadd, 1) := by decide +kernel
theorem dX6_joinBoth_23 : decode cX6_joinBoth 23 = .ok (.iload_n 3, 1) := by decide +kernel
theorem dX6_joinBoth_24 : decode cX6_joinBoth 24 = .ok (.iastore, 1) := by decide +kernel
theorem dX6_joinBoth_25 : decode cX6_joinBoth 25 = .ok (.aload_n 0, 1) := by decide +kernel
theorem dX6_joinBoth_26 : decode cX6_joinBoth 26 = .ok (.getfield 9, 3) := by decide +kernel
theorem dX6_joinBoth_29 : decode cX6_joinBoth 29 = .ok (.iload_n 2, 1) := by decide +kernel
theorem dX6_joinBoth_30 : decode cX6_joinBoth 30 = .ok (.bipush 8, 2) := by decide +kernel
theorem dX6_joinBoth_32 : decode cX6_joinBoth 32 = .ok (.imul, 1) := by decide +kernel
theorem dX6_joinBoth_33 : decode cX6_joinBoth 33 = .ok (.iload_n 1, 1) := by decide +kernel
theorem dX6_joinBoth_34 : decode cX6_joinBoth 34 = .ok (.iadd, 1) := by decide +kernel
theorem dX6_joinBoth_35 : decode cX6_joinBoth 35 = .ok (.iload_n 3, 1) := by decide +kernel
theorem dX6_joinBoth_36 : decode cX6_joinBoth 36 = .ok (.iastore, 1) := by decide +kernel
theorem dX6_joinBoth_37 : decode cX6_joinBoth 37 = .ok (.iload 4, 2) := by decide +kernel
theorem dX6_joinBoth_39 : decode cX6_joinBoth 39 = .ok (.ireturn, 1) := by decide +kernel
theorem dX6_hoursBetween_0 : decode cX6_hoursBetween 0 = .ok (.aload_n 0, 1) := by decide +kernel
theorem dX6_hoursBetween_1 : decode cX6_hoursBetween 1 = .ok (.getfield 9, 3) := by decide +kernel
theorem dX6_hoursBetween_4 : decode cX6_hoursBetween 4 = .ok (.iload_n 1, 1) := by decide +kernel
theorem dX6_hoursBetween_5 : decode cX6_hoursBetween 5 = .ok (.bipush 8, 2) := by decide +kernel
theorem dX6_hoursBetween_7 : decode cX6_hoursBetween 7 = .ok (.imul, 1) := by decide +kernel
theorem dX6_hoursBetween_8 : decode cX6_hoursBetween 8 = .ok (.iload_n 2, 1) := by decide +kernel
theorem dX6_hoursBetween_9 : decode cX6_hoursBetween 9 = .ok (.iadd, 1) := by decide +kernel
theorem dX6_hoursBetween_10 : decode cX6_hoursBetween 10 = .ok (.iaload, 1) := by decide +kernel
theorem dX6_hoursBetween_11 : decode cX6_hoursBetween 11 = .ok (.istore_n 3, 1) := by decide +kernel
theorem dX6_hoursBetween_12 : decode cX6_hoursBetween 12 = .ok (.iload_n 3, 1) := by decide +kernel
theorem dX6_hoursBetween_13 : decode cX6_hoursBetween 13 = .ok (.ifCond .ne 8, 3) := by decide +kernel
theorem dX6_hoursBetween_16 : decode cX6_hoursBetween 16 = .ok (.bipush (-5), 2) := by decide +kernel
theorem dX6_hoursBetween_18 : decode cX6_hoursBetween 18 = .ok (.goto 13, 3) := by decide +kernel
theorem dX6_hoursBetween_21 : decode cX6_hoursBetween 21 = .ok (.aload_n 0, 1) := by decide +kernel
theorem dX6_hoursBetween_22 : decode cX6_hoursBetween 22 = .ok (.getfield 36, 3) := by decide +kernel
theorem dX6_hoursBetween_25 : decode cX6_hoursBetween 25 = .ok (.iload_n 1, 1) := by decide +kernel
theorem dX6_hoursBetween_26 : decode cX6_hoursBetween 26 = .ok (.iload_n 2, 1) := by decide +kernel
theorem dX6_hoursBetween_27 : decode cX6_hoursBetween 27 = .ok (.iload_n 3, 1) := by decide +kernel
theorem dX6_hoursBetween_28 : decode cX6_hoursBetween 28 = .ok (.invokevirtual 59, 3) := by decide +kernel
theorem dX6_hoursBetween_31 : decode cX6_hoursBetween 31 = .ok (.ireturn, 1) := by decide +kernel
theorem dX6_addTrade_0 : decode cX6_addTrade 0 = .ok (.aload_n 0, 1) := by decide +kernel
theorem dX6_addTrade_1 : decode cX6_addTrade 1 = .ok (.getfield 18, 3) := by decide +kernel
theorem dX6_addTrade_4 : decode cX6_addTrade 4 = .ok (.aload_n 0, 1) := by decide +kernel
theorem dX6_addTrade_5 : decode cX6_addTrade 5 = .ok (.getfield 52, 3) := by decide +kernel
theorem dX6_addTrade_8 : decode cX6_addTrade 8 = .ok (.iload_n 1, 1) := by decide +kernel
theorem dX6_addTrade_9 : decode cX6_addTrade 9 = .ok (.iastore, 1) := by decide +kernel
theorem dX6_addTrade_10 : decode cX6_addTrade 10 = .ok (.aload_n 0, 1) := by decide +kernel
theorem dX6_addTrade_11 : decode cX6_addTrade 11 = .ok (.getfield 21, 3) := by decide +kernel
theorem dX6_addTrade_14 : decode cX6_addTrade 14 = .ok (.aload_n 0, 1) := by decide +kernel
theorem dX6_addTrade_15 : decode cX6_addTrade 15 = .ok (.getfield 52, 3) := by decide +kernel
theorem dX6_addTrade_18 : decode cX6_addTrade 18 = .ok (.iload_n 2, 1) := by decide +kernel
theorem dX6_addTrade_19 : decode cX6_addTrade 19 = .ok (.iastore, 1) := by decide +kernel
theorem dX6_addTrade_20 : decode cX6_addTrade 20 = .ok (.aload_n 0, 1) := by decide +kernel
theorem dX6_addTrade_21 : decode cX6_addTrade 21 = .ok (.getfield 24, 3) := by decide +kernel
theorem dX6_addTrade_24 : decode cX6_addTrade 24 = .ok (.aload_n 0, 1) := by decide +kernel
theorem dX6_addTrade_25 : decode cX6_addTrade 25 = .ok (.getfield 52, 3) := by decide +kernel
theorem dX6_addTrade_28 : decode cX6_addTrade 28 = .ok (.iload_n 3, 1) := by decide +kernel
theorem dX6_addTrade_29 : decode cX6_addTrade 29 = .ok (.iastore, 1) := by decide +kernel
theorem dX6_addTrade_30 : decode cX6_addTrade 30 = .ok (.aload_n 0, 1) := by decide +kernel
theorem dX6_addTrade_31 : decode cX6_addTrade 31 = .ok (.getfield 27, 3) := by decide +kernel
theorem dX6_addTrade_34 : decode cX6_addTrade 34 = .ok (.aload_n 0, 1) := by decide +kernel
theorem dX6_addTrade_35 : decode cX6_addTrade 35 = .ok (.getfield 52, 3) := by decide +kernel
theorem dX6_addTrade_38 : decode cX6_addTrade 38 = .ok (.iload 4, 2) := by decide +kernel
theorem dX6_addTrade_40 : decode cX6_addTrade 40 = .ok (.iastore, 1) := by decide +kernel
theorem dX6_addTrade_41 : decode cX6_addTrade 41 = .ok (.aload_n 0, 1) := by decide +kernel
theorem dX6_addTrade_42 : decode cX6_addTrade 42 = .ok (.getfield 30, 3) := by decide +kernel
theorem dX6_addTrade_45 : decode cX6_addTrade 45 = .ok (.aload_n 0, 1) := by decide +kernel
theorem dX6_addTrade_46 : decode cX6_addTrade 46 = .ok (.getfield 52, 3) := by decide +kernel
theorem dX6_addTrade_49 : decode cX6_addTrade 49 = .ok (.iload 5, 2) := by decide +kernel
theorem dX6_addTrade_51 : decode cX6_addTrade 51 = .ok (.iastore, 1) := by decide +kernel
theorem dX6_addTrade_52 : decode cX6_addTrade 52 = .ok (.aload_n 0, 1) := by decide +kernel
theorem dX6_addTrade_53 : decode cX6_addTrade 53 = .ok (.dup, 1) := by decide +kernel
theorem dX6_addTrade_54 : decode cX6_addTrade 54 = .ok (.getfield 52, 3) := by decide +kernel
theorem dX6_addTrade_57 : decode cX6_addTrade 57 = .ok (.iconst 1, 1) := by decide +kernel
theorem dX6_addTrade_58 : decode cX6_addTrade 58 = .ok (.iadd, 1) := by decide +kernel
theorem dX6_addTrade_59 : decode cX6_addTrade 59 = .ok (.putfield 52, 3) := by decide +kernel
theorem dX6_addTrade_62 : decode cX6_addTrade 62 = .ok (.aload_n 0, 1) := by decide +kernel
theorem dX6_addTrade_63 : decode cX6_addTrade 63 = .ok (.getfield 52, 3) := by decide +kernel
theorem dX6_addTrade_66 : decode cX6_addTrade 66 = .ok (.iconst 1, 1) := by decide +kernel
theorem dX6_addTrade_67 : decode cX6_addTrade 67 = .ok (.isub, 1) := by decide +kernel
theorem dX6_addTrade_68 : decode cX6_addTrade 68 = .ok (.ireturn, 1) := by decide +kernel
theorem dX6_fridaysOf_0 : decode cX6_fridaysOf 0 = .ok (.iconst 0, 1) := by decide +kernel
theorem dX6_fridaysOf_1 : decode cX6_fridaysOf 1 = .ok (.istore_n 2, 1) := by decide +kernel
theorem dX6_fridaysOf_2 : decode cX6_fridaysOf 2 = .ok (.iconst 0, 1) := by decide +kernel
theorem dX6_fridaysOf_3 : decode cX6_fridaysOf 3 = .ok (.istore_n 3, 1) := by decide +kernel
theorem dX6_fridaysOf_4 : decode cX6_fridaysOf 4 = .ok (.iload_n 3, 1) := by decide +kernel
theorem dX6_fridaysOf_5 : decode cX6_fridaysOf 5 = .ok (.aload_n 0, 1) := by decide +kernel
theorem dX6_fridaysOf_6 : decode cX6_fridaysOf 6 = .ok (.getfield 52, 3) := by decide +kernel
theorem dX6_fridaysOf_9 : decode cX6_fridaysOf 9 = .ok (.if_icmp .ge 30, 3) := by decide +kernel
theorem dX6_fridaysOf_12 : decode cX6_fridaysOf 12 = .ok (.aload_n 0, 1) := by decide +kernel
theorem dX6_fridaysOf_13 : decode cX6_fridaysOf 13 = .ok (.getfield 21, 3) := by decide +kernel
theorem dX6_fridaysOf_16 : decode cX6_fridaysOf 16 = .ok (.iload_n 3, 1) := by decide +kernel
theorem dX6_fridaysOf_17 : decode cX6_fridaysOf 17 = .ok (.iaload, 1) := by decide +kernel
theorem dX6_fridaysOf_18 : decode cX6_fridaysOf 18 = .ok (.iload_n 1, 1) := by decide +kernel
theorem dX6_fridaysOf_19 : decode cX6_fridaysOf 19 = .ok (.if_icmp .ne 14, 3) := by decide +kernel
theorem dX6_fridaysOf_22 : decode cX6_fridaysOf 22 = .ok (.iload_n 2, 1) := by decide +kernel
theorem dX6_fridaysOf_23 : decode cX6_fridaysOf 23 = .ok (.iconst 1, 1) := by decide +kernel
theorem dX6_fridaysOf_24 : decode cX6_fridaysOf 24 = .ok (.aload_n 0, 1) := by decide +kernel
theorem dX6_fridaysOf_25 : decode cX6_fridaysOf 25 = .ok (.getfield 24, 3) := by decide +kernel
theorem dX6_fridaysOf_28 : decode cX6_fridaysOf 28 = .ok (.iload_n 3, 1) := by decide +kernel
theorem dX6_fridaysOf_29 : decode cX6_fridaysOf 29 = .ok (.iaload, 1) := by decide +kernel
theorem dX6_fridaysOf_30 : decode cX6_fridaysOf 30 = .ok (.ishl, 1) := by decide +kernel
theorem dX6_fridaysOf_31 : decode cX6_fridaysOf 31 = .ok (.ior, 1) := by decide +kernel
theorem dX6_fridaysOf_32 : decode cX6_fridaysOf 32 = .ok (.istore_n 2, 1) := by decide +kernel
theorem dX6_fridaysOf_33 : decode cX6_fridaysOf 33 = .ok (.iinc 3 1, 3) := by decide +kernel
theorem dX6_fridaysOf_36 : decode cX6_fridaysOf 36 = .ok (.goto (-32), 3) := by decide +kernel
theorem dX6_fridaysOf_39 : decode cX6_fridaysOf 39 = .ok (.iload_n 2, 1) := by decide +kernel
theorem dX6_fridaysOf_40 : decode cX6_fridaysOf 40 = .ok (.ireturn, 1) := by decide +kernel
theorem dX6_hasFellow_0 : decode cX6_hasFellow 0 = .ok (.iconst 0, 1) := by decide +kernel
theorem dX6_hasFellow_1 : decode cX6_hasFellow 1 = .ok (.istore_n 2, 1) := by decide +kernel
theorem dX6_hasFellow_2 : decode cX6_hasFellow 2 = .ok (.iload_n 2, 1) := by decide +kernel
theorem dX6_hasFellow_3 : decode cX6_hasFellow 3 = .ok (.aload_n 0, 1) := by decide +kernel
theorem dX6_hasFellow_4 : decode cX6_hasFellow 4 = .ok (.getfield 52, 3) := by decide +kernel
theorem dX6_hasFellow_7 : decode cX6_hasFellow 7 = .ok (.if_icmp .ge 46, 3) := by decide +kernel
theorem dX6_hasFellow_10 : decode cX6_hasFellow 10 = .ok (.iload_n 2, 1) := by decide +kernel
theorem dX6_hasFellow_11 : decode cX6_hasFellow 11 = .ok (.iload_n 1, 1) := by decide +kernel
theorem dX6_hasFellow_12 : decode cX6_hasFellow 12 = .ok (.if_icmp .eq 35, 3) := by decide +kernel
theorem dX6_hasFellow_15 : decode cX6_hasFellow 15 = .ok (.aload_n 0, 1) := by decide +kernel
theorem dX6_hasFellow_16 : decode cX6_hasFellow 16 = .ok (.getfield 21, 3) := by decide +kernel
theorem dX6_hasFellow_19 : decode cX6_hasFellow 19 = .ok (.iload_n 2, 1) := by decide +kernel
theorem dX6_hasFellow_20 : decode cX6_hasFellow 20 = .ok (.iaload, 1) := by decide +kernel
theorem dX6_hasFellow_21 : decode cX6_hasFellow 21 = .ok (.aload_n 0, 1) := by decide +kernel
theorem dX6_hasFellow_22 : decode cX6_hasFellow 22 = .ok (.getfield 21, 3) := by decide +kernel
theorem dX6_hasFellow_25 : decode cX6_hasFellow 25 = .ok (.iload_n 1, 1) := by decide +kernel
theorem dX6_hasFellow_26 : decode cX6_hasFellow 26 = .ok (.iaload, 1) := by decide +kernel
theorem dX6_hasFellow_27 : decode cX6_hasFellow 27 = .ok (.if_icmp .ne 20, 3) := by decide +kernel
theorem dX6_hasFellow_30 : decode cX6_hasFellow 30 = .ok (.aload_n 0, 1) := by decide +kernel
theorem dX6_hasFellow_31 : decode cX6_hasFellow 31 = .ok (.getfield 24, 3) := by decide +kernel
theorem dX6_hasFellow_34 : decode cX6_hasFellow 34 = .ok (.iload_n 2, 1) := by decide +kernel
theorem dX6_hasFellow_35 : decode cX6_hasFellow 35 = .ok (.iaload, 1) := by decide +kernel
theorem dX6_hasFellow_36 : decode cX6_hasFellow 36 = .ok (.aload_n 0, 1) := by decide +kernel
theorem dX6_hasFellow_37 : decode cX6_hasFellow 37 = .ok (.getfield 24, 3) := by decide +kernel
theorem dX6_hasFellow_40 : decode cX6_hasFellow 40 = .ok (.iload_n 1, 1) := by decide +kernel
theorem dX6_hasFellow_41 : decode cX6_hasFellow 41 = .ok (.iaload, 1) := by decide +kernel
theorem dX6_hasFellow_42 : decode cX6_hasFellow 42 = .ok (.if_icmp .ne 5, 3) := by decide +kernel
theorem dX6_hasFellow_45 : decode cX6_hasFellow 45 = .ok (.iconst 1, 1) := by decide +kernel
theorem dX6_hasFellow_46 : decode cX6_hasFellow 46 = .ok (.ireturn, 1) := by decide +kernel
theorem dX6_hasFellow_47 : decode cX6_hasFellow 47 = .ok (.iinc 2 1, 3) := by decide +kernel
theorem dX6_hasFellow_50 : decode cX6_hasFellow 50 = .ok (.goto (-48), 3) := by decide +kernel
theorem dX6_hasFellow_53 : decode cX6_hasFellow 53 = .ok (.iconst 0, 1) := by decide +kernel
theorem dX6_hasFellow_54 : decode cX6_hasFellow 54 = .ok (.ireturn, 1) := by decide +kernel
theorem dX7_init_0 : decode cX7_init 0 = .ok (.aload_n 0, 1) := by decide +kernel
theorem dX7_init_1 : decode cX7_init 1 = .ok (.invokespecial 3, 3) := by decide +kernel
theorem dX7_init_4 : decode cX7_init 4 = .ok (.aload_n 0, 1) := by decide +kernel
theorem dX7_init_5 : decode cX7_init 5 = .ok (.bipush 8, 2) := by decide +kernel
theorem dX7_init_7 : decode cX7_init 7 = .ok (.newarray .int, 2) := by decide +kernel
theorem dX7_init_9 : decode cX7_init 9 = .ok (.putfield 11, 3) := by decide +kernel
theorem dX7_init_12 : decode cX7_init 12 = .ok (.aload_n 0, 1) := by decide +kernel
theorem dX7_init_13 : decode cX7_init 13 = .ok (.new 15, 3) := by decide +kernel
theorem dX7_init_16 : decode cX7_init 16 = .ok (.dup, 1) := by decide +kernel
theorem dX7_init_17 : decode cX7_init 17 = .ok (.invokespecial 17, 3) := by decide +kernel
theorem dX7_init_20 : decode cX7_init 20 = .ok (.putfield 18, 3) := by decide +kernel
theorem dX7_init_23 : decode cX7_init 23 = .ok (.aload_n 0, 1) := by decide +kernel
theorem dX7_init_24 : decode cX7_init 24 = .ok (.bipush 7, 2) := by decide +kernel
theorem dX7_init_26 : decode cX7_init 26 = .ok (.anewarray 22, 3) := by decide +kernel
theorem dX7_init_29 : decode cX7_init 29 = .ok (.putfield 24, 3) := by decide +kernel
theorem dX7_init_32 : decode cX7_init 32 = .ok (.aload_n 0, 1) := by decide +kernel
theorem dX7_init_33 : decode cX7_init 33 = .ok (.new 28, 3) := by decide +kernel
theorem dX7_init_36 : decode cX7_init 36 = .ok (.dup, 1) := by decide +kernel
theorem dX7_init_37 : decode cX7_init 37 = .ok (.invokespecial 30, 3) := by decide +kernel
theorem dX7_init_40 : decode cX7_init 40 = .ok (.putfield 31, 3) := by decide +kernel
theorem dX7_init_43 : decode cX7_init 43 = .ok (.aload_n 0, 1) := by decide +kernel
theorem dX7_init_44 : decode cX7_init 44 = .ok (.new 35, 3) := by decide +kernel
theorem dX7_init_47 : decode cX7_init 47 = .ok (.dup, 1) := by decide +kernel
theorem dX7_init_48 : decode cX7_init 48 = .ok (.invokespecial 37, 3) := by decide +kernel
theorem dX7_init_51 : decode cX7_init 51 = .ok (.putfield 38, 3) := by decide +kernel
theorem dX7_init_54 : decode cX7_init 54 = .ok (.aload_n 0, 1) := by decide +kernel
theorem dX7_init_55 : decode cX7_init 55 = .ok (.new 42, 3) := by decide +kernel
theorem dX7_init_58 : decode cX7_init 58 = .ok (.dup, 1) := by decide +kernel
theorem dX7_init_59 : decode cX7_init 59 = .ok (.invokespecial 44, 3) := by decide +kernel
theorem dX7_init_62 : decode cX7_init 62 = .ok (.putfield 45, 3) := by decide +kernel
theorem dX7_init_65 : decode cX7_init 65 = .ok (.aload_n 0, 1) := by decide +kernel
theorem dX7_init_66 : decode cX7_init 66 = .ok (.bipush 6, 2) := by decide +kernel
theorem dX7_init_68 : decode cX7_init 68 = .ok (.anewarray 49, 3) := by decide +kernel
theorem dX7_init_71 : decode cX7_init 71 = .ok (.putfield 51, 3) := by decide +kernel
theorem dX7_init_74 : decode cX7_init 74 = .ok (.iconst 0, 1) := by decide +kernel
theorem dX7_init_75 : decode cX7_init 75 = .ok (.istore_n 1, 1) := by decide +kernel
theorem dX7_init_76 : decode cX7_init 76 = .ok (.iload_n 1, 1) := by decide +kernel
theorem dX7_init_77 : decode cX7_init 77 = .ok (.aload_n 0, 1) := by decide +kernel
theorem dX7_init_78 : decode cX7_init 78 = .ok (.getfield 24, 3) := by decide +kernel
theorem dX7_init_81 : decode cX7_init 81 = .ok (.arraylength, 1) := by decide +kernel
theorem dX7_init_82 : decode cX7_init 82 = .ok (.if_icmp .ge 22, 3) := by decide +kernel
theorem dX7_init_85 : decode cX7_init 85 = .ok (.aload_n 0, 1) := by decide +kernel
theorem dX7_init_86 : decode cX7_init 86 = .ok (.getfield 24, 3) := by decide +kernel
theorem dX7_init_89 : decode cX7_init 89 = .ok (.iload_n 1, 1) := by decide +kernel
theorem dX7_init_90 : decode cX7_init 90 = .ok (.new 22, 3) := by decide +kernel
theorem dX7_init_93 : decode cX7_init 93 = .ok (.dup, 1) := by decide +kernel
theorem dX7_init_94 : decode cX7_init 94 = .ok (.invokespecial 55, 3) := by decide +kernel
theorem dX7_init_97 : decode cX7_init 97 = .ok (.aastore, 1) := by decide +kernel
theorem dX7_init_98 : decode cX7_init 98 = .ok (.iinc 1 1, 3) := by decide +kernel
theorem dX7_init_101 : decode cX7_init 101 = .ok (.goto (-25), 3) := by decide +kernel
theorem dX7_init_104 : decode cX7_init 104 = .ok (.iconst 0, 1) := by decide +kernel
theorem dX7_init_105 : decode cX7_init 105 = .ok (.istore_n 1, 1) := by decide +kernel
theorem dX7_init_106 : decode cX7_init 106 = .ok (.iload_n 1, 1) := by decide +kernel
theorem dX7_init_107 : decode cX7_init 107 = .ok (.aload_n 0, 1) := by decide +kernel
theorem dX7_init_108 : decode cX7_init 108 = .ok (.getfield 51, 3) := by decide +kernel
theorem dX7_init_111 : decode cX7_init 111 = .ok (.arraylength, 1) := by decide +kernel
theorem dX7_init_112 : decode cX7_init 112 = .ok (.if_icmp .ge 22, 3) := by decide +kernel
theorem dX7_init_115 : decode cX7_init 115 = .ok (.aload_n 0, 1) := by decide +kernel
theorem dX7_init_116 : decode cX7_init 116 = .ok (.getfield 51, 3) := by decide +kernel
theorem dX7_init_119 : decode cX7_init 119 = .ok (.iload_n 1, 1) := by decide +kernel
theorem dX7_init_120 : decode cX7_init 120 = .ok (.new 49, 3) := by decide +kernel
theorem dX7_init_123 : decode cX7_init 123 = .ok (.dup, 1) := by decide +kernel
theorem dX7_init_124 : decode cX7_init 124 = .ok (.invokespecial 56, 3) := by decide +kernel
theorem dX7_init_127 : decode cX7_init 127 = .ok (.aastore, 1) := by decide +kernel
theorem dX7_init_128 : decode cX7_init 128 = .ok (.iinc 1 1, 3) := by decide +kernel
theorem dX7_init_131 : decode cX7_init 131 = .ok (.goto (-25), 3) := by decide +kernel
theorem dX7_init_134 : decode cX7_init 134 = .ok (.aload_n 0, 1) := by decide +kernel
theorem dX7_init_135 : decode cX7_init 135 = .ok (.new 57, 3) := by decide +kernel
theorem dX7_init_138 : decode cX7_init 138 = .ok (.dup, 1) := by decide +kernel
theorem dX7_init_139 : decode cX7_init 139 = .ok (.aload_n 0, 1) := by decide +kernel
theorem dX7_init_140 : decode cX7_init 140 = .ok (.getfield 24, 3) := by decide +kernel
theorem dX7_init_143 : decode cX7_init 143 = .ok (.iconst 0, 1) := by decide +kernel
theorem dX7_init_144 : decode cX7_init 144 = .ok (.aaload, 1) := by decide +kernel
theorem dX7_init_145 : decode cX7_init 145 = .ok (.invokespecial 59, 3) := by decide +kernel
theorem dX7_init_148 : decode cX7_init 148 = .ok (.putfield 62, 3) := by decide +kernel
theorem dX7_init_151 : decode cX7_init 151 = .ok (.aload_n 0, 1) := by decide +kernel
theorem dX7_init_152 : decode cX7_init 152 = .ok (.new 57, 3) := by decide +kernel
theorem dX7_init_155 : decode cX7_init 155 = .ok (.dup, 1) := by decide +kernel
theorem dX7_init_156 : decode cX7_init 156 = .ok (.aload_n 0, 1) := by decide +kernel
theorem dX7_init_157 : decode cX7_init 157 = .ok (.getfield 24, 3) := by decide +kernel
theorem dX7_init_160 : decode cX7_init 160 = .ok (.iconst 0, 1) := by decide +kernel
theorem dX7_init_161 : decode cX7_init 161 = .ok (.aaload, 1) := by decide +kernel
theorem dX7_init_162 : decode cX7_init 162 = .ok (.invokespecial 59, 3) := by decide +kernel
theorem dX7_init_165 : decode cX7_init 165 = .ok (.putfield 66, 3) := by decide +kernel
theorem dX7_init_168 : decode cX7_init 168 = .ok (.return_, 1) := by decide +kernel
theorem dX7_name_0 : decode cX7_name 0 = .ok (.iload_n 1, 1) := by decide +kernel
theorem dX7_name_1 : decode cX7_name 1 = .ok (.invokestatic 69, 3) := by decide +kernel
theorem dX7_name_4 : decode cX7_name 4 = .ok (.ifCond .ne 6, 3) := by decide +kernel
theorem dX7_name_7 : decode cX7_name 7 = .ok (.bipush (-2), 2) := by decide +kernel
theorem dX7_name_9 : decode cX7_name 9 = .ok (.ireturn, 1) := by decide +kernel
theorem dX7_name_10 : decode cX7_name 10 = .ok (.aload_n 0, 1) := by decide +kernel
theorem dX7_name_11 : decode cX7_name 11 = .ok (.getfield 73, 3) := by decide +kernel
theorem dX7_name_14 : decode cX7_name 14 = .ok (.bipush 8, 2) := by decide +kernel
theorem dX7_name_16 : decode cX7_name 16 = .ok (.if_icmp .lt 6, 3) := by decide +kernel
theorem dX7_name_19 : decode cX7_name 19 = .ok (.bipush (-4), 2) := by decide +kernel
theorem dX7_name_21 : decode cX7_name 21 = .ok (.ireturn, 1) := by decide +kernel
theorem dX7_name_22 : decode cX7_name 22 = .ok (.aload_n 0, 1) := by decide +kernel
theorem dX7_name_23 : decode cX7_name 23 = .ok (.getfield 11, 3) := by decide +kernel
theorem dX7_name_26 : decode cX7_name 26 = .ok (.aload_n 0, 1) := by decide +kernel
theorem dX7_name_27 : decode cX7_name 27 = .ok (.getfield 73, 3) := by decide +kernel
theorem dX7_name_30 : decode cX7_name 30 = .ok (.iload_n 1, 1) := by decide +kernel
theorem dX7_name_31 : decode cX7_name 31 = .ok (.iastore, 1) := by decide +kernel
theorem dX7_name_32 : decode cX7_name 32 = .ok (.aload_n 0, 1) := by decide +kernel
theorem dX7_name_33 : decode cX7_name 33 = .ok (.dup, 1) := by decide +kernel
theorem dX7_name_34 : decode cX7_name 34 = .ok (.getfield 73, 3) := by decide +kernel
theorem dX7_name_37 : decode cX7_name 37 = .ok (.iconst 1, 1) := by decide +kernel
theorem dX7_name_38 : decode cX7_name 38 = .ok (.iadd, 1) := by decide +kernel
theorem dX7_name_39 : decode cX7_name 39 = .ok (.putfield 73, 3) := by decide +kernel
theorem dX7_name_42 : decode cX7_name 42 = .ok (.aload_n 0, 1) := by decide +kernel
theorem dX7_name_43 : decode cX7_name 43 = .ok (.getfield 73, 3) := by decide +kernel
theorem dX7_name_46 : decode cX7_name 46 = .ok (.iconst 1, 1) := by decide +kernel
theorem dX7_name_47 : decode cX7_name 47 = .ok (.isub, 1) := by decide +kernel
theorem dX7_name_48 : decode cX7_name 48 = .ok (.ireturn, 1) := by decide +kernel
theorem dX7_join_0 : decode cX7_join 0 = .ok (.aload_n 0, 1) := by decide +kernel
theorem dX7_join_1 : decode cX7_join 1 = .ok (.iload_n 1, 1) := by decide +kernel
theorem dX7_join_2 : decode cX7_join 2 = .ok (.invokevirtual 77, 3) := by decide +kernel
theorem dX7_join_5 : decode cX7_join 5 = .ok (.ifCond .eq 11, 3) := by decide +kernel
theorem dX7_join_8 : decode cX7_join 8 = .ok (.aload_n 0, 1) := by decide +kernel
theorem dX7_join_9 : decode cX7_join 9 = .ok (.iload_n 2, 1) := by decide +kernel
theorem dX7_join_10 : decode cX7_join 10 = .ok (.invokevirtual 77, 3) := by decide +kernel
theorem dX7_join_13 : decode cX7_join 13 = .ok (.ifCond .ne 5, 3) := by decide +kernel
theorem dX7_join_16 : decode cX7_join 16 = .ok (.iconst (-1), 1) := by decide +kernel
theorem dX7_join_17 : decode cX7_join 17 = .ok (.ireturn, 1) := by decide +kernel
theorem dX7_join_18 : decode cX7_join 18 = .ok (.iload_n 1, 1) := by decide +kernel
theorem dX7_join_19 : decode cX7_join 19 = .ok (.iload_n 2, 1) := by decide +kernel
theorem dX7_join_20 : decode cX7_join 20 = .ok (.if_icmp .eq 12, 3) := by decide +kernel
theorem dX7_join_23 : decode cX7_join 23 = .ok (.iload_n 3, 1) := by decide +kernel
theorem dX7_join_24 : decode cX7_join 24 = .ok (.ifCond .lt 8, 3) := by decide +kernel
theorem dX7_join_27 : decode cX7_join 27 = .ok (.iload_n 3, 1) := by decide +kernel
theorem dX7_join_28 : decode cX7_join 28 = .ok (.iconst 5, 1) := by decide +kernel
theorem dX7_join_29 : decode cX7_join 29 = .ok (.if_icmp .le 6, 3) := by decide +kernel
theorem dX7_join_32 : decode cX7_join 32 = .ok (.bipush (-2), 2) := by decide +kernel
theorem dX7_join_34 : decode cX7_join 34 = .ok (.ireturn, 1) := by decide +kernel
theorem dX7_join_35 : decode cX7_join 35 = .ok (.aload_n 0, 1) := by decide +kernel
theorem dX7_join_36 : decode cX7_join 36 = .ok (.getfield 62, 3) := by decide +kernel
theorem dX7_join_39 : decode cX7_join 39 = .ok (.iload_n 1, 1) := by decide +kernel
theorem dX7_join_40 : decode cX7_join 40 = .ok (.iload_n 2, 1) := by decide +kernel
theorem dX7_join_41 : decode cX7_join 41 = .ok (.iload_n 3, 1) := by decide +kernel
theorem dX7_join_42 : decode cX7_join 42 = .ok (.invokevirtual 80, 3) := by decide +kernel
theorem dX7_join_45 : decode cX7_join 45 = .ok (.ireturn, 1) := by decide +kernel
theorem dX7_news_0 : decode cX7_news 0 = .ok (.aload_n 0, 1) := by decide +kernel
theorem dX7_news_1 : decode cX7_news 1 = .ok (.iload_n 1, 1) := by decide +kernel
theorem dX7_news_2 : decode cX7_news 2 = .ok (.invokevirtual 77, 3) := by decide +kernel
theorem dX7_news_5 : decode cX7_news 5 = .ok (.ifCond .ne 5, 3) := by decide +kernel
theorem dX7_news_8 : decode cX7_news 8 = .ok (.iconst (-1), 1) := by decide +kernel
theorem dX7_news_9 : decode cX7_news 9 = .ok (.ireturn, 1) := by decide +kernel
theorem dX7_news_10 : decode cX7_news 10 = .ok (.iload_n 2, 1) := by decide +kernel
theorem dX7_news_11 : decode cX7_news 11 = .ok (.iconst (-1), 1) := by decide +kernel
theorem dX7_news_12 : decode cX7_news 12 = .ok (.if_icmp .eq 13, 3) := by decide +kernel
theorem dX7_news_15 : decode cX7_news 15 = .ok (.iload_n 2, 1) := by decide +kernel
theorem dX7_news_16 : decode cX7_news 16 = .ok (.invokestatic 84, 3) := by decide +kernel
theorem dX7_news_19 : decode cX7_news 19 = .ok (.ifCond .ne 6, 3) := by decide +kernel
theorem dX7_news_22 : decode cX7_news 22 = .ok (.bipush (-2), 2) := by decide +kernel
theorem dX7_news_24 : decode cX7_news 24 = .ok (.ireturn, 1) := by decide +kernel
theorem dX7_news_25 : decode cX7_news 25 = .ok (.aload_n 0, 1) := by decide +kernel
theorem dX7_news_26 : decode cX7_news 26 = .ok (.getfield 62, 3) := by decide +kernel
theorem dX7_news_29 : decode cX7_news 29 = .ok (.getfield 87, 3) := by decide +kernel
theorem dX7_news_32 : decode cX7_news 32 = .ok (.iload_n 1, 1) := by decide +kernel
theorem dX7_news_33 : decode cX7_news 33 = .ok (.iaload, 1) := by decide +kernel
theorem dX7_news_34 : decode cX7_news 34 = .ok (.istore_n 3, 1) := by decide +kernel
theorem dX7_news_35 : decode cX7_news 35 = .ok (.aload_n 0, 1) := by decide +kernel
theorem dX7_news_36 : decode cX7_news 36 = .ok (.getfield 62, 3) := by decide +kernel
theorem dX7_news_39 : decode cX7_news 39 = .ok (.getfield 87, 3) := by decide +kernel
theorem dX7_news_42 : decode cX7_news 42 = .ok (.iload_n 1, 1) := by decide +kernel
theorem dX7_news_43 : decode cX7_news 43 = .ok (.iload_n 2, 1) := by decide +kernel
theorem dX7_news_44 : decode cX7_news 44 = .ok (.iconst (-1), 1) := by decide +kernel
theorem dX7_news_45 : decode cX7_news 45 = .ok (.if_icmp .ne 8, 3) := by decide +kernel
theorem dX7_news_48 : decode cX7_news 48 = .ok (.bipush (-5), 2) := by decide +kernel
theorem dX7_news_50 : decode cX7_news 50 = .ok (.goto 4, 3) := by decide +kernel
theorem dX7_news_53 : decode cX7_news 53 = .ok (.iload_n 2, 1) := by decide +kernel
theorem dX7_news_54 : decode cX7_news 54 = .ok (.iastore, 1) := by decide +kernel
theorem dX7_news_55 : decode cX7_news 55 = .ok (.iload_n 3, 1) := by decide +kernel
theorem dX7_news_56 : decode cX7_news 56 = .ok (.ireturn, 1) := by decide +kernel
theorem dX7_feed_0 : decode cX7_feed 0 = .ok (.iload_n 2, 1) := by decide +kernel
theorem dX7_feed_1 : decode cX7_feed 1 = .ok (.ifCond .lt 8, 3) := by decide +kernel
theorem dX7_feed_4 : decode cX7_feed 4 = .ok (.iload_n 2, 1) := by decide +kernel
theorem dX7_feed_5 : decode cX7_feed 5 = .ok (.iconst 4, 1) := by decide +kernel
theorem dX7_feed_6 : decode cX7_feed 6 = .ok (.if_icmp .le 6, 3) := by decide +kernel
theorem dX7_feed_9 : decode cX7_feed 9 = .ok (.bipush (-2), 2) := by decide +kernel
theorem dX7_feed_11 : decode cX7_feed 11 = .ok (.ireturn, 1) := by decide +kernel
theorem dX7_feed_12 : decode cX7_feed 12 = .ok (.aload_n 0, 1) := by decide +kernel
theorem dX7_feed_13 : decode cX7_feed 13 = .ok (.getfield 18, 3) := by decide +kernel
theorem dX7_feed_16 : decode cX7_feed 16 = .ok (.getfield 90, 3) := by decide +kernel
theorem dX7_feed_19 : decode cX7_feed 19 = .ok (.iload_n 2, 1) := by decide +kernel
theorem dX7_feed_20 : decode cX7_feed 20 = .ok (.iadd, 1) := by decide +kernel
theorem dX7_feed_21 : decode cX7_feed 21 = .ok (.bipush 100, 2) := by decide +kernel
theorem dX7_feed_23 : decode cX7_feed 23 = .ok (.if_icmp .le 6, 3) := by decide +kernel
theorem dX7_feed_26 : decode cX7_feed 26 = .ok (.bipush (-4), 2) := by decide +kernel
theorem dX7_feed_28 : decode cX7_feed 28 = .ok (.ireturn, 1) := by decide +kernel
theorem dX7_feed_29 : decode cX7_feed 29 = .ok (.iload_n 2, 1) := by decide +kernel
theorem dX7_feed_30 : decode cX7_feed 30 = .ok (.iconst 1, 1) := by decide +kernel
theorem dX7_feed_31 : decode cX7_feed 31 = .ok (.isub, 1) := by decide +kernel
theorem dX7_feed_32 : decode cX7_feed 32 = .ok (.istore_n 3, 1) := by decide +kernel
theorem dX7_feed_33 : decode cX7_feed 33 = .ok (.iload_n 3, 1) := by decide +kernel
theorem dX7_feed_34 : decode cX7_feed 34 = .ok (.ifCond .lt 26, 3) := by decide +kernel
theorem dX7_feed_37 : decode cX7_feed 37 = .ok (.aload_n 0, 1) := by decide +kernel
theorem dX7_feed_38 : decode cX7_feed 38 = .ok (.getfield 18, 3) := by decide +kernel
theorem dX7_feed_41 : decode cX7_feed 41 = .ok (.iload_n 1, 1) := by decide +kernel
theorem dX7_feed_42 : decode cX7_feed 42 = .ok (.bipush 8, 2) := by decide +kernel
theorem dX7_feed_44 : decode cX7_feed 44 = .ok (.iload_n 3, 1) := by decide +kernel
theorem dX7_feed_45 : decode cX7_feed 45 = .ok (.imul, 1) := by decide +kernel
theorem dX7_feed_46 : decode cX7_feed 46 = .ok (.iushr, 1) := by decide +kernel
theorem dX7_feed_47 : decode cX7_feed 47 = .ok (.sipush 255, 3) := by decide +kernel
theorem dX7_feed_50 : decode cX7_feed 50 = .ok (.iand, 1) := by decide +kernel
theorem dX7_feed_51 : decode cX7_feed 51 = .ok (.invokevirtual 93, 3) := by decide +kernel
theorem dX7_feed_54 : decode cX7_feed 54 = .ok (.iinc 3 (-1), 3) := by decide +kernel
theorem dX7_feed_57 : decode cX7_feed 57 = .ok (.goto (-24), 3) := by decide +kernel
theorem dX7_feed_60 : decode cX7_feed 60 = .ok (.aload_n 0, 1) := by decide +kernel
theorem dX7_feed_61 : decode cX7_feed 61 = .ok (.getfield 18, 3) := by decide +kernel
theorem dX7_feed_64 : decode cX7_feed 64 = .ok (.getfield 90, 3) := by decide +kernel
theorem dX7_feed_67 : decode cX7_feed 67 = .ok (.ireturn, 1) := by decide +kernel
theorem dX7_law_0 : decode cX7_law 0 = .ok (.aload_n 0, 1) := by decide +kernel
theorem dX7_law_1 : decode cX7_law 1 = .ok (.getfield 97, 3) := by decide +kernel
theorem dX7_law_4 : decode cX7_law 4 = .ok (.bipush 6, 2) := by decide +kernel
theorem dX7_law_6 : decode cX7_law 6 = .ok (.if_icmp .lt 6, 3) := by decide +kernel
theorem dX7_law_9 : decode cX7_law 9 = .ok (.bipush (-4), 2) := by decide +kernel
theorem dX7_law_11 : decode cX7_law 11 = .ok (.ireturn, 1) := by decide +kernel
theorem dX7_law_12 : decode cX7_law 12 = .ok (.aload_n 0, 1) := by decide +kernel
theorem dX7_law_13 : decode cX7_law 13 = .ok (.getfield 24, 3) := by decide +kernel
theorem dX7_law_16 : decode cX7_law 16 = .ok (.aload_n 0, 1) := by decide +kernel
theorem dX7_law_17 : decode cX7_law 17 = .ok (.getfield 97, 3) := by decide +kernel
theorem dX7_law_20 : decode cX7_law 20 = .ok (.iconst 1, 1) := by decide +kernel
theorem dX7_law_21 : decode cX7_law 21 = .ok (.iadd, 1) := by decide +kernel
theorem dX7_law_22 : decode cX7_law 22 = .ok (.aaload, 1) := by decide +kernel
theorem dX7_law_23 : decode cX7_law 23 = .ok (.astore_n 1, 1) := by decide +kernel
theorem dX7_law_24 : decode cX7_law 24 = .ok (.aload_n 0, 1) := by decide +kernel
theorem dX7_law_25 : decode cX7_law 25 = .ok (.getfield 18, 3) := by decide +kernel
theorem dX7_law_28 : decode cX7_law 28 = .ok (.aload_n 1, 1) := by decide +kernel
theorem dX7_law_29 : decode cX7_law 29 = .ok (.invokevirtual 100, 3) := by decide +kernel
theorem dX7_law_32 : decode cX7_law 32 = .ok (.istore_n 2, 1) := by decide +kernel
theorem dX7_law_33 : decode cX7_law 33 = .ok (.aload_n 0, 1) := by decide +kernel
theorem dX7_law_34 : decode cX7_law 34 = .ok (.getfield 18, 3) := by decide +kernel
theorem dX7_law_37 : decode cX7_law 37 = .ok (.iconst 0, 1) := by decide +kernel
theorem dX7_law_38 : decode cX7_law 38 = .ok (.putfield 90, 3) := by decide +kernel
theorem dX7_law_41 : decode cX7_law 41 = .ok (.iload_n 2, 1) := by decide +kernel
theorem dX7_law_42 : decode cX7_law 42 = .ok (.ifCond .lt 8, 3) := by decide +kernel
theorem dX7_law_45 : decode cX7_law 45 = .ok (.bipush (-10), 2) := by decide +kernel
theorem dX7_law_47 : decode cX7_law 47 = .ok (.iload_n 2, 1) := by decide +kernel
theorem dX7_law_48 : decode cX7_law 48 = .ok (.isub, 1) := by decide +kernel
theorem dX7_law_49 : decode cX7_law 49 = .ok (.ireturn, 1) := by decide +kernel
theorem dX7_law_50 : decode cX7_law 50 = .ok (.aload_n 0, 1) := by decide +kernel
theorem dX7_law_51 : decode cX7_law 51 = .ok (.getfield 62, 3) := by decide +kernel
theorem dX7_law_54 : decode cX7_law 54 = .ok (.aload_n 1, 1) := by decide +kernel
theorem dX7_law_55 : decode cX7_law 55 = .ok (.putfield 104, 3) := by decide +kernel
theorem dX7_law_58 : decode cX7_law 58 = .ok (.aload_n 0, 1) := by decide +kernel
theorem dX7_law_59 : decode cX7_law 59 = .ok (.dup, 1) := by decide +kernel
theorem dX7_law_60 : decode cX7_law 60 = .ok (.getfield 97, 3) := by decide +kernel
theorem dX7_law_63 : decode cX7_law 63 = .ok (.iconst 1, 1) := by decide +kernel
theorem dX7_law_64 : decode cX7_law 64 = .ok (.iadd, 1) := by decide +kernel
theorem dX7_law_65 : decode cX7_law 65 = .ok (.putfield 97, 3) := by decide +kernel
theorem dX7_law_68 : decode cX7_law 68 = .ok (.aload_n 0, 1) := by decide +kernel
theorem dX7_law_69 : decode cX7_law 69 = .ok (.getfield 97, 3) := by decide +kernel
theorem dX7_law_72 : decode cX7_law 72 = .ok (.iconst 1, 1) := by decide +kernel
theorem dX7_law_73 : decode cX7_law 73 = .ok (.isub, 1) := by decide +kernel
theorem dX7_law_74 : decode cX7_law 74 = .ok (.ireturn, 1) := by decide +kernel
theorem dX7_goes_0 : decode cX7_goes 0 = .ok (.aload_n 0, 1) := by decide +kernel
theorem dX7_goes_1 : decode cX7_goes 1 = .ok (.iload_n 1, 1) := by decide +kernel
theorem dX7_goes_2 : decode cX7_goes 2 = .ok (.invokevirtual 77, 3) := by decide +kernel
theorem dX7_goes_5 : decode cX7_goes 5 = .ok (.ifCond .eq 11, 3) := by decide +kernel
theorem dX7_goes_8 : decode cX7_goes 8 = .ok (.aload_n 0, 1) := by decide +kernel
theorem dX7_goes_9 : decode cX7_goes 9 = .ok (.iload_n 2, 1) := by decide +kernel
theorem dX7_goes_10 : decode cX7_goes 10 = .ok (.invokevirtual 77, 3) := by decide +kernel
theorem dX7_goes_13 : decode cX7_goes 13 = .ok (.ifCond .ne 5, 3) := by decide +kernel
theorem dX7_goes_16 : decode cX7_goes 16 = .ok (.iconst (-1), 1) := by decide +kernel
theorem dX7_goes_17 : decode cX7_goes 17 = .ok (.ireturn, 1) := by decide +kernel
theorem dX7_goes_18 : decode cX7_goes 18 = .ok (.iload_n 1, 1) := by decide +kernel
theorem dX7_goes_19 : decode cX7_goes 19 = .ok (.iload_n 2, 1) := by decide +kernel
theorem dX7_goes_20 : decode cX7_goes 20 = .ok (.if_icmp .ne 6, 3) := by decide +kernel
theorem dX7_goes_23 : decode cX7_goes 23 = .ok (.bipush (-2), 2) := by decide +kernel
theorem dX7_goes_25 : decode cX7_goes 25 = .ok (.ireturn, 1) := by decide +kernel
theorem dX7_goes_26 : decode cX7_goes 26 = .ok (.aload_n 0, 1) := by decide +kernel
theorem dX7_goes_27 : decode cX7_goes 27 = .ok (.getfield 62, 3) := by decide +kernel
theorem dX7_goes_30 : decode cX7_goes 30 = .ok (.iload_n 1, 1) := by decide +kernel
theorem dX7_goes_31 : decode cX7_goes 31 = .ok (.iload_n 2, 1) := by decide +kernel
theorem dX7_goes_32 : decode cX7_goes 32 = .ok (.invokevirtual 108, 3) := by decide +kernel
theorem dX7_goes_35 : decode cX7_goes 35 = .ok (.ireturn, 1) := by decide +kernel
theorem dX7_habit_0 : decode cX7_habit 0 = .ok (.aload_n 0, 1) := by decide +kernel
theorem dX7_habit_1 : decode cX7_habit 1 = .ok (.iload_n 1, 1) := by decide +kernel
theorem dX7_habit_2 : decode cX7_habit 2 = .ok (.invokevirtual 77, 3) := by decide +kernel
theorem dX7_habit_5 : decode cX7_habit 5 = .ok (.ifCond .eq 10, 3) := by decide +kernel
theorem dX7_habit_8 : decode cX7_habit 8 = .ok (.iload_n 2, 1) := by decide +kernel
theorem dX7_habit_9 : decode cX7_habit 9 = .ok (.invokestatic 112, 3) := by decide +kernel
theorem dX7_habit_12 : decode cX7_habit 12 = .ok (.ifCond .ne 5, 3) := by decide +kernel
theorem dX7_habit_15 : decode cX7_habit 15 = .ok (.iconst (-1), 1) := by decide +kernel
theorem dX7_habit_16 : decode cX7_habit 16 = .ok (.ireturn, 1) := by decide +kernel
theorem dX7_habit_17 : decode cX7_habit 17 = .ok (.aload_n 0, 1) := by decide +kernel
theorem dX7_habit_18 : decode cX7_habit 18 = .ok (.iload_n 1, 1) := by decide +kernel
theorem dX7_habit_19 : decode cX7_habit 19 = .ok (.iload_n 2, 1) := by decide +kernel
theorem dX7_habit_20 : decode cX7_habit 20 = .ok (.invokevirtual 115, 3) := by decide +kernel
theorem dX7_habit_23 : decode cX7_habit 23 = .ok (.ireturn, 1) := by decide +kernel
theorem dX7_knows_0 : decode cX7_knows 0 = .ok (.aload_n 0, 1) := by decide +kernel
theorem dX7_knows_1 : decode cX7_knows 1 = .ok (.iload_n 1, 1) := by decide +kernel
theorem dX7_knows_2 : decode cX7_knows 2 = .ok (.invokevirtual 77, 3) := by decide +kernel
theorem dX7_knows_5 : decode cX7_knows 5 = .ok (.ifCond .ne 5, 3) := by decide +kernel
theorem dX7_knows_8 : decode cX7_knows 8 = .ok (.iconst (-1), 1) := by decide +kernel
theorem dX7_knows_9 : decode cX7_knows 9 = .ok (.ireturn, 1) := by decide +kernel
theorem dX7_knows_10 : decode cX7_knows 10 = .ok (.aload_n 0, 1) := by decide +kernel
end
section
theorem dX7_knows_11 : decode cX7_knows 11 = .ok (.invokevirtual 118, 3) := by decide +kernel
theorem dX7_knows_14 : decode cX7_knows 14 = .ok (.aload_n 0, 1) := by decide +kernel
theorem dX7_knows_15 : decode cX7_knows 15 = .ok (.getfield 31, 3) := by decide +kernel
theorem dX7_knows_18 : decode cX7_knows 18 = .ok (.iload_n 1, 1) := by decide +kernel
theorem dX7_knows_19 : decode cX7_knows 19 = .ok (.invokevirtual 121, 3) := by decide +kernel
theorem dX7_knows_22 : decode cX7_knows 22 = .ok (.ireturn, 1) := by decide +kernel
theorem dX7_way_0 : decode cX7_way 0 = .ok (.aload_n 0, 1) := by decide +kernel
theorem dX7_way_1 : decode cX7_way 1 = .ok (.iload_n 1, 1) := by decide +kernel
theorem dX7_way_2 : decode cX7_way 2 = .ok (.invokevirtual 77, 3) := by decide +kernel
theorem dX7_way_5 : decode cX7_way 5 = .ok (.ifCond .ne 5, 3) := by decide +kernel
theorem dX7_way_8 : decode cX7_way 8 = .ok (.iconst (-1), 1) := by decide +kernel
theorem dX7_way_9 : decode cX7_way 9 = .ok (.ireturn, 1) := by decide +kernel
theorem dX7_way_10 : decode cX7_way 10 = .ok (.aload_n 0, 1) := by decide +kernel
theorem dX7_way_11 : decode cX7_way 11 = .ok (.getfield 31, 3) := by decide +kernel
theorem dX7_way_14 : decode cX7_way 14 = .ok (.aload_n 0, 1) := by decide +kernel
theorem dX7_way_15 : decode cX7_way 15 = .ok (.getfield 62, 3) := by decide +kernel
theorem dX7_way_18 : decode cX7_way 18 = .ok (.aload_n 0, 1) := by decide +kernel
theorem dX7_way_19 : decode cX7_way 19 = .ok (.getfield 73, 3) := by decide +kernel
theorem dX7_way_22 : decode cX7_way 22 = .ok (.invokevirtual 125, 3) := by decide +kernel
theorem dX7_way_25 : decode cX7_way 25 = .ok (.aload_n 0, 1) := by decide +kernel
theorem dX7_way_26 : decode cX7_way 26 = .ok (.getfield 31, 3) := by decide +kernel
theorem dX7_way_29 : decode cX7_way 29 = .ok (.iload_n 1, 1) := by decide +kernel
theorem dX7_way_30 : decode cX7_way 30 = .ok (.invokevirtual 129, 3) := by decide +kernel
theorem dX7_way_33 : decode cX7_way 33 = .ok (.istore_n 3, 1) := by decide +kernel
theorem dX7_way_34 : decode cX7_way 34 = .ok (.iload_n 2, 1) := by decide +kernel
theorem dX7_way_35 : decode cX7_way 35 = .ok (.iconst (-1), 1) := by decide +kernel
theorem dX7_way_36 : decode cX7_way 36 = .ok (.if_icmp .ne 5, 3) := by decide +kernel
theorem dX7_way_39 : decode cX7_way 39 = .ok (.iload_n 3, 1) := by decide +kernel
theorem dX7_way_40 : decode cX7_way 40 = .ok (.ireturn, 1) := by decide +kernel
theorem dX7_way_41 : decode cX7_way 41 = .ok (.iload_n 2, 1) := by decide +kernel
theorem dX7_way_42 : decode cX7_way 42 = .ok (.ifCond .lt 20, 3) := by decide +kernel
theorem dX7_way_45 : decode cX7_way 45 = .ok (.iload_n 2, 1) := by decide +kernel
theorem dX7_way_46 : decode cX7_way 46 = .ok (.iload_n 3, 1) := by decide +kernel
theorem dX7_way_47 : decode cX7_way 47 = .ok (.if_icmp .ge 15, 3) := by decide +kernel
theorem dX7_way_50 : decode cX7_way 50 = .ok (.aload_n 0, 1) := by decide +kernel
theorem dX7_way_51 : decode cX7_way 51 = .ok (.getfield 31, 3) := by decide +kernel
theorem dX7_way_54 : decode cX7_way 54 = .ok (.getfield 132, 3) := by decide +kernel
theorem dX7_way_57 : decode cX7_way 57 = .ok (.iload_n 2, 1) := by decide +kernel
theorem dX7_way_58 : decode cX7_way 58 = .ok (.iaload, 1) := by decide +kernel
theorem dX7_way_59 : decode cX7_way 59 = .ok (.goto 4, 3) := by decide +kernel
theorem dX7_way_62 : decode cX7_way 62 = .ok (.iconst (-1), 1) := by decide +kernel
theorem dX7_way_63 : decode cX7_way 63 = .ok (.ireturn, 1) := by decide +kernel
theorem dX7_silent_0 : decode cX7_silent 0 = .ok (.aload_n 0, 1) := by decide +kernel
theorem dX7_silent_1 : decode cX7_silent 1 = .ok (.iload_n 1, 1) := by decide +kernel
theorem dX7_silent_2 : decode cX7_silent 2 = .ok (.invokevirtual 77, 3) := by decide +kernel
theorem dX7_silent_5 : decode cX7_silent 5 = .ok (.ifCond .ne 5, 3) := by decide +kernel
theorem dX7_silent_8 : decode cX7_silent 8 = .ok (.iconst (-1), 1) := by decide +kernel
theorem dX7_silent_9 : decode cX7_silent 9 = .ok (.ireturn, 1) := by decide +kernel
theorem dX7_silent_10 : decode cX7_silent 10 = .ok (.iload_n 2, 1) := by decide +kernel
theorem dX7_silent_11 : decode cX7_silent 11 = .ok (.invokestatic 84, 3) := by decide +kernel
theorem dX7_silent_14 : decode cX7_silent 14 = .ok (.ifCond .ne 6, 3) := by decide +kernel
theorem dX7_silent_17 : decode cX7_silent 17 = .ok (.bipush (-2), 2) := by decide +kernel
theorem dX7_silent_19 : decode cX7_silent 19 = .ok (.ireturn, 1) := by decide +kernel
theorem dX7_silent_20 : decode cX7_silent 20 = .ok (.aload_n 0, 1) := by decide +kernel
theorem dX7_silent_21 : decode cX7_silent 21 = .ok (.getfield 62, 3) := by decide +kernel
theorem dX7_silent_24 : decode cX7_silent 24 = .ok (.getfield 87, 3) := by decide +kernel
theorem dX7_silent_27 : decode cX7_silent 27 = .ok (.iload_n 1, 1) := by decide +kernel
theorem dX7_silent_28 : decode cX7_silent 28 = .ok (.iaload, 1) := by decide +kernel
theorem dX7_silent_29 : decode cX7_silent 29 = .ok (.ifCond .lt 19, 3) := by decide +kernel
theorem dX7_silent_32 : decode cX7_silent 32 = .ok (.aload_n 0, 1) := by decide +kernel
theorem dX7_silent_33 : decode cX7_silent 33 = .ok (.getfield 62, 3) := by decide +kernel
theorem dX7_silent_36 : decode cX7_silent 36 = .ok (.getfield 87, 3) := by decide +kernel
theorem dX7_silent_39 : decode cX7_silent 39 = .ok (.iload_n 1, 1) := by decide +kernel
theorem dX7_silent_40 : decode cX7_silent 40 = .ok (.iaload, 1) := by decide +kernel
theorem dX7_silent_41 : decode cX7_silent 41 = .ok (.iload_n 2, 1) := by decide +kernel
theorem dX7_silent_42 : decode cX7_silent 42 = .ok (.if_icmp .gt 6, 3) := by decide +kernel
theorem dX7_silent_45 : decode cX7_silent 45 = .ok (.bipush (-5), 2) := by decide +kernel
theorem dX7_silent_47 : decode cX7_silent 47 = .ok (.ireturn, 1) := by decide +kernel
theorem dX7_silent_48 : decode cX7_silent 48 = .ok (.aload_n 0, 1) := by decide +kernel
theorem dX7_silent_49 : decode cX7_silent 49 = .ok (.getfield 31, 3) := by decide +kernel
theorem dX7_silent_52 : decode cX7_silent 52 = .ok (.aload_n 0, 1) := by decide +kernel
theorem dX7_silent_53 : decode cX7_silent 53 = .ok (.getfield 62, 3) := by decide +kernel
theorem dX7_silent_56 : decode cX7_silent 56 = .ok (.aload_n 0, 1) := by decide +kernel
theorem dX7_silent_57 : decode cX7_silent 57 = .ok (.getfield 73, 3) := by decide +kernel
theorem dX7_silent_60 : decode cX7_silent 60 = .ok (.invokevirtual 125, 3) := by decide +kernel
theorem dX7_silent_63 : decode cX7_silent 63 = .ok (.iconst 0, 1) := by decide +kernel
theorem dX7_silent_64 : decode cX7_silent 64 = .ok (.istore_n 3, 1) := by decide +kernel
theorem dX7_silent_65 : decode cX7_silent 65 = .ok (.iload_n 3, 1) := by decide +kernel
theorem dX7_silent_66 : decode cX7_silent 66 = .ok (.aload_n 0, 1) := by decide +kernel
theorem dX7_silent_67 : decode cX7_silent 67 = .ok (.getfield 73, 3) := by decide +kernel
theorem dX7_silent_70 : decode cX7_silent 70 = .ok (.if_icmp .ge 26, 3) := by decide +kernel
theorem dX7_silent_73 : decode cX7_silent 73 = .ok (.aload_n 0, 1) := by decide +kernel
theorem dX7_silent_74 : decode cX7_silent 74 = .ok (.iload_n 1, 1) := by decide +kernel
theorem dX7_silent_75 : decode cX7_silent 75 = .ok (.iload_n 2, 1) := by decide +kernel
theorem dX7_silent_76 : decode cX7_silent 76 = .ok (.iload_n 3, 1) := by decide +kernel
theorem dX7_silent_77 : decode cX7_silent 77 = .ok (.invokevirtual 135, 3) := by decide +kernel
theorem dX7_silent_80 : decode cX7_silent 80 = .ok (.istore 4, 2) := by decide +kernel
theorem dX7_silent_82 : decode cX7_silent 82 = .ok (.iload 4, 2) := by decide +kernel
theorem dX7_silent_84 : decode cX7_silent 84 = .ok (.ifCond .lt 6, 3) := by decide +kernel
theorem dX7_silent_87 : decode cX7_silent 87 = .ok (.iload 4, 2) := by decide +kernel
theorem dX7_silent_89 : decode cX7_silent 89 = .ok (.ireturn, 1) := by decide +kernel
theorem dX7_silent_90 : decode cX7_silent 90 = .ok (.iinc 3 1, 3) := by decide +kernel
theorem dX7_silent_93 : decode cX7_silent 93 = .ok (.goto (-28), 3) := by decide +kernel
theorem dX7_silent_96 : decode cX7_silent 96 = .ok (.bipush (-5), 2) := by decide +kernel
theorem dX7_silent_98 : decode cX7_silent 98 = .ok (.ireturn, 1) := by decide +kernel
theorem dX7_leastSilence_0 : decode cX7_leastSilence 0 = .ok (.iconst 1, 1) := by decide +kernel
theorem dX7_leastSilence_1 : decode cX7_leastSilence 1 = .ok (.aload_n 0, 1) := by decide +kernel
theorem dX7_leastSilence_2 : decode cX7_leastSilence 2 = .ok (.getfield 73, 3) := by decide +kernel
theorem dX7_leastSilence_5 : decode cX7_leastSilence 5 = .ok (.ishl, 1) := by decide +kernel
theorem dX7_leastSilence_6 : decode cX7_leastSilence 6 = .ok (.istore 4, 2) := by decide +kernel
theorem dX7_leastSilence_8 : decode cX7_leastSilence 8 = .ok (.iconst 0, 1) := by decide +kernel
theorem dX7_leastSilence_9 : decode cX7_leastSilence 9 = .ok (.istore 5, 2) := by decide +kernel
theorem dX7_leastSilence_11 : decode cX7_leastSilence 11 = .ok (.iload 5, 2) := by decide +kernel
theorem dX7_leastSilence_13 : decode cX7_leastSilence 13 = .ok (.iload 4, 2) := by decide +kernel
theorem dX7_leastSilence_15 : decode cX7_leastSilence 15 = .ok (.if_icmp .ge 51, 3) := by decide +kernel
theorem dX7_leastSilence_18 : decode cX7_leastSilence 18 = .ok (.iload 5, 2) := by decide +kernel
theorem dX7_leastSilence_20 : decode cX7_leastSilence 20 = .ok (.invokestatic 138, 3) := by decide +kernel
theorem dX7_leastSilence_23 : decode cX7_leastSilence 23 = .ok (.iload_n 3, 1) := by decide +kernel
theorem dX7_leastSilence_24 : decode cX7_leastSilence 24 = .ok (.if_icmp .ne 36, 3) := by decide +kernel
theorem dX7_leastSilence_27 : decode cX7_leastSilence 27 = .ok (.iload 5, 2) := by decide +kernel
theorem dX7_leastSilence_29 : decode cX7_leastSilence 29 = .ok (.iload_n 1, 1) := by decide +kernel
theorem dX7_leastSilence_30 : decode cX7_leastSilence 30 = .ok (.ishr, 1) := by decide +kernel
theorem dX7_leastSilence_31 : decode cX7_leastSilence 31 = .ok (.iconst 1, 1) := by decide +kernel
theorem dX7_leastSilence_32 : decode cX7_leastSilence 32 = .ok (.iand, 1) := by decide +kernel
theorem dX7_leastSilence_33 : decode cX7_leastSilence 33 = .ok (.ifCond .ne 27, 3) := by decide +kernel
theorem dX7_leastSilence_36 : decode cX7_leastSilence 36 = .ok (.aload_n 0, 1) := by decide +kernel
theorem dX7_leastSilence_37 : decode cX7_leastSilence 37 = .ok (.getfield 31, 3) := by decide +kernel
theorem dX7_leastSilence_40 : decode cX7_leastSilence 40 = .ok (.iload 5, 2) := by decide +kernel
theorem dX7_leastSilence_42 : decode cX7_leastSilence 42 = .ok (.invokevirtual 143, 3) := by decide +kernel
theorem dX7_leastSilence_45 : decode cX7_leastSilence 45 = .ok (.aload_n 0, 1) := by decide +kernel
theorem dX7_leastSilence_46 : decode cX7_leastSilence 46 = .ok (.getfield 31, 3) := by decide +kernel
theorem dX7_leastSilence_49 : decode cX7_leastSilence 49 = .ok (.iload_n 1, 1) := by decide +kernel
theorem dX7_leastSilence_50 : decode cX7_leastSilence 50 = .ok (.iload_n 2, 1) := by decide +kernel
theorem dX7_leastSilence_51 : decode cX7_leastSilence 51 = .ok (.invokevirtual 146, 3) := by decide +kernel
theorem dX7_leastSilence_54 : decode cX7_leastSilence 54 = .ok (.ifCond .ne 6, 3) := by decide +kernel
theorem dX7_leastSilence_57 : decode cX7_leastSilence 57 = .ok (.iload 5, 2) := by decide +kernel
theorem dX7_leastSilence_59 : decode cX7_leastSilence 59 = .ok (.ireturn, 1) := by decide +kernel
theorem dX7_leastSilence_60 : decode cX7_leastSilence 60 = .ok (.iinc 5 1, 3) := by decide +kernel
theorem dX7_leastSilence_63 : decode cX7_leastSilence 63 = .ok (.goto (-52), 3) := by decide +kernel
theorem dX7_leastSilence_66 : decode cX7_leastSilence 66 = .ok (.iconst (-1), 1) := by decide +kernel
theorem dX7_leastSilence_67 : decode cX7_leastSilence 67 = .ok (.ireturn, 1) := by decide +kernel
theorem dX7_trade_0 : decode cX7_trade 0 = .ok (.iload_n 1, 1) := by decide +kernel
theorem dX7_trade_1 : decode cX7_trade 1 = .ok (.invokestatic 150, 3) := by decide +kernel
theorem dX7_trade_4 : decode cX7_trade 4 = .ok (.ifCond .eq 18, 3) := by decide +kernel
theorem dX7_trade_7 : decode cX7_trade 7 = .ok (.aload_n 0, 1) := by decide +kernel
theorem dX7_trade_8 : decode cX7_trade 8 = .ok (.iload_n 2, 1) := by decide +kernel
theorem dX7_trade_9 : decode cX7_trade 9 = .ok (.invokevirtual 77, 3) := by decide +kernel
theorem dX7_trade_12 : decode cX7_trade 12 = .ok (.ifCond .eq 10, 3) := by decide +kernel
theorem dX7_trade_15 : decode cX7_trade 15 = .ok (.iload_n 3, 1) := by decide +kernel
theorem dX7_trade_16 : decode cX7_trade 16 = .ok (.invokestatic 112, 3) := by decide +kernel
theorem dX7_trade_19 : decode cX7_trade 19 = .ok (.ifCond .ne 5, 3) := by decide +kernel
theorem dX7_trade_22 : decode cX7_trade 22 = .ok (.iconst (-1), 1) := by decide +kernel
theorem dX7_trade_23 : decode cX7_trade 23 = .ok (.ireturn, 1) := by decide +kernel
theorem dX7_trade_24 : decode cX7_trade 24 = .ok (.iload 4, 2) := by decide +kernel
theorem dX7_trade_26 : decode cX7_trade 26 = .ok (.invokestatic 84, 3) := by decide +kernel
theorem dX7_trade_29 : decode cX7_trade 29 = .ok (.ifCond .eq 16, 3) := by decide +kernel
theorem dX7_trade_32 : decode cX7_trade 32 = .ok (.iload 5, 2) := by decide +kernel
theorem dX7_trade_34 : decode cX7_trade 34 = .ok (.iconst 1, 1) := by decide +kernel
theorem dX7_trade_35 : decode cX7_trade 35 = .ok (.if_icmp .lt 10, 3) := by decide +kernel
theorem dX7_trade_38 : decode cX7_trade 38 = .ok (.iload 5, 2) := by decide +kernel
theorem dX7_trade_40 : decode cX7_trade 40 = .ok (.bipush 99, 2) := by decide +kernel
theorem dX7_trade_42 : decode cX7_trade 42 = .ok (.if_icmp .le 6, 3) := by decide +kernel
theorem dX7_trade_45 : decode cX7_trade 45 = .ok (.bipush (-2), 2) := by decide +kernel
theorem dX7_trade_47 : decode cX7_trade 47 = .ok (.ireturn, 1) := by decide +kernel
theorem dX7_trade_48 : decode cX7_trade 48 = .ok (.aload_n 0, 1) := by decide +kernel
theorem dX7_trade_49 : decode cX7_trade 49 = .ok (.getfield 62, 3) := by decide +kernel
theorem dX7_trade_52 : decode cX7_trade 52 = .ok (.getfield 153, 3) := by decide +kernel
theorem dX7_trade_55 : decode cX7_trade 55 = .ok (.bipush 16, 2) := by decide +kernel
theorem dX7_trade_57 : decode cX7_trade 57 = .ok (.if_icmp .lt 6, 3) := by decide +kernel
theorem dX7_trade_60 : decode cX7_trade 60 = .ok (.bipush (-4), 2) := by decide +kernel
theorem dX7_trade_62 : decode cX7_trade 62 = .ok (.ireturn, 1) := by decide +kernel
theorem dX7_trade_63 : decode cX7_trade 63 = .ok (.aload_n 0, 1) := by decide +kernel
theorem dX7_trade_64 : decode cX7_trade 64 = .ok (.getfield 62, 3) := by decide +kernel
theorem dX7_trade_67 : decode cX7_trade 67 = .ok (.iload_n 1, 1) := by decide +kernel
theorem dX7_trade_68 : decode cX7_trade 68 = .ok (.iload_n 2, 1) := by decide +kernel
theorem dX7_trade_69 : decode cX7_trade 69 = .ok (.iload_n 3, 1) := by decide +kernel
theorem dX7_trade_70 : decode cX7_trade 70 = .ok (.iload 4, 2) := by decide +kernel
theorem dX7_trade_72 : decode cX7_trade 72 = .ok (.iload 5, 2) := by decide +kernel
theorem dX7_trade_74 : decode cX7_trade 74 = .ok (.invokevirtual 156, 3) := by decide +kernel
theorem dX7_trade_77 : decode cX7_trade 77 = .ok (.ireturn, 1) := by decide +kernel
theorem dX7_of_0 : decode cX7_of 0 = .ok (.aload_n 0, 1) := by decide +kernel
theorem dX7_of_1 : decode cX7_of 1 = .ok (.iload_n 1, 1) := by decide +kernel
theorem dX7_of_2 : decode cX7_of 2 = .ok (.invokevirtual 160, 3) := by decide +kernel
theorem dX7_of_5 : decode cX7_of 5 = .ok (.ifCond .ne 5, 3) := by decide +kernel
theorem dX7_of_8 : decode cX7_of 8 = .ok (.iconst (-1), 1) := by decide +kernel
theorem dX7_of_9 : decode cX7_of 9 = .ok (.ireturn, 1) := by decide +kernel
theorem dX7_of_10 : decode cX7_of 10 = .ok (.iload_n 2, 1) := by decide +kernel
theorem dX7_of_11 : decode cX7_of 11 = .ok (.tableswitch 97 0 5 #[37, 47, 57, 67, 77, 87], 37) := by decide +kernel
theorem dX7_of_48 : decode cX7_of 48 = .ok (.aload_n 0, 1) := by decide +kernel
theorem dX7_of_49 : decode cX7_of 49 = .ok (.getfield 62, 3) := by decide +kernel
theorem dX7_of_52 : decode cX7_of 52 = .ok (.getfield 163, 3) := by decide +kernel
theorem dX7_of_55 : decode cX7_of 55 = .ok (.iload_n 1, 1) := by decide +kernel
theorem dX7_of_56 : decode cX7_of 56 = .ok (.iaload, 1) := by decide +kernel
theorem dX7_of_57 : decode cX7_of 57 = .ok (.ireturn, 1) := by decide +kernel
theorem dX7_of_58 : decode cX7_of 58 = .ok (.aload_n 0, 1) := by decide +kernel
theorem dX7_of_59 : decode cX7_of 59 = .ok (.getfield 62, 3) := by decide +kernel
theorem dX7_of_62 : decode cX7_of 62 = .ok (.getfield 166, 3) := by decide +kernel
theorem dX7_of_65 : decode cX7_of 65 = .ok (.iload_n 1, 1) := by decide +kernel
theorem dX7_of_66 : decode cX7_of 66 = .ok (.iaload, 1) := by decide +kernel
theorem dX7_of_67 : decode cX7_of 67 = .ok (.ireturn, 1) := by decide +kernel
theorem dX7_of_68 : decode cX7_of 68 = .ok (.aload_n 0, 1) := by decide +kernel
theorem dX7_of_69 : decode cX7_of 69 = .ok (.getfield 62, 3) := by decide +kernel
theorem dX7_of_72 : decode cX7_of 72 = .ok (.getfield 169, 3) := by decide +kernel
theorem dX7_of_75 : decode cX7_of 75 = .ok (.iload_n 1, 1) := by decide +kernel
theorem dX7_of_76 : decode cX7_of 76 = .ok (.iaload, 1) := by decide +kernel
theorem dX7_of_77 : decode cX7_of 77 = .ok (.ireturn, 1) := by decide +kernel
theorem dX7_of_78 : decode cX7_of 78 = .ok (.aload_n 0, 1) := by decide +kernel
theorem dX7_of_79 : decode cX7_of 79 = .ok (.getfield 62, 3) := by decide +kernel
theorem dX7_of_82 : decode cX7_of 82 = .ok (.getfield 172, 3) := by decide +kernel
theorem dX7_of_85 : decode cX7_of 85 = .ok (.iload_n 1, 1) := by decide +kernel
theorem dX7_of_86 : decode cX7_of 86 = .ok (.iaload, 1) := by decide +kernel
theorem dX7_of_87 : decode cX7_of 87 = .ok (.ireturn, 1) := by decide +kernel
theorem dX7_of_88 : decode cX7_of 88 = .ok (.aload_n 0, 1) := by decide +kernel
theorem dX7_of_89 : decode cX7_of 89 = .ok (.getfield 62, 3) := by decide +kernel
theorem dX7_of_92 : decode cX7_of 92 = .ok (.getfield 175, 3) := by decide +kernel
theorem dX7_of_95 : decode cX7_of 95 = .ok (.iload_n 1, 1) := by decide +kernel
theorem dX7_of_96 : decode cX7_of 96 = .ok (.iaload, 1) := by decide +kernel
theorem dX7_of_97 : decode cX7_of 97 = .ok (.ireturn, 1) := by decide +kernel
theorem dX7_of_98 : decode cX7_of 98 = .ok (.aload_n 0, 1) := by decide +kernel
theorem dX7_of_99 : decode cX7_of 99 = .ok (.invokevirtual 118, 3) := by decide +kernel
theorem dX7_of_102 : decode cX7_of 102 = .ok (.aload_n 0, 1) := by decide +kernel
theorem dX7_of_103 : decode cX7_of 103 = .ok (.iload_n 1, 1) := by decide +kernel
theorem dX7_of_104 : decode cX7_of 104 = .ok (.invokevirtual 178, 3) := by decide +kernel
theorem dX7_of_107 : decode cX7_of 107 = .ok (.ireturn, 1) := by decide +kernel
theorem dX7_of_108 : decode cX7_of 108 = .ok (.iconst (-1), 1) := by decide +kernel
theorem dX7_of_109 : decode cX7_of 109 = .ok (.ireturn, 1) := by decide +kernel
theorem dX7_sure_0 : decode cX7_sure 0 = .ok (.iload_n 1, 1) := by decide +kernel
theorem dX7_sure_1 : decode cX7_sure 1 = .ok (.ifCond .eq 10, 3) := by decide +kernel
theorem dX7_sure_4 : decode cX7_sure 4 = .ok (.iload_n 1, 1) := by decide +kernel
theorem dX7_sure_5 : decode cX7_sure 5 = .ok (.iconst 1, 1) := by decide +kernel
theorem dX7_sure_6 : decode cX7_sure 6 = .ok (.if_icmp .eq 5, 3) := by decide +kernel
theorem dX7_sure_9 : decode cX7_sure 9 = .ok (.iconst (-1), 1) := by decide +kernel
theorem dX7_sure_10 : decode cX7_sure 10 = .ok (.ireturn, 1) := by decide +kernel
theorem dX7_sure_11 : decode cX7_sure 11 = .ok (.aload_n 0, 1) := by decide +kernel
theorem dX7_sure_12 : decode cX7_sure 12 = .ok (.invokevirtual 118, 3) := by decide +kernel
theorem dX7_sure_15 : decode cX7_sure 15 = .ok (.iconst 0, 1) := by decide +kernel
theorem dX7_sure_16 : decode cX7_sure 16 = .ok (.istore_n 2, 1) := by decide +kernel
theorem dX7_sure_17 : decode cX7_sure 17 = .ok (.iconst 0, 1) := by decide +kernel
theorem dX7_sure_18 : decode cX7_sure 18 = .ok (.istore_n 3, 1) := by decide +kernel
theorem dX7_sure_19 : decode cX7_sure 19 = .ok (.iload_n 3, 1) := by decide +kernel
theorem dX7_sure_20 : decode cX7_sure 20 = .ok (.aload_n 0, 1) := by decide +kernel
theorem dX7_sure_21 : decode cX7_sure 21 = .ok (.getfield 62, 3) := by decide +kernel
theorem dX7_sure_24 : decode cX7_sure 24 = .ok (.getfield 153, 3) := by decide +kernel
theorem dX7_sure_27 : decode cX7_sure 27 = .ok (.if_icmp .ge 63, 3) := by decide +kernel
theorem dX7_sure_30 : decode cX7_sure 30 = .ok (.aload_n 0, 1) := by decide +kernel
theorem dX7_sure_31 : decode cX7_sure 31 = .ok (.iload_n 3, 1) := by decide +kernel
theorem dX7_sure_32 : decode cX7_sure 32 = .ok (.invokevirtual 178, 3) := by decide +kernel
theorem dX7_sure_35 : decode cX7_sure 35 = .ok (.istore 4, 2) := by decide +kernel
theorem dX7_sure_37 : decode cX7_sure 37 = .ok (.iload_n 1, 1) := by decide +kernel
theorem dX7_sure_38 : decode cX7_sure 38 = .ok (.ifCond .ne 11, 3) := by decide +kernel
theorem dX7_sure_41 : decode cX7_sure 41 = .ok (.iload 4, 2) := by decide +kernel
theorem dX7_sure_43 : decode cX7_sure 43 = .ok (.invokestatic 181, 3) := by decide +kernel
theorem dX7_sure_46 : decode cX7_sure 46 = .ok (.goto 25, 3) := by decide +kernel
theorem dX7_sure_49 : decode cX7_sure 49 = .ok (.iload 4, 2) := by decide +kernel
theorem dX7_sure_51 : decode cX7_sure 51 = .ok (.aload_n 0, 1) := by decide +kernel
theorem dX7_sure_52 : decode cX7_sure 52 = .ok (.getfield 62, 3) := by decide +kernel
theorem dX7_sure_55 : decode cX7_sure 55 = .ok (.getfield 163, 3) := by decide +kernel
theorem dX7_sure_58 : decode cX7_sure 58 = .ok (.iload_n 3, 1) := by decide +kernel
theorem dX7_sure_59 : decode cX7_sure 59 = .ok (.iaload, 1) := by decide +kernel
theorem dX7_sure_60 : decode cX7_sure 60 = .ok (.ishr, 1) := by decide +kernel
theorem dX7_sure_61 : decode cX7_sure 61 = .ok (.iconst 1, 1) := by decide +kernel
theorem dX7_sure_62 : decode cX7_sure 62 = .ok (.iand, 1) := by decide +kernel
theorem dX7_sure_63 : decode cX7_sure 63 = .ok (.ifCond .ne 7, 3) := by decide +kernel
theorem dX7_sure_66 : decode cX7_sure 66 = .ok (.iconst 1, 1) := by decide +kernel
theorem dX7_sure_67 : decode cX7_sure 67 = .ok (.goto 4, 3) := by decide +kernel
theorem dX7_sure_70 : decode cX7_sure 70 = .ok (.iconst 0, 1) := by decide +kernel
theorem dX7_sure_71 : decode cX7_sure 71 = .ok (.istore 5, 2) := by decide +kernel
theorem dX7_sure_73 : decode cX7_sure 73 = .ok (.iload 5, 2) := by decide +kernel
theorem dX7_sure_75 : decode cX7_sure 75 = .ok (.ifCond .eq 9, 3) := by decide +kernel
theorem dX7_sure_78 : decode cX7_sure 78 = .ok (.iload_n 2, 1) := by decide +kernel
theorem dX7_sure_79 : decode cX7_sure 79 = .ok (.iconst 1, 1) := by decide +kernel
theorem dX7_sure_80 : decode cX7_sure 80 = .ok (.iload_n 3, 1) := by decide +kernel
theorem dX7_sure_81 : decode cX7_sure 81 = .ok (.ishl, 1) := by decide +kernel
theorem dX7_sure_82 : decode cX7_sure 82 = .ok (.ior, 1) := by decide +kernel
theorem dX7_sure_83 : decode cX7_sure 83 = .ok (.istore_n 2, 1) := by decide +kernel
theorem dX7_sure_84 : decode cX7_sure 84 = .ok (.iinc 3 1, 3) := by decide +kernel
theorem dX7_sure_87 : decode cX7_sure 87 = .ok (.goto (-68), 3) := by decide +kernel
theorem dX7_sure_90 : decode cX7_sure 90 = .ok (.iload_n 2, 1) := by decide +kernel
theorem dX7_sure_91 : decode cX7_sure 91 = .ok (.ireturn, 1) := by decide +kernel
theorem dX7_fridays_0 : decode cX7_fridays 0 = .ok (.aload_n 0, 1) := by decide +kernel
theorem dX7_fridays_1 : decode cX7_fridays 1 = .ok (.iload_n 1, 1) := by decide +kernel
theorem dX7_fridays_2 : decode cX7_fridays 2 = .ok (.invokevirtual 77, 3) := by decide +kernel
theorem dX7_fridays_5 : decode cX7_fridays 5 = .ok (.ifCond .ne 5, 3) := by decide +kernel
theorem dX7_fridays_8 : decode cX7_fridays 8 = .ok (.iconst (-1), 1) := by decide +kernel
theorem dX7_fridays_9 : decode cX7_fridays 9 = .ok (.ireturn, 1) := by decide +kernel
theorem dX7_fridays_10 : decode cX7_fridays 10 = .ok (.aload_n 0, 1) := by decide +kernel
theorem dX7_fridays_11 : decode cX7_fridays 11 = .ok (.getfield 62, 3) := by decide +kernel
theorem dX7_fridays_14 : decode cX7_fridays 14 = .ok (.iload_n 1, 1) := by decide +kernel
theorem dX7_fridays_15 : decode cX7_fridays 15 = .ok (.invokevirtual 184, 3) := by decide +kernel
theorem dX7_fridays_18 : decode cX7_fridays 18 = .ok (.ireturn, 1) := by decide +kernel
theorem dX7_again_0 : decode cX7_again 0 = .ok (.aload_n 0, 1) := by decide +kernel
theorem dX7_again_1 : decode cX7_again 1 = .ok (.iload_n 1, 1) := by decide +kernel
theorem dX7_again_2 : decode cX7_again 2 = .ok (.invokevirtual 77, 3) := by decide +kernel
theorem dX7_again_5 : decode cX7_again 5 = .ok (.ifCond .eq 33, 3) := by decide +kernel
theorem dX7_again_8 : decode cX7_again 8 = .ok (.iload_n 2, 1) := by decide +kernel
theorem dX7_again_9 : decode cX7_again 9 = .ok (.ifCond .lt 29, 3) := by decide +kernel
theorem dX7_again_12 : decode cX7_again 12 = .ok (.iload_n 2, 1) := by decide +kernel
theorem dX7_again_13 : decode cX7_again 13 = .ok (.bipush 9, 2) := by decide +kernel
theorem dX7_again_15 : decode cX7_again 15 = .ok (.if_icmp .gt 23, 3) := by decide +kernel
theorem dX7_again_18 : decode cX7_again 18 = .ok (.iload_n 3, 1) := by decide +kernel
theorem dX7_again_19 : decode cX7_again 19 = .ok (.ifCond .lt 19, 3) := by decide +kernel
theorem dX7_again_22 : decode cX7_again 22 = .ok (.iload_n 3, 1) := by decide +kernel
theorem dX7_again_23 : decode cX7_again 23 = .ok (.iconst 1, 1) := by decide +kernel
theorem dX7_again_24 : decode cX7_again 24 = .ok (.if_icmp .gt 14, 3) := by decide +kernel
theorem dX7_again_27 : decode cX7_again 27 = .ok (.iload 4, 2) := by decide +kernel
theorem dX7_again_29 : decode cX7_again 29 = .ok (.ifCond .lt 9, 3) := by decide +kernel
theorem dX7_again_32 : decode cX7_again 32 = .ok (.iload 4, 2) := by decide +kernel
theorem dX7_again_34 : decode cX7_again 34 = .ok (.iconst 1, 1) := by decide +kernel
theorem dX7_again_35 : decode cX7_again 35 = .ok (.if_icmp .le 7, 3) := by decide +kernel
theorem dX7_again_38 : decode cX7_again 38 = .ok (.ldc2_w 187, 3) := by decide +kernel
theorem dX7_again_41 : decode cX7_again 41 = .ok (.lreturn, 1) := by decide +kernel
theorem dX7_again_42 : decode cX7_again 42 = .ok (.aload_n 0, 1) := by decide +kernel
theorem dX7_again_43 : decode cX7_again 43 = .ok (.iload_n 1, 1) := by decide +kernel
theorem dX7_again_44 : decode cX7_again 44 = .ok (.iload_n 2, 1) := by decide +kernel
theorem dX7_again_45 : decode cX7_again 45 = .ok (.invokevirtual 189, 3) := by decide +kernel
theorem dX7_again_48 : decode cX7_again 48 = .ok (.iload_n 3, 1) := by decide +kernel
theorem dX7_again_49 : decode cX7_again 49 = .ok (.iconst 1, 1) := by decide +kernel
theorem dX7_again_50 : decode cX7_again 50 = .ok (.if_icmp .ne 14, 3) := by decide +kernel
theorem dX7_again_53 : decode cX7_again 53 = .ok (.aload_n 0, 1) := by decide +kernel
theorem dX7_again_54 : decode cX7_again 54 = .ok (.getfield 38, 3) := by decide +kernel
theorem dX7_again_57 : decode cX7_again 57 = .ok (.aload_n 0, 1) := by decide +kernel
theorem dX7_again_58 : decode cX7_again 58 = .ok (.getfield 73, 3) := by decide +kernel
theorem dX7_again_61 : decode cX7_again 61 = .ok (.invokevirtual 193, 3) := by decide +kernel
theorem dX7_again_64 : decode cX7_again 64 = .ok (.aload_n 0, 1) := by decide +kernel
theorem dX7_again_65 : decode cX7_again 65 = .ok (.getfield 38, 3) := by decide +kernel
theorem dX7_again_68 : decode cX7_again 68 = .ok (.invokevirtual 196, 3) := by decide +kernel
theorem dX7_again_71 : decode cX7_again 71 = .ok (.iload 4, 2) := by decide +kernel
theorem dX7_again_73 : decode cX7_again 73 = .ok (.ifCond .ne 13, 3) := by decide +kernel
theorem dX7_again_76 : decode cX7_again 76 = .ok (.aload_n 0, 1) := by decide +kernel
theorem dX7_again_77 : decode cX7_again 77 = .ok (.getfield 38, 3) := by decide +kernel
theorem dX7_again_80 : decode cX7_again 80 = .ok (.getfield 199, 3) := by decide +kernel
theorem dX7_again_83 : decode cX7_again 83 = .ok (.goto 10, 3) := by decide +kernel
theorem dX7_again_86 : decode cX7_again 86 = .ok (.aload_n 0, 1) := by decide +kernel
theorem dX7_again_87 : decode cX7_again 87 = .ok (.getfield 38, 3) := by decide +kernel
theorem dX7_again_90 : decode cX7_again 90 = .ok (.getfield 203, 3) := by decide +kernel
theorem dX7_again_93 : decode cX7_again 93 = .ok (.lreturn, 1) := by decide +kernel
theorem dX7_oddest_0 : decode cX7_oddest 0 = .ok (.aload_n 0, 1) := by decide +kernel
theorem dX7_oddest_1 : decode cX7_oddest 1 = .ok (.getfield 73, 3) := by decide +kernel
theorem dX7_oddest_4 : decode cX7_oddest 4 = .ok (.ifCond .ne 5, 3) := by decide +kernel
theorem dX7_oddest_7 : decode cX7_oddest 7 = .ok (.iconst (-1), 1) := by decide +kernel
theorem dX7_oddest_8 : decode cX7_oddest 8 = .ok (.ireturn, 1) := by decide +kernel
theorem dX7_oddest_9 : decode cX7_oddest 9 = .ok (.iload_n 1, 1) := by decide +kernel
theorem dX7_oddest_10 : decode cX7_oddest 10 = .ok (.ifCond .lt 9, 3) := by decide +kernel
theorem dX7_oddest_13 : decode cX7_oddest 13 = .ok (.iload_n 1, 1) := by decide +kernel
theorem dX7_oddest_14 : decode cX7_oddest 14 = .ok (.bipush 9, 2) := by decide +kernel
theorem dX7_oddest_16 : decode cX7_oddest 16 = .ok (.if_icmp .le 6, 3) := by decide +kernel
theorem dX7_oddest_19 : decode cX7_oddest 19 = .ok (.bipush (-2), 2) := by decide +kernel
theorem dX7_oddest_21 : decode cX7_oddest 21 = .ok (.ireturn, 1) := by decide +kernel
theorem dX7_oddest_22 : decode cX7_oddest 22 = .ok (.iconst 0, 1) := by decide +kernel
theorem dX7_oddest_23 : decode cX7_oddest 23 = .ok (.istore_n 2, 1) := by decide +kernel
theorem dX7_oddest_24 : decode cX7_oddest 24 = .ok (.lconst 0, 1) := by decide +kernel
theorem dX7_oddest_25 : decode cX7_oddest 25 = .ok (.lstore_n 3, 1) := by decide +kernel
theorem dX7_oddest_26 : decode cX7_oddest 26 = .ok (.iconst 0, 1) := by decide +kernel
theorem dX7_oddest_27 : decode cX7_oddest 27 = .ok (.istore 5, 2) := by decide +kernel
theorem dX7_oddest_29 : decode cX7_oddest 29 = .ok (.iload 5, 2) := by decide +kernel
theorem dX7_oddest_31 : decode cX7_oddest 31 = .ok (.aload_n 0, 1) := by decide +kernel
theorem dX7_oddest_32 : decode cX7_oddest 32 = .ok (.getfield 73, 3) := by decide +kernel
theorem dX7_oddest_35 : decode cX7_oddest 35 = .ok (.if_icmp .ge 44, 3) := by decide +kernel
theorem dX7_oddest_38 : decode cX7_oddest 38 = .ok (.aload_n 0, 1) := by decide +kernel
theorem dX7_oddest_39 : decode cX7_oddest 39 = .ok (.iload 5, 2) := by decide +kernel
theorem dX7_oddest_41 : decode cX7_oddest 41 = .ok (.iload_n 1, 1) := by decide +kernel
theorem dX7_oddest_42 : decode cX7_oddest 42 = .ok (.invokevirtual 189, 3) := by decide +kernel
theorem dX7_oddest_45 : decode cX7_oddest 45 = .ok (.iload 5, 2) := by decide +kernel
theorem dX7_oddest_47 : decode cX7_oddest 47 = .ok (.ifCond .eq 15, 3) := by decide +kernel
theorem dX7_oddest_50 : decode cX7_oddest 50 = .ok (.aload_n 0, 1) := by decide +kernel
theorem dX7_oddest_51 : decode cX7_oddest 51 = .ok (.getfield 38, 3) := by decide +kernel
theorem dX7_oddest_54 : decode cX7_oddest 54 = .ok (.getfield 199, 3) := by decide +kernel
theorem dX7_oddest_57 : decode cX7_oddest 57 = .ok (.lload_n 3, 1) := by decide +kernel
theorem dX7_oddest_58 : decode cX7_oddest 58 = .ok (.lcmp, 1) := by decide +kernel
theorem dX7_oddest_59 : decode cX7_oddest 59 = .ok (.ifCond .ge 14, 3) := by decide +kernel
theorem dX7_oddest_62 : decode cX7_oddest 62 = .ok (.aload_n 0, 1) := by decide +kernel
theorem dX7_oddest_63 : decode cX7_oddest 63 = .ok (.getfield 38, 3) := by decide +kernel
theorem dX7_oddest_66 : decode cX7_oddest 66 = .ok (.getfield 199, 3) := by decide +kernel
theorem dX7_oddest_69 : decode cX7_oddest 69 = .ok (.lstore_n 3, 1) := by decide +kernel
theorem dX7_oddest_70 : decode cX7_oddest 70 = .ok (.iload 5, 2) := by decide +kernel
theorem dX7_oddest_72 : decode cX7_oddest 72 = .ok (.istore_n 2, 1) := by decide +kernel
theorem dX7_oddest_73 : decode cX7_oddest 73 = .ok (.iinc 5 1, 3) := by decide +kernel
theorem dX7_oddest_76 : decode cX7_oddest 76 = .ok (.goto (-47), 3) := by decide +kernel
theorem dX7_oddest_79 : decode cX7_oddest 79 = .ok (.iload_n 2, 1) := by decide +kernel
theorem dX7_oddest_80 : decode cX7_oddest 80 = .ok (.ireturn, 1) := by decide +kernel
theorem dX7_ring_0 : decode cX7_ring 0 = .ok (.iload_n 1, 1) := by decide +kernel
theorem dX7_ring_1 : decode cX7_ring 1 = .ok (.lookupswitch 37 #[(0, 27), (1, 32)], 27) := by decide +kernel
theorem dX7_ring_28 : decode cX7_ring 28 = .ok (.aload_n 0, 1) := by decide +kernel
theorem dX7_ring_29 : decode cX7_ring 29 = .ok (.invokevirtual 206, 3) := by decide +kernel
theorem dX7_ring_32 : decode cX7_ring 32 = .ok (.ireturn, 1) := by decide +kernel
theorem dX7_ring_33 : decode cX7_ring 33 = .ok (.aload_n 0, 1) := by decide +kernel
theorem dX7_ring_34 : decode cX7_ring 34 = .ok (.invokevirtual 210, 3) := by decide +kernel
theorem dX7_ring_37 : decode cX7_ring 37 = .ok (.ireturn, 1) := by decide +kernel
theorem dX7_ring_38 : decode cX7_ring 38 = .ok (.iconst (-1), 1) := by decide +kernel
theorem dX7_ring_39 : decode cX7_ring 39 = .ok (.ireturn, 1) := by decide +kernel
theorem dX7_explaining_0 : decode cX7_explaining 0 = .ok (.aload_n 0, 1) := by decide +kernel
theorem dX7_explaining_1 : decode cX7_explaining 1 = .ok (.getfield 62, 3) := by decide +kernel
theorem dX7_explaining_4 : decode cX7_explaining 4 = .ok (.getfield 166, 3) := by decide +kernel
theorem dX7_explaining_7 : decode cX7_explaining 7 = .ok (.iload_n 1, 1) := by decide +kernel
theorem dX7_explaining_8 : decode cX7_explaining 8 = .ok (.iaload, 1) := by decide +kernel
theorem dX7_explaining_9 : decode cX7_explaining 9 = .ok (.istore_n 2, 1) := by decide +kernel
theorem dX7_explaining_10 : decode cX7_explaining 10 = .ok (.aload_n 0, 1) := by decide +kernel
theorem dX7_explaining_11 : decode cX7_explaining 11 = .ok (.iload_n 2, 1) := by decide +kernel
theorem dX7_explaining_12 : decode cX7_explaining 12 = .ok (.aload_n 0, 1) := by decide +kernel
theorem dX7_explaining_13 : decode cX7_explaining 13 = .ok (.getfield 62, 3) := by decide +kernel
theorem dX7_explaining_16 : decode cX7_explaining 16 = .ok (.getfield 169, 3) := by decide +kernel
theorem dX7_explaining_19 : decode cX7_explaining 19 = .ok (.iload_n 1, 1) := by decide +kernel
theorem dX7_explaining_20 : decode cX7_explaining 20 = .ok (.iaload, 1) := by decide +kernel
theorem dX7_explaining_21 : decode cX7_explaining 21 = .ok (.invokevirtual 115, 3) := by decide +kernel
theorem dX7_explaining_24 : decode cX7_explaining 24 = .ok (.istore_n 3, 1) := by decide +kernel
theorem dX7_explaining_25 : decode cX7_explaining 25 = .ok (.iconst 1, 1) := by decide +kernel
theorem dX7_explaining_26 : decode cX7_explaining 26 = .ok (.istore 4, 2) := by decide +kernel
theorem dX7_explaining_28 : decode cX7_explaining 28 = .ok (.iload_n 3, 1) := by decide +kernel
theorem dX7_explaining_29 : decode cX7_explaining 29 = .ok (.ifCond .le 9, 3) := by decide +kernel
theorem dX7_explaining_32 : decode cX7_explaining 32 = .ok (.iload 4, 2) := by decide +kernel
theorem dX7_explaining_34 : decode cX7_explaining 34 = .ok (.iconst 2, 1) := by decide +kernel
theorem dX7_explaining_35 : decode cX7_explaining 35 = .ok (.ior, 1) := by decide +kernel
theorem dX7_explaining_36 : decode cX7_explaining 36 = .ok (.istore 4, 2) := by decide +kernel
theorem dX7_explaining_38 : decode cX7_explaining 38 = .ok (.iload_n 3, 1) := by decide +kernel
theorem dX7_explaining_39 : decode cX7_explaining 39 = .ok (.bipush 50, 2) := by decide +kernel
theorem dX7_explaining_41 : decode cX7_explaining 41 = .ok (.if_icmp .lt 10, 3) := by decide +kernel
theorem dX7_explaining_44 : decode cX7_explaining 44 = .ok (.iload 4, 2) := by decide +kernel
theorem dX7_explaining_46 : decode cX7_explaining 46 = .ok (.bipush 16, 2) := by decide +kernel
theorem dX7_explaining_48 : decode cX7_explaining 48 = .ok (.ior, 1) := by decide +kernel
theorem dX7_explaining_49 : decode cX7_explaining 49 = .ok (.istore 4, 2) := by decide +kernel
theorem dX7_explaining_51 : decode cX7_explaining 51 = .ok (.aload_n 0, 1) := by decide +kernel
theorem dX7_explaining_52 : decode cX7_explaining 52 = .ok (.getfield 62, 3) := by decide +kernel
theorem dX7_explaining_55 : decode cX7_explaining 55 = .ok (.getfield 172, 3) := by decide +kernel
theorem dX7_explaining_58 : decode cX7_explaining 58 = .ok (.iload_n 1, 1) := by decide +kernel
theorem dX7_explaining_59 : decode cX7_explaining 59 = .ok (.iaload, 1) := by decide +kernel
theorem dX7_explaining_60 : decode cX7_explaining 60 = .ok (.aload_n 0, 1) := by decide +kernel
theorem dX7_explaining_61 : decode cX7_explaining 61 = .ok (.getfield 62, 3) := by decide +kernel
theorem dX7_explaining_64 : decode cX7_explaining 64 = .ok (.getfield 104, 3) := by decide +kernel
theorem dX7_explaining_67 : decode cX7_explaining 67 = .ok (.iconst 2, 1) := by decide +kernel
theorem dX7_explaining_68 : decode cX7_explaining 68 = .ok (.sipush 999, 3) := by decide +kernel
theorem dX7_explaining_71 : decode cX7_explaining 71 = .ok (.invokevirtual 213, 3) := by decide +kernel
theorem dX7_explaining_74 : decode cX7_explaining 74 = .ok (.if_icmp .lt 9, 3) := by decide +kernel
theorem dX7_explaining_77 : decode cX7_explaining 77 = .ok (.iload 4, 2) := by decide +kernel
theorem dX7_explaining_79 : decode cX7_explaining 79 = .ok (.iconst 4, 1) := by decide +kernel
theorem dX7_explaining_80 : decode cX7_explaining 80 = .ok (.ior, 1) := by decide +kernel
theorem dX7_explaining_81 : decode cX7_explaining 81 = .ok (.istore 4, 2) := by decide +kernel
theorem dX7_explaining_83 : decode cX7_explaining 83 = .ok (.aload_n 0, 1) := by decide +kernel
theorem dX7_explaining_84 : decode cX7_explaining 84 = .ok (.getfield 31, 3) := by decide +kernel
theorem dX7_explaining_87 : decode cX7_explaining 87 = .ok (.iload_n 2, 1) := by decide +kernel
theorem dX7_explaining_88 : decode cX7_explaining 88 = .ok (.aload_n 0, 1) := by decide +kernel
theorem dX7_explaining_89 : decode cX7_explaining 89 = .ok (.getfield 62, 3) := by decide +kernel
theorem dX7_explaining_92 : decode cX7_explaining 92 = .ok (.getfield 172, 3) := by decide +kernel
theorem dX7_explaining_95 : decode cX7_explaining 95 = .ok (.iload_n 1, 1) := by decide +kernel
theorem dX7_explaining_96 : decode cX7_explaining 96 = .ok (.iaload, 1) := by decide +kernel
theorem dX7_explaining_97 : decode cX7_explaining 97 = .ok (.invokevirtual 146, 3) := by decide +kernel
theorem dX7_explaining_100 : decode cX7_explaining 100 = .ok (.ifCond .ne 6, 3) := by decide +kernel
theorem dX7_explaining_103 : decode cX7_explaining 103 = .ok (.iload 4, 2) := by decide +kernel
theorem dX7_explaining_105 : decode cX7_explaining 105 = .ok (.ireturn, 1) := by decide +kernel
theorem dX7_explaining_106 : decode cX7_explaining 106 = .ok (.iload 4, 2) := by decide +kernel
theorem dX7_explaining_108 : decode cX7_explaining 108 = .ok (.bipush 8, 2) := by decide +kernel
theorem dX7_explaining_110 : decode cX7_explaining 110 = .ok (.ior, 1) := by decide +kernel
theorem dX7_explaining_111 : decode cX7_explaining 111 = .ok (.istore 4, 2) := by decide +kernel
theorem dX7_explaining_113 : decode cX7_explaining 113 = .ok (.aload_n 0, 1) := by decide +kernel
theorem dX7_explaining_114 : decode cX7_explaining 114 = .ok (.getfield 62, 3) := by decide +kernel
theorem dX7_explaining_117 : decode cX7_explaining 117 = .ok (.getfield 87, 3) := by decide +kernel
theorem dX7_explaining_120 : decode cX7_explaining 120 = .ok (.iload_n 2, 1) := by decide +kernel
theorem dX7_explaining_121 : decode cX7_explaining 121 = .ok (.iaload, 1) := by decide +kernel
theorem dX7_explaining_122 : decode cX7_explaining 122 = .ok (.ifCond .ge 10, 3) := by decide +kernel
theorem dX7_explaining_125 : decode cX7_explaining 125 = .ok (.iload 4, 2) := by decide +kernel
theorem dX7_explaining_127 : decode cX7_explaining 127 = .ok (.bipush 32, 2) := by decide +kernel
theorem dX7_explaining_129 : decode cX7_explaining 129 = .ok (.ior, 1) := by decide +kernel
theorem dX7_explaining_130 : decode cX7_explaining 130 = .ok (.istore 4, 2) := by decide +kernel
theorem dX7_explaining_132 : decode cX7_explaining 132 = .ok (.aload_n 0, 1) := by decide +kernel
theorem dX7_explaining_133 : decode cX7_explaining 133 = .ok (.getfield 62, 3) := by decide +kernel
theorem dX7_explaining_136 : decode cX7_explaining 136 = .ok (.getfield 175, 3) := by decide +kernel
theorem dX7_explaining_139 : decode cX7_explaining 139 = .ok (.iload_n 1, 1) := by decide +kernel
theorem dX7_explaining_140 : decode cX7_explaining 140 = .ok (.iaload, 1) := by decide +kernel
theorem dX7_explaining_141 : decode cX7_explaining 141 = .ok (.aload_n 0, 1) := by decide +kernel
theorem dX7_explaining_142 : decode cX7_explaining 142 = .ok (.getfield 62, 3) := by decide +kernel
theorem dX7_explaining_145 : decode cX7_explaining 145 = .ok (.getfield 104, 3) := by decide +kernel
theorem dX7_explaining_148 : decode cX7_explaining 148 = .ok (.iconst 3, 1) := by decide +kernel
theorem dX7_explaining_149 : decode cX7_explaining 149 = .ok (.sipush 999, 3) := by decide +kernel
theorem dX7_explaining_152 : decode cX7_explaining 152 = .ok (.invokevirtual 213, 3) := by decide +kernel
theorem dX7_explaining_155 : decode cX7_explaining 155 = .ok (.if_icmp .ge 21, 3) := by decide +kernel
theorem dX7_explaining_158 : decode cX7_explaining 158 = .ok (.aload_n 0, 1) := by decide +kernel
theorem dX7_explaining_159 : decode cX7_explaining 159 = .ok (.getfield 62, 3) := by decide +kernel
theorem dX7_explaining_162 : decode cX7_explaining 162 = .ok (.iload_n 1, 1) := by decide +kernel
theorem dX7_explaining_163 : decode cX7_explaining 163 = .ok (.invokevirtual 216, 3) := by decide +kernel
theorem dX7_explaining_166 : decode cX7_explaining 166 = .ok (.ifCond .eq 10, 3) := by decide +kernel
theorem dX7_explaining_169 : decode cX7_explaining 169 = .ok (.iload 4, 2) := by decide +kernel
theorem dX7_explaining_171 : decode cX7_explaining 171 = .ok (.bipush 64, 2) := by decide +kernel
theorem dX7_explaining_173 : decode cX7_explaining 173 = .ok (.ior, 1) := by decide +kernel
theorem dX7_explaining_174 : decode cX7_explaining 174 = .ok (.istore 4, 2) := by decide +kernel
theorem dX7_explaining_176 : decode cX7_explaining 176 = .ok (.iload 4, 2) := by decide +kernel
theorem dX7_explaining_178 : decode cX7_explaining 178 = .ok (.ireturn, 1) := by decide +kernel
theorem dX7_knownAlone_0 : decode cX7_knownAlone 0 = .ok (.bipush 14, 2) := by decide +kernel
theorem dX7_knownAlone_2 : decode cX7_knownAlone 2 = .ok (.istore_n 1, 1) := by decide +kernel
theorem dX7_knownAlone_3 : decode cX7_knownAlone 3 = .ok (.iload_n 0, 1) := by decide +kernel
theorem dX7_knownAlone_4 : decode cX7_knownAlone 4 = .ok (.iload_n 1, 1) := by decide +kernel
theorem dX7_knownAlone_5 : decode cX7_knownAlone 5 = .ok (.iand, 1) := by decide +kernel
theorem dX7_knownAlone_6 : decode cX7_knownAlone 6 = .ok (.bipush 8, 2) := by decide +kernel
theorem dX7_knownAlone_8 : decode cX7_knownAlone 8 = .ok (.if_icmp .ne 7, 3) := by decide +kernel
theorem dX7_knownAlone_11 : decode cX7_knownAlone 11 = .ok (.iconst 1, 1) := by decide +kernel
theorem dX7_knownAlone_12 : decode cX7_knownAlone 12 = .ok (.goto 4, 3) := by decide +kernel
theorem dX7_knownAlone_15 : decode cX7_knownAlone 15 = .ok (.iconst 0, 1) := by decide +kernel
theorem dX7_knownAlone_16 : decode cX7_knownAlone 16 = .ok (.ireturn, 1) := by decide +kernel
theorem dX7_weighAgain_0 : decode cX7_weighAgain 0 = .ok (.aload_n 0, 1) := by decide +kernel
theorem dX7_weighAgain_1 : decode cX7_weighAgain 1 = .ok (.getfield 38, 3) := by decide +kernel
theorem dX7_weighAgain_4 : decode cX7_weighAgain 4 = .ok (.invokevirtual 219, 3) := by decide +kernel
theorem dX7_weighAgain_7 : decode cX7_weighAgain 7 = .ok (.iconst 0, 1) := by decide +kernel
theorem dX7_weighAgain_8 : decode cX7_weighAgain 8 = .ok (.istore_n 3, 1) := by decide +kernel
theorem dX7_weighAgain_9 : decode cX7_weighAgain 9 = .ok (.iload_n 3, 1) := by decide +kernel
theorem dX7_weighAgain_10 : decode cX7_weighAgain 10 = .ok (.iload_n 2, 1) := by decide +kernel
theorem dX7_weighAgain_11 : decode cX7_weighAgain 11 = .ok (.if_icmp .ge 22, 3) := by decide +kernel
theorem dX7_weighAgain_14 : decode cX7_weighAgain 14 = .ok (.aload_n 0, 1) := by decide +kernel
theorem dX7_weighAgain_15 : decode cX7_weighAgain 15 = .ok (.getfield 38, 3) := by decide +kernel
theorem dX7_weighAgain_18 : decode cX7_weighAgain 18 = .ok (.aload_n 0, 1) := by decide +kernel
theorem dX7_weighAgain_19 : decode cX7_weighAgain 19 = .ok (.iload_n 1, 1) := by decide +kernel
theorem dX7_weighAgain_20 : decode cX7_weighAgain 20 = .ok (.iload_n 3, 1) := by decide +kernel
theorem dX7_weighAgain_21 : decode cX7_weighAgain 21 = .ok (.invokevirtual 115, 3) := by decide +kernel
theorem dX7_weighAgain_24 : decode cX7_weighAgain 24 = .ok (.invokevirtual 222, 3) := by decide +kernel
theorem dX7_weighAgain_27 : decode cX7_weighAgain 27 = .ok (.iinc 3 1, 3) := by decide +kernel
theorem dX7_weighAgain_30 : decode cX7_weighAgain 30 = .ok (.goto (-21), 3) := by decide +kernel
theorem dX7_weighAgain_33 : decode cX7_weighAgain 33 = .ok (.aload_n 0, 1) := by decide +kernel
theorem dX7_weighAgain_34 : decode cX7_weighAgain 34 = .ok (.getfield 62, 3) := by decide +kernel
theorem dX7_weighAgain_37 : decode cX7_weighAgain 37 = .ok (.iload_n 1, 1) := by decide +kernel
theorem dX7_weighAgain_38 : decode cX7_weighAgain 38 = .ok (.invokevirtual 184, 3) := by decide +kernel
theorem dX7_weighAgain_41 : decode cX7_weighAgain 41 = .ok (.iconst 1, 1) := by decide +kernel
theorem dX7_weighAgain_42 : decode cX7_weighAgain 42 = .ok (.iload_n 2, 1) := by decide +kernel
theorem dX7_weighAgain_43 : decode cX7_weighAgain 43 = .ok (.ishl, 1) := by decide +kernel
theorem dX7_weighAgain_44 : decode cX7_weighAgain 44 = .ok (.iconst 1, 1) := by decide +kernel
theorem dX7_weighAgain_45 : decode cX7_weighAgain 45 = .ok (.isub, 1) := by decide +kernel
theorem dX7_weighAgain_46 : decode cX7_weighAgain 46 = .ok (.iand, 1) := by decide +kernel
theorem dX7_weighAgain_47 : decode cX7_weighAgain 47 = .ok (.invokestatic 138, 3) := by decide +kernel
theorem dX7_weighAgain_50 : decode cX7_weighAgain 50 = .ok (.istore_n 3, 1) := by decide +kernel
theorem dX7_weighAgain_51 : decode cX7_weighAgain 51 = .ok (.aload_n 0, 1) := by decide +kernel
theorem dX7_weighAgain_52 : decode cX7_weighAgain 52 = .ok (.getfield 38, 3) := by decide +kernel
theorem dX7_weighAgain_55 : decode cX7_weighAgain 55 = .ok (.iload_n 3, 1) := by decide +kernel
theorem dX7_weighAgain_56 : decode cX7_weighAgain 56 = .ok (.invokevirtual 225, 3) := by decide +kernel
theorem dX7_weighAgain_59 : decode cX7_weighAgain 59 = .ok (.return_, 1) := by decide +kernel
theorem dX7_alikeWith_0 : decode cX7_alikeWith 0 = .ok (.aload_n 0, 1) := by decide +kernel
theorem dX7_alikeWith_1 : decode cX7_alikeWith 1 = .ok (.getfield 62, 3) := by decide +kernel
theorem dX7_alikeWith_4 : decode cX7_alikeWith 4 = .ok (.iload_n 1, 1) := by decide +kernel
theorem dX7_alikeWith_5 : decode cX7_alikeWith 5 = .ok (.invokevirtual 184, 3) := by decide +kernel
theorem dX7_alikeWith_8 : decode cX7_alikeWith 8 = .ok (.istore_n 2, 1) := by decide +kernel
theorem dX7_alikeWith_9 : decode cX7_alikeWith 9 = .ok (.iconst 0, 1) := by decide +kernel
theorem dX7_alikeWith_10 : decode cX7_alikeWith 10 = .ok (.istore_n 3, 1) := by decide +kernel
theorem dX7_alikeWith_11 : decode cX7_alikeWith 11 = .ok (.iconst 0, 1) := by decide +kernel
theorem dX7_alikeWith_12 : decode cX7_alikeWith 12 = .ok (.istore 4, 2) := by decide +kernel
theorem dX7_alikeWith_14 : decode cX7_alikeWith 14 = .ok (.iload 4, 2) := by decide +kernel
theorem dX7_alikeWith_16 : decode cX7_alikeWith 16 = .ok (.aload_n 0, 1) := by decide +kernel
theorem dX7_alikeWith_17 : decode cX7_alikeWith 17 = .ok (.getfield 73, 3) := by decide +kernel
theorem dX7_alikeWith_20 : decode cX7_alikeWith 20 = .ok (.if_icmp .ge 33, 3) := by decide +kernel
theorem dX7_alikeWith_23 : decode cX7_alikeWith 23 = .ok (.iload_n 2, 1) := by decide +kernel
theorem dX7_alikeWith_24 : decode cX7_alikeWith 24 = .ok (.ifCond .eq 23, 3) := by decide +kernel
theorem dX7_alikeWith_27 : decode cX7_alikeWith 27 = .ok (.aload_n 0, 1) := by decide +kernel
theorem dX7_alikeWith_28 : decode cX7_alikeWith 28 = .ok (.getfield 62, 3) := by decide +kernel
theorem dX7_alikeWith_31 : decode cX7_alikeWith 31 = .ok (.iload 4, 2) := by decide +kernel
theorem dX7_alikeWith_33 : decode cX7_alikeWith 33 = .ok (.invokevirtual 184, 3) := by decide +kernel
theorem dX7_alikeWith_36 : decode cX7_alikeWith 36 = .ok (.iload_n 2, 1) := by decide +kernel
theorem dX7_alikeWith_37 : decode cX7_alikeWith 37 = .ok (.if_icmp .ne 10, 3) := by decide +kernel
theorem dX7_alikeWith_40 : decode cX7_alikeWith 40 = .ok (.iload_n 3, 1) := by decide +kernel
theorem dX7_alikeWith_41 : decode cX7_alikeWith 41 = .ok (.iconst 1, 1) := by decide +kernel
theorem dX7_alikeWith_42 : decode cX7_alikeWith 42 = .ok (.iload 4, 2) := by decide +kernel
theorem dX7_alikeWith_44 : decode cX7_alikeWith 44 = .ok (.ishl, 1) := by decide +kernel
theorem dX7_alikeWith_45 : decode cX7_alikeWith 45 = .ok (.ior, 1) := by decide +kernel
theorem dX7_alikeWith_46 : decode cX7_alikeWith 46 = .ok (.istore_n 3, 1) := by decide +kernel
theorem dX7_alikeWith_47 : decode cX7_alikeWith 47 = .ok (.iinc 4 1, 3) := by decide +kernel
theorem dX7_alikeWith_50 : decode cX7_alikeWith 50 = .ok (.goto (-36), 3) := by decide +kernel
theorem dX7_alikeWith_53 : decode cX7_alikeWith 53 = .ok (.iload_n 3, 1) := by decide +kernel
theorem dX7_alikeWith_54 : decode cX7_alikeWith 54 = .ok (.ireturn, 1) := by decide +kernel
theorem dX7_alikePairs_0 : decode cX7_alikePairs 0 = .ok (.iconst 0, 1) := by decide +kernel
theorem dX7_alikePairs_1 : decode cX7_alikePairs 1 = .ok (.istore_n 1, 1) := by decide +kernel
theorem dX7_alikePairs_2 : decode cX7_alikePairs 2 = .ok (.iconst 0, 1) := by decide +kernel
theorem dX7_alikePairs_3 : decode cX7_alikePairs 3 = .ok (.istore_n 2, 1) := by decide +kernel
theorem dX7_alikePairs_4 : decode cX7_alikePairs 4 = .ok (.iload_n 2, 1) := by decide +kernel
theorem dX7_alikePairs_5 : decode cX7_alikePairs 5 = .ok (.aload_n 0, 1) := by decide +kernel
theorem dX7_alikePairs_6 : decode cX7_alikePairs 6 = .ok (.getfield 73, 3) := by decide +kernel
theorem dX7_alikePairs_9 : decode cX7_alikePairs 9 = .ok (.if_icmp .ge 24, 3) := by decide +kernel
theorem dX7_alikePairs_12 : decode cX7_alikePairs 12 = .ok (.iload_n 1, 1) := by decide +kernel
theorem dX7_alikePairs_13 : decode cX7_alikePairs 13 = .ok (.aload_n 0, 1) := by decide +kernel
theorem dX7_alikePairs_14 : decode cX7_alikePairs 14 = .ok (.iload_n 2, 1) := by decide +kernel
theorem dX7_alikePairs_15 : decode cX7_alikePairs 15 = .ok (.invokevirtual 228, 3) := by decide +kernel
theorem dX7_alikePairs_18 : decode cX7_alikePairs 18 = .ok (.iload_n 2, 1) := by decide +kernel
theorem dX7_alikePairs_19 : decode cX7_alikePairs 19 = .ok (.iconst 1, 1) := by decide +kernel
theorem dX7_alikePairs_20 : decode cX7_alikePairs 20 = .ok (.iadd, 1) := by decide +kernel
theorem dX7_alikePairs_21 : decode cX7_alikePairs 21 = .ok (.ishr, 1) := by decide +kernel
theorem dX7_alikePairs_22 : decode cX7_alikePairs 22 = .ok (.invokestatic 138, 3) := by decide +kernel
theorem dX7_alikePairs_25 : decode cX7_alikePairs 25 = .ok (.iadd, 1) := by decide +kernel
theorem dX7_alikePairs_26 : decode cX7_alikePairs 26 = .ok (.istore_n 1, 1) := by decide +kernel
theorem dX7_alikePairs_27 : decode cX7_alikePairs 27 = .ok (.iinc 2 1, 3) := by decide +kernel
theorem dX7_alikePairs_30 : decode cX7_alikePairs 30 = .ok (.goto (-26), 3) := by decide +kernel
theorem dX7_alikePairs_33 : decode cX7_alikePairs 33 = .ok (.iload_n 1, 1) := by decide +kernel
theorem dX7_alikePairs_34 : decode cX7_alikePairs 34 = .ok (.ireturn, 1) := by decide +kernel
theorem dX7_greatestRing_0 : decode cX7_greatestRing 0 = .ok (.iconst 0, 1) := by decide +kernel
theorem dX7_greatestRing_1 : decode cX7_greatestRing 1 = .ok (.istore_n 1, 1) := by decide +kernel
theorem dX7_greatestRing_2 : decode cX7_greatestRing 2 = .ok (.iconst 0, 1) := by decide +kernel
theorem dX7_greatestRing_3 : decode cX7_greatestRing 3 = .ok (.istore_n 2, 1) := by decide +kernel
theorem dX7_greatestRing_4 : decode cX7_greatestRing 4 = .ok (.iload_n 2, 1) := by decide +kernel
theorem dX7_greatestRing_5 : decode cX7_greatestRing 5 = .ok (.aload_n 0, 1) := by decide +kernel
theorem dX7_greatestRing_6 : decode cX7_greatestRing 6 = .ok (.getfield 73, 3) := by decide +kernel
theorem dX7_greatestRing_9 : decode cX7_greatestRing 9 = .ok (.if_icmp .ge 54, 3) := by decide +kernel
theorem dX7_greatestRing_12 : decode cX7_greatestRing 12 = .ok (.aload_n 0, 1) := by decide +kernel
theorem dX7_greatestRing_13 : decode cX7_greatestRing 13 = .ok (.iload_n 2, 1) := by decide +kernel
theorem dX7_greatestRing_14 : decode cX7_greatestRing 14 = .ok (.invokevirtual 228, 3) := by decide +kernel
theorem dX7_greatestRing_17 : decode cX7_greatestRing 17 = .ok (.istore_n 3, 1) := by decide +kernel
theorem dX7_greatestRing_18 : decode cX7_greatestRing 18 = .ok (.iload_n 3, 1) := by decide +kernel
theorem dX7_greatestRing_19 : decode cX7_greatestRing 19 = .ok (.invokestatic 138, 3) := by decide +kernel
theorem dX7_greatestRing_22 : decode cX7_greatestRing 22 = .ok (.istore 4, 2) := by decide +kernel
theorem dX7_greatestRing_24 : decode cX7_greatestRing 24 = .ok (.iload_n 1, 1) := by decide +kernel
theorem dX7_greatestRing_25 : decode cX7_greatestRing 25 = .ok (.invokestatic 138, 3) := by decide +kernel
theorem dX7_greatestRing_28 : decode cX7_greatestRing 28 = .ok (.istore 5, 2) := by decide +kernel
theorem dX7_greatestRing_30 : decode cX7_greatestRing 30 = .ok (.iload 4, 2) := by decide +kernel
theorem dX7_greatestRing_32 : decode cX7_greatestRing 32 = .ok (.iconst 2, 1) := by decide +kernel
theorem dX7_greatestRing_33 : decode cX7_greatestRing 33 = .ok (.if_icmp .lt 24, 3) := by decide +kernel
theorem dX7_greatestRing_36 : decode cX7_greatestRing 36 = .ok (.iload 4, 2) := by decide +kernel
theorem dX7_greatestRing_38 : decode cX7_greatestRing 38 = .ok (.iload 5, 2) := by decide +kernel
theorem dX7_greatestRing_40 : decode cX7_greatestRing 40 = .ok (.if_icmp .gt 15, 3) := by decide +kernel
theorem dX7_greatestRing_43 : decode cX7_greatestRing 43 = .ok (.iload 4, 2) := by decide +kernel
theorem dX7_greatestRing_45 : decode cX7_greatestRing 45 = .ok (.iload 5, 2) := by decide +kernel
theorem dX7_greatestRing_47 : decode cX7_greatestRing 47 = .ok (.if_icmp .ne 10, 3) := by decide +kernel
theorem dX7_greatestRing_50 : decode cX7_greatestRing 50 = .ok (.iload_n 3, 1) := by decide +kernel
theorem dX7_greatestRing_51 : decode cX7_greatestRing 51 = .ok (.iload_n 1, 1) := by decide +kernel
theorem dX7_greatestRing_52 : decode cX7_greatestRing 52 = .ok (.if_icmp .ge 5, 3) := by decide +kernel
theorem dX7_greatestRing_55 : decode cX7_greatestRing 55 = .ok (.iload_n 3, 1) := by decide +kernel
theorem dX7_greatestRing_56 : decode cX7_greatestRing 56 = .ok (.istore_n 1, 1) := by decide +kernel
theorem dX7_greatestRing_57 : decode cX7_greatestRing 57 = .ok (.iinc 2 1, 3) := by decide +kernel
theorem dX7_greatestRing_60 : decode cX7_greatestRing 60 = .ok (.goto (-56), 3) := by decide +kernel
theorem dX7_greatestRing_63 : decode cX7_greatestRing 63 = .ok (.iload_n 1, 1) := by decide +kernel
theorem dX7_greatestRing_64 : decode cX7_greatestRing 64 = .ok (.ireturn, 1) := by decide +kernel
theorem dX7_parted_0 : decode cX7_parted 0 = .ok (.iload_n 1, 1) := by decide +kernel
theorem dX7_parted_1 : decode cX7_parted 1 = .ok (.invokestatic 231, 3) := by decide +kernel
theorem dX7_parted_4 : decode cX7_parted 4 = .ok (.ifCond .eq 10, 3) := by decide +kernel
theorem dX7_parted_7 : decode cX7_parted 7 = .ok (.iload_n 2, 1) := by decide +kernel
theorem dX7_parted_8 : decode cX7_parted 8 = .ok (.invokestatic 84, 3) := by decide +kernel
theorem dX7_parted_11 : decode cX7_parted 11 = .ok (.ifCond .ne 6, 3) := by decide +kernel
theorem dX7_parted_14 : decode cX7_parted 14 = .ok (.bipush (-2), 2) := by decide +kernel
theorem dX7_parted_16 : decode cX7_parted 16 = .ok (.ireturn, 1) := by decide +kernel
theorem dX7_parted_17 : decode cX7_parted 17 = .ok (.iload_n 1, 1) := by decide +kernel
theorem dX7_parted_18 : decode cX7_parted 18 = .ok (.ifCond .ne 5, 3) := by decide +kernel
theorem dX7_parted_21 : decode cX7_parted 21 = .ok (.iconst 0, 1) := by decide +kernel
theorem dX7_parted_22 : decode cX7_parted 22 = .ok (.ireturn, 1) := by decide +kernel
theorem dX7_parted_23 : decode cX7_parted 23 = .ok (.aload_n 0, 1) := by decide +kernel
theorem dX7_parted_24 : decode cX7_parted 24 = .ok (.getfield 62, 3) := by decide +kernel
theorem dX7_parted_27 : decode cX7_parted 27 = .ok (.getfield 104, 3) := by decide +kernel
theorem dX7_parted_30 : decode cX7_parted 30 = .ok (.iconst 3, 1) := by decide +kernel
theorem dX7_parted_31 : decode cX7_parted 31 = .ok (.sipush 999, 3) := by decide +kernel
theorem dX7_parted_34 : decode cX7_parted 34 = .ok (.invokevirtual 213, 3) := by decide +kernel
theorem dX7_parted_37 : decode cX7_parted 37 = .ok (.iconst 1, 1) := by decide +kernel
theorem dX7_parted_38 : decode cX7_parted 38 = .ok (.isub, 1) := by decide +kernel
theorem dX7_parted_39 : decode cX7_parted 39 = .ok (.istore_n 3, 1) := by decide +kernel
theorem dX7_parted_40 : decode cX7_parted 40 = .ok (.iload_n 3, 1) := by decide +kernel
theorem dX7_parted_41 : decode cX7_parted 41 = .ok (.iconst 1, 1) := by decide +kernel
theorem dX7_parted_42 : decode cX7_parted 42 = .ok (.if_icmp .ge 6, 3) := by decide +kernel
theorem dX7_parted_45 : decode cX7_parted 45 = .ok (.bipush (-5), 2) := by decide +kernel
theorem dX7_parted_47 : decode cX7_parted 47 = .ok (.ireturn, 1) := by decide +kernel
theorem dX7_parted_48 : decode cX7_parted 48 = .ok (.iload_n 1, 1) := by decide +kernel
theorem dX7_parted_49 : decode cX7_parted 49 = .ok (.iload_n 3, 1) := by decide +kernel
theorem dX7_parted_50 : decode cX7_parted 50 = .ok (.iadd, 1) := by decide +kernel
theorem dX7_parted_51 : decode cX7_parted 51 = .ok (.iconst 1, 1) := by decide +kernel
theorem dX7_parted_52 : decode cX7_parted 52 = .ok (.isub, 1) := by decide +kernel
theorem dX7_parted_53 : decode cX7_parted 53 = .ok (.iload_n 3, 1) := by decide +kernel
theorem dX7_parted_54 : decode cX7_parted 54 = .ok (.idiv, 1) := by decide +kernel
theorem dX7_parted_55 : decode cX7_parted 55 = .ok (.istore 4, 2) := by decide +kernel
theorem dX7_parted_57 : decode cX7_parted 57 = .ok (.iload 4, 2) := by decide +kernel
theorem dX7_parted_59 : decode cX7_parted 59 = .ok (.aload_n 0, 1) := by decide +kernel
theorem dX7_parted_60 : decode cX7_parted 60 = .ok (.iload_n 2, 1) := by decide +kernel
theorem dX7_parted_61 : decode cX7_parted 61 = .ok (.invokevirtual 234, 3) := by decide +kernel
theorem dX7_parted_64 : decode cX7_parted 64 = .ok (.if_icmp .gt 8, 3) := by decide +kernel
theorem dX7_parted_67 : decode cX7_parted 67 = .ok (.iload 4, 2) := by decide +kernel
theorem dX7_parted_69 : decode cX7_parted 69 = .ok (.goto 5, 3) := by decide +kernel
theorem dX7_parted_72 : decode cX7_parted 72 = .ok (.bipush (-5), 2) := by decide +kernel
theorem dX7_parted_74 : decode cX7_parted 74 = .ok (.ireturn, 1) := by decide +kernel
theorem dX7_watch_0 : decode cX7_watch 0 = .ok (.iload_n 1, 1) := by decide +kernel
theorem dX7_watch_1 : decode cX7_watch 1 = .ok (.invokestatic 231, 3) := by decide +kernel
theorem dX7_watch_4 : decode cX7_watch 4 = .ok (.ifCond .eq 20, 3) := by decide +kernel
theorem dX7_watch_7 : decode cX7_watch 7 = .ok (.iload_n 2, 1) := by decide +kernel
theorem dX7_watch_8 : decode cX7_watch 8 = .ok (.invokestatic 84, 3) := by decide +kernel
theorem dX7_watch_11 : decode cX7_watch 11 = .ok (.ifCond .eq 13, 3) := by decide +kernel
theorem dX7_watch_14 : decode cX7_watch 14 = .ok (.iload_n 3, 1) := by decide +kernel
theorem dX7_watch_15 : decode cX7_watch 15 = .ok (.ifCond .lt 9, 3) := by decide +kernel
theorem dX7_watch_18 : decode cX7_watch 18 = .ok (.iload_n 3, 1) := by decide +kernel
theorem dX7_watch_19 : decode cX7_watch 19 = .ok (.bipush 8, 2) := by decide +kernel
theorem dX7_watch_21 : decode cX7_watch 21 = .ok (.if_icmp .le 6, 3) := by decide +kernel
theorem dX7_watch_24 : decode cX7_watch 24 = .ok (.bipush (-2), 2) := by decide +kernel
theorem dX7_watch_26 : decode cX7_watch 26 = .ok (.ireturn, 1) := by decide +kernel
theorem dX7_watch_27 : decode cX7_watch 27 = .ok (.iload_n 1, 1) := by decide +kernel
theorem dX7_watch_28 : decode cX7_watch 28 = .ok (.ifCond .ne 5, 3) := by decide +kernel
theorem dX7_watch_31 : decode cX7_watch 31 = .ok (.iconst 1, 1) := by decide +kernel
theorem dX7_watch_32 : decode cX7_watch 32 = .ok (.ireturn, 1) := by decide +kernel
theorem dX7_watch_33 : decode cX7_watch 33 = .ok (.iload_n 3, 1) := by decide +kernel
theorem dX7_watch_34 : decode cX7_watch 34 = .ok (.aload_n 0, 1) := by decide +kernel
theorem dX7_watch_35 : decode cX7_watch 35 = .ok (.iload_n 2, 1) := by decide +kernel
theorem dX7_watch_36 : decode cX7_watch 36 = .ok (.invokevirtual 234, 3) := by decide +kernel
theorem dX7_watch_39 : decode cX7_watch 39 = .ok (.invokestatic 237, 3) := by decide +kernel
theorem dX7_watch_42 : decode cX7_watch 42 = .ok (.istore 4, 2) := by decide +kernel
theorem dX7_watch_44 : decode cX7_watch 44 = .ok (.iload 4, 2) := by decide +kernel
theorem dX7_watch_46 : decode cX7_watch 46 = .ok (.iconst 1, 1) := by decide +kernel
theorem dX7_watch_47 : decode cX7_watch 47 = .ok (.if_icmp .ge 6, 3) := by decide +kernel
theorem dX7_watch_50 : decode cX7_watch 50 = .ok (.bipush (-5), 2) := by decide +kernel
theorem dX7_watch_52 : decode cX7_watch 52 = .ok (.ireturn, 1) := by decide +kernel
theorem dX7_watch_53 : decode cX7_watch 53 = .ok (.iload_n 1, 1) := by decide +kernel
theorem dX7_watch_54 : decode cX7_watch 54 = .ok (.iload 4, 2) := by decide +kernel
theorem dX7_watch_56 : decode cX7_watch 56 = .ok (.iadd, 1) := by decide +kernel
theorem dX7_watch_57 : decode cX7_watch 57 = .ok (.iconst 1, 1) := by decide +kernel
theorem dX7_watch_58 : decode cX7_watch 58 = .ok (.isub, 1) := by decide +kernel
theorem dX7_watch_59 : decode cX7_watch 59 = .ok (.iload 4, 2) := by decide +kernel
theorem dX7_watch_61 : decode cX7_watch 61 = .ok (.idiv, 1) := by decide +kernel
theorem dX7_watch_62 : decode cX7_watch 62 = .ok (.istore 5, 2) := by decide +kernel
theorem dX7_watch_64 : decode cX7_watch 64 = .ok (.iload 5, 2) := by decide +kernel
theorem dX7_watch_66 : decode cX7_watch 66 = .ok (.sipush 999, 3) := by decide +kernel
theorem dX7_watch_69 : decode cX7_watch 69 = .ok (.if_icmp .ge 10, 3) := by decide +kernel
theorem dX7_watch_72 : decode cX7_watch 72 = .ok (.iload 5, 2) := by decide +kernel
theorem dX7_watch_74 : decode cX7_watch 74 = .ok (.iconst 1, 1) := by decide +kernel
theorem dX7_watch_75 : decode cX7_watch 75 = .ok (.iadd, 1) := by decide +kernel
theorem dX7_watch_76 : decode cX7_watch 76 = .ok (.goto 5, 3) := by decide +kernel
theorem dX7_watch_79 : decode cX7_watch 79 = .ok (.bipush (-5), 2) := by decide +kernel
theorem dX7_watch_81 : decode cX7_watch 81 = .ok (.ireturn, 1) := by decide +kernel
theorem dX7_ask_0 : decode cX7_ask 0 = .ok (.aload_n 0, 1) := by decide +kernel
theorem dX7_ask_1 : decode cX7_ask 1 = .ok (.getfield 73, 3) := by decide +kernel
theorem dX7_ask_4 : decode cX7_ask 4 = .ok (.ifCond .ne 5, 3) := by decide +kernel
theorem dX7_ask_7 : decode cX7_ask 7 = .ok (.iconst (-1), 1) := by decide +kernel
theorem dX7_ask_8 : decode cX7_ask 8 = .ok (.ireturn, 1) := by decide +kernel
theorem dX7_ask_9 : decode cX7_ask 9 = .ok (.iload_n 1, 1) := by decide +kernel
theorem dX7_ask_10 : decode cX7_ask 10 = .ok (.invokestatic 84, 3) := by decide +kernel
theorem dX7_ask_13 : decode cX7_ask 13 = .ok (.ifCond .ne 6, 3) := by decide +kernel
theorem dX7_ask_16 : decode cX7_ask 16 = .ok (.bipush (-2), 2) := by decide +kernel
theorem dX7_ask_18 : decode cX7_ask 18 = .ok (.ireturn, 1) := by decide +kernel
theorem dX7_ask_19 : decode cX7_ask 19 = .ok (.aload_n 0, 1) := by decide +kernel
theorem dX7_ask_20 : decode cX7_ask 20 = .ok (.invokevirtual 118, 3) := by decide +kernel
theorem dX7_ask_23 : decode cX7_ask 23 = .ok (.aload_n 0, 1) := by decide +kernel
theorem dX7_ask_24 : decode cX7_ask 24 = .ok (.getfield 31, 3) := by decide +kernel
theorem dX7_ask_27 : decode cX7_ask 27 = .ok (.iload_n 1, 1) := by decide +kernel
theorem dX7_ask_28 : decode cX7_ask 28 = .ok (.invokevirtual 242, 3) := by decide +kernel
theorem dX7_ask_31 : decode cX7_ask 31 = .ok (.istore_n 2, 1) := by decide +kernel
theorem dX7_ask_32 : decode cX7_ask 32 = .ok (.iconst 0, 1) := by decide +kernel
theorem dX7_ask_33 : decode cX7_ask 33 = .ok (.istore_n 3, 1) := by decide +kernel
theorem dX7_ask_34 : decode cX7_ask 34 = .ok (.iconst (-1), 1) := by decide +kernel
theorem dX7_ask_35 : decode cX7_ask 35 = .ok (.istore 4, 2) := by decide +kernel
theorem dX7_ask_37 : decode cX7_ask 37 = .ok (.iconst 0, 1) := by decide +kernel
theorem dX7_ask_38 : decode cX7_ask 38 = .ok (.istore 5, 2) := by decide +kernel
theorem dX7_ask_40 : decode cX7_ask 40 = .ok (.iload 5, 2) := by decide +kernel
theorem dX7_ask_42 : decode cX7_ask 42 = .ok (.aload_n 0, 1) := by decide +kernel
theorem dX7_ask_43 : decode cX7_ask 43 = .ok (.getfield 73, 3) := by decide +kernel
theorem dX7_ask_46 : decode cX7_ask 46 = .ok (.if_icmp .ge 62, 3) := by decide +kernel
theorem dX7_ask_49 : decode cX7_ask 49 = .ok (.aload_n 0, 1) := by decide +kernel
theorem dX7_ask_50 : decode cX7_ask 50 = .ok (.getfield 31, 3) := by decide +kernel
theorem dX7_ask_53 : decode cX7_ask 53 = .ok (.iconst 1, 1) := by decide +kernel
theorem dX7_ask_54 : decode cX7_ask 54 = .ok (.iload 5, 2) := by decide +kernel
theorem dX7_ask_56 : decode cX7_ask 56 = .ok (.ishl, 1) := by decide +kernel
theorem dX7_ask_57 : decode cX7_ask 57 = .ok (.invokevirtual 143, 3) := by decide +kernel
theorem dX7_ask_60 : decode cX7_ask 60 = .ok (.iload_n 2, 1) := by decide +kernel
theorem dX7_ask_61 : decode cX7_ask 61 = .ok (.iconst 1, 1) := by decide +kernel
theorem dX7_ask_62 : decode cX7_ask 62 = .ok (.iload 5, 2) := by decide +kernel
theorem dX7_ask_64 : decode cX7_ask 64 = .ok (.ishl, 1) := by decide +kernel
theorem dX7_ask_65 : decode cX7_ask 65 = .ok (.iconst (-1), 1) := by decide +kernel
theorem dX7_ask_66 : decode cX7_ask 66 = .ok (.ixor, 1) := by decide +kernel
theorem dX7_ask_67 : decode cX7_ask 67 = .ok (.iand, 1) := by decide +kernel
theorem dX7_ask_68 : decode cX7_ask 68 = .ok (.istore 6, 2) := by decide +kernel
theorem dX7_ask_70 : decode cX7_ask 70 = .ok (.iload 6, 2) := by decide +kernel
theorem dX7_ask_72 : decode cX7_ask 72 = .ok (.aload_n 0, 1) := by decide +kernel
theorem dX7_ask_73 : decode cX7_ask 73 = .ok (.getfield 31, 3) := by decide +kernel
theorem dX7_ask_76 : decode cX7_ask 76 = .ok (.iload_n 1, 1) := by decide +kernel
theorem dX7_ask_77 : decode cX7_ask 77 = .ok (.invokevirtual 242, 3) := by decide +kernel
theorem dX7_ask_80 : decode cX7_ask 80 = .ok (.iconst (-1), 1) := by decide +kernel
theorem dX7_ask_81 : decode cX7_ask 81 = .ok (.ixor, 1) := by decide +kernel
theorem dX7_ask_82 : decode cX7_ask 82 = .ok (.iand, 1) := by decide +kernel
theorem dX7_ask_83 : decode cX7_ask 83 = .ok (.invokestatic 138, 3) := by decide +kernel
theorem dX7_ask_86 : decode cX7_ask 86 = .ok (.istore 7, 2) := by decide +kernel
theorem dX7_ask_88 : decode cX7_ask 88 = .ok (.iload 7, 2) := by decide +kernel
theorem dX7_ask_90 : decode cX7_ask 90 = .ok (.iload 4, 2) := by decide +kernel
theorem dX7_ask_92 : decode cX7_ask 92 = .ok (.if_icmp .le 10, 3) := by decide +kernel
theorem dX7_ask_95 : decode cX7_ask 95 = .ok (.iload 7, 2) := by decide +kernel
theorem dX7_ask_97 : decode cX7_ask 97 = .ok (.istore 4, 2) := by decide +kernel
theorem dX7_ask_99 : decode cX7_ask 99 = .ok (.iload 5, 2) := by decide +kernel
theorem dX7_ask_101 : decode cX7_ask 101 = .ok (.istore_n 3, 1) := by decide +kernel
theorem dX7_ask_102 : decode cX7_ask 102 = .ok (.iinc 5 1, 3) := by decide +kernel
theorem dX7_ask_105 : decode cX7_ask 105 = .ok (.goto (-65), 3) := by decide +kernel
theorem dX7_ask_108 : decode cX7_ask 108 = .ok (.iload_n 3, 1) := by decide +kernel
theorem dX7_ask_109 : decode cX7_ask 109 = .ok (.ireturn, 1) := by decide +kernel
theorem dX7_blank_0 : decode cX7_blank 0 = .ok (.iload_n 1, 1) := by decide +kernel
theorem dX7_blank_1 : decode cX7_blank 1 = .ok (.iconst (-1), 1) := by decide +kernel
theorem dX7_blank_2 : decode cX7_blank 2 = .ok (.if_icmp .ne 13, 3) := by decide +kernel
theorem dX7_blank_5 : decode cX7_blank 5 = .ok (.aload_n 0, 1) := by decide +kernel
theorem dX7_blank_6 : decode cX7_blank 6 = .ok (.getfield 62, 3) := by decide +kernel
theorem dX7_blank_9 : decode cX7_blank 9 = .ok (.iconst 0, 1) := by decide +kernel
theorem dX7_blank_10 : decode cX7_blank 10 = .ok (.putfield 245, 3) := by decide +kernel
theorem dX7_blank_13 : decode cX7_blank 13 = .ok (.iconst 0, 1) := by decide +kernel
theorem dX7_blank_14 : decode cX7_blank 14 = .ok (.ireturn, 1) := by decide +kernel
theorem dX7_blank_15 : decode cX7_blank 15 = .ok (.iload_n 1, 1) := by decide +kernel
theorem dX7_blank_16 : decode cX7_blank 16 = .ok (.invokestatic 69, 3) := by decide +kernel
theorem dX7_blank_19 : decode cX7_blank 19 = .ok (.ifCond .ne 6, 3) := by decide +kernel
theorem dX7_blank_22 : decode cX7_blank 22 = .ok (.bipush (-2), 2) := by decide +kernel
theorem dX7_blank_24 : decode cX7_blank 24 = .ok (.ireturn, 1) := by decide +kernel
theorem dX7_blank_25 : decode cX7_blank 25 = .ok (.aload_n 0, 1) := by decide +kernel
theorem dX7_blank_26 : decode cX7_blank 26 = .ok (.getfield 62, 3) := by decide +kernel
theorem dX7_blank_29 : decode cX7_blank 29 = .ok (.getfield 245, 3) := by decide +kernel
theorem dX7_blank_32 : decode cX7_blank 32 = .ok (.bipush 6, 2) := by decide +kernel
theorem dX7_blank_34 : decode cX7_blank 34 = .ok (.if_icmp .lt 6, 3) := by decide +kernel
theorem dX7_blank_37 : decode cX7_blank 37 = .ok (.bipush (-4), 2) := by decide +kernel
theorem dX7_blank_39 : decode cX7_blank 39 = .ok (.ireturn, 1) := by decide +kernel
theorem dX7_blank_40 : decode cX7_blank 40 = .ok (.aload_n 0, 1) := by decide +kernel
theorem dX7_blank_41 : decode cX7_blank 41 = .ok (.getfield 62, 3) := by decide +kernel
theorem dX7_blank_44 : decode cX7_blank 44 = .ok (.getfield 248, 3) := by decide +kernel
theorem dX7_blank_47 : decode cX7_blank 47 = .ok (.aload_n 0, 1) := by decide +kernel
theorem dX7_blank_48 : decode cX7_blank 48 = .ok (.getfield 62, 3) := by decide +kernel
theorem dX7_blank_51 : decode cX7_blank 51 = .ok (.getfield 245, 3) := by decide +kernel
theorem dX7_blank_54 : decode cX7_blank 54 = .ok (.iload_n 1, 1) := by decide +kernel
theorem dX7_blank_55 : decode cX7_blank 55 = .ok (.iastore, 1) := by decide +kernel
theorem dX7_blank_56 : decode cX7_blank 56 = .ok (.aload_n 0, 1) := by decide +kernel
theorem dX7_blank_57 : decode cX7_blank 57 = .ok (.getfield 62, 3) := by decide +kernel
theorem dX7_blank_60 : decode cX7_blank 60 = .ok (.dup, 1) := by decide +kernel
theorem dX7_blank_61 : decode cX7_blank 61 = .ok (.getfield 245, 3) := by decide +kernel
theorem dX7_blank_64 : decode cX7_blank 64 = .ok (.iconst 1, 1) := by decide +kernel
theorem dX7_blank_65 : decode cX7_blank 65 = .ok (.iadd, 1) := by decide +kernel
theorem dX7_blank_66 : decode cX7_blank 66 = .ok (.putfield 245, 3) := by decide +kernel
theorem dX7_blank_69 : decode cX7_blank 69 = .ok (.aload_n 0, 1) := by decide +kernel
theorem dX7_blank_70 : decode cX7_blank 70 = .ok (.getfield 62, 3) := by decide +kernel
theorem dX7_blank_73 : decode cX7_blank 73 = .ok (.getfield 245, 3) := by decide +kernel
theorem dX7_blank_76 : decode cX7_blank 76 = .ok (.ireturn, 1) := by decide +kernel
theorem dX7_fills_0 : decode cX7_fills 0 = .ok (.iload_n 1, 1) := by decide +kernel
theorem dX7_fills_1 : decode cX7_fills 1 = .ok (.iconst (-1), 1) := by decide +kernel
theorem dX7_fills_2 : decode cX7_fills 2 = .ok (.if_icmp .ne 8, 3) := by decide +kernel
theorem dX7_fills_5 : decode cX7_fills 5 = .ok (.aload_n 0, 1) := by decide +kernel
theorem dX7_fills_6 : decode cX7_fills 6 = .ok (.invokevirtual 251, 3) := by decide +kernel
theorem dX7_fills_9 : decode cX7_fills 9 = .ok (.ireturn, 1) := by decide +kernel
theorem dX7_fills_10 : decode cX7_fills 10 = .ok (.aload_n 0, 1) := by decide +kernel
theorem dX7_fills_11 : decode cX7_fills 11 = .ok (.iload_n 1, 1) := by decide +kernel
theorem dX7_fills_12 : decode cX7_fills 12 = .ok (.invokevirtual 254, 3) := by decide +kernel
theorem dX7_fills_15 : decode cX7_fills 15 = .ok (.ifCond .eq 19, 3) := by decide +kernel
theorem dX7_fills_18 : decode cX7_fills 18 = .ok (.aload_n 0, 1) := by decide +kernel
theorem dX7_fills_19 : decode cX7_fills 19 = .ok (.aload_n 0, 1) := by decide +kernel
theorem dX7_fills_20 : decode cX7_fills 20 = .ok (.getfield 62, 3) := by decide +kernel
theorem dX7_fills_23 : decode cX7_fills 23 = .ok (.getfield 248, 3) := by decide +kernel
theorem dX7_fills_26 : decode cX7_fills 26 = .ok (.iload_n 1, 1) := by decide +kernel
theorem dX7_fills_27 : decode cX7_fills 27 = .ok (.iaload, 1) := by decide +kernel
theorem dX7_fills_28 : decode cX7_fills 28 = .ok (.invokevirtual 257, 3) := by decide +kernel
theorem dX7_fills_31 : decode cX7_fills 31 = .ok (.goto 4, 3) := by decide +kernel
theorem dX7_fills_34 : decode cX7_fills 34 = .ok (.iconst (-1), 1) := by decide +kernel
theorem dX7_fills_35 : decode cX7_fills 35 = .ok (.ireturn, 1) := by decide +kernel
theorem dX7_filled_0 : decode cX7_filled 0 = .ok (.aload_n 0, 1) := by decide +kernel
theorem dX7_filled_1 : decode cX7_filled 1 = .ok (.iload_n 1, 1) := by decide +kernel
theorem dX7_filled_2 : decode cX7_filled 2 = .ok (.invokevirtual 254, 3) := by decide +kernel
theorem dX7_filled_5 : decode cX7_filled 5 = .ok (.ifCond .ne 5, 3) := by decide +kernel
theorem dX7_filled_8 : decode cX7_filled 8 = .ok (.iconst (-1), 1) := by decide +kernel
theorem dX7_filled_9 : decode cX7_filled 9 = .ok (.ireturn, 1) := by decide +kernel
theorem dX7_filled_10 : decode cX7_filled 10 = .ok (.aload_n 0, 1) := by decide +kernel
theorem dX7_filled_11 : decode cX7_filled 11 = .ok (.aload_n 0, 1) := by decide +kernel
theorem dX7_filled_12 : decode cX7_filled 12 = .ok (.getfield 62, 3) := by decide +kernel
theorem dX7_filled_15 : decode cX7_filled 15 = .ok (.getfield 248, 3) := by decide +kernel
theorem dX7_filled_18 : decode cX7_filled 18 = .ok (.iload_n 1, 1) := by decide +kernel
theorem dX7_filled_19 : decode cX7_filled 19 = .ok (.iaload, 1) := by decide +kernel
theorem dX7_filled_20 : decode cX7_filled 20 = .ok (.invokevirtual 257, 3) := by decide +kernel
theorem dX7_filled_23 : decode cX7_filled 23 = .ok (.istore_n 2, 1) := by decide +kernel
theorem dX7_filled_24 : decode cX7_filled 24 = .ok (.iload_n 2, 1) := by decide +kernel
theorem dX7_filled_25 : decode cX7_filled 25 = .ok (.invokestatic 138, 3) := by decide +kernel
theorem dX7_filled_28 : decode cX7_filled 28 = .ok (.iconst 1, 1) := by decide +kernel
theorem dX7_filled_29 : decode cX7_filled 29 = .ok (.if_icmp .ne 10, 3) := by decide +kernel
theorem dX7_filled_32 : decode cX7_filled 32 = .ok (.aload_n 0, 1) := by decide +kernel
theorem dX7_filled_33 : decode cX7_filled 33 = .ok (.invokevirtual 251, 3) := by decide +kernel
theorem dX7_filled_36 : decode cX7_filled 36 = .ok (.ifCond .ne 6, 3) := by decide +kernel
theorem dX7_filled_39 : decode cX7_filled 39 = .ok (.bipush (-5), 2) := by decide +kernel
theorem dX7_filled_41 : decode cX7_filled 41 = .ok (.ireturn, 1) := by decide +kernel
theorem dX7_filled_42 : decode cX7_filled 42 = .ok (.aload_n 0, 1) := by decide +kernel
theorem dX7_filled_43 : decode cX7_filled 43 = .ok (.iload_n 2, 1) := by decide +kernel
theorem dX7_filled_44 : decode cX7_filled 44 = .ok (.invokevirtual 260, 3) := by decide +kernel
theorem dX7_filled_47 : decode cX7_filled 47 = .ok (.ireturn, 1) := by decide +kernel
theorem dX7_knowers_0 : decode cX7_knowers 0 = .ok (.aload_n 0, 1) := by decide +kernel
theorem dX7_knowers_1 : decode cX7_knowers 1 = .ok (.invokevirtual 118, 3) := by decide +kernel
theorem dX7_knowers_4 : decode cX7_knowers 4 = .ok (.aload_n 0, 1) := by decide +kernel
theorem dX7_knowers_5 : decode cX7_knowers 5 = .ok (.getfield 31, 3) := by decide +kernel
theorem dX7_knowers_8 : decode cX7_knowers 8 = .ok (.iload_n 1, 1) := by decide +kernel
theorem dX7_knowers_9 : decode cX7_knowers 9 = .ok (.invokevirtual 242, 3) := by decide +kernel
theorem dX7_knowers_12 : decode cX7_knowers 12 = .ok (.invokestatic 138, 3) := by decide +kernel
theorem dX7_knowers_15 : decode cX7_knowers 15 = .ok (.ireturn, 1) := by decide +kernel
theorem dX7_namesOfLetters_0 : decode cX7_namesOfLetters 0 = .ok (.iconst 0, 1) := by decide +kernel
theorem dX7_namesOfLetters_1 : decode cX7_namesOfLetters 1 = .ok (.istore_n 2, 1) := by decide +kernel
theorem dX7_namesOfLetters_2 : decode cX7_namesOfLetters 2 = .ok (.iconst 0, 1) := by decide +kernel
theorem dX7_namesOfLetters_3 : decode cX7_namesOfLetters 3 = .ok (.istore_n 3, 1) := by decide +kernel
theorem dX7_namesOfLetters_4 : decode cX7_namesOfLetters 4 = .ok (.iload_n 3, 1) := by decide +kernel
theorem dX7_namesOfLetters_5 : decode cX7_namesOfLetters 5 = .ok (.aload_n 0, 1) := by decide +kernel
theorem dX7_namesOfLetters_6 : decode cX7_namesOfLetters 6 = .ok (.getfield 73, 3) := by decide +kernel
theorem dX7_namesOfLetters_9 : decode cX7_namesOfLetters 9 = .ok (.if_icmp .ge 25, 3) := by decide +kernel
theorem dX7_namesOfLetters_12 : decode cX7_namesOfLetters 12 = .ok (.aload_n 0, 1) := by decide +kernel
theorem dX7_namesOfLetters_13 : decode cX7_namesOfLetters 13 = .ok (.getfield 11, 3) := by decide +kernel
theorem dX7_namesOfLetters_16 : decode cX7_namesOfLetters 16 = .ok (.iload_n 3, 1) := by decide +kernel
theorem dX7_namesOfLetters_17 : decode cX7_namesOfLetters 17 = .ok (.iaload, 1) := by decide +kernel
theorem dX7_namesOfLetters_18 : decode cX7_namesOfLetters 18 = .ok (.iload_n 1, 1) := by decide +kernel
theorem dX7_namesOfLetters_19 : decode cX7_namesOfLetters 19 = .ok (.if_icmp .ne 9, 3) := by decide +kernel
theorem dX7_namesOfLetters_22 : decode cX7_namesOfLetters 22 = .ok (.iload_n 2, 1) := by decide +kernel
theorem dX7_namesOfLetters_23 : decode cX7_namesOfLetters 23 = .ok (.iconst 1, 1) := by decide +kernel
theorem dX7_namesOfLetters_24 : decode cX7_namesOfLetters 24 = .ok (.iload_n 3, 1) := by decide +kernel
theorem dX7_namesOfLetters_25 : decode cX7_namesOfLetters 25 = .ok (.ishl, 1) := by decide +kernel
theorem dX7_namesOfLetters_26 : decode cX7_namesOfLetters 26 = .ok (.ior, 1) := by decide +kernel
theorem dX7_namesOfLetters_27 : decode cX7_namesOfLetters 27 = .ok (.istore_n 2, 1) := by decide +kernel
theorem dX7_namesOfLetters_28 : decode cX7_namesOfLetters 28 = .ok (.iinc 3 1, 3) := by decide +kernel
theorem dX7_namesOfLetters_31 : decode cX7_namesOfLetters 31 = .ok (.goto (-27), 3) := by decide +kernel
theorem dX7_namesOfLetters_34 : decode cX7_namesOfLetters 34 = .ok (.iload_n 2, 1) := by decide +kernel
theorem dX7_namesOfLetters_35 : decode cX7_namesOfLetters 35 = .ok (.ireturn, 1) := by decide +kernel
theorem dX7_leastOf_0 : decode cX7_leastOf 0 = .ok (.iconst 0, 1) := by decide +kernel
theorem dX7_leastOf_1 : decode cX7_leastOf 1 = .ok (.istore_n 2, 1) := by decide +kernel
theorem dX7_leastOf_2 : decode cX7_leastOf 2 = .ok (.iload_n 2, 1) := by decide +kernel
theorem dX7_leastOf_3 : decode cX7_leastOf 3 = .ok (.aload_n 0, 1) := by decide +kernel
theorem dX7_leastOf_4 : decode cX7_leastOf 4 = .ok (.getfield 73, 3) := by decide +kernel
theorem dX7_leastOf_7 : decode cX7_leastOf 7 = .ok (.if_icmp .ge 19, 3) := by decide +kernel
theorem dX7_leastOf_10 : decode cX7_leastOf 10 = .ok (.iload_n 1, 1) := by decide +kernel
theorem dX7_leastOf_11 : decode cX7_leastOf 11 = .ok (.iload_n 2, 1) := by decide +kernel
theorem dX7_leastOf_12 : decode cX7_leastOf 12 = .ok (.ishr, 1) := by decide +kernel
theorem dX7_leastOf_13 : decode cX7_leastOf 13 = .ok (.iconst 1, 1) := by decide +kernel
theorem dX7_leastOf_14 : decode cX7_leastOf 14 = .ok (.iand, 1) := by decide +kernel
theorem dX7_leastOf_15 : decode cX7_leastOf 15 = .ok (.ifCond .eq 5, 3) := by decide +kernel
theorem dX7_leastOf_18 : decode cX7_leastOf 18 = .ok (.iload_n 2, 1) := by decide +kernel
theorem dX7_leastOf_19 : decode cX7_leastOf 19 = .ok (.ireturn, 1) := by decide +kernel
theorem dX7_leastOf_20 : decode cX7_leastOf 20 = .ok (.iinc 2 1, 3) := by decide +kernel
theorem dX7_leastOf_23 : decode cX7_leastOf 23 = .ok (.goto (-21), 3) := by decide +kernel
theorem dX7_leastOf_26 : decode cX7_leastOf 26 = .ok (.iconst (-1), 1) := by decide +kernel
theorem dX7_leastOf_27 : decode cX7_leastOf 27 = .ok (.ireturn, 1) := by decide +kernel
theorem dX7_waysToFill_0 : decode cX7_waysToFill 0 = .ok (.iconst 1, 1) := by decide +kernel
theorem dX7_waysToFill_1 : decode cX7_waysToFill 1 = .ok (.istore_n 1, 1) := by decide +kernel
theorem dX7_waysToFill_2 : decode cX7_waysToFill 2 = .ok (.iconst 0, 1) := by decide +kernel
theorem dX7_waysToFill_3 : decode cX7_waysToFill 3 = .ok (.istore_n 2, 1) := by decide +kernel
theorem dX7_waysToFill_4 : decode cX7_waysToFill 4 = .ok (.iload_n 2, 1) := by decide +kernel
theorem dX7_waysToFill_5 : decode cX7_waysToFill 5 = .ok (.aload_n 0, 1) := by decide +kernel
theorem dX7_waysToFill_6 : decode cX7_waysToFill 6 = .ok (.getfield 62, 3) := by decide +kernel
theorem dX7_waysToFill_9 : decode cX7_waysToFill 9 = .ok (.getfield 245, 3) := by decide +kernel
theorem dX7_waysToFill_12 : decode cX7_waysToFill 12 = .ok (.if_icmp .ge 74, 3) := by decide +kernel
theorem dX7_waysToFill_15 : decode cX7_waysToFill 15 = .ok (.aload_n 0, 1) := by decide +kernel
theorem dX7_waysToFill_16 : decode cX7_waysToFill 16 = .ok (.aload_n 0, 1) := by decide +kernel
theorem dX7_waysToFill_17 : decode cX7_waysToFill 17 = .ok (.getfield 62, 3) := by decide +kernel
theorem dX7_waysToFill_20 : decode cX7_waysToFill 20 = .ok (.getfield 248, 3) := by decide +kernel
theorem dX7_waysToFill_23 : decode cX7_waysToFill 23 = .ok (.iload_n 2, 1) := by decide +kernel
theorem dX7_waysToFill_24 : decode cX7_waysToFill 24 = .ok (.iaload, 1) := by decide +kernel
theorem dX7_waysToFill_25 : decode cX7_waysToFill 25 = .ok (.invokevirtual 257, 3) := by decide +kernel
theorem dX7_waysToFill_28 : decode cX7_waysToFill 28 = .ok (.invokestatic 138, 3) := by decide +kernel
theorem dX7_waysToFill_31 : decode cX7_waysToFill 31 = .ok (.istore_n 3, 1) := by decide +kernel
theorem dX7_waysToFill_32 : decode cX7_waysToFill 32 = .ok (.iconst 0, 1) := by decide +kernel
theorem dX7_waysToFill_33 : decode cX7_waysToFill 33 = .ok (.istore 4, 2) := by decide +kernel
theorem dX7_waysToFill_35 : decode cX7_waysToFill 35 = .ok (.iload 4, 2) := by decide +kernel
theorem dX7_waysToFill_37 : decode cX7_waysToFill 37 = .ok (.iload_n 2, 1) := by decide +kernel
theorem dX7_waysToFill_38 : decode cX7_waysToFill 38 = .ok (.if_icmp .ge 34, 3) := by decide +kernel
theorem dX7_waysToFill_41 : decode cX7_waysToFill 41 = .ok (.aload_n 0, 1) := by decide +kernel
theorem dX7_waysToFill_42 : decode cX7_waysToFill 42 = .ok (.getfield 62, 3) := by decide +kernel
theorem dX7_waysToFill_45 : decode cX7_waysToFill 45 = .ok (.getfield 248, 3) := by decide +kernel
theorem dX7_waysToFill_48 : decode cX7_waysToFill 48 = .ok (.iload 4, 2) := by decide +kernel
theorem dX7_waysToFill_50 : decode cX7_waysToFill 50 = .ok (.iaload, 1) := by decide +kernel
theorem dX7_waysToFill_51 : decode cX7_waysToFill 51 = .ok (.aload_n 0, 1) := by decide +kernel
theorem dX7_waysToFill_52 : decode cX7_waysToFill 52 = .ok (.getfield 62, 3) := by decide +kernel
theorem dX7_waysToFill_55 : decode cX7_waysToFill 55 = .ok (.getfield 248, 3) := by decide +kernel
theorem dX7_waysToFill_58 : decode cX7_waysToFill 58 = .ok (.iload_n 2, 1) := by decide +kernel
theorem dX7_waysToFill_59 : decode cX7_waysToFill 59 = .ok (.iaload, 1) := by decide +kernel
theorem dX7_waysToFill_60 : decode cX7_waysToFill 60 = .ok (.if_icmp .ne 6, 3) := by decide +kernel
theorem dX7_waysToFill_63 : decode cX7_waysToFill 63 = .ok (.iinc 3 (-1), 3) := by decide +kernel
theorem dX7_waysToFill_66 : decode cX7_waysToFill 66 = .ok (.iinc 4 1, 3) := by decide +kernel
theorem dX7_waysToFill_69 : decode cX7_waysToFill 69 = .ok (.goto (-34), 3) := by decide +kernel
theorem dX7_waysToFill_72 : decode cX7_waysToFill 72 = .ok (.iload_n 1, 1) := by decide +kernel
theorem dX7_waysToFill_73 : decode cX7_waysToFill 73 = .ok (.iload_n 3, 1) := by decide +kernel
theorem dX7_waysToFill_74 : decode cX7_waysToFill 74 = .ok (.iconst 0, 1) := by decide +kernel
theorem dX7_waysToFill_75 : decode cX7_waysToFill 75 = .ok (.invokestatic 263, 3) := by decide +kernel
theorem dX7_waysToFill_78 : decode cX7_waysToFill 78 = .ok (.imul, 1) := by decide +kernel
theorem dX7_waysToFill_79 : decode cX7_waysToFill 79 = .ok (.istore_n 1, 1) := by decide +kernel
theorem dX7_waysToFill_80 : decode cX7_waysToFill 80 = .ok (.iinc 2 1, 3) := by decide +kernel
theorem dX7_waysToFill_83 : decode cX7_waysToFill 83 = .ok (.goto (-79), 3) := by decide +kernel
theorem dX7_waysToFill_86 : decode cX7_waysToFill 86 = .ok (.iload_n 1, 1) := by decide +kernel
theorem dX7_waysToFill_87 : decode cX7_waysToFill 87 = .ok (.ireturn, 1) := by decide +kernel
theorem dX7_judge_0 : decode cX7_judge 0 = .ok (.aload_n 0, 1) := by decide +kernel
theorem dX7_judge_1 : decode cX7_judge 1 = .ok (.iload_n 1, 1) := by decide +kernel
theorem dX7_judge_2 : decode cX7_judge 2 = .ok (.invokevirtual 266, 3) := by decide +kernel
theorem dX7_judge_5 : decode cX7_judge 5 = .ok (.astore 4, 2) := by decide +kernel
theorem dX7_judge_7 : decode cX7_judge 7 = .ok (.aload 4, 2) := by decide +kernel
theorem dX7_judge_9 : decode cX7_judge 9 = .ok (.ifnull 11, 3) := by decide +kernel
theorem dX7_judge_12 : decode cX7_judge 12 = .ok (.aload_n 0, 1) := by decide +kernel
theorem dX7_judge_13 : decode cX7_judge 13 = .ok (.iload_n 3, 1) := by decide +kernel
theorem dX7_judge_14 : decode cX7_judge 14 = .ok (.invokevirtual 77, 3) := by decide +kernel
theorem dX7_judge_17 : decode cX7_judge 17 = .ok (.ifCond .ne 5, 3) := by decide +kernel
theorem dX7_judge_20 : decode cX7_judge 20 = .ok (.iconst (-1), 1) := by decide +kernel
theorem dX7_judge_21 : decode cX7_judge 21 = .ok (.ireturn, 1) := by decide +kernel
theorem dX7_judge_22 : decode cX7_judge 22 = .ok (.aload 4, 2) := by decide +kernel
theorem dX7_judge_24 : decode cX7_judge 24 = .ok (.getfield 270, 3) := by decide +kernel
theorem dX7_judge_27 : decode cX7_judge 27 = .ok (.iconst (-1), 1) := by decide +kernel
theorem dX7_judge_28 : decode cX7_judge 28 = .ok (.if_icmp .eq 14, 3) := by decide +kernel
theorem dX7_judge_31 : decode cX7_judge 31 = .ok (.aload 4, 2) := by decide +kernel
theorem dX7_judge_33 : decode cX7_judge 33 = .ok (.getfield 270, 3) := by decide +kernel
theorem dX7_judge_36 : decode cX7_judge 36 = .ok (.ifCond .eq 6, 3) := by decide +kernel
theorem dX7_judge_39 : decode cX7_judge 39 = .ok (.bipush (-12), 2) := by decide +kernel
theorem dX7_judge_41 : decode cX7_judge 41 = .ok (.ireturn, 1) := by decide +kernel
theorem dX7_judge_42 : decode cX7_judge 42 = .ok (.aload 4, 2) := by decide +kernel
theorem dX7_judge_44 : decode cX7_judge 44 = .ok (.iload_n 2, 1) := by decide +kernel
theorem dX7_judge_45 : decode cX7_judge 45 = .ok (.invokevirtual 273, 3) := by decide +kernel
theorem dX7_judge_48 : decode cX7_judge 48 = .ok (.ifCond .ne 7, 3) := by decide +kernel
theorem dX7_judge_51 : decode cX7_judge 51 = .ok (.sipush 1000, 3) := by decide +kernel
theorem dX7_judge_54 : decode cX7_judge 54 = .ok (.ireturn, 1) := by decide +kernel
theorem dX7_judge_55 : decode cX7_judge 55 = .ok (.aload_n 0, 1) := by decide +kernel
theorem dX7_judge_56 : decode cX7_judge 56 = .ok (.aload 4, 2) := by decide +kernel
theorem dX7_judge_58 : decode cX7_judge 58 = .ok (.iload_n 2, 1) := by decide +kernel
theorem dX7_judge_59 : decode cX7_judge 59 = .ok (.iload_n 3, 1) := by decide +kernel
theorem dX7_judge_60 : decode cX7_judge 60 = .ok (.invokevirtual 276, 3) := by decide +kernel
theorem dX7_judge_63 : decode cX7_judge 63 = .ok (.ireturn, 1) := by decide +kernel
theorem dX7_image_0 : decode cX7_image 0 = .ok (.aload_n 0, 1) := by decide +kernel
theorem dX7_image_1 : decode cX7_image 1 = .ok (.getfield 66, 3) := by decide +kernel
theorem dX7_image_4 : decode cX7_image 4 = .ok (.aload_n 0, 1) := by decide +kernel
theorem dX7_image_5 : decode cX7_image 5 = .ok (.getfield 62, 3) := by decide +kernel
theorem dX7_image_8 : decode cX7_image 8 = .ok (.invokevirtual 280, 3) := by decide +kernel
theorem dX7_image_11 : decode cX7_image 11 = .ok (.aload_n 0, 1) := by decide +kernel
theorem dX7_image_12 : decode cX7_image 12 = .ok (.iconst 1, 1) := by decide +kernel
theorem dX7_image_13 : decode cX7_image 13 = .ok (.putfield 284, 3) := by decide +kernel
theorem dX7_image_16 : decode cX7_image 16 = .ok (.aload_n 0, 1) := by decide +kernel
theorem dX7_image_17 : decode cX7_image 17 = .ok (.getfield 62, 3) := by decide +kernel
theorem dX7_image_20 : decode cX7_image 20 = .ok (.getfield 153, 3) := by decide +kernel
theorem dX7_image_23 : decode cX7_image 23 = .ok (.ireturn, 1) := by decide +kernel
theorem dX7_undo_0 : decode cX7_undo 0 = .ok (.aload_n 0, 1) := by decide +kernel
theorem dX7_undo_1 : decode cX7_undo 1 = .ok (.getfield 284, 3) := by decide +kernel
theorem dX7_undo_4 : decode cX7_undo 4 = .ok (.ifCond .ne 6, 3) := by decide +kernel
theorem dX7_undo_7 : decode cX7_undo 7 = .ok (.bipush (-3), 2) := by decide +kernel
theorem dX7_undo_9 : decode cX7_undo 9 = .ok (.ireturn, 1) := by decide +kernel
theorem dX7_undo_10 : decode cX7_undo 10 = .ok (.aload_n 0, 1) := by decide +kernel
theorem dX7_undo_11 : decode cX7_undo 11 = .ok (.getfield 62, 3) := by decide +kernel
theorem dX7_undo_14 : decode cX7_undo 14 = .ok (.aload_n 0, 1) := by decide +kernel
theorem dX7_undo_15 : decode cX7_undo 15 = .ok (.getfield 66, 3) := by decide +kernel
theorem dX7_undo_18 : decode cX7_undo 18 = .ok (.invokevirtual 280, 3) := by decide +kernel
theorem dX7_undo_21 : decode cX7_undo 21 = .ok (.aload_n 0, 1) := by decide +kernel
theorem dX7_undo_22 : decode cX7_undo 22 = .ok (.getfield 62, 3) := by decide +kernel
theorem dX7_undo_25 : decode cX7_undo 25 = .ok (.getfield 153, 3) := by decide +kernel
theorem dX7_undo_28 : decode cX7_undo 28 = .ok (.ireturn, 1) := by decide +kernel
theorem dX7_act_0 : decode cX7_act 0 = .ok (.aload_n 0, 1) := by decide +kernel
theorem dX7_act_1 : decode cX7_act 1 = .ok (.getfield 45, 3) := by decide +kernel
theorem dX7_act_4 : decode cX7_act 4 = .ok (.invokevirtual 288, 3) := by decide +kernel
theorem dX7_act_7 : decode cX7_act 7 = .ok (.aload_n 0, 1) := by decide +kernel
theorem dX7_act_8 : decode cX7_act 8 = .ok (.iload_n 1, 1) := by decide +kernel
theorem dX7_act_9 : decode cX7_act 9 = .ok (.invokevirtual 160, 3) := by decide +kernel
theorem dX7_act_12 : decode cX7_act 12 = .ok (.ifCond .eq 12, 3) := by decide +kernel
theorem dX7_act_15 : decode cX7_act 15 = .ok (.iload_n 2, 1) := by decide +kernel
theorem dX7_act_16 : decode cX7_act 16 = .ok (.ifCond .lt 8, 3) := by decide +kernel
theorem dX7_act_19 : decode cX7_act 19 = .ok (.iload_n 2, 1) := by decide +kernel
theorem dX7_act_20 : decode cX7_act 20 = .ok (.iconst 3, 1) := by decide +kernel
theorem dX7_act_21 : decode cX7_act 21 = .ok (.if_icmp .lt 5, 3) := by decide +kernel
theorem dX7_act_24 : decode cX7_act 24 = .ok (.iconst 0, 1) := by decide +kernel
theorem dX7_act_25 : decode cX7_act 25 = .ok (.ireturn, 1) := by decide +kernel
theorem dX7_act_26 : decode cX7_act 26 = .ok (.aload_n 0, 1) := by decide +kernel
theorem dX7_act_27 : decode cX7_act 27 = .ok (.getfield 45, 3) := by decide +kernel
theorem dX7_act_30 : decode cX7_act 30 = .ok (.iload_n 1, 1) := by decide +kernel
theorem dX7_act_31 : decode cX7_act 31 = .ok (.aload_n 0, 1) := by decide +kernel
theorem dX7_act_32 : decode cX7_act 32 = .ok (.getfield 62, 3) := by decide +kernel
theorem dX7_act_35 : decode cX7_act 35 = .ok (.getfield 163, 3) := by decide +kernel
theorem dX7_act_38 : decode cX7_act 38 = .ok (.iload_n 1, 1) := by decide +kernel
theorem dX7_act_39 : decode cX7_act 39 = .ok (.iaload, 1) := by decide +kernel
theorem dX7_act_40 : decode cX7_act 40 = .ok (.aload_n 0, 1) := by decide +kernel
theorem dX7_act_41 : decode cX7_act 41 = .ok (.getfield 62, 3) := by decide +kernel
theorem dX7_act_44 : decode cX7_act 44 = .ok (.getfield 175, 3) := by decide +kernel
theorem dX7_act_47 : decode cX7_act 47 = .ok (.iload_n 1, 1) := by decide +kernel
theorem dX7_act_48 : decode cX7_act 48 = .ok (.iaload, 1) := by decide +kernel
theorem dX7_act_49 : decode cX7_act 49 = .ok (.invokevirtual 291, 3) := by decide +kernel
theorem dX7_act_52 : decode cX7_act 52 = .ok (.aload_n 0, 1) := by decide +kernel
theorem dX7_act_53 : decode cX7_act 53 = .ok (.getfield 45, 3) := by decide +kernel
theorem dX7_act_56 : decode cX7_act 56 = .ok (.iload_n 2, 1) := by decide +kernel
theorem dX7_act_57 : decode cX7_act 57 = .ok (.iload_n 3, 1) := by decide +kernel
theorem dX7_act_58 : decode cX7_act 58 = .ok (.invokevirtual 295, 3) := by decide +kernel
theorem dX7_act_61 : decode cX7_act 61 = .ok (.ireturn, 1) := by decide +kernel
theorem dX7_trace_0 : decode cX7_trace 0 = .ok (.iload_n 1, 1) := by decide +kernel
theorem dX7_trace_1 : decode cX7_trace 1 = .ok (.ifCond .lt 31, 3) := by decide +kernel
theorem dX7_trace_4 : decode cX7_trace 4 = .ok (.iload_n 1, 1) := by decide +kernel
theorem dX7_trace_5 : decode cX7_trace 5 = .ok (.aload_n 0, 1) := by decide +kernel
theorem dX7_trace_6 : decode cX7_trace 6 = .ok (.getfield 45, 3) := by decide +kernel
theorem dX7_trace_9 : decode cX7_trace 9 = .ok (.getfield 298, 3) := by decide +kernel
theorem dX7_trace_12 : decode cX7_trace 12 = .ok (.bipush 20, 2) := by decide +kernel
theorem dX7_trace_14 : decode cX7_trace 14 = .ok (.invokestatic 237, 3) := by decide +kernel
theorem dX7_trace_17 : decode cX7_trace 17 = .ok (.if_icmp .ge 15, 3) := by decide +kernel
theorem dX7_trace_20 : decode cX7_trace 20 = .ok (.aload_n 0, 1) := by decide +kernel
theorem dX7_trace_21 : decode cX7_trace 21 = .ok (.getfield 45, 3) := by decide +kernel
theorem dX7_trace_24 : decode cX7_trace 24 = .ok (.getfield 301, 3) := by decide +kernel
theorem dX7_trace_27 : decode cX7_trace 27 = .ok (.iload_n 1, 1) := by decide +kernel
theorem dX7_trace_28 : decode cX7_trace 28 = .ok (.iaload, 1) := by decide +kernel
theorem dX7_trace_29 : decode cX7_trace 29 = .ok (.goto 4, 3) := by decide +kernel
theorem dX7_trace_32 : decode cX7_trace 32 = .ok (.iconst (-1), 1) := by decide +kernel
theorem dX7_trace_33 : decode cX7_trace 33 = .ok (.ireturn, 1) := by decide +kernel
theorem dX7_taken_0 : decode cX7_taken 0 = .ok (.iload_n 2, 1) := by decide +kernel
theorem dX7_taken_1 : decode cX7_taken 1 = .ok (.invokestatic 150, 3) := by decide +kernel
theorem dX7_taken_4 : decode cX7_taken 4 = .ok (.ifCond .ne 6, 3) := by decide +kernel
theorem dX7_taken_7 : decode cX7_taken 7 = .ok (.bipush (-2), 2) := by decide +kernel
theorem dX7_taken_9 : decode cX7_taken 9 = .ok (.ireturn, 1) := by decide +kernel
theorem dX7_taken_10 : decode cX7_taken 10 = .ok (.aload_n 0, 1) := by decide +kernel
theorem dX7_taken_11 : decode cX7_taken 11 = .ok (.iload_n 1, 1) := by decide +kernel
theorem dX7_taken_12 : decode cX7_taken 12 = .ok (.invokevirtual 160, 3) := by decide +kernel
theorem dX7_taken_15 : decode cX7_taken 15 = .ok (.ifCond .ne 6, 3) := by decide +kernel
theorem dX7_taken_18 : decode cX7_taken 18 = .ok (.bipush (-11), 2) := by decide +kernel
theorem dX7_taken_20 : decode cX7_taken 20 = .ok (.ireturn, 1) := by decide +kernel
theorem dX7_taken_21 : decode cX7_taken 21 = .ok (.aload_n 0, 1) := by decide +kernel
theorem dX7_taken_22 : decode cX7_taken 22 = .ok (.getfield 62, 3) := by decide +kernel
theorem dX7_taken_25 : decode cX7_taken 25 = .ok (.getfield 163, 3) := by decide +kernel
theorem dX7_taken_28 : decode cX7_taken 28 = .ok (.iload_n 1, 1) := by decide +kernel
theorem dX7_taken_29 : decode cX7_taken 29 = .ok (.iaload, 1) := by decide +kernel
theorem dX7_taken_30 : decode cX7_taken 30 = .ok (.istore_n 3, 1) := by decide +kernel
theorem dX7_taken_31 : decode cX7_taken 31 = .ok (.iload_n 3, 1) := by decide +kernel
theorem dX7_taken_32 : decode cX7_taken 32 = .ok (.istore 4, 2) := by decide +kernel
theorem dX7_taken_34 : decode cX7_taken 34 = .ok (.iconst 0, 1) := by decide +kernel
theorem dX7_taken_35 : decode cX7_taken 35 = .ok (.istore 5, 2) := by decide +kernel
theorem dX7_taken_37 : decode cX7_taken 37 = .ok (.iload 5, 2) := by decide +kernel
theorem dX7_taken_39 : decode cX7_taken 39 = .ok (.bipush 7, 2) := by decide +kernel
theorem dX7_taken_41 : decode cX7_taken 41 = .ok (.if_icmp .ge 30, 3) := by decide +kernel
theorem dX7_taken_44 : decode cX7_taken 44 = .ok (.iload 4, 2) := by decide +kernel
theorem dX7_taken_46 : decode cX7_taken 46 = .ok (.ifCond .lt 25, 3) := by decide +kernel
theorem dX7_taken_49 : decode cX7_taken 49 = .ok (.iload 4, 2) := by decide +kernel
theorem dX7_taken_51 : decode cX7_taken 51 = .ok (.iload_n 2, 1) := by decide +kernel
theorem dX7_taken_52 : decode cX7_taken 52 = .ok (.if_icmp .ne 5, 3) := by decide +kernel
theorem dX7_taken_55 : decode cX7_taken 55 = .ok (.iload_n 3, 1) := by decide +kernel
theorem dX7_taken_56 : decode cX7_taken 56 = .ok (.ireturn, 1) := by decide +kernel
theorem dX7_taken_57 : decode cX7_taken 57 = .ok (.getstatic 304, 3) := by decide +kernel
theorem dX7_taken_60 : decode cX7_taken 60 = .ok (.iload 4, 2) := by decide +kernel
theorem dX7_taken_62 : decode cX7_taken 62 = .ok (.iaload, 1) := by decide +kernel
theorem dX7_taken_63 : decode cX7_taken 63 = .ok (.istore 4, 2) := by decide +kernel
theorem dX7_taken_65 : decode cX7_taken 65 = .ok (.iinc 5 1, 3) := by decide +kernel
theorem dX7_taken_68 : decode cX7_taken 68 = .ok (.goto (-31), 3) := by decide +kernel
theorem dX7_taken_71 : decode cX7_taken 71 = .ok (.bipush (-12), 2) := by decide +kernel
theorem dX7_taken_73 : decode cX7_taken 73 = .ok (.ireturn, 1) := by decide +kernel
theorem dX7_count_0 : decode cX7_count 0 = .ok (.iload_n 1, 1) := by decide +kernel
theorem dX7_count_1 : decode cX7_count 1 = .ok (.tableswitch 81 0 5 #[39, 44, 52, 57, 65, 73], 39) := by decide +kernel
theorem dX7_count_40 : decode cX7_count 40 = .ok (.aload_n 0, 1) := by decide +kernel
theorem dX7_count_41 : decode cX7_count 41 = .ok (.getfield 73, 3) := by decide +kernel
theorem dX7_count_44 : decode cX7_count 44 = .ok (.ireturn, 1) := by decide +kernel
theorem dX7_count_45 : decode cX7_count 45 = .ok (.aload_n 0, 1) := by decide +kernel
theorem dX7_count_46 : decode cX7_count 46 = .ok (.getfield 62, 3) := by decide +kernel
theorem dX7_count_49 : decode cX7_count 49 = .ok (.getfield 153, 3) := by decide +kernel
theorem dX7_count_52 : decode cX7_count 52 = .ok (.ireturn, 1) := by decide +kernel
theorem dX7_count_53 : decode cX7_count 53 = .ok (.aload_n 0, 1) := by decide +kernel
theorem dX7_count_54 : decode cX7_count 54 = .ok (.getfield 97, 3) := by decide +kernel
theorem dX7_count_57 : decode cX7_count 57 = .ok (.ireturn, 1) := by decide +kernel
theorem dX7_count_58 : decode cX7_count 58 = .ok (.aload_n 0, 1) := by decide +kernel
theorem dX7_count_59 : decode cX7_count 59 = .ok (.getfield 62, 3) := by decide +kernel
theorem dX7_count_62 : decode cX7_count 62 = .ok (.getfield 245, 3) := by decide +kernel
theorem dX7_count_65 : decode cX7_count 65 = .ok (.ireturn, 1) := by decide +kernel
theorem dX7_count_66 : decode cX7_count 66 = .ok (.aload_n 0, 1) := by decide +kernel
theorem dX7_count_67 : decode cX7_count 67 = .ok (.getfield 18, 3) := by decide +kernel
theorem dX7_count_70 : decode cX7_count 70 = .ok (.getfield 90, 3) := by decide +kernel
theorem dX7_count_73 : decode cX7_count 73 = .ok (.ireturn, 1) := by decide +kernel
theorem dX7_count_74 : decode cX7_count 74 = .ok (.aload_n 0, 1) := by decide +kernel
theorem dX7_count_75 : decode cX7_count 75 = .ok (.getfield 45, 3) := by decide +kernel
theorem dX7_count_78 : decode cX7_count 78 = .ok (.getfield 298, 3) := by decide +kernel
theorem dX7_count_81 : decode cX7_count 81 = .ok (.ireturn, 1) := by decide +kernel
theorem dX7_count_82 : decode cX7_count 82 = .ok (.bipush (-2), 2) := by decide +kernel
theorem dX7_count_84 : decode cX7_count 84 = .ok (.ireturn, 1) := by decide +kernel
theorem dX7_tape_0 : decode cX7_tape 0 = .ok (.aload_n 0, 1) := by decide +kernel
theorem dX7_tape_1 : decode cX7_tape 1 = .ok (.iload_n 1, 1) := by decide +kernel
theorem dX7_tape_2 : decode cX7_tape 2 = .ok (.invokevirtual 266, 3) := by decide +kernel
theorem dX7_tape_5 : decode cX7_tape 5 = .ok (.astore 4, 2) := by decide +kernel
theorem dX7_tape_7 : decode cX7_tape 7 = .ok (.aload 4, 2) := by decide +kernel
theorem dX7_tape_9 : decode cX7_tape 9 = .ok (.ifnonnull 5, 3) := by decide +kernel
theorem dX7_tape_12 : decode cX7_tape 12 = .ok (.iconst (-1), 1) := by decide +kernel
theorem dX7_tape_13 : decode cX7_tape 13 = .ok (.ireturn, 1) := by decide +kernel
theorem dX7_tape_14 : decode cX7_tape 14 = .ok (.iload_n 2, 1) := by decide +kernel
theorem dX7_tape_15 : decode cX7_tape 15 = .ok (.iconst (-1), 1) := by decide +kernel
theorem dX7_tape_16 : decode cX7_tape 16 = .ok (.if_icmp .lt 8, 3) := by decide +kernel
theorem dX7_tape_19 : decode cX7_tape 19 = .ok (.iload_n 2, 1) := by decide +kernel
theorem dX7_tape_20 : decode cX7_tape 20 = .ok (.iconst 4, 1) := by decide +kernel
theorem dX7_tape_21 : decode cX7_tape 21 = .ok (.if_icmp .le 6, 3) := by decide +kernel
theorem dX7_tape_24 : decode cX7_tape 24 = .ok (.bipush (-2), 2) := by decide +kernel
theorem dX7_tape_26 : decode cX7_tape 26 = .ok (.ireturn, 1) := by decide +kernel
theorem dX7_tape_27 : decode cX7_tape 27 = .ok (.iload_n 2, 1) := by decide +kernel
theorem dX7_tape_28 : decode cX7_tape 28 = .ok (.iconst (-1), 1) := by decide +kernel
theorem dX7_tape_29 : decode cX7_tape 29 = .ok (.if_icmp .ne 12, 3) := by decide +kernel
theorem dX7_tape_32 : decode cX7_tape 32 = .ok (.aload 4, 2) := by decide +kernel
theorem dX7_tape_34 : decode cX7_tape 34 = .ok (.iconst (-1), 1) := by decide +kernel
theorem dX7_tape_35 : decode cX7_tape 35 = .ok (.iconst 0, 1) := by decide +kernel
theorem dX7_tape_36 : decode cX7_tape 36 = .ok (.invokevirtual 307, 3) := by decide +kernel
theorem dX7_tape_39 : decode cX7_tape 39 = .ok (.iconst 1, 1) := by decide +kernel
theorem dX7_tape_40 : decode cX7_tape 40 = .ok (.ireturn, 1) := by decide +kernel
theorem dX7_tape_41 : decode cX7_tape 41 = .ok (.iload_n 3, 1) := by decide +kernel
theorem dX7_tape_42 : decode cX7_tape 42 = .ok (.bipush 60, 2) := by decide +kernel
theorem dX7_tape_44 : decode cX7_tape 44 = .ok (.if_icmp .le 6, 3) := by decide +kernel
theorem dX7_tape_47 : decode cX7_tape 47 = .ok (.bipush (-2), 2) := by decide +kernel
theorem dX7_tape_49 : decode cX7_tape 49 = .ok (.ireturn, 1) := by decide +kernel
theorem dX7_tape_50 : decode cX7_tape 50 = .ok (.iload_n 3, 1) := by decide +kernel
theorem dX7_tape_51 : decode cX7_tape 51 = .ok (.ifCond .ge 6, 3) := by decide +kernel
theorem dX7_tape_54 : decode cX7_tape 54 = .ok (.bipush (-14), 2) := by decide +kernel
theorem dX7_tape_56 : decode cX7_tape 56 = .ok (.ireturn, 1) := by decide +kernel
theorem dX7_tape_57 : decode cX7_tape 57 = .ok (.aload 4, 2) := by decide +kernel
theorem dX7_tape_59 : decode cX7_tape 59 = .ok (.iload_n 2, 1) := by decide +kernel
theorem dX7_tape_60 : decode cX7_tape 60 = .ok (.iload_n 3, 1) := by decide +kernel
theorem dX7_tape_61 : decode cX7_tape 61 = .ok (.invokevirtual 307, 3) := by decide +kernel
theorem dX7_tape_64 : decode cX7_tape 64 = .ok (.iconst 1, 1) := by decide +kernel
theorem dX7_tape_65 : decode cX7_tape 65 = .ok (.ireturn, 1) := by decide +kernel
theorem dX7_item_0 : decode cX7_item 0 = .ok (.aload_n 0, 1) := by decide +kernel
theorem dX7_item_1 : decode cX7_item 1 = .ok (.iload_n 1, 1) := by decide +kernel
theorem dX7_item_2 : decode cX7_item 2 = .ok (.invokevirtual 266, 3) := by decide +kernel
theorem dX7_item_5 : decode cX7_item 5 = .ok (.astore 5, 2) := by decide +kernel
theorem dX7_item_7 : decode cX7_item 7 = .ok (.aload 5, 2) := by decide +kernel
theorem dX7_item_9 : decode cX7_item 9 = .ok (.ifnonnull 5, 3) := by decide +kernel
theorem dX7_item_12 : decode cX7_item 12 = .ok (.iconst (-1), 1) := by decide +kernel
theorem dX7_item_13 : decode cX7_item 13 = .ok (.ireturn, 1) := by decide +kernel
theorem dX7_item_14 : decode cX7_item 14 = .ok (.aload 5, 2) := by decide +kernel
theorem dX7_item_16 : decode cX7_item 16 = .ok (.getfield 270, 3) := by decide +kernel
theorem dX7_item_19 : decode cX7_item 19 = .ok (.iconst (-1), 1) := by decide +kernel
theorem dX7_item_20 : decode cX7_item 20 = .ok (.if_icmp .ne 6, 3) := by decide +kernel
theorem dX7_item_23 : decode cX7_item 23 = .ok (.bipush (-11), 2) := by decide +kernel
theorem dX7_item_25 : decode cX7_item 25 = .ok (.ireturn, 1) := by decide +kernel
theorem dX7_item_26 : decode cX7_item 26 = .ok (.aload 5, 2) := by decide +kernel
theorem dX7_item_28 : decode cX7_item 28 = .ok (.iload_n 2, 1) := by decide +kernel
theorem dX7_item_29 : decode cX7_item 29 = .ok (.invokevirtual 273, 3) := by decide +kernel
theorem dX7_item_32 : decode cX7_item 32 = .ok (.ifCond .ne 6, 3) := by decide +kernel
theorem dX7_item_35 : decode cX7_item 35 = .ok (.bipush (-13), 2) := by decide +kernel
theorem dX7_item_37 : decode cX7_item 37 = .ok (.ireturn, 1) := by decide +kernel
theorem dX7_item_38 : decode cX7_item 38 = .ok (.aload 5, 2) := by decide +kernel
theorem dX7_item_40 : decode cX7_item 40 = .ok (.getfield 309, 3) := by decide +kernel
theorem dX7_item_43 : decode cX7_item 43 = .ok (.iload_n 2, 1) := by decide +kernel
theorem dX7_item_44 : decode cX7_item 44 = .ok (.aload 5, 2) := by decide +kernel
theorem dX7_item_46 : decode cX7_item 46 = .ok (.getfield 270, 3) := by decide +kernel
theorem dX7_item_49 : decode cX7_item 49 = .ok (.lload_n 3, 1) := by decide +kernel
theorem dX7_item_50 : decode cX7_item 50 = .ok (.invokestatic 313, 3) := by decide +kernel
theorem dX7_item_53 : decode cX7_item 53 = .ok (.lastore, 1) := by decide +kernel
theorem dX7_item_54 : decode cX7_item 54 = .ok (.iconst 1, 1) := by decide +kernel
theorem dX7_item_55 : decode cX7_item 55 = .ok (.ireturn, 1) := by decide +kernel
theorem dX7_read_0 : decode cX7_read 0 = .ok (.aload_n 0, 1) := by decide +kernel
theorem dX7_read_1 : decode cX7_read 1 = .ok (.iload_n 1, 1) := by decide +kernel
theorem dX7_read_2 : decode cX7_read 2 = .ok (.invokevirtual 266, 3) := by decide +kernel
theorem dX7_read_5 : decode cX7_read 5 = .ok (.astore_n 3, 1) := by decide +kernel
theorem dX7_read_6 : decode cX7_read 6 = .ok (.aload_n 3, 1) := by decide +kernel
theorem dX7_read_7 : decode cX7_read 7 = .ok (.ifnull 11, 3) := by decide +kernel
theorem dX7_read_10 : decode cX7_read 10 = .ok (.aload_n 3, 1) := by decide +kernel
theorem dX7_read_11 : decode cX7_read 11 = .ok (.iload_n 2, 1) := by decide +kernel
theorem dX7_read_12 : decode cX7_read 12 = .ok (.invokevirtual 273, 3) := by decide +kernel
theorem dX7_read_15 : decode cX7_read 15 = .ok (.ifCond .ne 7, 3) := by decide +kernel
theorem dX7_read_18 : decode cX7_read 18 = .ok (.ldc2_w 187, 3) := by decide +kernel
theorem dX7_read_21 : decode cX7_read 21 = .ok (.lreturn, 1) := by decide +kernel
theorem dX7_read_22 : decode cX7_read 22 = .ok (.aload_n 3, 1) := by decide +kernel
theorem dX7_read_23 : decode cX7_read 23 = .ok (.getfield 309, 3) := by decide +kernel
theorem dX7_read_26 : decode cX7_read 26 = .ok (.iload_n 2, 1) := by decide +kernel
theorem dX7_read_27 : decode cX7_read 27 = .ok (.laload, 1) := by decide +kernel
theorem dX7_read_28 : decode cX7_read 28 = .ok (.lreturn, 1) := by decide +kernel
theorem dX7_shift_0 : decode cX7_shift 0 = .ok (.aload_n 0, 1) := by decide +kernel
theorem dX7_shift_1 : decode cX7_shift 1 = .ok (.iload_n 1, 1) := by decide +kernel
theorem dX7_shift_2 : decode cX7_shift 2 = .ok (.invokevirtual 266, 3) := by decide +kernel
theorem dX7_shift_5 : decode cX7_shift 5 = .ok (.astore 6, 2) := by decide +kernel
theorem dX7_shift_7 : decode cX7_shift 7 = .ok (.aload_n 0, 1) := by decide +kernel
theorem dX7_shift_8 : decode cX7_shift 8 = .ok (.iload_n 3, 1) := by decide +kernel
theorem dX7_shift_9 : decode cX7_shift 9 = .ok (.invokevirtual 266, 3) := by decide +kernel
theorem dX7_shift_12 : decode cX7_shift 12 = .ok (.astore 7, 2) := by decide +kernel
theorem dX7_shift_14 : decode cX7_shift 14 = .ok (.aload 6, 2) := by decide +kernel
theorem dX7_shift_16 : decode cX7_shift 16 = .ok (.ifnull 8, 3) := by decide +kernel
theorem dX7_shift_19 : decode cX7_shift 19 = .ok (.aload 7, 2) := by decide +kernel
theorem dX7_shift_21 : decode cX7_shift 21 = .ok (.ifnonnull 5, 3) := by decide +kernel
theorem dX7_shift_24 : decode cX7_shift 24 = .ok (.iconst (-1), 1) := by decide +kernel
theorem dX7_shift_25 : decode cX7_shift 25 = .ok (.ireturn, 1) := by decide +kernel
theorem dX7_shift_26 : decode cX7_shift 26 = .ok (.aload 6, 2) := by decide +kernel
theorem dX7_shift_28 : decode cX7_shift 28 = .ok (.getfield 270, 3) := by decide +kernel
theorem dX7_shift_31 : decode cX7_shift 31 = .ok (.iconst (-1), 1) := by decide +kernel
theorem dX7_shift_32 : decode cX7_shift 32 = .ok (.if_icmp .eq 12, 3) := by decide +kernel
theorem dX7_shift_35 : decode cX7_shift 35 = .ok (.aload 7, 2) := by decide +kernel
theorem dX7_shift_37 : decode cX7_shift 37 = .ok (.getfield 270, 3) := by decide +kernel
theorem dX7_shift_40 : decode cX7_shift 40 = .ok (.iconst (-1), 1) := by decide +kernel
theorem dX7_shift_41 : decode cX7_shift 41 = .ok (.if_icmp .ne 6, 3) := by decide +kernel
theorem dX7_shift_44 : decode cX7_shift 44 = .ok (.bipush (-11), 2) := by decide +kernel
theorem dX7_shift_46 : decode cX7_shift 46 = .ok (.ireturn, 1) := by decide +kernel
theorem dX7_shift_47 : decode cX7_shift 47 = .ok (.aload 6, 2) := by decide +kernel
theorem dX7_shift_49 : decode cX7_shift 49 = .ok (.getfield 270, 3) := by decide +kernel
theorem dX7_shift_52 : decode cX7_shift 52 = .ok (.aload 7, 2) := by decide +kernel
theorem dX7_shift_54 : decode cX7_shift 54 = .ok (.getfield 270, 3) := by decide +kernel
theorem dX7_shift_57 : decode cX7_shift 57 = .ok (.if_icmp .eq 6, 3) := by decide +kernel
theorem dX7_shift_60 : decode cX7_shift 60 = .ok (.bipush (-12), 2) := by decide +kernel
theorem dX7_shift_62 : decode cX7_shift 62 = .ok (.ireturn, 1) := by decide +kernel
theorem dX7_shift_63 : decode cX7_shift 63 = .ok (.aload 6, 2) := by decide +kernel
theorem dX7_shift_65 : decode cX7_shift 65 = .ok (.iload_n 2, 1) := by decide +kernel
theorem dX7_shift_66 : decode cX7_shift 66 = .ok (.iload 5, 2) := by decide +kernel
theorem dX7_shift_68 : decode cX7_shift 68 = .ok (.invokevirtual 317, 3) := by decide +kernel
theorem dX7_shift_71 : decode cX7_shift 71 = .ok (.ifCond .eq 15, 3) := by decide +kernel
theorem dX7_shift_74 : decode cX7_shift 74 = .ok (.aload 7, 2) := by decide +kernel
theorem dX7_shift_76 : decode cX7_shift 76 = .ok (.iload 4, 2) := by decide +kernel
theorem dX7_shift_78 : decode cX7_shift 78 = .ok (.iload 5, 2) := by decide +kernel
theorem dX7_shift_80 : decode cX7_shift 80 = .ok (.invokevirtual 317, 3) := by decide +kernel
theorem dX7_shift_83 : decode cX7_shift 83 = .ok (.ifCond .ne 6, 3) := by decide +kernel
theorem dX7_shift_86 : decode cX7_shift 86 = .ok (.bipush (-13), 2) := by decide +kernel
theorem dX7_shift_88 : decode cX7_shift 88 = .ok (.ireturn, 1) := by decide +kernel
theorem dX7_shift_89 : decode cX7_shift 89 = .ok (.aload 6, 2) := by decide +kernel
theorem dX7_shift_91 : decode cX7_shift 91 = .ok (.getfield 309, 3) := by decide +kernel
theorem dX7_shift_94 : decode cX7_shift 94 = .ok (.iload_n 2, 1) := by decide +kernel
theorem dX7_shift_95 : decode cX7_shift 95 = .ok (.aload 7, 2) := by decide +kernel
theorem dX7_shift_97 : decode cX7_shift 97 = .ok (.getfield 309, 3) := by decide +kernel
theorem dX7_shift_100 : decode cX7_shift 100 = .ok (.iload 4, 2) := by decide +kernel
theorem dX7_shift_102 : decode cX7_shift 102 = .ok (.iload 5, 2) := by decide +kernel
theorem dX7_shift_104 : decode cX7_shift 104 = .ok (.invokestatic 320, 3) := by decide +kernel
theorem dX7_shift_107 : decode cX7_shift 107 = .ok (.iload 5, 2) := by decide +kernel
theorem dX7_shift_109 : decode cX7_shift 109 = .ok (.ireturn, 1) := by decide +kernel
theorem dX7_judgeRow_0 : decode cX7_judgeRow 0 = .ok (.aload_n 0, 1) := by decide +kernel
theorem dX7_judgeRow_1 : decode cX7_judgeRow 1 = .ok (.getfield 62, 3) := by decide +kernel
theorem dX7_judgeRow_4 : decode cX7_judgeRow 4 = .ok (.getfield 104, 3) := by decide +kernel
theorem dX7_judgeRow_7 : decode cX7_judgeRow 7 = .ok (.invokevirtual 326, 3) := by decide +kernel
theorem dX7_judgeRow_10 : decode cX7_judgeRow 10 = .ok (.istore 4, 2) := by decide +kernel
theorem dX7_judgeRow_12 : decode cX7_judgeRow 12 = .ok (.iconst 0, 1) := by decide +kernel
theorem dX7_judgeRow_13 : decode cX7_judgeRow 13 = .ok (.istore 5, 2) := by decide +kernel
theorem dX7_judgeRow_15 : decode cX7_judgeRow 15 = .ok (.iconst (-1), 1) := by decide +kernel
theorem dX7_judgeRow_16 : decode cX7_judgeRow 16 = .ok (.istore 6, 2) := by decide +kernel
theorem dX7_judgeRow_18 : decode cX7_judgeRow 18 = .ok (.iload_n 2, 1) := by decide +kernel
theorem dX7_judgeRow_19 : decode cX7_judgeRow 19 = .ok (.istore 7, 2) := by decide +kernel
theorem dX7_judgeRow_21 : decode cX7_judgeRow 21 = .ok (.iload 7, 2) := by decide +kernel
theorem dX7_judgeRow_23 : decode cX7_judgeRow 23 = .ok (.aload_n 1, 1) := by decide +kernel
theorem dX7_judgeRow_24 : decode cX7_judgeRow 24 = .ok (.getfield 329, 3) := by decide +kernel
theorem dX7_judgeRow_27 : decode cX7_judgeRow 27 = .ok (.if_icmp .ge 119, 3) := by decide +kernel
theorem dX7_judgeRow_30 : decode cX7_judgeRow 30 = .ok (.iload 7, 2) := by decide +kernel
theorem dX7_judgeRow_32 : decode cX7_judgeRow 32 = .ok (.iload_n 2, 1) := by decide +kernel
theorem dX7_judgeRow_33 : decode cX7_judgeRow 33 = .ok (.isub, 1) := by decide +kernel
theorem dX7_judgeRow_34 : decode cX7_judgeRow 34 = .ok (.istore 8, 2) := by decide +kernel
theorem dX7_judgeRow_36 : decode cX7_judgeRow 36 = .ok (.aload_n 1, 1) := by decide +kernel
theorem dX7_judgeRow_37 : decode cX7_judgeRow 37 = .ok (.getfield 309, 3) := by decide +kernel
theorem dX7_judgeRow_40 : decode cX7_judgeRow 40 = .ok (.iload 7, 2) := by decide +kernel
theorem dX7_judgeRow_42 : decode cX7_judgeRow 42 = .ok (.laload, 1) := by decide +kernel
theorem dX7_judgeRow_43 : decode cX7_judgeRow 43 = .ok (.l2i, 1) := by decide +kernel
theorem dX7_judgeRow_44 : decode cX7_judgeRow 44 = .ok (.istore 9, 2) := by decide +kernel
theorem dX7_judgeRow_46 : decode cX7_judgeRow 46 = .ok (.aload_n 0, 1) := by decide +kernel
theorem dX7_judgeRow_47 : decode cX7_judgeRow 47 = .ok (.iload 9, 2) := by decide +kernel
theorem dX7_judgeRow_49 : decode cX7_judgeRow 49 = .ok (.invokevirtual 77, 3) := by decide +kernel
theorem dX7_judgeRow_52 : decode cX7_judgeRow 52 = .ok (.ifCond .eq 10, 3) := by decide +kernel
theorem dX7_judgeRow_55 : decode cX7_judgeRow 55 = .ok (.iload 8, 2) := by decide +kernel
theorem dX7_judgeRow_57 : decode cX7_judgeRow 57 = .ok (.iload 4, 2) := by decide +kernel
theorem dX7_judgeRow_59 : decode cX7_judgeRow 59 = .ok (.if_icmp .le 9, 3) := by decide +kernel
theorem dX7_judgeRow_62 : decode cX7_judgeRow 62 = .ok (.bipush (-10), 2) := by decide +kernel
theorem dX7_judgeRow_64 : decode cX7_judgeRow 64 = .ok (.iload 8, 2) := by decide +kernel
theorem dX7_judgeRow_66 : decode cX7_judgeRow 66 = .ok (.isub, 1) := by decide +kernel
theorem dX7_judgeRow_67 : decode cX7_judgeRow 67 = .ok (.ireturn, 1) := by decide +kernel
theorem dX7_judgeRow_68 : decode cX7_judgeRow 68 = .ok (.iload 8, 2) := by decide +kernel
theorem dX7_judgeRow_70 : decode cX7_judgeRow 70 = .ok (.ifCond .ne 16, 3) := by decide +kernel
theorem dX7_judgeRow_73 : decode cX7_judgeRow 73 = .ok (.aload_n 0, 1) := by decide +kernel
theorem dX7_judgeRow_74 : decode cX7_judgeRow 74 = .ok (.getfield 62, 3) := by decide +kernel
theorem dX7_judgeRow_77 : decode cX7_judgeRow 77 = .ok (.getfield 87, 3) := by decide +kernel
theorem dX7_judgeRow_80 : decode cX7_judgeRow 80 = .ok (.iload 9, 2) := by decide +kernel
theorem dX7_judgeRow_82 : decode cX7_judgeRow 82 = .ok (.iaload, 1) := by decide +kernel
theorem dX7_judgeRow_83 : decode cX7_judgeRow 83 = .ok (.goto 14, 3) := by decide +kernel
theorem dX7_judgeRow_86 : decode cX7_judgeRow 86 = .ok (.aload_n 0, 1) := by decide +kernel
theorem dX7_judgeRow_87 : decode cX7_judgeRow 87 = .ok (.getfield 62, 3) := by decide +kernel
theorem dX7_judgeRow_90 : decode cX7_judgeRow 90 = .ok (.iload 6, 2) := by decide +kernel
theorem dX7_judgeRow_92 : decode cX7_judgeRow 92 = .ok (.iload 9, 2) := by decide +kernel
theorem dX7_judgeRow_94 : decode cX7_judgeRow 94 = .ok (.invokevirtual 108, 3) := by decide +kernel
theorem dX7_judgeRow_97 : decode cX7_judgeRow 97 = .ok (.istore 10, 2) := by decide +kernel
theorem dX7_judgeRow_99 : decode cX7_judgeRow 99 = .ok (.iload 10, 2) := by decide +kernel
theorem dX7_judgeRow_101 : decode cX7_judgeRow 101 = .ok (.ifCond .ge 19, 3) := by decide +kernel
theorem dX7_judgeRow_104 : decode cX7_judgeRow 104 = .ok (.iload 8, 2) := by decide +kernel
theorem dX7_judgeRow_106 : decode cX7_judgeRow 106 = .ok (.ifCond .ne 8, 3) := by decide +kernel
theorem dX7_judgeRow_109 : decode cX7_judgeRow 109 = .ok (.bipush (-5), 2) := by decide +kernel
theorem dX7_judgeRow_111 : decode cX7_judgeRow 111 = .ok (.goto 8, 3) := by decide +kernel
theorem dX7_judgeRow_114 : decode cX7_judgeRow 114 = .ok (.bipush (-10), 2) := by decide +kernel
theorem dX7_judgeRow_116 : decode cX7_judgeRow 116 = .ok (.iload 8, 2) := by decide +kernel
theorem dX7_judgeRow_118 : decode cX7_judgeRow 118 = .ok (.isub, 1) := by decide +kernel
theorem dX7_judgeRow_119 : decode cX7_judgeRow 119 = .ok (.ireturn, 1) := by decide +kernel
theorem dX7_judgeRow_120 : decode cX7_judgeRow 120 = .ok (.iload 5, 2) := by decide +kernel
theorem dX7_judgeRow_122 : decode cX7_judgeRow 122 = .ok (.iload 10, 2) := by decide +kernel
theorem dX7_judgeRow_124 : decode cX7_judgeRow 124 = .ok (.iadd, 1) := by decide +kernel
theorem dX7_judgeRow_125 : decode cX7_judgeRow 125 = .ok (.istore 5, 2) := by decide +kernel
theorem dX7_judgeRow_127 : decode cX7_judgeRow 127 = .ok (.iload 9, 2) := by decide +kernel
theorem dX7_judgeRow_129 : decode cX7_judgeRow 129 = .ok (.iload_n 3, 1) := by decide +kernel
theorem dX7_judgeRow_130 : decode cX7_judgeRow 130 = .ok (.if_icmp .ne 6, 3) := by decide +kernel
theorem dX7_judgeRow_133 : decode cX7_judgeRow 133 = .ok (.iload 5, 2) := by decide +kernel
theorem dX7_judgeRow_135 : decode cX7_judgeRow 135 = .ok (.ireturn, 1) := by decide +kernel
theorem dX7_judgeRow_136 : decode cX7_judgeRow 136 = .ok (.iload 9, 2) := by decide +kernel
theorem dX7_judgeRow_138 : decode cX7_judgeRow 138 = .ok (.istore 6, 2) := by decide +kernel
theorem dX7_judgeRow_140 : decode cX7_judgeRow 140 = .ok (.iinc 7 1, 3) := by decide +kernel
theorem dX7_judgeRow_143 : decode cX7_judgeRow 143 = .ok (.goto (-122), 3) := by decide +kernel
theorem dX7_judgeRow_146 : decode cX7_judgeRow 146 = .ok (.sipush 1000, 3) := by decide +kernel
theorem dX7_judgeRow_149 : decode cX7_judgeRow 149 = .ok (.aload_n 1, 1) := by decide +kernel
theorem dX7_judgeRow_150 : decode cX7_judgeRow 150 = .ok (.getfield 329, 3) := by decide +kernel
theorem dX7_judgeRow_153 : decode cX7_judgeRow 153 = .ok (.iadd, 1) := by decide +kernel
theorem dX7_judgeRow_154 : decode cX7_judgeRow 154 = .ok (.iload_n 2, 1) := by decide +kernel
theorem dX7_judgeRow_155 : decode cX7_judgeRow 155 = .ok (.isub, 1) := by decide +kernel
theorem dX7_judgeRow_156 : decode cX7_judgeRow 156 = .ok (.ireturn, 1) := by decide +kernel
theorem dX7_isName_0 : decode cX7_isName 0 = .ok (.iload_n 1, 1) := by decide +kernel
theorem dX7_isName_1 : decode cX7_isName 1 = .ok (.ifCond .lt 15, 3) := by decide +kernel
theorem dX7_isName_4 : decode cX7_isName 4 = .ok (.iload_n 1, 1) := by decide +kernel
theorem dX7_isName_5 : decode cX7_isName 5 = .ok (.aload_n 0, 1) := by decide +kernel
theorem dX7_isName_6 : decode cX7_isName 6 = .ok (.getfield 73, 3) := by decide +kernel
theorem dX7_isName_9 : decode cX7_isName 9 = .ok (.if_icmp .ge 7, 3) := by decide +kernel
theorem dX7_isName_12 : decode cX7_isName 12 = .ok (.iconst 1, 1) := by decide +kernel
theorem dX7_isName_13 : decode cX7_isName 13 = .ok (.goto 4, 3) := by decide +kernel
theorem dX7_isName_16 : decode cX7_isName 16 = .ok (.iconst 0, 1) := by decide +kernel
theorem dX7_isName_17 : decode cX7_isName 17 = .ok (.ireturn, 1) := by decide +kernel
theorem dX7_isTrade_0 : decode cX7_isTrade 0 = .ok (.iload_n 1, 1) := by decide +kernel
theorem dX7_isTrade_1 : decode cX7_isTrade 1 = .ok (.ifCond .lt 18, 3) := by decide +kernel
theorem dX7_isTrade_4 : decode cX7_isTrade 4 = .ok (.iload_n 1, 1) := by decide +kernel
theorem dX7_isTrade_5 : decode cX7_isTrade 5 = .ok (.aload_n 0, 1) := by decide +kernel
theorem dX7_isTrade_6 : decode cX7_isTrade 6 = .ok (.getfield 62, 3) := by decide +kernel
theorem dX7_isTrade_9 : decode cX7_isTrade 9 = .ok (.getfield 153, 3) := by decide +kernel
theorem dX7_isTrade_12 : decode cX7_isTrade 12 = .ok (.if_icmp .ge 7, 3) := by decide +kernel
theorem dX7_isTrade_15 : decode cX7_isTrade 15 = .ok (.iconst 1, 1) := by decide +kernel
theorem dX7_isTrade_16 : decode cX7_isTrade 16 = .ok (.goto 4, 3) := by decide +kernel
theorem dX7_isTrade_19 : decode cX7_isTrade 19 = .ok (.iconst 0, 1) := by decide +kernel
theorem dX7_isTrade_20 : decode cX7_isTrade 20 = .ok (.ireturn, 1) := by decide +kernel
theorem dX7_isBlank_0 : decode cX7_isBlank 0 = .ok (.iload_n 1, 1) := by decide +kernel
theorem dX7_isBlank_1 : decode cX7_isBlank 1 = .ok (.ifCond .lt 18, 3) := by decide +kernel
theorem dX7_isBlank_4 : decode cX7_isBlank 4 = .ok (.iload_n 1, 1) := by decide +kernel
theorem dX7_isBlank_5 : decode cX7_isBlank 5 = .ok (.aload_n 0, 1) := by decide +kernel
theorem dX7_isBlank_6 : decode cX7_isBlank 6 = .ok (.getfield 62, 3) := by decide +kernel
theorem dX7_isBlank_9 : decode cX7_isBlank 9 = .ok (.getfield 245, 3) := by decide +kernel
theorem dX7_isBlank_12 : decode cX7_isBlank 12 = .ok (.if_icmp .ge 7, 3) := by decide +kernel
theorem dX7_isBlank_15 : decode cX7_isBlank 15 = .ok (.iconst 1, 1) := by decide +kernel
theorem dX7_isBlank_16 : decode cX7_isBlank 16 = .ok (.goto 4, 3) := by decide +kernel
theorem dX7_isBlank_19 : decode cX7_isBlank 19 = .ok (.iconst 0, 1) := by decide +kernel
theorem dX7_isBlank_20 : decode cX7_isBlank 20 = .ok (.ireturn, 1) := by decide +kernel
theorem dX7_isLetters_0 : decode cX7_isLetters 0 = .ok (.iload_n 0, 1) := by decide +kernel
theorem dX7_isLetters_1 : decode cX7_isLetters 1 = .ok (.iconst 1, 1) := by decide +kernel
theorem dX7_isLetters_2 : decode cX7_isLetters 2 = .ok (.if_icmp .lt 13, 3) := by decide +kernel
theorem dX7_isLetters_5 : decode cX7_isLetters 5 = .ok (.iload_n 0, 1) := by decide +kernel
theorem dX7_isLetters_6 : decode cX7_isLetters 6 = .ok (.bipush 12, 2) := by decide +kernel
theorem dX7_isLetters_8 : decode cX7_isLetters 8 = .ok (.if_icmp .gt 7, 3) := by decide +kernel
theorem dX7_isLetters_11 : decode cX7_isLetters 11 = .ok (.iconst 1, 1) := by decide +kernel
theorem dX7_isLetters_12 : decode cX7_isLetters 12 = .ok (.goto 4, 3) := by decide +kernel
theorem dX7_isLetters_15 : decode cX7_isLetters 15 = .ok (.iconst 0, 1) := by decide +kernel
theorem dX7_isLetters_16 : decode cX7_isLetters 16 = .ok (.ireturn, 1) := by decide +kernel
theorem dX7_isHour_0 : decode cX7_isHour 0 = .ok (.iload_n 0, 1) := by decide +kernel
theorem dX7_isHour_1 : decode cX7_isHour 1 = .ok (.ifCond .lt 13, 3) := by decide +kernel
theorem dX7_isHour_4 : decode cX7_isHour 4 = .ok (.iload_n 0, 1) := by decide +kernel
theorem dX7_isHour_5 : decode cX7_isHour 5 = .ok (.bipush 99, 2) := by decide +kernel
theorem dX7_isHour_7 : decode cX7_isHour 7 = .ok (.if_icmp .gt 7, 3) := by decide +kernel
theorem dX7_isHour_10 : decode cX7_isHour 10 = .ok (.iconst 1, 1) := by decide +kernel
theorem dX7_isHour_11 : decode cX7_isHour 11 = .ok (.goto 4, 3) := by decide +kernel
theorem dX7_isHour_14 : decode cX7_isHour 14 = .ok (.iconst 0, 1) := by decide +kernel
theorem dX7_isHour_15 : decode cX7_isHour 15 = .ok (.ireturn, 1) := by decide +kernel
theorem dX7_isFriday_0 : decode cX7_isFriday 0 = .ok (.iload_n 0, 1) := by decide +kernel
theorem dX7_isFriday_1 : decode cX7_isFriday 1 = .ok (.ifCond .lt 13, 3) := by decide +kernel
theorem dX7_isFriday_4 : decode cX7_isFriday 4 = .ok (.iload_n 0, 1) := by decide +kernel
theorem dX7_isFriday_5 : decode cX7_isFriday 5 = .ok (.bipush 9, 2) := by decide +kernel
theorem dX7_isFriday_7 : decode cX7_isFriday 7 = .ok (.if_icmp .ge 7, 3) := by decide +kernel
theorem dX7_isFriday_10 : decode cX7_isFriday 10 = .ok (.iconst 1, 1) := by decide +kernel
theorem dX7_isFriday_11 : decode cX7_isFriday 11 = .ok (.goto 4, 3) := by decide +kernel
theorem dX7_isFriday_14 : decode cX7_isFriday 14 = .ok (.iconst 0, 1) := by decide +kernel
theorem dX7_isFriday_15 : decode cX7_isFriday 15 = .ok (.ireturn, 1) := by decide +kernel
theorem dX7_isKind_0 : decode cX7_isKind 0 = .ok (.iload_n 0, 1) := by decide +kernel
theorem dX7_isKind_1 : decode cX7_isKind 1 = .ok (.ifCond .lt 13, 3) := by decide +kernel
theorem dX7_isKind_4 : decode cX7_isKind 4 = .ok (.iload_n 0, 1) := by decide +kernel
theorem dX7_isKind_5 : decode cX7_isKind 5 = .ok (.bipush 7, 2) := by decide +kernel
theorem dX7_isKind_7 : decode cX7_isKind 7 = .ok (.if_icmp .ge 7, 3) := by decide +kernel
theorem dX7_isKind_10 : decode cX7_isKind 10 = .ok (.iconst 1, 1) := by decide +kernel
theorem dX7_isKind_11 : decode cX7_isKind 11 = .ok (.goto 4, 3) := by decide +kernel
theorem dX7_isKind_14 : decode cX7_isKind 14 = .ok (.iconst 0, 1) := by decide +kernel
theorem dX7_isKind_15 : decode cX7_isKind 15 = .ok (.ireturn, 1) := by decide +kernel
theorem dX7_isParted_0 : decode cX7_isParted 0 = .ok (.iload_n 0, 1) := by decide +kernel
theorem dX7_isParted_1 : decode cX7_isParted 1 = .ok (.ifCond .lt 14, 3) := by decide +kernel
theorem dX7_isParted_4 : decode cX7_isParted 4 = .ok (.iload_n 0, 1) := by decide +kernel
theorem dX7_isParted_5 : decode cX7_isParted 5 = .ok (.sipush 999, 3) := by decide +kernel
theorem dX7_isParted_8 : decode cX7_isParted 8 = .ok (.if_icmp .gt 7, 3) := by decide +kernel
theorem dX7_isParted_11 : decode cX7_isParted 11 = .ok (.iconst 1, 1) := by decide +kernel
theorem dX7_isParted_12 : decode cX7_isParted 12 = .ok (.goto 4, 3) := by decide +kernel
theorem dX7_isParted_15 : decode cX7_isParted 15 = .ok (.iconst 0, 1) := by decide +kernel
theorem dX7_isParted_16 : decode cX7_isParted 16 = .ok (.ireturn, 1) := by decide +kernel
theorem dX7_tapeAt_0 : decode cX7_tapeAt 0 = .ok (.iload_n 1, 1) := by decide +kernel
theorem dX7_tapeAt_1 : decode cX7_tapeAt 1 = .ok (.ifCond .lt 18, 3) := by decide +kernel
theorem dX7_tapeAt_4 : decode cX7_tapeAt 4 = .ok (.iload_n 1, 1) := by decide +kernel
theorem dX7_tapeAt_5 : decode cX7_tapeAt 5 = .ok (.bipush 6, 2) := by decide +kernel
theorem dX7_tapeAt_7 : decode cX7_tapeAt 7 = .ok (.if_icmp .ge 12, 3) := by decide +kernel
theorem dX7_tapeAt_10 : decode cX7_tapeAt 10 = .ok (.aload_n 0, 1) := by decide +kernel
theorem dX7_tapeAt_11 : decode cX7_tapeAt 11 = .ok (.getfield 51, 3) := by decide +kernel
theorem dX7_tapeAt_14 : decode cX7_tapeAt 14 = .ok (.iload_n 1, 1) := by decide +kernel
theorem dX7_tapeAt_15 : decode cX7_tapeAt 15 = .ok (.aaload, 1) := by decide +kernel
theorem dX7_tapeAt_16 : decode cX7_tapeAt 16 = .ok (.goto 4, 3) := by decide +kernel
theorem dX7_tapeAt_19 : decode cX7_tapeAt 19 = .ok (.aconst_null, 1) := by decide +kernel
theorem dX7_tapeAt_20 : decode cX7_tapeAt 20 = .ok (.areturn, 1) := by decide +kernel
theorem dX7_habitOf_0 : decode cX7_habitOf 0 = .ok (.aload_n 0, 1) := by decide +kernel
theorem dX7_habitOf_1 : decode cX7_habitOf 1 = .ok (.getfield 62, 3) := by decide +kernel
theorem dX7_habitOf_4 : decode cX7_habitOf 4 = .ok (.getfield 104, 3) := by decide +kernel
theorem dX7_habitOf_7 : decode cX7_habitOf 7 = .ok (.iload_n 1, 1) := by decide +kernel
theorem dX7_habitOf_8 : decode cX7_habitOf 8 = .ok (.aload_n 0, 1) := by decide +kernel
theorem dX7_habitOf_9 : decode cX7_habitOf 9 = .ok (.getfield 11, 3) := by decide +kernel
theorem dX7_habitOf_12 : decode cX7_habitOf 12 = .ok (.iload_n 1, 1) := by decide +kernel
theorem dX7_habitOf_13 : decode cX7_habitOf 13 = .ok (.iaload, 1) := by decide +kernel
theorem dX7_habitOf_14 : decode cX7_habitOf 14 = .ok (.iload_n 2, 1) := by decide +kernel
theorem dX7_habitOf_15 : decode cX7_habitOf 15 = .ok (.invokevirtual 330, 3) := by decide +kernel
theorem dX7_habitOf_18 : decode cX7_habitOf 18 = .ok (.ireturn, 1) := by decide +kernel
theorem dX7_spreadAll_0 : decode cX7_spreadAll 0 = .ok (.aload_n 0, 1) := by decide +kernel
theorem dX7_spreadAll_1 : decode cX7_spreadAll 1 = .ok (.getfield 31, 3) := by decide +kernel
theorem dX7_spreadAll_4 : decode cX7_spreadAll 4 = .ok (.aload_n 0, 1) := by decide +kernel
theorem dX7_spreadAll_5 : decode cX7_spreadAll 5 = .ok (.getfield 62, 3) := by decide +kernel
theorem dX7_spreadAll_8 : decode cX7_spreadAll 8 = .ok (.aload_n 0, 1) := by decide +kernel
theorem dX7_spreadAll_9 : decode cX7_spreadAll 9 = .ok (.getfield 73, 3) := by decide +kernel
theorem dX7_spreadAll_12 : decode cX7_spreadAll 12 = .ok (.invokevirtual 125, 3) := by decide +kernel
theorem dX7_spreadAll_15 : decode cX7_spreadAll 15 = .ok (.aload_n 0, 1) := by decide +kernel
theorem dX7_spreadAll_16 : decode cX7_spreadAll 16 = .ok (.getfield 31, 3) := by decide +kernel
theorem dX7_spreadAll_19 : decode cX7_spreadAll 19 = .ok (.iconst 0, 1) := by decide +kernel
theorem dX7_spreadAll_20 : decode cX7_spreadAll 20 = .ok (.invokevirtual 143, 3) := by decide +kernel
theorem dX7_spreadAll_23 : decode cX7_spreadAll 23 = .ok (.return_, 1) := by decide +kernel
theorem dX8_init_0 : decode cX8_init 0 = .ok (.aload_n 0, 1) := by decide +kernel
theorem dX8_init_1 : decode cX8_init 1 = .ok (.invokespecial 1, 3) := by decide +kernel
theorem dX8_init_4 : decode cX8_init 4 = .ok (.aload_n 0, 1) := by decide +kernel
theorem dX8_init_5 : decode cX8_init 5 = .ok (.iconst 0, 1) := by decide +kernel
theorem dX8_init_6 : decode cX8_init 6 = .ok (.putfield 7, 3) := by decide +kernel
theorem dX8_init_9 : decode cX8_init 9 = .ok (.aload_n 0, 1) := by decide +kernel
theorem dX8_init_10 : decode cX8_init 10 = .ok (.bipush 8, 2) := by decide +kernel
theorem dX8_init_12 : decode cX8_init 12 = .ok (.newarray .int, 2) := by decide +kernel
theorem dX8_init_14 : decode cX8_init 14 = .ok (.putfield 13, 3) := by decide +kernel
theorem dX8_init_17 : decode cX8_init 17 = .ok (.aload_n 0, 1) := by decide +kernel
theorem dX8_init_18 : decode cX8_init 18 = .ok (.bipush 64, 2) := by decide +kernel
theorem dX8_init_20 : decode cX8_init 20 = .ok (.newarray .int, 2) := by decide +kernel
theorem dX8_init_22 : decode cX8_init 22 = .ok (.putfield 17, 3) := by decide +kernel
theorem dX8_init_25 : decode cX8_init 25 = .ok (.aload_n 0, 1) := by decide +kernel
theorem dX8_init_26 : decode cX8_init 26 = .ok (.bipush 8, 2) := by decide +kernel
theorem dX8_init_28 : decode cX8_init 28 = .ok (.newarray .int, 2) := by decide +kernel
theorem dX8_init_30 : decode cX8_init 30 = .ok (.dup, 1) := by decide +kernel
theorem dX8_init_31 : decode cX8_init 31 = .ok (.iconst 0, 1) := by decide +kernel
theorem dX8_init_32 : decode cX8_init 32 = .ok (.iconst (-1), 1) := by decide +kernel
theorem dX8_init_33 : decode cX8_init 33 = .ok (.iastore, 1) := by decide +kernel
theorem dX8_init_34 : decode cX8_init 34 = .ok (.dup, 1) := by decide +kernel
theorem dX8_init_35 : decode cX8_init 35 = .ok (.iconst 1, 1) := by decide +kernel
theorem dX8_init_36 : decode cX8_init 36 = .ok (.iconst (-1), 1) := by decide +kernel
theorem dX8_init_37 : decode cX8_init 37 = .ok (.iastore, 1) := by decide +kernel
theorem dX8_init_38 : decode cX8_init 38 = .ok (.dup, 1) := by decide +kernel
theorem dX8_init_39 : decode cX8_init 39 = .ok (.iconst 2, 1) := by decide +kernel
theorem dX8_init_40 : decode cX8_init 40 = .ok (.iconst (-1), 1) := by decide +kernel
theorem dX8_init_41 : decode cX8_init 41 = .ok (.iastore, 1) := by decide +kernel
theorem dX8_init_42 : decode cX8_init 42 = .ok (.dup, 1) := by decide +kernel
theorem dX8_init_43 : decode cX8_init 43 = .ok (.iconst 3, 1) := by decide +kernel
theorem dX8_init_44 : decode cX8_init 44 = .ok (.iconst (-1), 1) := by decide +kernel
theorem dX8_init_45 : decode cX8_init 45 = .ok (.iastore, 1) := by decide +kernel
theorem dX8_init_46 : decode cX8_init 46 = .ok (.dup, 1) := by decide +kernel
theorem dX8_init_47 : decode cX8_init 47 = .ok (.iconst 4, 1) := by decide +kernel
theorem dX8_init_48 : decode cX8_init 48 = .ok (.iconst (-1), 1) := by decide +kernel
theorem dX8_init_49 : decode cX8_init 49 = .ok (.iastore, 1) := by decide +kernel
theorem dX8_init_50 : decode cX8_init 50 = .ok (.dup, 1) := by decide +kernel
theorem dX8_init_51 : decode cX8_init 51 = .ok (.iconst 5, 1) := by decide +kernel
theorem dX8_init_52 : decode cX8_init 52 = .ok (.iconst (-1), 1) := by decide +kernel
theorem dX8_init_53 : decode cX8_init 53 = .ok (.iastore, 1) := by decide +kernel
theorem dX8_init_54 : decode cX8_init 54 = .ok (.dup, 1) := by decide +kernel
theorem dX8_init_55 : decode cX8_init 55 = .ok (.bipush 6, 2) := by decide +kernel
theorem dX8_init_57 : decode cX8_init 57 = .ok (.iconst (-1), 1) := by decide +kernel
theorem dX8_init_58 : decode cX8_init 58 = .ok (.iastore, 1) := by decide +kernel
theorem dX8_init_59 : decode cX8_init 59 = .ok (.dup, 1) := by decide +kernel
theorem dX8_init_60 : decode cX8_init 60 = .ok (.bipush 7, 2) := by decide +kernel
theorem dX8_init_62 : decode cX8_init 62 = .ok (.iconst (-1), 1) := by decide +kernel
theorem dX8_init_63 : decode cX8_init 63 = .ok (.iastore, 1) := by decide +kernel
theorem dX8_init_64 : decode cX8_init 64 = .ok (.putfield 20, 3) := by decide +kernel
theorem dX8_init_67 : decode cX8_init 67 = .ok (.aload_n 0, 1) := by decide +kernel
theorem dX8_init_68 : decode cX8_init 68 = .ok (.iconst 0, 1) := by decide +kernel
theorem dX8_init_69 : decode cX8_init 69 = .ok (.putfield 23, 3) := by decide +kernel
theorem dX8_init_72 : decode cX8_init 72 = .ok (.aload_n 0, 1) := by decide +kernel
theorem dX8_init_73 : decode cX8_init 73 = .ok (.iconst (-1), 1) := by decide +kernel
theorem dX8_init_74 : decode cX8_init 74 = .ok (.putfield 26, 3) := by decide +kernel
theorem dX8_init_77 : decode cX8_init 77 = .ok (.aload_n 0, 1) := by decide +kernel
theorem dX8_init_78 : decode cX8_init 78 = .ok (.iconst 0, 1) := by decide +kernel
theorem dX8_init_79 : decode cX8_init 79 = .ok (.putfield 29, 3) := by decide +kernel
theorem dX8_init_82 : decode cX8_init 82 = .ok (.aload_n 0, 1) := by decide +kernel
theorem dX8_init_83 : decode cX8_init 83 = .ok (.iconst 0, 1) := by decide +kernel
theorem dX8_init_84 : decode cX8_init 84 = .ok (.putfield 32, 3) := by decide +kernel
theorem dX8_init_87 : decode cX8_init 87 = .ok (.aload_n 0, 1) := by decide +kernel
theorem dX8_init_88 : decode cX8_init 88 = .ok (.iconst 0, 1) := by decide +kernel
theorem dX8_init_89 : decode cX8_init 89 = .ok (.putfield 35, 3) := by decide +kernel
theorem dX8_init_92 : decode cX8_init 92 = .ok (.aload_n 0, 1) := by decide +kernel
theorem dX8_init_93 : decode cX8_init 93 = .ok (.bipush 100, 2) := by decide +kernel
theorem dX8_init_95 : decode cX8_init 95 = .ok (.newarray .int, 2) := by decide +kernel
theorem dX8_init_97 : decode cX8_init 97 = .ok (.putfield 38, 3) := by decide +kernel
theorem dX8_init_100 : decode cX8_init 100 = .ok (.aload_n 0, 1) := by decide +kernel
theorem dX8_init_101 : decode cX8_init 101 = .ok (.bipush 6, 2) := by decide +kernel
theorem dX8_init_103 : decode cX8_init 103 = .ok (.newarray .int, 2) := by decide +kernel
theorem dX8_init_105 : decode cX8_init 105 = .ok (.putfield 41, 3) := by decide +kernel
theorem dX8_init_108 : decode cX8_init 108 = .ok (.aload_n 0, 1) := by decide +kernel
theorem dX8_init_109 : decode cX8_init 109 = .ok (.bipush 60, 2) := by decide +kernel
theorem dX8_init_111 : decode cX8_init 111 = .ok (.newarray .int, 2) := by decide +kernel
theorem dX8_init_113 : decode cX8_init 113 = .ok (.putfield 44, 3) := by decide +kernel
theorem dX8_init_116 : decode cX8_init 116 = .ok (.aload_n 0, 1) := by decide +kernel
theorem dX8_init_117 : decode cX8_init 117 = .ok (.bipush 60, 2) := by decide +kernel
theorem dX8_init_119 : decode cX8_init 119 = .ok (.newarray .int, 2) := by decide +kernel
theorem dX8_init_121 : decode cX8_init 121 = .ok (.putfield 47, 3) := by decide +kernel
theorem dX8_init_124 : decode cX8_init 124 = .ok (.aload_n 0, 1) := by decide +kernel
theorem dX8_init_125 : decode cX8_init 125 = .ok (.bipush 60, 2) := by decide +kernel
theorem dX8_init_127 : decode cX8_init 127 = .ok (.newarray .int, 2) := by decide +kernel
theorem dX8_init_129 : decode cX8_init 129 = .ok (.putfield 50, 3) := by decide +kernel
theorem dX8_init_132 : decode cX8_init 132 = .ok (.aload_n 0, 1) := by decide +kernel
theorem dX8_init_133 : decode cX8_init 133 = .ok (.bipush 60, 2) := by decide +kernel
theorem dX8_init_135 : decode cX8_init 135 = .ok (.newarray .int, 2) := by decide +kernel
theorem dX8_init_137 : decode cX8_init 137 = .ok (.putfield 53, 3) := by decide +kernel
theorem dX8_init_140 : decode cX8_init 140 = .ok (.aload_n 0, 1) := by decide +kernel
theorem dX8_init_141 : decode cX8_init 141 = .ok (.sipush 600, 3) := by decide +kernel
theorem dX8_init_144 : decode cX8_init 144 = .ok (.newarray .int, 2) := by decide +kernel
theorem dX8_init_146 : decode cX8_init 146 = .ok (.putfield 56, 3) := by decide +kernel
theorem dX8_init_149 : decode cX8_init 149 = .ok (.aload_n 0, 1) := by decide +kernel
theorem dX8_init_150 : decode cX8_init 150 = .ok (.bipush 101, 2) := by decide +kernel
theorem dX8_init_152 : decode cX8_init 152 = .ok (.newarray .int, 2) := by decide +kernel
theorem dX8_init_154 : decode cX8_init 154 = .ok (.putfield 59, 3) := by decide +kernel
theorem dX8_init_157 : decode cX8_init 157 = .ok (.aload_n 0, 1) := by decide +kernel
theorem dX8_init_158 : decode cX8_init 158 = .ok (.iconst 0, 1) := by decide +kernel
theorem dX8_init_159 : decode cX8_init 159 = .ok (.putfield 62, 3) := by decide +kernel
theorem dX8_init_162 : decode cX8_init 162 = .ok (.aload_n 0, 1) := by decide +kernel
theorem dX8_init_163 : decode cX8_init 163 = .ok (.iconst 0, 1) := by decide +kernel
theorem dX8_init_164 : decode cX8_init 164 = .ok (.putfield 65, 3) := by decide +kernel
theorem dX8_init_167 : decode cX8_init 167 = .ok (.aload_n 0, 1) := by decide +kernel
theorem dX8_init_168 : decode cX8_init 168 = .ok (.iconst 0, 1) := by decide +kernel
theorem dX8_init_169 : decode cX8_init 169 = .ok (.putfield 68, 3) := by decide +kernel
theorem dX8_init_172 : decode cX8_init 172 = .ok (.aload_n 0, 1) := by decide +kernel
theorem dX8_init_173 : decode cX8_init 173 = .ok (.iconst 5, 1) := by decide +kernel
theorem dX8_init_174 : decode cX8_init 174 = .ok (.newarray .int, 2) := by decide +kernel
theorem dX8_init_176 : decode cX8_init 176 = .ok (.putfield 71, 3) := by decide +kernel
theorem dX8_init_179 : decode cX8_init 179 = .ok (.aload_n 0, 1) := by decide +kernel
theorem dX8_init_180 : decode cX8_init 180 = .ok (.bipush 100, 2) := by decide +kernel
theorem dX8_init_182 : decode cX8_init 182 = .ok (.newarray .boolean, 2) := by decide +kernel
theorem dX8_init_184 : decode cX8_init 184 = .ok (.putfield 74, 3) := by decide +kernel
theorem dX8_init_187 : decode cX8_init 187 = .ok (.aload_n 0, 1) := by decide +kernel
theorem dX8_init_188 : decode cX8_init 188 = .ok (.bipush 64, 2) := by decide +kernel
theorem dX8_init_190 : decode cX8_init 190 = .ok (.newarray .int, 2) := by decide +kernel
theorem dX8_init_192 : decode cX8_init 192 = .ok (.putfield 78, 3) := by decide +kernel
theorem dX8_init_195 : decode cX8_init 195 = .ok (.aload_n 0, 1) := by decide +kernel
theorem dX8_init_196 : decode cX8_init 196 = .ok (.bipush 80, 2) := by decide +kernel
theorem dX8_init_198 : decode cX8_init 198 = .ok (.newarray .int, 2) := by decide +kernel
theorem dX8_init_200 : decode cX8_init 200 = .ok (.putfield 81, 3) := by decide +kernel
theorem dX8_init_203 : decode cX8_init 203 = .ok (.aload_n 0, 1) := by decide +kernel
theorem dX8_init_204 : decode cX8_init 204 = .ok (.bipush 80, 2) := by decide +kernel
theorem dX8_init_206 : decode cX8_init 206 = .ok (.newarray .int, 2) := by decide +kernel
theorem dX8_init_208 : decode cX8_init 208 = .ok (.putfield 84, 3) := by decide +kernel
theorem dX8_init_211 : decode cX8_init 211 = .ok (.aload_n 0, 1) := by decide +kernel
theorem dX8_init_212 : decode cX8_init 212 = .ok (.bipush 9, 2) := by decide +kernel
theorem dX8_init_214 : decode cX8_init 214 = .ok (.putfield 87, 3) := by decide +kernel
theorem dX8_init_217 : decode cX8_init 217 = .ok (.aload_n 0, 1) := by decide +kernel
theorem dX8_init_218 : decode cX8_init 218 = .ok (.bipush 10, 2) := by decide +kernel
theorem dX8_init_220 : decode cX8_init 220 = .ok (.newarray .int, 2) := by decide +kernel
theorem dX8_init_222 : decode cX8_init 222 = .ok (.putfield 90, 3) := by decide +kernel
theorem dX8_init_225 : decode cX8_init 225 = .ok (.aload_n 0, 1) := by decide +kernel
theorem dX8_init_226 : decode cX8_init 226 = .ok (.iconst 0, 1) := by decide +kernel
theorem dX8_init_227 : decode cX8_init 227 = .ok (.putfield 93, 3) := by decide +kernel
theorem dX8_init_230 : decode cX8_init 230 = .ok (.aload_n 0, 1) := by decide +kernel
theorem dX8_init_231 : decode cX8_init 231 = .ok (.bipush 16, 2) := by decide +kernel
theorem dX8_init_233 : decode cX8_init 233 = .ok (.newarray .int, 2) := by decide +kernel
theorem dX8_init_235 : decode cX8_init 235 = .ok (.putfield 96, 3) := by decide +kernel
theorem dX8_init_238 : decode cX8_init 238 = .ok (.aload_n 0, 1) := by decide +kernel
theorem dX8_init_239 : decode cX8_init 239 = .ok (.bipush 16, 2) := by decide +kernel
theorem dX8_init_241 : decode cX8_init 241 = .ok (.newarray .int, 2) := by decide +kernel
theorem dX8_init_243 : decode cX8_init 243 = .ok (.putfield 99, 3) := by decide +kernel
theorem dX8_init_246 : decode cX8_init 246 = .ok (.aload_n 0, 1) := by decide +kernel
theorem dX8_init_247 : decode cX8_init 247 = .ok (.bipush 16, 2) := by decide +kernel
theorem dX8_init_249 : decode cX8_init 249 = .ok (.newarray .int, 2) := by decide +kernel
theorem dX8_init_251 : decode cX8_init 251 = .ok (.putfield 102, 3) := by decide +kernel
theorem dX8_init_254 : decode cX8_init 254 = .ok (.aload_n 0, 1) := by decide +kernel
theorem dX8_init_255 : decode cX8_init 255 = .ok (.bipush 16, 2) := by decide +kernel
theorem dX8_init_257 : decode cX8_init 257 = .ok (.newarray .int, 2) := by decide +kernel
theorem dX8_init_259 : decode cX8_init 259 = .ok (.putfield 105, 3) := by decide +kernel
theorem dX8_init_262 : decode cX8_init 262 = .ok (.aload_n 0, 1) := by decide +kernel
theorem dX8_init_263 : decode cX8_init 263 = .ok (.bipush 16, 2) := by decide +kernel
theorem dX8_init_265 : decode cX8_init 265 = .ok (.newarray .int, 2) := by decide +kernel
theorem dX8_init_267 : decode cX8_init 267 = .ok (.putfield 108, 3) := by decide +kernel
theorem dX8_init_270 : decode cX8_init 270 = .ok (.aload_n 0, 1) := by decide +kernel
theorem dX8_init_271 : decode cX8_init 271 = .ok (.bipush 10, 2) := by decide +kernel
theorem dX8_init_273 : decode cX8_init 273 = .ok (.newarray .long, 2) := by decide +kernel
theorem dX8_init_275 : decode cX8_init 275 = .ok (.putfield 111, 3) := by decide +kernel
theorem dX8_init_278 : decode cX8_init 278 = .ok (.aload_n 0, 1) := by decide +kernel
theorem dX8_init_279 : decode cX8_init 279 = .ok (.lconst 1, 1) := by decide +kernel
theorem dX8_init_280 : decode cX8_init 280 = .ok (.putfield 115, 3) := by decide +kernel
theorem dX8_init_283 : decode cX8_init 283 = .ok (.aload_n 0, 1) := by decide +kernel
theorem dX8_init_284 : decode cX8_init 284 = .ok (.iconst 0, 1) := by decide +kernel
theorem dX8_init_285 : decode cX8_init 285 = .ok (.putfield 119, 3) := by decide +kernel
theorem dX8_init_288 : decode cX8_init 288 = .ok (.aload_n 0, 1) := by decide +kernel
theorem dX8_init_289 : decode cX8_init 289 = .ok (.bipush 6, 2) := by decide +kernel
theorem dX8_init_291 : decode cX8_init 291 = .ok (.newarray .int, 2) := by decide +kernel
theorem dX8_init_293 : decode cX8_init 293 = .ok (.putfield 122, 3) := by decide +kernel
theorem dX8_init_296 : decode cX8_init 296 = .ok (.aload_n 0, 1) := by decide +kernel
theorem dX8_init_297 : decode cX8_init 297 = .ok (.bipush 7, 2) := by decide +kernel
theorem dX8_init_299 : decode cX8_init 299 = .ok (.newarray .int, 2) := by decide +kernel
theorem dX8_init_301 : decode cX8_init 301 = .ok (.putfield 125, 3) := by decide +kernel
theorem dX8_init_304 : decode cX8_init 304 = .ok (.aload_n 0, 1) := by decide +kernel
theorem dX8_init_305 : decode cX8_init 305 = .ok (.bipush 7, 2) := by decide +kernel
theorem dX8_init_307 : decode cX8_init 307 = .ok (.newarray .int, 2) := by decide +kernel
theorem dX8_init_309 : decode cX8_init 309 = .ok (.putfield 128, 3) := by decide +kernel
theorem dX8_init_312 : decode cX8_init 312 = .ok (.aload_n 0, 1) := by decide +kernel
theorem dX8_init_313 : decode cX8_init 313 = .ok (.bipush 6, 2) := by decide +kernel
theorem dX8_init_315 : decode cX8_init 315 = .ok (.newarray .int, 2) := by decide +kernel
theorem dX8_init_317 : decode cX8_init 317 = .ok (.putfield 131, 3) := by decide +kernel
theorem dX8_init_320 : decode cX8_init 320 = .ok (.aload_n 0, 1) := by decide +kernel
theorem dX8_init_321 : decode cX8_init 321 = .ok (.iconst 0, 1) := by decide +kernel
theorem dX8_init_322 : decode cX8_init 322 = .ok (.putfield 134, 3) := by decide +kernel
theorem dX8_init_325 : decode cX8_init 325 = .ok (.aload_n 0, 1) := by decide +kernel
theorem dX8_init_326 : decode cX8_init 326 = .ok (.iconst (-1), 1) := by decide +kernel
theorem dX8_init_327 : decode cX8_init 327 = .ok (.putfield 138, 3) := by decide +kernel
theorem dX8_init_330 : decode cX8_init 330 = .ok (.aload_n 0, 1) := by decide +kernel
theorem dX8_init_331 : decode cX8_init 331 = .ok (.iconst 0, 1) := by decide +kernel
theorem dX8_init_332 : decode cX8_init 332 = .ok (.putfield 141, 3) := by decide +kernel
theorem dX8_init_335 : decode cX8_init 335 = .ok (.aload_n 0, 1) := by decide +kernel
theorem dX8_init_336 : decode cX8_init 336 = .ok (.iconst 0, 1) := by decide +kernel
theorem dX8_init_337 : decode cX8_init 337 = .ok (.putfield 144, 3) := by decide +kernel
theorem dX8_init_340 : decode cX8_init 340 = .ok (.aload_n 0, 1) := by decide +kernel
theorem dX8_init_341 : decode cX8_init 341 = .ok (.bipush 64, 2) := by decide +kernel
theorem dX8_init_343 : decode cX8_init 343 = .ok (.newarray .int, 2) := by decide +kernel
theorem dX8_init_345 : decode cX8_init 345 = .ok (.putfield 147, 3) := by decide +kernel
theorem dX8_init_348 : decode cX8_init 348 = .ok (.aload_n 0, 1) := by decide +kernel
theorem dX8_init_349 : decode cX8_init 349 = .ok (.bipush 8, 2) := by decide +kernel
theorem dX8_init_351 : decode cX8_init 351 = .ok (.newarray .int, 2) := by decide +kernel
theorem dX8_init_353 : decode cX8_init 353 = .ok (.putfield 150, 3) := by decide +kernel
theorem dX8_init_356 : decode cX8_init 356 = .ok (.aload_n 0, 1) := by decide +kernel
theorem dX8_init_357 : decode cX8_init 357 = .ok (.bipush 16, 2) := by decide +kernel
theorem dX8_init_359 : decode cX8_init 359 = .ok (.newarray .int, 2) := by decide +kernel
theorem dX8_init_361 : decode cX8_init 361 = .ok (.putfield 153, 3) := by decide +kernel
theorem dX8_init_364 : decode cX8_init 364 = .ok (.aload_n 0, 1) := by decide +kernel
theorem dX8_init_365 : decode cX8_init 365 = .ok (.bipush 16, 2) := by decide +kernel
theorem dX8_init_367 : decode cX8_init 367 = .ok (.newarray .int, 2) := by decide +kernel
theorem dX8_init_369 : decode cX8_init 369 = .ok (.putfield 156, 3) := by decide +kernel
theorem dX8_init_372 : decode cX8_init 372 = .ok (.aload_n 0, 1) := by decide +kernel
theorem dX8_init_373 : decode cX8_init 373 = .ok (.bipush 16, 2) := by decide +kernel
theorem dX8_init_375 : decode cX8_init 375 = .ok (.newarray .int, 2) := by decide +kernel
theorem dX8_init_377 : decode cX8_init 377 = .ok (.putfield 159, 3) := by decide +kernel
theorem dX8_init_380 : decode cX8_init 380 = .ok (.aload_n 0, 1) := by decide +kernel
theorem dX8_init_381 : decode cX8_init 381 = .ok (.bipush 16, 2) := by decide +kernel
theorem dX8_init_383 : decode cX8_init 383 = .ok (.newarray .int, 2) := by decide +kernel
theorem dX8_init_385 : decode cX8_init 385 = .ok (.putfield 162, 3) := by decide +kernel
theorem dX8_init_388 : decode cX8_init 388 = .ok (.aload_n 0, 1) := by decide +kernel
theorem dX8_init_389 : decode cX8_init 389 = .ok (.bipush 16, 2) := by decide +kernel
theorem dX8_init_391 : decode cX8_init 391 = .ok (.newarray .int, 2) := by decide +kernel
theorem dX8_init_393 : decode cX8_init 393 = .ok (.putfield 165, 3) := by decide +kernel
theorem dX8_init_396 : decode cX8_init 396 = .ok (.aload_n 0, 1) := by decide +kernel
theorem dX8_init_397 : decode cX8_init 397 = .ok (.bipush 6, 2) := by decide +kernel
theorem dX8_init_399 : decode cX8_init 399 = .ok (.newarray .int, 2) := by decide +kernel
theorem dX8_init_401 : decode cX8_init 401 = .ok (.putfield 168, 3) := by decide +kernel
theorem dX8_init_404 : decode cX8_init 404 = .ok (.aload_n 0, 1) := by decide +kernel
theorem dX8_init_405 : decode cX8_init 405 = .ok (.iconst 0, 1) := by decide +kernel
theorem dX8_init_406 : decode cX8_init 406 = .ok (.putfield 171, 3) := by decide +kernel
theorem dX8_init_409 : decode cX8_init 409 = .ok (.aload_n 0, 1) := by decide +kernel
theorem dX8_init_410 : decode cX8_init 410 = .ok (.bipush 20, 2) := by decide +kernel
theorem dX8_init_412 : decode cX8_init 412 = .ok (.newarray .int, 2) := by decide +kernel
theorem dX8_init_414 : decode cX8_init 414 = .ok (.putfield 174, 3) := by decide +kernel
theorem dX8_init_417 : decode cX8_init 417 = .ok (.aload_n 0, 1) := by decide +kernel
theorem dX8_init_418 : decode cX8_init 418 = .ok (.bipush 6, 2) := by decide +kernel
theorem dX8_init_420 : decode cX8_init 420 = .ok (.newarray .int, 2) := by decide +kernel
theorem dX8_init_422 : decode cX8_init 422 = .ok (.dup, 1) := by decide +kernel
theorem dX8_init_423 : decode cX8_init 423 = .ok (.iconst 0, 1) := by decide +kernel
theorem dX8_init_424 : decode cX8_init 424 = .ok (.iconst (-1), 1) := by decide +kernel
theorem dX8_init_425 : decode cX8_init 425 = .ok (.iastore, 1) := by decide +kernel
theorem dX8_init_426 : decode cX8_init 426 = .ok (.dup, 1) := by decide +kernel
theorem dX8_init_427 : decode cX8_init 427 = .ok (.iconst 1, 1) := by decide +kernel
theorem dX8_init_428 : decode cX8_init 428 = .ok (.iconst (-1), 1) := by decide +kernel
theorem dX8_init_429 : decode cX8_init 429 = .ok (.iastore, 1) := by decide +kernel
theorem dX8_init_430 : decode cX8_init 430 = .ok (.dup, 1) := by decide +kernel
theorem dX8_init_431 : decode cX8_init 431 = .ok (.iconst 2, 1) := by decide +kernel
theorem dX8_init_432 : decode cX8_init 432 = .ok (.iconst (-1), 1) := by decide +kernel
theorem dX8_init_433 : decode cX8_init 433 = .ok (.iastore, 1) := by decide +kernel
theorem dX8_init_434 : decode cX8_init 434 = .ok (.dup, 1) := by decide +kernel
theorem dX8_init_435 : decode cX8_init 435 = .ok (.iconst 3, 1) := by decide +kernel
theorem dX8_init_436 : decode cX8_init 436 = .ok (.iconst (-1), 1) := by decide +kernel
theorem dX8_init_437 : decode cX8_init 437 = .ok (.iastore, 1) := by decide +kernel
theorem dX8_init_438 : decode cX8_init 438 = .ok (.dup, 1) := by decide +kernel
theorem dX8_init_439 : decode cX8_init 439 = .ok (.iconst 4, 1) := by decide +kernel
theorem dX8_init_440 : decode cX8_init 440 = .ok (.iconst (-1), 1) := by decide +kernel
theorem dX8_init_441 : decode cX8_init 441 = .ok (.iastore, 1) := by decide +kernel
theorem dX8_init_442 : decode cX8_init 442 = .ok (.dup, 1) := by decide +kernel
theorem dX8_init_443 : decode cX8_init 443 = .ok (.iconst 5, 1) := by decide +kernel
theorem dX8_init_444 : decode cX8_init 444 = .ok (.iconst (-1), 1) := by decide +kernel
theorem dX8_init_445 : decode cX8_init 445 = .ok (.iastore, 1) := by decide +kernel
theorem dX8_init_446 : decode cX8_init 446 = .ok (.putfield 177, 3) := by decide +kernel
theorem dX8_init_449 : decode cX8_init 449 = .ok (.aload_n 0, 1) := by decide +kernel
theorem dX8_init_450 : decode cX8_init 450 = .ok (.bipush 6, 2) := by decide +kernel
theorem dX8_init_452 : decode cX8_init 452 = .ok (.newarray .int, 2) := by decide +kernel
theorem dX8_init_454 : decode cX8_init 454 = .ok (.putfield 180, 3) := by decide +kernel
theorem dX8_init_457 : decode cX8_init 457 = .ok (.aload_n 0, 1) := by decide +kernel
theorem dX8_init_458 : decode cX8_init 458 = .ok (.sipush 360, 3) := by decide +kernel
theorem dX8_init_461 : decode cX8_init 461 = .ok (.newarray .long, 2) := by decide +kernel
theorem dX8_init_463 : decode cX8_init 463 = .ok (.putfield 183, 3) := by decide +kernel
theorem dX8_init_466 : decode cX8_init 466 = .ok (.aload_n 0, 1) := by decide +kernel
theorem dX8_init_467 : decode cX8_init 467 = .ok (.bipush 60, 2) := by decide +kernel
theorem dX8_init_469 : decode cX8_init 469 = .ok (.newarray .long, 2) := by decide +kernel
theorem dX8_init_471 : decode cX8_init 471 = .ok (.putfield 186, 3) := by decide +kernel
theorem dX8_init_474 : decode cX8_init 474 = .ok (.return_, 1) := by decide +kernel
theorem dX8_in_0 : decode cX8_in 0 = .ok (.iload_n 1, 1) := by decide +kernel
theorem dX8_in_1 : decode cX8_in 1 = .ok (.iload_n 2, 1) := by decide +kernel
theorem dX8_in_2 : decode cX8_in 2 = .ok (.if_icmp .lt 12, 3) := by decide +kernel
theorem dX8_in_5 : decode cX8_in 5 = .ok (.iload_n 1, 1) := by decide +kernel
theorem dX8_in_6 : decode cX8_in 6 = .ok (.iload_n 3, 1) := by decide +kernel
theorem dX8_in_7 : decode cX8_in 7 = .ok (.if_icmp .gt 7, 3) := by decide +kernel
theorem dX8_in_10 : decode cX8_in 10 = .ok (.iconst 1, 1) := by decide +kernel
theorem dX8_in_11 : decode cX8_in 11 = .ok (.goto 4, 3) := by decide +kernel
theorem dX8_in_14 : decode cX8_in 14 = .ok (.iconst 0, 1) := by decide +kernel
theorem dX8_in_15 : decode cX8_in 15 = .ok (.ireturn, 1) := by decide +kernel
theorem dX8_has_0 : decode cX8_has 0 = .ok (.iload_n 1, 1) := by decide +kernel
theorem dX8_has_1 : decode cX8_has 1 = .ok (.iload_n 2, 1) := by decide +kernel
theorem dX8_has_2 : decode cX8_has 2 = .ok (.ishr, 1) := by decide +kernel
theorem dX8_has_3 : decode cX8_has 3 = .ok (.iconst 1, 1) := by decide +kernel
theorem dX8_has_4 : decode cX8_has 4 = .ok (.iand, 1) := by decide +kernel
theorem dX8_has_5 : decode cX8_has 5 = .ok (.iconst 1, 1) := by decide +kernel
theorem dX8_has_6 : decode cX8_has 6 = .ok (.if_icmp .ne 7, 3) := by decide +kernel
theorem dX8_has_9 : decode cX8_has 9 = .ok (.iconst 1, 1) := by decide +kernel
theorem dX8_has_10 : decode cX8_has 10 = .ok (.goto 4, 3) := by decide +kernel
theorem dX8_has_13 : decode cX8_has 13 = .ok (.iconst 0, 1) := by decide +kernel
theorem dX8_has_14 : decode cX8_has 14 = .ok (.ireturn, 1) := by decide +kernel
theorem dX8_ones_0 : decode cX8_ones 0 = .ok (.iconst 0, 1) := by decide +kernel
theorem dX8_ones_1 : decode cX8_ones 1 = .ok (.istore_n 2, 1) := by decide +kernel
theorem dX8_ones_2 : decode cX8_ones 2 = .ok (.iload_n 1, 1) := by decide +kernel
theorem dX8_ones_3 : decode cX8_ones 3 = .ok (.istore_n 3, 1) := by decide +kernel
theorem dX8_ones_4 : decode cX8_ones 4 = .ok (.iload_n 3, 1) := by decide +kernel
theorem dX8_ones_5 : decode cX8_ones 5 = .ok (.ifCond .eq 15, 3) := by decide +kernel
theorem dX8_ones_8 : decode cX8_ones 8 = .ok (.iinc 2 1, 3) := by decide +kernel
theorem dX8_ones_11 : decode cX8_ones 11 = .ok (.iload_n 3, 1) := by decide +kernel
theorem dX8_ones_12 : decode cX8_ones 12 = .ok (.iload_n 3, 1) := by decide +kernel
theorem dX8_ones_13 : decode cX8_ones 13 = .ok (.iconst 1, 1) := by decide +kernel
theorem dX8_ones_14 : decode cX8_ones 14 = .ok (.isub, 1) := by decide +kernel
theorem dX8_ones_15 : decode cX8_ones 15 = .ok (.iand, 1) := by decide +kernel
theorem dX8_ones_16 : decode cX8_ones 16 = .ok (.istore_n 3, 1) := by decide +kernel
theorem dX8_ones_17 : decode cX8_ones 17 = .ok (.goto (-13), 3) := by decide +kernel
theorem dX8_ones_20 : decode cX8_ones 20 = .ok (.iload_n 2, 1) := by decide +kernel
theorem dX8_ones_21 : decode cX8_ones 21 = .ok (.ireturn, 1) := by decide +kernel
theorem dX8_isName_0 : decode cX8_isName 0 = .ok (.aload_n 0, 1) := by decide +kernel
theorem dX8_isName_1 : decode cX8_isName 1 = .ok (.iload_n 1, 1) := by decide +kernel
theorem dX8_isName_2 : decode cX8_isName 2 = .ok (.iconst 0, 1) := by decide +kernel
theorem dX8_isName_3 : decode cX8_isName 3 = .ok (.aload_n 0, 1) := by decide +kernel
theorem dX8_isName_4 : decode cX8_isName 4 = .ok (.getfield 7, 3) := by decide +kernel
theorem dX8_isName_7 : decode cX8_isName 7 = .ok (.iconst 1, 1) := by decide +kernel
theorem dX8_isName_8 : decode cX8_isName 8 = .ok (.isub, 1) := by decide +kernel
theorem dX8_isName_9 : decode cX8_isName 9 = .ok (.invokevirtual 189, 3) := by decide +kernel
theorem dX8_isName_12 : decode cX8_isName 12 = .ok (.ireturn, 1) := by decide +kernel
theorem dX8_isHour_0 : decode cX8_isHour 0 = .ok (.aload_n 0, 1) := by decide +kernel
theorem dX8_isHour_1 : decode cX8_isHour 1 = .ok (.iload_n 1, 1) := by decide +kernel
theorem dX8_isHour_2 : decode cX8_isHour 2 = .ok (.iconst 0, 1) := by decide +kernel
theorem dX8_isHour_3 : decode cX8_isHour 3 = .ok (.bipush 99, 2) := by decide +kernel
theorem dX8_isHour_5 : decode cX8_isHour 5 = .ok (.invokevirtual 189, 3) := by decide +kernel
theorem dX8_isHour_8 : decode cX8_isHour 8 = .ok (.ireturn, 1) := by decide +kernel
theorem dX8_name_0 : decode cX8_name 0 = .ok (.aload_n 0, 1) := by decide +kernel
theorem dX8_name_1 : decode cX8_name 1 = .ok (.iload_n 1, 1) := by decide +kernel
theorem dX8_name_2 : decode cX8_name 2 = .ok (.iconst 1, 1) := by decide +kernel
theorem dX8_name_3 : decode cX8_name 3 = .ok (.bipush 12, 2) := by decide +kernel
theorem dX8_name_5 : decode cX8_name 5 = .ok (.invokevirtual 189, 3) := by decide +kernel
theorem dX8_name_8 : decode cX8_name 8 = .ok (.ifCond .ne 6, 3) := by decide +kernel
theorem dX8_name_11 : decode cX8_name 11 = .ok (.bipush (-2), 2) := by decide +kernel
theorem dX8_name_13 : decode cX8_name 13 = .ok (.ireturn, 1) := by decide +kernel
theorem dX8_name_14 : decode cX8_name 14 = .ok (.aload_n 0, 1) := by decide +kernel
theorem dX8_name_15 : decode cX8_name 15 = .ok (.getfield 7, 3) := by decide +kernel
theorem dX8_name_18 : decode cX8_name 18 = .ok (.bipush 8, 2) := by decide +kernel
theorem dX8_name_20 : decode cX8_name 20 = .ok (.if_icmp .ne 6, 3) := by decide +kernel
theorem dX8_name_23 : decode cX8_name 23 = .ok (.bipush (-4), 2) := by decide +kernel
theorem dX8_name_25 : decode cX8_name 25 = .ok (.ireturn, 1) := by decide +kernel
theorem dX8_name_26 : decode cX8_name 26 = .ok (.aload_n 0, 1) := by decide +kernel
theorem dX8_name_27 : decode cX8_name 27 = .ok (.getfield 13, 3) := by decide +kernel
theorem dX8_name_30 : decode cX8_name 30 = .ok (.aload_n 0, 1) := by decide +kernel
theorem dX8_name_31 : decode cX8_name 31 = .ok (.getfield 7, 3) := by decide +kernel
theorem dX8_name_34 : decode cX8_name 34 = .ok (.iload_n 1, 1) := by decide +kernel
theorem dX8_name_35 : decode cX8_name 35 = .ok (.iastore, 1) := by decide +kernel
theorem dX8_name_36 : decode cX8_name 36 = .ok (.aload_n 0, 1) := by decide +kernel
theorem dX8_name_37 : decode cX8_name 37 = .ok (.dup, 1) := by decide +kernel
theorem dX8_name_38 : decode cX8_name 38 = .ok (.getfield 7, 3) := by decide +kernel
theorem dX8_name_41 : decode cX8_name 41 = .ok (.iconst 1, 1) := by decide +kernel
theorem dX8_name_42 : decode cX8_name 42 = .ok (.iadd, 1) := by decide +kernel
theorem dX8_name_43 : decode cX8_name 43 = .ok (.putfield 7, 3) := by decide +kernel
theorem dX8_name_46 : decode cX8_name 46 = .ok (.aload_n 0, 1) := by decide +kernel
theorem dX8_name_47 : decode cX8_name 47 = .ok (.getfield 7, 3) := by decide +kernel
theorem dX8_name_50 : decode cX8_name 50 = .ok (.iconst 1, 1) := by decide +kernel
theorem dX8_name_51 : decode cX8_name 51 = .ok (.isub, 1) := by decide +kernel
theorem dX8_name_52 : decode cX8_name 52 = .ok (.ireturn, 1) := by decide +kernel
theorem dX8_join_0 : decode cX8_join 0 = .ok (.aload_n 0, 1) := by decide +kernel
theorem dX8_join_1 : decode cX8_join 1 = .ok (.iload_n 1, 1) := by decide +kernel
theorem dX8_join_2 : decode cX8_join 2 = .ok (.invokevirtual 193, 3) := by decide +kernel
theorem dX8_join_5 : decode cX8_join 5 = .ok (.ifCond .eq 11, 3) := by decide +kernel
theorem dX8_join_8 : decode cX8_join 8 = .ok (.aload_n 0, 1) := by decide +kernel
theorem dX8_join_9 : decode cX8_join 9 = .ok (.iload_n 2, 1) := by decide +kernel
theorem dX8_join_10 : decode cX8_join 10 = .ok (.invokevirtual 193, 3) := by decide +kernel
theorem dX8_join_13 : decode cX8_join 13 = .ok (.ifCond .ne 5, 3) := by decide +kernel
theorem dX8_join_16 : decode cX8_join 16 = .ok (.iconst (-1), 1) := by decide +kernel
theorem dX8_join_17 : decode cX8_join 17 = .ok (.ireturn, 1) := by decide +kernel
theorem dX8_join_18 : decode cX8_join 18 = .ok (.iload_n 1, 1) := by decide +kernel
theorem dX8_join_19 : decode cX8_join 19 = .ok (.iload_n 2, 1) := by decide +kernel
theorem dX8_join_20 : decode cX8_join 20 = .ok (.if_icmp .eq 13, 3) := by decide +kernel
theorem dX8_join_23 : decode cX8_join 23 = .ok (.aload_n 0, 1) := by decide +kernel
theorem dX8_join_24 : decode cX8_join 24 = .ok (.iload_n 3, 1) := by decide +kernel
theorem dX8_join_25 : decode cX8_join 25 = .ok (.iconst 0, 1) := by decide +kernel
theorem dX8_join_26 : decode cX8_join 26 = .ok (.iconst 5, 1) := by decide +kernel
theorem dX8_join_27 : decode cX8_join 27 = .ok (.invokevirtual 189, 3) := by decide +kernel
theorem dX8_join_30 : decode cX8_join 30 = .ok (.ifCond .ne 6, 3) := by decide +kernel
theorem dX8_join_33 : decode cX8_join 33 = .ok (.bipush (-2), 2) := by decide +kernel
theorem dX8_join_35 : decode cX8_join 35 = .ok (.ireturn, 1) := by decide +kernel
theorem dX8_join_36 : decode cX8_join 36 = .ok (.aload_n 0, 1) := by decide +kernel
theorem dX8_join_37 : decode cX8_join 37 = .ok (.getfield 17, 3) := by decide +kernel
theorem dX8_join_40 : decode cX8_join 40 = .ok (.bipush 8, 2) := by decide +kernel
theorem dX8_join_42 : decode cX8_join 42 = .ok (.iload_n 1, 1) := by decide +kernel
theorem dX8_join_43 : decode cX8_join 43 = .ok (.imul, 1) := by decide +kernel
theorem dX8_join_44 : decode cX8_join 44 = .ok (.iload_n 2, 1) := by decide +kernel
theorem dX8_join_45 : decode cX8_join 45 = .ok (.iadd, 1) := by decide +kernel
theorem dX8_join_46 : decode cX8_join 46 = .ok (.iaload, 1) := by decide +kernel
theorem dX8_join_47 : decode cX8_join 47 = .ok (.istore 4, 2) := by decide +kernel
theorem dX8_join_49 : decode cX8_join 49 = .ok (.aload_n 0, 1) := by decide +kernel
theorem dX8_join_50 : decode cX8_join 50 = .ok (.getfield 17, 3) := by decide +kernel
theorem dX8_join_53 : decode cX8_join 53 = .ok (.bipush 8, 2) := by decide +kernel
theorem dX8_join_55 : decode cX8_join 55 = .ok (.iload_n 1, 1) := by decide +kernel
theorem dX8_join_56 : decode cX8_join 56 = .ok (.imul, 1) := by decide +kernel
theorem dX8_join_57 : decode cX8_join 57 = .ok (.iload_n 2, 1) := by decide +kernel
theorem dX8_join_58 : decode cX8_join 58 = .ok (.iadd, 1) := by decide +kernel
theorem dX8_join_59 : decode cX8_join 59 = .ok (.iload_n 3, 1) := by decide +kernel
theorem dX8_join_60 : decode cX8_join 60 = .ok (.iastore, 1) := by decide +kernel
theorem dX8_join_61 : decode cX8_join 61 = .ok (.aload_n 0, 1) := by decide +kernel
theorem dX8_join_62 : decode cX8_join 62 = .ok (.getfield 17, 3) := by decide +kernel
theorem dX8_join_65 : decode cX8_join 65 = .ok (.bipush 8, 2) := by decide +kernel
theorem dX8_join_67 : decode cX8_join 67 = .ok (.iload_n 2, 1) := by decide +kernel
theorem dX8_join_68 : decode cX8_join 68 = .ok (.imul, 1) := by decide +kernel
theorem dX8_join_69 : decode cX8_join 69 = .ok (.iload_n 1, 1) := by decide +kernel
theorem dX8_join_70 : decode cX8_join 70 = .ok (.iadd, 1) := by decide +kernel
theorem dX8_join_71 : decode cX8_join 71 = .ok (.iload_n 3, 1) := by decide +kernel
theorem dX8_join_72 : decode cX8_join 72 = .ok (.iastore, 1) := by decide +kernel
theorem dX8_join_73 : decode cX8_join 73 = .ok (.iload 4, 2) := by decide +kernel
theorem dX8_join_75 : decode cX8_join 75 = .ok (.ireturn, 1) := by decide +kernel
theorem dX8_news_0 : decode cX8_news 0 = .ok (.aload_n 0, 1) := by decide +kernel
theorem dX8_news_1 : decode cX8_news 1 = .ok (.iload_n 1, 1) := by decide +kernel
theorem dX8_news_2 : decode cX8_news 2 = .ok (.invokevirtual 193, 3) := by decide +kernel
theorem dX8_news_5 : decode cX8_news 5 = .ok (.ifCond .ne 5, 3) := by decide +kernel
theorem dX8_news_8 : decode cX8_news 8 = .ok (.iconst (-1), 1) := by decide +kernel
theorem dX8_news_9 : decode cX8_news 9 = .ok (.ireturn, 1) := by decide +kernel
theorem dX8_news_10 : decode cX8_news 10 = .ok (.aload_n 0, 1) := by decide +kernel
theorem dX8_news_11 : decode cX8_news 11 = .ok (.iload_n 2, 1) := by decide +kernel
theorem dX8_news_12 : decode cX8_news 12 = .ok (.iconst (-1), 1) := by decide +kernel
theorem dX8_news_13 : decode cX8_news 13 = .ok (.bipush 99, 2) := by decide +kernel
theorem dX8_news_15 : decode cX8_news 15 = .ok (.invokevirtual 189, 3) := by decide +kernel
theorem dX8_news_18 : decode cX8_news 18 = .ok (.ifCond .ne 6, 3) := by decide +kernel
theorem dX8_news_21 : decode cX8_news 21 = .ok (.bipush (-2), 2) := by decide +kernel
theorem dX8_news_23 : decode cX8_news 23 = .ok (.ireturn, 1) := by decide +kernel
theorem dX8_news_24 : decode cX8_news 24 = .ok (.aload_n 0, 1) := by decide +kernel
theorem dX8_news_25 : decode cX8_news 25 = .ok (.getfield 20, 3) := by decide +kernel
theorem dX8_news_28 : decode cX8_news 28 = .ok (.iload_n 1, 1) := by decide +kernel
theorem dX8_news_29 : decode cX8_news 29 = .ok (.iaload, 1) := by decide +kernel
theorem dX8_news_30 : decode cX8_news 30 = .ok (.istore_n 3, 1) := by decide +kernel
theorem dX8_news_31 : decode cX8_news 31 = .ok (.aload_n 0, 1) := by decide +kernel
theorem dX8_news_32 : decode cX8_news 32 = .ok (.getfield 20, 3) := by decide +kernel
theorem dX8_news_35 : decode cX8_news 35 = .ok (.iload_n 1, 1) := by decide +kernel
theorem dX8_news_36 : decode cX8_news 36 = .ok (.iload_n 2, 1) := by decide +kernel
theorem dX8_news_37 : decode cX8_news 37 = .ok (.iastore, 1) := by decide +kernel
theorem dX8_news_38 : decode cX8_news 38 = .ok (.iload_n 3, 1) := by decide +kernel
theorem dX8_news_39 : decode cX8_news 39 = .ok (.ifCond .ge 8, 3) := by decide +kernel
theorem dX8_news_42 : decode cX8_news 42 = .ok (.bipush (-5), 2) := by decide +kernel
theorem dX8_news_44 : decode cX8_news 44 = .ok (.goto 4, 3) := by decide +kernel
theorem dX8_news_47 : decode cX8_news 47 = .ok (.iload_n 3, 1) := by decide +kernel
theorem dX8_news_48 : decode cX8_news 48 = .ok (.ireturn, 1) := by decide +kernel
theorem dX8_feed_0 : decode cX8_feed 0 = .ok (.aload_n 0, 1) := by decide +kernel
theorem dX8_feed_1 : decode cX8_feed 1 = .ok (.iload_n 2, 1) := by decide +kernel
theorem dX8_feed_2 : decode cX8_feed 2 = .ok (.iconst 0, 1) := by decide +kernel
theorem dX8_feed_3 : decode cX8_feed 3 = .ok (.iconst 4, 1) := by decide +kernel
theorem dX8_feed_4 : decode cX8_feed 4 = .ok (.invokevirtual 189, 3) := by decide +kernel
theorem dX8_feed_7 : decode cX8_feed 7 = .ok (.ifCond .ne 6, 3) := by decide +kernel
theorem dX8_feed_10 : decode cX8_feed 10 = .ok (.bipush (-2), 2) := by decide +kernel
theorem dX8_feed_12 : decode cX8_feed 12 = .ok (.ireturn, 1) := by decide +kernel
theorem dX8_feed_13 : decode cX8_feed 13 = .ok (.aload_n 0, 1) := by decide +kernel
theorem dX8_feed_14 : decode cX8_feed 14 = .ok (.getfield 29, 3) := by decide +kernel
theorem dX8_feed_17 : decode cX8_feed 17 = .ok (.iload_n 2, 1) := by decide +kernel
theorem dX8_feed_18 : decode cX8_feed 18 = .ok (.iadd, 1) := by decide +kernel
theorem dX8_feed_19 : decode cX8_feed 19 = .ok (.bipush 100, 2) := by decide +kernel
theorem dX8_feed_21 : decode cX8_feed 21 = .ok (.if_icmp .le 6, 3) := by decide +kernel
theorem dX8_feed_24 : decode cX8_feed 24 = .ok (.bipush (-4), 2) := by decide +kernel
theorem dX8_feed_26 : decode cX8_feed 26 = .ok (.ireturn, 1) := by decide +kernel
theorem dX8_feed_27 : decode cX8_feed 27 = .ok (.iload_n 2, 1) := by decide +kernel
theorem dX8_feed_28 : decode cX8_feed 28 = .ok (.iconst 1, 1) := by decide +kernel
theorem dX8_feed_29 : decode cX8_feed 29 = .ok (.isub, 1) := by decide +kernel
theorem dX8_feed_30 : decode cX8_feed 30 = .ok (.istore_n 3, 1) := by decide +kernel
theorem dX8_feed_31 : decode cX8_feed 31 = .ok (.iload_n 3, 1) := by decide +kernel
theorem dX8_feed_32 : decode cX8_feed 32 = .ok (.ifCond .lt 35, 3) := by decide +kernel
theorem dX8_feed_35 : decode cX8_feed 35 = .ok (.aload_n 0, 1) := by decide +kernel
theorem dX8_feed_36 : decode cX8_feed 36 = .ok (.getfield 38, 3) := by decide +kernel
theorem dX8_feed_39 : decode cX8_feed 39 = .ok (.aload_n 0, 1) := by decide +kernel
theorem dX8_feed_40 : decode cX8_feed 40 = .ok (.getfield 29, 3) := by decide +kernel
theorem dX8_feed_43 : decode cX8_feed 43 = .ok (.iload_n 1, 1) := by decide +kernel
theorem dX8_feed_44 : decode cX8_feed 44 = .ok (.bipush 8, 2) := by decide +kernel
theorem dX8_feed_46 : decode cX8_feed 46 = .ok (.iload_n 3, 1) := by decide +kernel
theorem dX8_feed_47 : decode cX8_feed 47 = .ok (.imul, 1) := by decide +kernel
theorem dX8_feed_48 : decode cX8_feed 48 = .ok (.ishr, 1) := by decide +kernel
theorem dX8_feed_49 : decode cX8_feed 49 = .ok (.i2b, 1) := by decide +kernel
theorem dX8_feed_50 : decode cX8_feed 50 = .ok (.iastore, 1) := by decide +kernel
theorem dX8_feed_51 : decode cX8_feed 51 = .ok (.aload_n 0, 1) := by decide +kernel
theorem dX8_feed_52 : decode cX8_feed 52 = .ok (.dup, 1) := by decide +kernel
theorem dX8_feed_53 : decode cX8_feed 53 = .ok (.getfield 29, 3) := by decide +kernel
theorem dX8_feed_56 : decode cX8_feed 56 = .ok (.iconst 1, 1) := by decide +kernel
theorem dX8_feed_57 : decode cX8_feed 57 = .ok (.iadd, 1) := by decide +kernel
theorem dX8_feed_58 : decode cX8_feed 58 = .ok (.putfield 29, 3) := by decide +kernel
theorem dX8_feed_61 : decode cX8_feed 61 = .ok (.iinc 3 (-1), 3) := by decide +kernel
theorem dX8_feed_64 : decode cX8_feed 64 = .ok (.goto (-33), 3) := by decide +kernel
theorem dX8_feed_67 : decode cX8_feed 67 = .ok (.aload_n 0, 1) := by decide +kernel
theorem dX8_feed_68 : decode cX8_feed 68 = .ok (.getfield 29, 3) := by decide +kernel
theorem dX8_feed_71 : decode cX8_feed 71 = .ok (.ireturn, 1) := by decide +kernel
theorem dX8_next_0 : decode cX8_next 0 = .ok (.aload_n 0, 1) := by decide +kernel
theorem dX8_next_1 : decode cX8_next 1 = .ok (.getfield 32, 3) := by decide +kernel
theorem dX8_next_4 : decode cX8_next 4 = .ok (.aload_n 0, 1) := by decide +kernel
theorem dX8_next_5 : decode cX8_next 5 = .ok (.getfield 29, 3) := by decide +kernel
theorem dX8_next_8 : decode cX8_next 8 = .ok (.if_icmp .ge 15, 3) := by decide +kernel
theorem dX8_next_11 : decode cX8_next 11 = .ok (.aload_n 0, 1) := by decide +kernel
theorem dX8_next_12 : decode cX8_next 12 = .ok (.getfield 38, 3) := by decide +kernel
theorem dX8_next_15 : decode cX8_next 15 = .ok (.aload_n 0, 1) := by decide +kernel
theorem dX8_next_16 : decode cX8_next 16 = .ok (.getfield 32, 3) := by decide +kernel
theorem dX8_next_19 : decode cX8_next 19 = .ok (.iaload, 1) := by decide +kernel
theorem dX8_next_20 : decode cX8_next 20 = .ok (.goto 4, 3) := by decide +kernel
theorem dX8_next_23 : decode cX8_next 23 = .ok (.iconst (-1), 1) := by decide +kernel
theorem dX8_next_24 : decode cX8_next 24 = .ok (.ireturn, 1) := by decide +kernel
theorem dX8_third_0 : decode cX8_third 0 = .ok (.aload_n 0, 1) := by decide +kernel
theorem dX8_third_1 : decode cX8_third 1 = .ok (.getfield 32, 3) := by decide +kernel
theorem dX8_third_4 : decode cX8_third 4 = .ok (.iconst 2, 1) := by decide +kernel
theorem dX8_third_5 : decode cX8_third 5 = .ok (.iadd, 1) := by decide +kernel
theorem dX8_third_6 : decode cX8_third 6 = .ok (.aload_n 0, 1) := by decide +kernel
theorem dX8_third_7 : decode cX8_third 7 = .ok (.getfield 29, 3) := by decide +kernel
theorem dX8_third_10 : decode cX8_third 10 = .ok (.if_icmp .ge 17, 3) := by decide +kernel
theorem dX8_third_13 : decode cX8_third 13 = .ok (.aload_n 0, 1) := by decide +kernel
theorem dX8_third_14 : decode cX8_third 14 = .ok (.getfield 38, 3) := by decide +kernel
theorem dX8_third_17 : decode cX8_third 17 = .ok (.aload_n 0, 1) := by decide +kernel
theorem dX8_third_18 : decode cX8_third 18 = .ok (.getfield 32, 3) := by decide +kernel
theorem dX8_third_21 : decode cX8_third 21 = .ok (.iconst 2, 1) := by decide +kernel
theorem dX8_third_22 : decode cX8_third 22 = .ok (.iadd, 1) := by decide +kernel
theorem dX8_third_23 : decode cX8_third 23 = .ok (.iaload, 1) := by decide +kernel
theorem dX8_third_24 : decode cX8_third 24 = .ok (.goto 4, 3) := by decide +kernel
theorem dX8_third_27 : decode cX8_third 27 = .ok (.iconst (-1), 1) := by decide +kernel
theorem dX8_third_28 : decode cX8_third 28 = .ok (.ireturn, 1) := by decide +kernel
theorem dX8_takes_0 : decode cX8_takes 0 = .ok (.aload_n 0, 1) := by decide +kernel
theorem dX8_takes_1 : decode cX8_takes 1 = .ok (.invokevirtual 197, 3) := by decide +kernel
theorem dX8_takes_4 : decode cX8_takes 4 = .ok (.iload_n 1, 1) := by decide +kernel
theorem dX8_takes_5 : decode cX8_takes 5 = .ok (.if_icmp .eq 5, 3) := by decide +kernel
theorem dX8_takes_8 : decode cX8_takes 8 = .ok (.iconst 0, 1) := by decide +kernel
theorem dX8_takes_9 : decode cX8_takes 9 = .ok (.ireturn, 1) := by decide +kernel
theorem dX8_takes_10 : decode cX8_takes 10 = .ok (.aload_n 0, 1) := by decide +kernel
theorem dX8_takes_11 : decode cX8_takes 11 = .ok (.dup, 1) := by decide +kernel
theorem dX8_takes_12 : decode cX8_takes 12 = .ok (.getfield 32, 3) := by decide +kernel
theorem dX8_takes_15 : decode cX8_takes 15 = .ok (.iconst 1, 1) := by decide +kernel
theorem dX8_takes_16 : decode cX8_takes 16 = .ok (.iadd, 1) := by decide +kernel
theorem dX8_takes_17 : decode cX8_takes 17 = .ok (.putfield 32, 3) := by decide +kernel
theorem dX8_takes_20 : decode cX8_takes 20 = .ok (.iconst 1, 1) := by decide +kernel
theorem dX8_takes_21 : decode cX8_takes 21 = .ok (.ireturn, 1) := by decide +kernel
theorem dX8_takesWord_0 : decode cX8_takesWord 0 = .ok (.iload_n 2, 1) := by decide +kernel
theorem dX8_takesWord_1 : decode cX8_takesWord 1 = .ok (.iconst 1, 1) := by decide +kernel
theorem dX8_takesWord_2 : decode cX8_takesWord 2 = .ok (.isub, 1) := by decide +kernel
theorem dX8_takesWord_3 : decode cX8_takesWord 3 = .ok (.istore_n 3, 1) := by decide +kernel
theorem dX8_takesWord_4 : decode cX8_takesWord 4 = .ok (.iload_n 3, 1) := by decide +kernel
theorem dX8_takesWord_5 : decode cX8_takesWord 5 = .ok (.ifCond .lt 29, 3) := by decide +kernel
theorem dX8_takesWord_8 : decode cX8_takesWord 8 = .ok (.aload_n 0, 1) := by decide +kernel
theorem dX8_takesWord_9 : decode cX8_takesWord 9 = .ok (.bipush 96, 2) := by decide +kernel
theorem dX8_takesWord_11 : decode cX8_takesWord 11 = .ok (.iload_n 1, 1) := by decide +kernel
theorem dX8_takesWord_12 : decode cX8_takesWord 12 = .ok (.iconst 5, 1) := by decide +kernel
theorem dX8_takesWord_13 : decode cX8_takesWord 13 = .ok (.iload_n 3, 1) := by decide +kernel
theorem dX8_takesWord_14 : decode cX8_takesWord 14 = .ok (.imul, 1) := by decide +kernel
theorem dX8_takesWord_15 : decode cX8_takesWord 15 = .ok (.ishr, 1) := by decide +kernel
theorem dX8_takesWord_16 : decode cX8_takesWord 16 = .ok (.bipush 31, 2) := by decide +kernel
theorem dX8_takesWord_18 : decode cX8_takesWord 18 = .ok (.iand, 1) := by decide +kernel
theorem dX8_takesWord_19 : decode cX8_takesWord 19 = .ok (.iadd, 1) := by decide +kernel
theorem dX8_takesWord_20 : decode cX8_takesWord 20 = .ok (.invokevirtual 201, 3) := by decide +kernel
theorem dX8_takesWord_23 : decode cX8_takesWord 23 = .ok (.ifCond .ne 5, 3) := by decide +kernel
theorem dX8_takesWord_26 : decode cX8_takesWord 26 = .ok (.iconst 0, 1) := by decide +kernel
theorem dX8_takesWord_27 : decode cX8_takesWord 27 = .ok (.ireturn, 1) := by decide +kernel
theorem dX8_takesWord_28 : decode cX8_takesWord 28 = .ok (.iinc 3 (-1), 3) := by decide +kernel
theorem dX8_takesWord_31 : decode cX8_takesWord 31 = .ok (.goto (-27), 3) := by decide +kernel
theorem dX8_takesWord_34 : decode cX8_takesWord 34 = .ok (.aload_n 0, 1) := by decide +kernel
theorem dX8_takesWord_35 : decode cX8_takesWord 35 = .ok (.bipush 32, 2) := by decide +kernel
theorem dX8_takesWord_37 : decode cX8_takesWord 37 = .ok (.invokevirtual 201, 3) := by decide +kernel
theorem dX8_takesWord_40 : decode cX8_takesWord 40 = .ok (.ireturn, 1) := by decide +kernel
theorem dX8_isDigit_0 : decode cX8_isDigit 0 = .ok (.aload_n 0, 1) := by decide +kernel
theorem dX8_isDigit_1 : decode cX8_isDigit 1 = .ok (.aload_n 0, 1) := by decide +kernel
theorem dX8_isDigit_2 : decode cX8_isDigit 2 = .ok (.invokevirtual 197, 3) := by decide +kernel
theorem dX8_isDigit_5 : decode cX8_isDigit 5 = .ok (.bipush 48, 2) := by decide +kernel
theorem dX8_isDigit_7 : decode cX8_isDigit 7 = .ok (.bipush 57, 2) := by decide +kernel
theorem dX8_isDigit_9 : decode cX8_isDigit 9 = .ok (.invokevirtual 189, 3) := by decide +kernel
theorem dX8_isDigit_12 : decode cX8_isDigit 12 = .ok (.ireturn, 1) := by decide +kernel
theorem dX8_takesNumber_0 : decode cX8_takesNumber 0 = .ok (.aload_n 0, 1) := by decide +kernel
theorem dX8_takesNumber_1 : decode cX8_takesNumber 1 = .ok (.invokevirtual 204, 3) := by decide +kernel
theorem dX8_takesNumber_4 : decode cX8_takesNumber 4 = .ok (.ifCond .ne 5, 3) := by decide +kernel
theorem dX8_takesNumber_7 : decode cX8_takesNumber 7 = .ok (.iconst 0, 1) := by decide +kernel
theorem dX8_takesNumber_8 : decode cX8_takesNumber 8 = .ok (.ireturn, 1) := by decide +kernel
theorem dX8_takesNumber_9 : decode cX8_takesNumber 9 = .ok (.aload_n 0, 1) := by decide +kernel
theorem dX8_takesNumber_10 : decode cX8_takesNumber 10 = .ok (.iconst 0, 1) := by decide +kernel
theorem dX8_takesNumber_11 : decode cX8_takesNumber 11 = .ok (.putfield 35, 3) := by decide +kernel
theorem dX8_takesNumber_14 : decode cX8_takesNumber 14 = .ok (.iconst 0, 1) := by decide +kernel
theorem dX8_takesNumber_15 : decode cX8_takesNumber 15 = .ok (.istore_n 2, 1) := by decide +kernel
theorem dX8_takesNumber_16 : decode cX8_takesNumber 16 = .ok (.iload_n 2, 1) := by decide +kernel
theorem dX8_takesNumber_17 : decode cX8_takesNumber 17 = .ok (.iload_n 1, 1) := by decide +kernel
theorem dX8_takesNumber_18 : decode cX8_takesNumber 18 = .ok (.if_icmp .ge 45, 3) := by decide +kernel
theorem dX8_takesNumber_21 : decode cX8_takesNumber 21 = .ok (.aload_n 0, 1) := by decide +kernel
theorem dX8_takesNumber_22 : decode cX8_takesNumber 22 = .ok (.invokevirtual 204, 3) := by decide +kernel
theorem dX8_takesNumber_25 : decode cX8_takesNumber 25 = .ok (.ifCond .eq 38, 3) := by decide +kernel
theorem dX8_takesNumber_28 : decode cX8_takesNumber 28 = .ok (.aload_n 0, 1) := by decide +kernel
theorem dX8_takesNumber_29 : decode cX8_takesNumber 29 = .ok (.bipush 10, 2) := by decide +kernel
theorem dX8_takesNumber_31 : decode cX8_takesNumber 31 = .ok (.aload_n 0, 1) := by decide +kernel
theorem dX8_takesNumber_32 : decode cX8_takesNumber 32 = .ok (.getfield 35, 3) := by decide +kernel
theorem dX8_takesNumber_35 : decode cX8_takesNumber 35 = .ok (.imul, 1) := by decide +kernel
theorem dX8_takesNumber_36 : decode cX8_takesNumber 36 = .ok (.aload_n 0, 1) := by decide +kernel
theorem dX8_takesNumber_37 : decode cX8_takesNumber 37 = .ok (.invokevirtual 197, 3) := by decide +kernel
theorem dX8_takesNumber_40 : decode cX8_takesNumber 40 = .ok (.iadd, 1) := by decide +kernel
theorem dX8_takesNumber_41 : decode cX8_takesNumber 41 = .ok (.bipush 48, 2) := by decide +kernel
theorem dX8_takesNumber_43 : decode cX8_takesNumber 43 = .ok (.isub, 1) := by decide +kernel
theorem dX8_takesNumber_44 : decode cX8_takesNumber 44 = .ok (.putfield 35, 3) := by decide +kernel
theorem dX8_takesNumber_47 : decode cX8_takesNumber 47 = .ok (.aload_n 0, 1) := by decide +kernel
theorem dX8_takesNumber_48 : decode cX8_takesNumber 48 = .ok (.dup, 1) := by decide +kernel
theorem dX8_takesNumber_49 : decode cX8_takesNumber 49 = .ok (.getfield 32, 3) := by decide +kernel
theorem dX8_takesNumber_52 : decode cX8_takesNumber 52 = .ok (.iconst 1, 1) := by decide +kernel
theorem dX8_takesNumber_53 : decode cX8_takesNumber 53 = .ok (.iadd, 1) := by decide +kernel
theorem dX8_takesNumber_54 : decode cX8_takesNumber 54 = .ok (.putfield 32, 3) := by decide +kernel
theorem dX8_takesNumber_57 : decode cX8_takesNumber 57 = .ok (.iinc 2 1, 3) := by decide +kernel
theorem dX8_takesNumber_60 : decode cX8_takesNumber 60 = .ok (.goto (-44), 3) := by decide +kernel
theorem dX8_takesNumber_63 : decode cX8_takesNumber 63 = .ok (.iconst 1, 1) := by decide +kernel
theorem dX8_takesNumber_64 : decode cX8_takesNumber 64 = .ok (.ireturn, 1) := by decide +kernel
theorem dX8_put_0 : decode cX8_put 0 = .ok (.aload_n 0, 1) := by decide +kernel
theorem dX8_put_1 : decode cX8_put 1 = .ok (.getfield 56, 3) := by decide +kernel
theorem dX8_put_4 : decode cX8_put 4 = .ok (.aload_n 0, 1) := by decide +kernel
theorem dX8_put_5 : decode cX8_put 5 = .ok (.getfield 62, 3) := by decide +kernel
theorem dX8_put_8 : decode cX8_put 8 = .ok (.iload_n 1, 1) := by decide +kernel
theorem dX8_put_9 : decode cX8_put 9 = .ok (.iastore, 1) := by decide +kernel
theorem dX8_put_10 : decode cX8_put 10 = .ok (.aload_n 0, 1) := by decide +kernel
theorem dX8_put_11 : decode cX8_put 11 = .ok (.dup, 1) := by decide +kernel
theorem dX8_put_12 : decode cX8_put 12 = .ok (.getfield 62, 3) := by decide +kernel
theorem dX8_put_15 : decode cX8_put 15 = .ok (.iconst 1, 1) := by decide +kernel
theorem dX8_put_16 : decode cX8_put 16 = .ok (.iadd, 1) := by decide +kernel
theorem dX8_put_17 : decode cX8_put 17 = .ok (.putfield 62, 3) := by decide +kernel
theorem dX8_put_20 : decode cX8_put 20 = .ok (.return_, 1) := by decide +kernel
theorem dX8_whole_0 : decode cX8_whole 0 = .ok (.aload_n 0, 1) := by decide +kernel
theorem dX8_whole_1 : decode cX8_whole 1 = .ok (.getfield 65, 3) := by decide +kernel
theorem dX8_whole_4 : decode cX8_whole 4 = .ok (.ifCond .le 48, 3) := by decide +kernel
theorem dX8_whole_7 : decode cX8_whole 7 = .ok (.aload_n 0, 1) := by decide +kernel
theorem dX8_whole_8 : decode cX8_whole 8 = .ok (.getfield 59, 3) := by decide +kernel
theorem dX8_whole_11 : decode cX8_whole 11 = .ok (.aload_n 0, 1) := by decide +kernel
theorem dX8_whole_12 : decode cX8_whole 12 = .ok (.getfield 65, 3) := by decide +kernel
theorem dX8_whole_15 : decode cX8_whole 15 = .ok (.iconst 1, 1) := by decide +kernel
theorem dX8_whole_16 : decode cX8_whole 16 = .ok (.isub, 1) := by decide +kernel
theorem dX8_whole_17 : decode cX8_whole 17 = .ok (.iaload, 1) := by decide +kernel
theorem dX8_whole_18 : decode cX8_whole 18 = .ok (.bipush 33, 2) := by decide +kernel
theorem dX8_whole_20 : decode cX8_whole 20 = .ok (.if_icmp .ne 32, 3) := by decide +kernel
theorem dX8_whole_23 : decode cX8_whole 23 = .ok (.aload_n 0, 1) := by decide +kernel
theorem dX8_whole_24 : decode cX8_whole 24 = .ok (.bipush (-33), 2) := by decide +kernel
theorem dX8_whole_26 : decode cX8_whole 26 = .ok (.invokevirtual 208, 3) := by decide +kernel
theorem dX8_whole_29 : decode cX8_whole 29 = .ok (.aload_n 0, 1) := by decide +kernel
theorem dX8_whole_30 : decode cX8_whole 30 = .ok (.dup, 1) := by decide +kernel
theorem dX8_whole_31 : decode cX8_whole 31 = .ok (.getfield 65, 3) := by decide +kernel
theorem dX8_whole_34 : decode cX8_whole 34 = .ok (.iconst 1, 1) := by decide +kernel
theorem dX8_whole_35 : decode cX8_whole 35 = .ok (.isub, 1) := by decide +kernel
theorem dX8_whole_36 : decode cX8_whole 36 = .ok (.putfield 65, 3) := by decide +kernel
theorem dX8_whole_39 : decode cX8_whole 39 = .ok (.aload_n 0, 1) := by decide +kernel
theorem dX8_whole_40 : decode cX8_whole 40 = .ok (.dup, 1) := by decide +kernel
theorem dX8_whole_41 : decode cX8_whole 41 = .ok (.getfield 68, 3) := by decide +kernel
theorem dX8_whole_44 : decode cX8_whole 44 = .ok (.iconst 1, 1) := by decide +kernel
theorem dX8_whole_45 : decode cX8_whole 45 = .ok (.isub, 1) := by decide +kernel
theorem dX8_whole_46 : decode cX8_whole 46 = .ok (.putfield 68, 3) := by decide +kernel
theorem dX8_whole_49 : decode cX8_whole 49 = .ok (.goto (-49), 3) := by decide +kernel
theorem dX8_whole_52 : decode cX8_whole 52 = .ok (.return_, 1) := by decide +kernel
theorem dX8_settle_0 : decode cX8_settle 0 = .ok (.aload_n 0, 1) := by decide +kernel
theorem dX8_settle_1 : decode cX8_settle 1 = .ok (.getfield 65, 3) := by decide +kernel
theorem dX8_settle_4 : decode cX8_settle 4 = .ok (.ifCond .le 68, 3) := by decide +kernel
theorem dX8_settle_7 : decode cX8_settle 7 = .ok (.aload_n 0, 1) := by decide +kernel
theorem dX8_settle_8 : decode cX8_settle 8 = .ok (.getfield 59, 3) := by decide +kernel
theorem dX8_settle_11 : decode cX8_settle 11 = .ok (.aload_n 0, 1) := by decide +kernel
theorem dX8_settle_12 : decode cX8_settle 12 = .ok (.getfield 65, 3) := by decide +kernel
theorem dX8_settle_15 : decode cX8_settle 15 = .ok (.iconst 1, 1) := by decide +kernel
theorem dX8_settle_16 : decode cX8_settle 16 = .ok (.isub, 1) := by decide +kernel
theorem dX8_settle_17 : decode cX8_settle 17 = .ok (.iaload, 1) := by decide +kernel
theorem dX8_settle_18 : decode cX8_settle 18 = .ok (.bipush 38, 2) := by decide +kernel
theorem dX8_settle_20 : decode cX8_settle 20 = .ok (.if_icmp .eq 25, 3) := by decide +kernel
theorem dX8_settle_23 : decode cX8_settle 23 = .ok (.aload_n 0, 1) := by decide +kernel
theorem dX8_settle_24 : decode cX8_settle 24 = .ok (.getfield 59, 3) := by decide +kernel
theorem dX8_settle_27 : decode cX8_settle 27 = .ok (.aload_n 0, 1) := by decide +kernel
theorem dX8_settle_28 : decode cX8_settle 28 = .ok (.getfield 65, 3) := by decide +kernel
theorem dX8_settle_31 : decode cX8_settle 31 = .ok (.iconst 1, 1) := by decide +kernel
theorem dX8_settle_32 : decode cX8_settle 32 = .ok (.isub, 1) := by decide +kernel
theorem dX8_settle_33 : decode cX8_settle 33 = .ok (.iaload, 1) := by decide +kernel
theorem dX8_settle_34 : decode cX8_settle 34 = .ok (.bipush 124, 2) := by decide +kernel
theorem dX8_settle_36 : decode cX8_settle 36 = .ok (.if_icmp .ne 36, 3) := by decide +kernel
theorem dX8_settle_39 : decode cX8_settle 39 = .ok (.iload_n 1, 1) := by decide +kernel
theorem dX8_settle_40 : decode cX8_settle 40 = .ok (.bipush 38, 2) := by decide +kernel
theorem dX8_settle_42 : decode cX8_settle 42 = .ok (.if_icmp .eq 30, 3) := by decide +kernel
theorem dX8_settle_45 : decode cX8_settle 45 = .ok (.aload_n 0, 1) := by decide +kernel
theorem dX8_settle_46 : decode cX8_settle 46 = .ok (.dup, 1) := by decide +kernel
theorem dX8_settle_47 : decode cX8_settle 47 = .ok (.getfield 65, 3) := by decide +kernel
theorem dX8_settle_50 : decode cX8_settle 50 = .ok (.iconst 1, 1) := by decide +kernel
theorem dX8_settle_51 : decode cX8_settle 51 = .ok (.isub, 1) := by decide +kernel
theorem dX8_settle_52 : decode cX8_settle 52 = .ok (.putfield 65, 3) := by decide +kernel
theorem dX8_settle_55 : decode cX8_settle 55 = .ok (.aload_n 0, 1) := by decide +kernel
theorem dX8_settle_56 : decode cX8_settle 56 = .ok (.aload_n 0, 1) := by decide +kernel
theorem dX8_settle_57 : decode cX8_settle 57 = .ok (.getfield 59, 3) := by decide +kernel
theorem dX8_settle_60 : decode cX8_settle 60 = .ok (.aload_n 0, 1) := by decide +kernel
theorem dX8_settle_61 : decode cX8_settle 61 = .ok (.getfield 65, 3) := by decide +kernel
theorem dX8_settle_64 : decode cX8_settle 64 = .ok (.iaload, 1) := by decide +kernel
theorem dX8_settle_65 : decode cX8_settle 65 = .ok (.ineg, 1) := by decide +kernel
theorem dX8_settle_66 : decode cX8_settle 66 = .ok (.invokevirtual 208, 3) := by decide +kernel
theorem dX8_settle_69 : decode cX8_settle 69 = .ok (.goto (-69), 3) := by decide +kernel
theorem dX8_settle_72 : decode cX8_settle 72 = .ok (.return_, 1) := by decide +kernel
theorem dX8_place_0 : decode cX8_place 0 = .ok (.iload_n 1, 1) := by decide +kernel
theorem dX8_place_1 : decode cX8_place 1 = .ok (.lookupswitch 61 #[(97, 51), (98, 53), (102, 59), (108, 57), (115, 55)], 51) := by decide +kernel
theorem dX8_place_52 : decode cX8_place 52 = .ok (.iconst 0, 1) := by decide +kernel
theorem dX8_place_53 : decode cX8_place 53 = .ok (.ireturn, 1) := by decide +kernel
theorem dX8_place_54 : decode cX8_place 54 = .ok (.iconst 1, 1) := by decide +kernel
theorem dX8_place_55 : decode cX8_place 55 = .ok (.ireturn, 1) := by decide +kernel
theorem dX8_place_56 : decode cX8_place 56 = .ok (.iconst 2, 1) := by decide +kernel
theorem dX8_place_57 : decode cX8_place 57 = .ok (.ireturn, 1) := by decide +kernel
theorem dX8_place_58 : decode cX8_place 58 = .ok (.iconst 3, 1) := by decide +kernel
theorem dX8_place_59 : decode cX8_place 59 = .ok (.ireturn, 1) := by decide +kernel
theorem dX8_place_60 : decode cX8_place 60 = .ok (.iconst 4, 1) := by decide +kernel
theorem dX8_place_61 : decode cX8_place 61 = .ok (.ireturn, 1) := by decide +kernel
theorem dX8_place_62 : decode cX8_place 62 = .ok (.iconst (-1), 1) := by decide +kernel
theorem dX8_place_63 : decode cX8_place 63 = .ok (.ireturn, 1) := by decide +kernel
theorem dX8_takesTest_0 : decode cX8_takesTest 0 = .ok (.aload_n 0, 1) := by decide +kernel
theorem dX8_takesTest_1 : decode cX8_takesTest 1 = .ok (.aload_n 0, 1) := by decide +kernel
theorem dX8_takesTest_2 : decode cX8_takesTest 2 = .ok (.invokevirtual 197, 3) := by decide +kernel
theorem dX8_takesTest_5 : decode cX8_takesTest 5 = .ok (.invokevirtual 212, 3) := by decide +kernel
theorem dX8_takesTest_8 : decode cX8_takesTest 8 = .ok (.istore_n 1, 1) := by decide +kernel
theorem dX8_takesTest_9 : decode cX8_takesTest 9 = .ok (.iload_n 1, 1) := by decide +kernel
theorem dX8_takesTest_10 : decode cX8_takesTest 10 = .ok (.ifCond .ge 5, 3) := by decide +kernel
theorem dX8_takesTest_13 : decode cX8_takesTest 13 = .ok (.iconst 0, 1) := by decide +kernel
theorem dX8_takesTest_14 : decode cX8_takesTest 14 = .ok (.ireturn, 1) := by decide +kernel
theorem dX8_takesTest_15 : decode cX8_takesTest 15 = .ok (.aload_n 0, 1) := by decide +kernel
theorem dX8_takesTest_16 : decode cX8_takesTest 16 = .ok (.dup, 1) := by decide +kernel
theorem dX8_takesTest_17 : decode cX8_takesTest 17 = .ok (.getfield 32, 3) := by decide +kernel
theorem dX8_takesTest_20 : decode cX8_takesTest 20 = .ok (.iconst 1, 1) := by decide +kernel
theorem dX8_takesTest_21 : decode cX8_takesTest 21 = .ok (.iadd, 1) := by decide +kernel
theorem dX8_takesTest_22 : decode cX8_takesTest 22 = .ok (.putfield 32, 3) := by decide +kernel
theorem dX8_takesTest_25 : decode cX8_takesTest 25 = .ok (.aload_n 0, 1) := by decide +kernel
theorem dX8_takesTest_26 : decode cX8_takesTest 26 = .ok (.invokevirtual 197, 3) := by decide +kernel
theorem dX8_takesTest_29 : decode cX8_takesTest 29 = .ok (.istore_n 2, 1) := by decide +kernel
theorem dX8_takesTest_30 : decode cX8_takesTest 30 = .ok (.aload_n 0, 1) := by decide +kernel
theorem dX8_takesTest_31 : decode cX8_takesTest 31 = .ok (.iload_n 2, 1) := by decide +kernel
theorem dX8_takesTest_32 : decode cX8_takesTest 32 = .ok (.bipush 60, 2) := by decide +kernel
theorem dX8_takesTest_34 : decode cX8_takesTest 34 = .ok (.bipush 62, 2) := by decide +kernel
theorem dX8_takesTest_36 : decode cX8_takesTest 36 = .ok (.invokevirtual 189, 3) := by decide +kernel
theorem dX8_takesTest_39 : decode cX8_takesTest 39 = .ok (.ifCond .ne 5, 3) := by decide +kernel
theorem dX8_takesTest_42 : decode cX8_takesTest 42 = .ok (.iconst 0, 1) := by decide +kernel
theorem dX8_takesTest_43 : decode cX8_takesTest 43 = .ok (.ireturn, 1) := by decide +kernel
theorem dX8_takesTest_44 : decode cX8_takesTest 44 = .ok (.aload_n 0, 1) := by decide +kernel
theorem dX8_takesTest_45 : decode cX8_takesTest 45 = .ok (.dup, 1) := by decide +kernel
theorem dX8_takesTest_46 : decode cX8_takesTest 46 = .ok (.getfield 32, 3) := by decide +kernel
theorem dX8_takesTest_49 : decode cX8_takesTest 49 = .ok (.iconst 1, 1) := by decide +kernel
theorem dX8_takesTest_50 : decode cX8_takesTest 50 = .ok (.iadd, 1) := by decide +kernel
theorem dX8_takesTest_51 : decode cX8_takesTest 51 = .ok (.putfield 32, 3) := by decide +kernel
theorem dX8_takesTest_54 : decode cX8_takesTest 54 = .ok (.aload_n 0, 1) := by decide +kernel
theorem dX8_takesTest_55 : decode cX8_takesTest 55 = .ok (.iconst 2, 1) := by decide +kernel
theorem dX8_takesTest_56 : decode cX8_takesTest 56 = .ok (.invokevirtual 216, 3) := by decide +kernel
theorem dX8_takesTest_59 : decode cX8_takesTest 59 = .ok (.ifCond .ne 5, 3) := by decide +kernel
theorem dX8_takesTest_62 : decode cX8_takesTest 62 = .ok (.iconst 0, 1) := by decide +kernel
theorem dX8_takesTest_63 : decode cX8_takesTest 63 = .ok (.ireturn, 1) := by decide +kernel
theorem dX8_takesTest_64 : decode cX8_takesTest 64 = .ok (.aload_n 0, 1) := by decide +kernel
theorem dX8_takesTest_65 : decode cX8_takesTest 65 = .ok (.sipush 1000, 3) := by decide +kernel
theorem dX8_takesTest_68 : decode cX8_takesTest 68 = .ok (.iload_n 1, 1) := by decide +kernel
theorem dX8_takesTest_69 : decode cX8_takesTest 69 = .ok (.imul, 1) := by decide +kernel
theorem dX8_takesTest_70 : decode cX8_takesTest 70 = .ok (.bipush 100, 2) := by decide +kernel
theorem dX8_takesTest_72 : decode cX8_takesTest 72 = .ok (.iload_n 2, 1) := by decide +kernel
theorem dX8_takesTest_73 : decode cX8_takesTest 73 = .ok (.bipush 60, 2) := by decide +kernel
theorem dX8_takesTest_75 : decode cX8_takesTest 75 = .ok (.isub, 1) := by decide +kernel
theorem dX8_takesTest_76 : decode cX8_takesTest 76 = .ok (.imul, 1) := by decide +kernel
theorem dX8_takesTest_77 : decode cX8_takesTest 77 = .ok (.iadd, 1) := by decide +kernel
theorem dX8_takesTest_78 : decode cX8_takesTest 78 = .ok (.aload_n 0, 1) := by decide +kernel
theorem dX8_takesTest_79 : decode cX8_takesTest 79 = .ok (.getfield 35, 3) := by decide +kernel
theorem dX8_takesTest_82 : decode cX8_takesTest 82 = .ok (.iadd, 1) := by decide +kernel
theorem dX8_takesTest_83 : decode cX8_takesTest 83 = .ok (.invokevirtual 208, 3) := by decide +kernel
theorem dX8_takesTest_86 : decode cX8_takesTest 86 = .ok (.aload_n 0, 1) := by decide +kernel
theorem dX8_takesTest_87 : decode cX8_takesTest 87 = .ok (.invokevirtual 219, 3) := by decide +kernel
theorem dX8_takesTest_90 : decode cX8_takesTest 90 = .ok (.iconst 1, 1) := by decide +kernel
theorem dX8_takesTest_91 : decode cX8_takesTest 91 = .ok (.ireturn, 1) := by decide +kernel
theorem dX8_takesE_0 : decode cX8_takesE 0 = .ok (.aload_n 0, 1) := by decide +kernel
theorem dX8_takesE_1 : decode cX8_takesE 1 = .ok (.iconst 0, 1) := by decide +kernel
end
section
theorem dX8_takesE_2 : decode cX8_takesE 2 = .ok (.putfield 65, 3) := by decide +kernel
theorem dX8_takesE_5 : decode cX8_takesE 5 = .ok (.aload_n 0, 1) := by decide +kernel
theorem dX8_takesE_6 : decode cX8_takesE 6 = .ok (.iconst 0, 1) := by decide +kernel
theorem dX8_takesE_7 : decode cX8_takesE 7 = .ok (.putfield 68, 3) := by decide +kernel
theorem dX8_takesE_10 : decode cX8_takesE 10 = .ok (.aload_n 0, 1) := by decide +kernel
theorem dX8_takesE_11 : decode cX8_takesE 11 = .ok (.getfield 50, 3) := by decide +kernel
theorem dX8_takesE_14 : decode cX8_takesE 14 = .ok (.iload_n 1, 1) := by decide +kernel
theorem dX8_takesE_15 : decode cX8_takesE 15 = .ok (.aload_n 0, 1) := by decide +kernel
theorem dX8_takesE_16 : decode cX8_takesE 16 = .ok (.getfield 62, 3) := by decide +kernel
theorem dX8_takesE_19 : decode cX8_takesE 19 = .ok (.iastore, 1) := by decide +kernel
theorem dX8_takesE_20 : decode cX8_takesE 20 = .ok (.iconst 1, 1) := by decide +kernel
theorem dX8_takesE_21 : decode cX8_takesE 21 = .ok (.istore_n 2, 1) := by decide +kernel
theorem dX8_takesE_22 : decode cX8_takesE 22 = .ok (.aload_n 0, 1) := by decide +kernel
theorem dX8_takesE_23 : decode cX8_takesE 23 = .ok (.invokevirtual 197, 3) := by decide +kernel
theorem dX8_takesE_26 : decode cX8_takesE 26 = .ok (.istore_n 3, 1) := by decide +kernel
theorem dX8_takesE_27 : decode cX8_takesE 27 = .ok (.iload_n 2, 1) := by decide +kernel
theorem dX8_takesE_28 : decode cX8_takesE 28 = .ok (.ifCond .eq 82, 3) := by decide +kernel
theorem dX8_takesE_31 : decode cX8_takesE 31 = .ok (.iload_n 3, 1) := by decide +kernel
theorem dX8_takesE_32 : decode cX8_takesE 32 = .ok (.bipush 33, 2) := by decide +kernel
theorem dX8_takesE_34 : decode cX8_takesE 34 = .ok (.if_icmp .eq 9, 3) := by decide +kernel
theorem dX8_takesE_37 : decode cX8_takesE 37 = .ok (.iload_n 3, 1) := by decide +kernel
theorem dX8_takesE_38 : decode cX8_takesE 38 = .ok (.bipush 40, 2) := by decide +kernel
theorem dX8_takesE_40 : decode cX8_takesE 40 = .ok (.if_icmp .ne 56, 3) := by decide +kernel
theorem dX8_takesE_43 : decode cX8_takesE 43 = .ok (.aload_n 0, 1) := by decide +kernel
theorem dX8_takesE_44 : decode cX8_takesE 44 = .ok (.getfield 68, 3) := by decide +kernel
theorem dX8_takesE_47 : decode cX8_takesE 47 = .ok (.iconst 4, 1) := by decide +kernel
theorem dX8_takesE_48 : decode cX8_takesE 48 = .ok (.if_icmp .ne 5, 3) := by decide +kernel
theorem dX8_takesE_51 : decode cX8_takesE 51 = .ok (.iconst 0, 1) := by decide +kernel
theorem dX8_takesE_52 : decode cX8_takesE 52 = .ok (.ireturn, 1) := by decide +kernel
theorem dX8_takesE_53 : decode cX8_takesE 53 = .ok (.aload_n 0, 1) := by decide +kernel
theorem dX8_takesE_54 : decode cX8_takesE 54 = .ok (.dup, 1) := by decide +kernel
theorem dX8_takesE_55 : decode cX8_takesE 55 = .ok (.getfield 68, 3) := by decide +kernel
theorem dX8_takesE_58 : decode cX8_takesE 58 = .ok (.iconst 1, 1) := by decide +kernel
theorem dX8_takesE_59 : decode cX8_takesE 59 = .ok (.iadd, 1) := by decide +kernel
theorem dX8_takesE_60 : decode cX8_takesE 60 = .ok (.putfield 68, 3) := by decide +kernel
theorem dX8_takesE_63 : decode cX8_takesE 63 = .ok (.aload_n 0, 1) := by decide +kernel
theorem dX8_takesE_64 : decode cX8_takesE 64 = .ok (.getfield 59, 3) := by decide +kernel
theorem dX8_takesE_67 : decode cX8_takesE 67 = .ok (.aload_n 0, 1) := by decide +kernel
theorem dX8_takesE_68 : decode cX8_takesE 68 = .ok (.getfield 65, 3) := by decide +kernel
theorem dX8_takesE_71 : decode cX8_takesE 71 = .ok (.iload_n 3, 1) := by decide +kernel
theorem dX8_takesE_72 : decode cX8_takesE 72 = .ok (.iastore, 1) := by decide +kernel
theorem dX8_takesE_73 : decode cX8_takesE 73 = .ok (.aload_n 0, 1) := by decide +kernel
theorem dX8_takesE_74 : decode cX8_takesE 74 = .ok (.dup, 1) := by decide +kernel
theorem dX8_takesE_75 : decode cX8_takesE 75 = .ok (.getfield 65, 3) := by decide +kernel
theorem dX8_takesE_78 : decode cX8_takesE 78 = .ok (.iconst 1, 1) := by decide +kernel
theorem dX8_takesE_79 : decode cX8_takesE 79 = .ok (.iadd, 1) := by decide +kernel
theorem dX8_takesE_80 : decode cX8_takesE 80 = .ok (.putfield 65, 3) := by decide +kernel
theorem dX8_takesE_83 : decode cX8_takesE 83 = .ok (.aload_n 0, 1) := by decide +kernel
theorem dX8_takesE_84 : decode cX8_takesE 84 = .ok (.dup, 1) := by decide +kernel
theorem dX8_takesE_85 : decode cX8_takesE 85 = .ok (.getfield 32, 3) := by decide +kernel
theorem dX8_takesE_88 : decode cX8_takesE 88 = .ok (.iconst 1, 1) := by decide +kernel
theorem dX8_takesE_89 : decode cX8_takesE 89 = .ok (.iadd, 1) := by decide +kernel
theorem dX8_takesE_90 : decode cX8_takesE 90 = .ok (.putfield 32, 3) := by decide +kernel
theorem dX8_takesE_93 : decode cX8_takesE 93 = .ok (.goto (-71), 3) := by decide +kernel
theorem dX8_takesE_96 : decode cX8_takesE 96 = .ok (.aload_n 0, 1) := by decide +kernel
theorem dX8_takesE_97 : decode cX8_takesE 97 = .ok (.invokevirtual 222, 3) := by decide +kernel
theorem dX8_takesE_100 : decode cX8_takesE 100 = .ok (.ifCond .eq 8, 3) := by decide +kernel
theorem dX8_takesE_103 : decode cX8_takesE 103 = .ok (.iconst 0, 1) := by decide +kernel
theorem dX8_takesE_104 : decode cX8_takesE 104 = .ok (.istore_n 2, 1) := by decide +kernel
theorem dX8_takesE_105 : decode cX8_takesE 105 = .ok (.goto (-83), 3) := by decide +kernel
theorem dX8_takesE_108 : decode cX8_takesE 108 = .ok (.iconst 0, 1) := by decide +kernel
theorem dX8_takesE_109 : decode cX8_takesE 109 = .ok (.ireturn, 1) := by decide +kernel
theorem dX8_takesE_110 : decode cX8_takesE 110 = .ok (.iload_n 3, 1) := by decide +kernel
theorem dX8_takesE_111 : decode cX8_takesE 111 = .ok (.bipush 38, 2) := by decide +kernel
theorem dX8_takesE_113 : decode cX8_takesE 113 = .ok (.if_icmp .eq 9, 3) := by decide +kernel
theorem dX8_takesE_116 : decode cX8_takesE 116 = .ok (.iload_n 3, 1) := by decide +kernel
theorem dX8_takesE_117 : decode cX8_takesE 117 = .ok (.bipush 124, 2) := by decide +kernel
theorem dX8_takesE_119 : decode cX8_takesE 119 = .ok (.if_icmp .ne 43, 3) := by decide +kernel
theorem dX8_takesE_122 : decode cX8_takesE 122 = .ok (.aload_n 0, 1) := by decide +kernel
theorem dX8_takesE_123 : decode cX8_takesE 123 = .ok (.iload_n 3, 1) := by decide +kernel
theorem dX8_takesE_124 : decode cX8_takesE 124 = .ok (.invokevirtual 225, 3) := by decide +kernel
theorem dX8_takesE_127 : decode cX8_takesE 127 = .ok (.aload_n 0, 1) := by decide +kernel
theorem dX8_takesE_128 : decode cX8_takesE 128 = .ok (.getfield 59, 3) := by decide +kernel
theorem dX8_takesE_131 : decode cX8_takesE 131 = .ok (.aload_n 0, 1) := by decide +kernel
theorem dX8_takesE_132 : decode cX8_takesE 132 = .ok (.getfield 65, 3) := by decide +kernel
theorem dX8_takesE_135 : decode cX8_takesE 135 = .ok (.iload_n 3, 1) := by decide +kernel
theorem dX8_takesE_136 : decode cX8_takesE 136 = .ok (.iastore, 1) := by decide +kernel
theorem dX8_takesE_137 : decode cX8_takesE 137 = .ok (.aload_n 0, 1) := by decide +kernel
theorem dX8_takesE_138 : decode cX8_takesE 138 = .ok (.dup, 1) := by decide +kernel
theorem dX8_takesE_139 : decode cX8_takesE 139 = .ok (.getfield 65, 3) := by decide +kernel
theorem dX8_takesE_142 : decode cX8_takesE 142 = .ok (.iconst 1, 1) := by decide +kernel
theorem dX8_takesE_143 : decode cX8_takesE 143 = .ok (.iadd, 1) := by decide +kernel
theorem dX8_takesE_144 : decode cX8_takesE 144 = .ok (.putfield 65, 3) := by decide +kernel
theorem dX8_takesE_147 : decode cX8_takesE 147 = .ok (.iconst 1, 1) := by decide +kernel
theorem dX8_takesE_148 : decode cX8_takesE 148 = .ok (.istore_n 2, 1) := by decide +kernel
theorem dX8_takesE_149 : decode cX8_takesE 149 = .ok (.aload_n 0, 1) := by decide +kernel
theorem dX8_takesE_150 : decode cX8_takesE 150 = .ok (.dup, 1) := by decide +kernel
theorem dX8_takesE_151 : decode cX8_takesE 151 = .ok (.getfield 32, 3) := by decide +kernel
theorem dX8_takesE_154 : decode cX8_takesE 154 = .ok (.iconst 1, 1) := by decide +kernel
theorem dX8_takesE_155 : decode cX8_takesE 155 = .ok (.iadd, 1) := by decide +kernel
theorem dX8_takesE_156 : decode cX8_takesE 156 = .ok (.putfield 32, 3) := by decide +kernel
theorem dX8_takesE_159 : decode cX8_takesE 159 = .ok (.goto (-137), 3) := by decide +kernel
theorem dX8_takesE_162 : decode cX8_takesE 162 = .ok (.aload_n 0, 1) := by decide +kernel
theorem dX8_takesE_163 : decode cX8_takesE 163 = .ok (.bipush 124, 2) := by decide +kernel
theorem dX8_takesE_165 : decode cX8_takesE 165 = .ok (.invokevirtual 225, 3) := by decide +kernel
theorem dX8_takesE_168 : decode cX8_takesE 168 = .ok (.aload_n 0, 1) := by decide +kernel
theorem dX8_takesE_169 : decode cX8_takesE 169 = .ok (.getfield 53, 3) := by decide +kernel
theorem dX8_takesE_172 : decode cX8_takesE 172 = .ok (.iload_n 1, 1) := by decide +kernel
theorem dX8_takesE_173 : decode cX8_takesE 173 = .ok (.aload_n 0, 1) := by decide +kernel
theorem dX8_takesE_174 : decode cX8_takesE 174 = .ok (.getfield 62, 3) := by decide +kernel
theorem dX8_takesE_177 : decode cX8_takesE 177 = .ok (.iastore, 1) := by decide +kernel
theorem dX8_takesE_178 : decode cX8_takesE 178 = .ok (.aload_n 0, 1) := by decide +kernel
theorem dX8_takesE_179 : decode cX8_takesE 179 = .ok (.getfield 65, 3) := by decide +kernel
theorem dX8_takesE_182 : decode cX8_takesE 182 = .ok (.ifCond .ne 5, 3) := by decide +kernel
theorem dX8_takesE_185 : decode cX8_takesE 185 = .ok (.iconst 1, 1) := by decide +kernel
theorem dX8_takesE_186 : decode cX8_takesE 186 = .ok (.ireturn, 1) := by decide +kernel
theorem dX8_takesE_187 : decode cX8_takesE 187 = .ok (.iload_n 3, 1) := by decide +kernel
theorem dX8_takesE_188 : decode cX8_takesE 188 = .ok (.bipush 41, 2) := by decide +kernel
theorem dX8_takesE_190 : decode cX8_takesE 190 = .ok (.if_icmp .eq 5, 3) := by decide +kernel
theorem dX8_takesE_193 : decode cX8_takesE 193 = .ok (.iconst 0, 1) := by decide +kernel
theorem dX8_takesE_194 : decode cX8_takesE 194 = .ok (.ireturn, 1) := by decide +kernel
theorem dX8_takesE_195 : decode cX8_takesE 195 = .ok (.aload_n 0, 1) := by decide +kernel
theorem dX8_takesE_196 : decode cX8_takesE 196 = .ok (.dup, 1) := by decide +kernel
theorem dX8_takesE_197 : decode cX8_takesE 197 = .ok (.getfield 65, 3) := by decide +kernel
theorem dX8_takesE_200 : decode cX8_takesE 200 = .ok (.iconst 1, 1) := by decide +kernel
theorem dX8_takesE_201 : decode cX8_takesE 201 = .ok (.isub, 1) := by decide +kernel
theorem dX8_takesE_202 : decode cX8_takesE 202 = .ok (.putfield 65, 3) := by decide +kernel
theorem dX8_takesE_205 : decode cX8_takesE 205 = .ok (.aload_n 0, 1) := by decide +kernel
theorem dX8_takesE_206 : decode cX8_takesE 206 = .ok (.dup, 1) := by decide +kernel
theorem dX8_takesE_207 : decode cX8_takesE 207 = .ok (.getfield 68, 3) := by decide +kernel
theorem dX8_takesE_210 : decode cX8_takesE 210 = .ok (.iconst 1, 1) := by decide +kernel
theorem dX8_takesE_211 : decode cX8_takesE 211 = .ok (.isub, 1) := by decide +kernel
theorem dX8_takesE_212 : decode cX8_takesE 212 = .ok (.putfield 68, 3) := by decide +kernel
theorem dX8_takesE_215 : decode cX8_takesE 215 = .ok (.aload_n 0, 1) := by decide +kernel
theorem dX8_takesE_216 : decode cX8_takesE 216 = .ok (.dup, 1) := by decide +kernel
theorem dX8_takesE_217 : decode cX8_takesE 217 = .ok (.getfield 32, 3) := by decide +kernel
theorem dX8_takesE_220 : decode cX8_takesE 220 = .ok (.iconst 1, 1) := by decide +kernel
theorem dX8_takesE_221 : decode cX8_takesE 221 = .ok (.iadd, 1) := by decide +kernel
theorem dX8_takesE_222 : decode cX8_takesE 222 = .ok (.putfield 32, 3) := by decide +kernel
theorem dX8_takesE_225 : decode cX8_takesE 225 = .ok (.aload_n 0, 1) := by decide +kernel
theorem dX8_takesE_226 : decode cX8_takesE 226 = .ok (.invokevirtual 219, 3) := by decide +kernel
theorem dX8_takesE_229 : decode cX8_takesE 229 = .ok (.goto (-207), 3) := by decide +kernel
theorem dX8_takesHead_0 : decode cX8_takesHead 0 = .ok (.aload_n 0, 1) := by decide +kernel
theorem dX8_takesHead_1 : decode cX8_takesHead 1 = .ok (.invokevirtual 197, 3) := by decide +kernel
theorem dX8_takesHead_4 : decode cX8_takesHead 4 = .ok (.lookupswitch 81 #[(104, 36), (112, 51), (115, 66)], 36) := by decide +kernel
theorem dX8_takesHead_40 : decode cX8_takesHead 40 = .ok (.aload_n 0, 1) := by decide +kernel
theorem dX8_takesHead_41 : decode cX8_takesHead 41 = .ok (.getfield 44, 3) := by decide +kernel
theorem dX8_takesHead_44 : decode cX8_takesHead 44 = .ok (.iload_n 1, 1) := by decide +kernel
theorem dX8_takesHead_45 : decode cX8_takesHead 45 = .ok (.iconst 1, 1) := by decide +kernel
theorem dX8_takesHead_46 : decode cX8_takesHead 46 = .ok (.iastore, 1) := by decide +kernel
theorem dX8_takesHead_47 : decode cX8_takesHead 47 = .ok (.aload_n 0, 1) := by decide +kernel
theorem dX8_takesHead_48 : decode cX8_takesHead 48 = .ok (.ldc 228, 2) := by decide +kernel
theorem dX8_takesHead_50 : decode cX8_takesHead 50 = .ok (.iconst 5, 1) := by decide +kernel
theorem dX8_takesHead_51 : decode cX8_takesHead 51 = .ok (.invokevirtual 229, 3) := by decide +kernel
theorem dX8_takesHead_54 : decode cX8_takesHead 54 = .ok (.ireturn, 1) := by decide +kernel
theorem dX8_takesHead_55 : decode cX8_takesHead 55 = .ok (.aload_n 0, 1) := by decide +kernel
theorem dX8_takesHead_56 : decode cX8_takesHead 56 = .ok (.getfield 44, 3) := by decide +kernel
theorem dX8_takesHead_59 : decode cX8_takesHead 59 = .ok (.iload_n 1, 1) := by decide +kernel
theorem dX8_takesHead_60 : decode cX8_takesHead 60 = .ok (.iconst 2, 1) := by decide +kernel
theorem dX8_takesHead_61 : decode cX8_takesHead 61 = .ok (.iastore, 1) := by decide +kernel
theorem dX8_takesHead_62 : decode cX8_takesHead 62 = .ok (.aload_n 0, 1) := by decide +kernel
theorem dX8_takesHead_63 : decode cX8_takesHead 63 = .ok (.ldc 233, 2) := by decide +kernel
theorem dX8_takesHead_65 : decode cX8_takesHead 65 = .ok (.iconst 5, 1) := by decide +kernel
theorem dX8_takesHead_66 : decode cX8_takesHead 66 = .ok (.invokevirtual 229, 3) := by decide +kernel
theorem dX8_takesHead_69 : decode cX8_takesHead 69 = .ok (.ireturn, 1) := by decide +kernel
theorem dX8_takesHead_70 : decode cX8_takesHead 70 = .ok (.aload_n 0, 1) := by decide +kernel
theorem dX8_takesHead_71 : decode cX8_takesHead 71 = .ok (.getfield 44, 3) := by decide +kernel
theorem dX8_takesHead_74 : decode cX8_takesHead 74 = .ok (.iload_n 1, 1) := by decide +kernel
theorem dX8_takesHead_75 : decode cX8_takesHead 75 = .ok (.iconst 4, 1) := by decide +kernel
theorem dX8_takesHead_76 : decode cX8_takesHead 76 = .ok (.iastore, 1) := by decide +kernel
theorem dX8_takesHead_77 : decode cX8_takesHead 77 = .ok (.aload_n 0, 1) := by decide +kernel
theorem dX8_takesHead_78 : decode cX8_takesHead 78 = .ok (.ldc 234, 2) := by decide +kernel
theorem dX8_takesHead_80 : decode cX8_takesHead 80 = .ok (.iconst 5, 1) := by decide +kernel
theorem dX8_takesHead_81 : decode cX8_takesHead 81 = .ok (.invokevirtual 229, 3) := by decide +kernel
theorem dX8_takesHead_84 : decode cX8_takesHead 84 = .ok (.ireturn, 1) := by decide +kernel
theorem dX8_takesHead_85 : decode cX8_takesHead 85 = .ok (.aload_n 0, 1) := by decide +kernel
theorem dX8_takesHead_86 : decode cX8_takesHead 86 = .ok (.getfield 44, 3) := by decide +kernel
theorem dX8_takesHead_89 : decode cX8_takesHead 89 = .ok (.iload_n 1, 1) := by decide +kernel
theorem dX8_takesHead_90 : decode cX8_takesHead 90 = .ok (.aload_n 0, 1) := by decide +kernel
theorem dX8_takesHead_91 : decode cX8_takesHead 91 = .ok (.invokevirtual 235, 3) := by decide +kernel
theorem dX8_takesHead_94 : decode cX8_takesHead 94 = .ok (.bipush 116, 2) := by decide +kernel
theorem dX8_takesHead_96 : decode cX8_takesHead 96 = .ok (.if_icmp .ne 7, 3) := by decide +kernel
theorem dX8_takesHead_99 : decode cX8_takesHead 99 = .ok (.iconst 3, 1) := by decide +kernel
theorem dX8_takesHead_100 : decode cX8_takesHead 100 = .ok (.goto 4, 3) := by decide +kernel
theorem dX8_takesHead_103 : decode cX8_takesHead 103 = .ok (.iconst 0, 1) := by decide +kernel
theorem dX8_takesHead_104 : decode cX8_takesHead 104 = .ok (.iastore, 1) := by decide +kernel
theorem dX8_takesHead_105 : decode cX8_takesHead 105 = .ok (.aload_n 0, 1) := by decide +kernel
theorem dX8_takesHead_106 : decode cX8_takesHead 106 = .ok (.getfield 44, 3) := by decide +kernel
theorem dX8_takesHead_109 : decode cX8_takesHead 109 = .ok (.iload_n 1, 1) := by decide +kernel
theorem dX8_takesHead_110 : decode cX8_takesHead 110 = .ok (.iaload, 1) := by decide +kernel
theorem dX8_takesHead_111 : decode cX8_takesHead 111 = .ok (.iconst 3, 1) := by decide +kernel
theorem dX8_takesHead_112 : decode cX8_takesHead 112 = .ok (.if_icmp .ne 13, 3) := by decide +kernel
theorem dX8_takesHead_115 : decode cX8_takesHead 115 = .ok (.aload_n 0, 1) := by decide +kernel
theorem dX8_takesHead_116 : decode cX8_takesHead 116 = .ok (.ldc 238, 2) := by decide +kernel
theorem dX8_takesHead_118 : decode cX8_takesHead 118 = .ok (.iconst 5, 1) := by decide +kernel
theorem dX8_takesHead_119 : decode cX8_takesHead 119 = .ok (.invokevirtual 229, 3) := by decide +kernel
theorem dX8_takesHead_122 : decode cX8_takesHead 122 = .ok (.goto 11, 3) := by decide +kernel
theorem dX8_takesHead_125 : decode cX8_takesHead 125 = .ok (.aload_n 0, 1) := by decide +kernel
theorem dX8_takesHead_126 : decode cX8_takesHead 126 = .ok (.sipush 23609, 3) := by decide +kernel
theorem dX8_takesHead_129 : decode cX8_takesHead 129 = .ok (.iconst 3, 1) := by decide +kernel
theorem dX8_takesHead_130 : decode cX8_takesHead 130 = .ok (.invokevirtual 229, 3) := by decide +kernel
theorem dX8_takesHead_133 : decode cX8_takesHead 133 = .ok (.ireturn, 1) := by decide +kernel
theorem dX8_takesClause_0 : decode cX8_takesClause 0 = .ok (.aload_n 0, 1) := by decide +kernel
theorem dX8_takesClause_1 : decode cX8_takesClause 1 = .ok (.iload_n 1, 1) := by decide +kernel
theorem dX8_takesClause_2 : decode cX8_takesClause 2 = .ok (.invokevirtual 239, 3) := by decide +kernel
theorem dX8_takesClause_5 : decode cX8_takesClause 5 = .ok (.ifCond .eq 11, 3) := by decide +kernel
theorem dX8_takesClause_8 : decode cX8_takesClause 8 = .ok (.aload_n 0, 1) := by decide +kernel
theorem dX8_takesClause_9 : decode cX8_takesClause 9 = .ok (.iconst 3, 1) := by decide +kernel
theorem dX8_takesClause_10 : decode cX8_takesClause 10 = .ok (.invokevirtual 216, 3) := by decide +kernel
theorem dX8_takesClause_13 : decode cX8_takesClause 13 = .ok (.ifCond .ne 5, 3) := by decide +kernel
theorem dX8_takesClause_16 : decode cX8_takesClause 16 = .ok (.iconst 0, 1) := by decide +kernel
theorem dX8_takesClause_17 : decode cX8_takesClause 17 = .ok (.ireturn, 1) := by decide +kernel
theorem dX8_takesClause_18 : decode cX8_takesClause 18 = .ok (.aload_n 0, 1) := by decide +kernel
theorem dX8_takesClause_19 : decode cX8_takesClause 19 = .ok (.getfield 47, 3) := by decide +kernel
theorem dX8_takesClause_22 : decode cX8_takesClause 22 = .ok (.iload_n 1, 1) := by decide +kernel
theorem dX8_takesClause_23 : decode cX8_takesClause 23 = .ok (.aload_n 0, 1) := by decide +kernel
theorem dX8_takesClause_24 : decode cX8_takesClause 24 = .ok (.getfield 35, 3) := by decide +kernel
theorem dX8_takesClause_27 : decode cX8_takesClause 27 = .ok (.iastore, 1) := by decide +kernel
theorem dX8_takesClause_28 : decode cX8_takesClause 28 = .ok (.aload_n 0, 1) := by decide +kernel
theorem dX8_takesClause_29 : decode cX8_takesClause 29 = .ok (.getfield 44, 3) := by decide +kernel
theorem dX8_takesClause_32 : decode cX8_takesClause 32 = .ok (.iload_n 1, 1) := by decide +kernel
theorem dX8_takesClause_33 : decode cX8_takesClause 33 = .ok (.iaload, 1) := by decide +kernel
theorem dX8_takesClause_34 : decode cX8_takesClause 34 = .ok (.iconst 1, 1) := by decide +kernel
theorem dX8_takesClause_35 : decode cX8_takesClause 35 = .ok (.if_icmp .gt 20, 3) := by decide +kernel
theorem dX8_takesClause_38 : decode cX8_takesClause 38 = .ok (.aload_n 0, 1) := by decide +kernel
theorem dX8_takesClause_39 : decode cX8_takesClause 39 = .ok (.bipush 32, 2) := by decide +kernel
theorem dX8_takesClause_41 : decode cX8_takesClause 41 = .ok (.invokevirtual 201, 3) := by decide +kernel
theorem dX8_takesClause_44 : decode cX8_takesClause 44 = .ok (.ifCond .eq 15, 3) := by decide +kernel
theorem dX8_takesClause_47 : decode cX8_takesClause 47 = .ok (.aload_n 0, 1) := by decide +kernel
theorem dX8_takesClause_48 : decode cX8_takesClause 48 = .ok (.iload_n 1, 1) := by decide +kernel
theorem dX8_takesClause_49 : decode cX8_takesClause 49 = .ok (.invokevirtual 242, 3) := by decide +kernel
theorem dX8_takesClause_52 : decode cX8_takesClause 52 = .ok (.ifCond .eq 7, 3) := by decide +kernel
theorem dX8_takesClause_55 : decode cX8_takesClause 55 = .ok (.iconst 1, 1) := by decide +kernel
theorem dX8_takesClause_56 : decode cX8_takesClause 56 = .ok (.goto 4, 3) := by decide +kernel
theorem dX8_takesClause_59 : decode cX8_takesClause 59 = .ok (.iconst 0, 1) := by decide +kernel
theorem dX8_takesClause_60 : decode cX8_takesClause 60 = .ok (.ireturn, 1) := by decide +kernel
theorem dX8_goesText_0 : decode cX8_goesText 0 = .ok (.aload_n 0, 1) := by decide +kernel
theorem dX8_goesText_1 : decode cX8_goesText 1 = .ok (.iconst 0, 1) := by decide +kernel
theorem dX8_goesText_2 : decode cX8_goesText 2 = .ok (.putfield 32, 3) := by decide +kernel
theorem dX8_goesText_5 : decode cX8_goesText 5 = .ok (.aload_n 0, 1) := by decide +kernel
theorem dX8_goesText_6 : decode cX8_goesText 6 = .ok (.bipush 100, 2) := by decide +kernel
theorem dX8_goesText_8 : decode cX8_goesText 8 = .ok (.iload_n 1, 1) := by decide +kernel
theorem dX8_goesText_9 : decode cX8_goesText 9 = .ok (.imul, 1) := by decide +kernel
theorem dX8_goesText_10 : decode cX8_goesText 10 = .ok (.putfield 62, 3) := by decide +kernel
theorem dX8_goesText_13 : decode cX8_goesText 13 = .ok (.iconst 0, 1) := by decide +kernel
theorem dX8_goesText_14 : decode cX8_goesText 14 = .ok (.istore_n 2, 1) := by decide +kernel
theorem dX8_goesText_15 : decode cX8_goesText 15 = .ok (.aload_n 0, 1) := by decide +kernel
theorem dX8_goesText_16 : decode cX8_goesText 16 = .ok (.bipush 10, 2) := by decide +kernel
theorem dX8_goesText_18 : decode cX8_goesText 18 = .ok (.iload_n 1, 1) := by decide +kernel
theorem dX8_goesText_19 : decode cX8_goesText 19 = .ok (.imul, 1) := by decide +kernel
theorem dX8_goesText_20 : decode cX8_goesText 20 = .ok (.iload_n 2, 1) := by decide +kernel
theorem dX8_goesText_21 : decode cX8_goesText 21 = .ok (.iadd, 1) := by decide +kernel
theorem dX8_goesText_22 : decode cX8_goesText 22 = .ok (.invokevirtual 245, 3) := by decide +kernel
theorem dX8_goesText_25 : decode cX8_goesText 25 = .ok (.ifCond .ne 5, 3) := by decide +kernel
theorem dX8_goesText_28 : decode cX8_goesText 28 = .ok (.iconst 0, 1) := by decide +kernel
theorem dX8_goesText_29 : decode cX8_goesText 29 = .ok (.ireturn, 1) := by decide +kernel
theorem dX8_goesText_30 : decode cX8_goesText 30 = .ok (.iinc 2 1, 3) := by decide +kernel
theorem dX8_goesText_33 : decode cX8_goesText 33 = .ok (.aload_n 0, 1) := by decide +kernel
theorem dX8_goesText_34 : decode cX8_goesText 34 = .ok (.getfield 41, 3) := by decide +kernel
theorem dX8_goesText_37 : decode cX8_goesText 37 = .ok (.iload_n 1, 1) := by decide +kernel
theorem dX8_goesText_38 : decode cX8_goesText 38 = .ok (.iload_n 2, 1) := by decide +kernel
theorem dX8_goesText_39 : decode cX8_goesText 39 = .ok (.iastore, 1) := by decide +kernel
theorem dX8_goesText_40 : decode cX8_goesText 40 = .ok (.aload_n 0, 1) := by decide +kernel
theorem dX8_goesText_41 : decode cX8_goesText 41 = .ok (.getfield 32, 3) := by decide +kernel
theorem dX8_goesText_44 : decode cX8_goesText 44 = .ok (.aload_n 0, 1) := by decide +kernel
theorem dX8_goesText_45 : decode cX8_goesText 45 = .ok (.getfield 29, 3) := by decide +kernel
theorem dX8_goesText_48 : decode cX8_goesText 48 = .ok (.if_icmp .ne 5, 3) := by decide +kernel
theorem dX8_goesText_51 : decode cX8_goesText 51 = .ok (.iconst 1, 1) := by decide +kernel
theorem dX8_goesText_52 : decode cX8_goesText 52 = .ok (.ireturn, 1) := by decide +kernel
theorem dX8_goesText_53 : decode cX8_goesText 53 = .ok (.iload_n 2, 1) := by decide +kernel
theorem dX8_goesText_54 : decode cX8_goesText 54 = .ok (.bipush 10, 2) := by decide +kernel
theorem dX8_goesText_56 : decode cX8_goesText 56 = .ok (.if_icmp .eq 12, 3) := by decide +kernel
theorem dX8_goesText_59 : decode cX8_goesText 59 = .ok (.aload_n 0, 1) := by decide +kernel
theorem dX8_goesText_60 : decode cX8_goesText 60 = .ok (.bipush 59, 2) := by decide +kernel
theorem dX8_goesText_62 : decode cX8_goesText 62 = .ok (.invokevirtual 201, 3) := by decide +kernel
theorem dX8_goesText_65 : decode cX8_goesText 65 = .ok (.ifCond .ne (-50), 3) := by decide +kernel
theorem dX8_goesText_68 : decode cX8_goesText 68 = .ok (.iconst 0, 1) := by decide +kernel
theorem dX8_goesText_69 : decode cX8_goesText 69 = .ok (.ireturn, 1) := by decide +kernel
theorem dX8_law_0 : decode cX8_law 0 = .ok (.aload_n 0, 1) := by decide +kernel
theorem dX8_law_1 : decode cX8_law 1 = .ok (.getfield 23, 3) := by decide +kernel
theorem dX8_law_4 : decode cX8_law 4 = .ok (.bipush 6, 2) := by decide +kernel
theorem dX8_law_6 : decode cX8_law 6 = .ok (.if_icmp .ne 6, 3) := by decide +kernel
theorem dX8_law_9 : decode cX8_law 9 = .ok (.bipush (-4), 2) := by decide +kernel
theorem dX8_law_11 : decode cX8_law 11 = .ok (.ireturn, 1) := by decide +kernel
theorem dX8_law_12 : decode cX8_law 12 = .ok (.aload_n 0, 1) := by decide +kernel
theorem dX8_law_13 : decode cX8_law 13 = .ok (.aload_n 0, 1) := by decide +kernel
theorem dX8_law_14 : decode cX8_law 14 = .ok (.getfield 23, 3) := by decide +kernel
theorem dX8_law_17 : decode cX8_law 17 = .ok (.invokevirtual 248, 3) := by decide +kernel
theorem dX8_law_20 : decode cX8_law 20 = .ok (.istore_n 1, 1) := by decide +kernel
theorem dX8_law_21 : decode cX8_law 21 = .ok (.aload_n 0, 1) := by decide +kernel
theorem dX8_law_22 : decode cX8_law 22 = .ok (.iconst 0, 1) := by decide +kernel
theorem dX8_law_23 : decode cX8_law 23 = .ok (.putfield 29, 3) := by decide +kernel
theorem dX8_law_26 : decode cX8_law 26 = .ok (.iload_n 1, 1) := by decide +kernel
theorem dX8_law_27 : decode cX8_law 27 = .ok (.ifCond .ne 11, 3) := by decide +kernel
theorem dX8_law_30 : decode cX8_law 30 = .ok (.bipush (-10), 2) := by decide +kernel
theorem dX8_law_32 : decode cX8_law 32 = .ok (.aload_n 0, 1) := by decide +kernel
theorem dX8_law_33 : decode cX8_law 33 = .ok (.getfield 32, 3) := by decide +kernel
theorem dX8_law_36 : decode cX8_law 36 = .ok (.isub, 1) := by decide +kernel
theorem dX8_law_37 : decode cX8_law 37 = .ok (.ireturn, 1) := by decide +kernel
theorem dX8_law_38 : decode cX8_law 38 = .ok (.aload_n 0, 1) := by decide +kernel
theorem dX8_law_39 : decode cX8_law 39 = .ok (.aload_n 0, 1) := by decide +kernel
theorem dX8_law_40 : decode cX8_law 40 = .ok (.getfield 23, 3) := by decide +kernel
theorem dX8_law_43 : decode cX8_law 43 = .ok (.putfield 26, 3) := by decide +kernel
theorem dX8_law_46 : decode cX8_law 46 = .ok (.aload_n 0, 1) := by decide +kernel
theorem dX8_law_47 : decode cX8_law 47 = .ok (.dup, 1) := by decide +kernel
theorem dX8_law_48 : decode cX8_law 48 = .ok (.getfield 23, 3) := by decide +kernel
theorem dX8_law_51 : decode cX8_law 51 = .ok (.iconst 1, 1) := by decide +kernel
theorem dX8_law_52 : decode cX8_law 52 = .ok (.iadd, 1) := by decide +kernel
theorem dX8_law_53 : decode cX8_law 53 = .ok (.putfield 23, 3) := by decide +kernel
theorem dX8_law_56 : decode cX8_law 56 = .ok (.aload_n 0, 1) := by decide +kernel
theorem dX8_law_57 : decode cX8_law 57 = .ok (.getfield 26, 3) := by decide +kernel
theorem dX8_law_60 : decode cX8_law 60 = .ok (.ireturn, 1) := by decide +kernel
theorem dX8_first_0 : decode cX8_first 0 = .ok (.aload_n 0, 1) := by decide +kernel
theorem dX8_first_1 : decode cX8_first 1 = .ok (.getfield 26, 3) := by decide +kernel
theorem dX8_first_4 : decode cX8_first 4 = .ok (.ifCond .ge 7, 3) := by decide +kernel
theorem dX8_first_7 : decode cX8_first 7 = .ok (.iconst 0, 1) := by decide +kernel
theorem dX8_first_8 : decode cX8_first 8 = .ok (.goto 10, 3) := by decide +kernel
theorem dX8_first_11 : decode cX8_first 11 = .ok (.bipush 10, 2) := by decide +kernel
theorem dX8_first_13 : decode cX8_first 13 = .ok (.aload_n 0, 1) := by decide +kernel
theorem dX8_first_14 : decode cX8_first 14 = .ok (.getfield 26, 3) := by decide +kernel
theorem dX8_first_17 : decode cX8_first 17 = .ok (.imul, 1) := by decide +kernel
theorem dX8_first_18 : decode cX8_first 18 = .ok (.ireturn, 1) := by decide +kernel
theorem dX8_behind_0 : decode cX8_behind 0 = .ok (.aload_n 0, 1) := by decide +kernel
theorem dX8_behind_1 : decode cX8_behind 1 = .ok (.getfield 26, 3) := by decide +kernel
theorem dX8_behind_4 : decode cX8_behind 4 = .ok (.ifCond .ge 7, 3) := by decide +kernel
theorem dX8_behind_7 : decode cX8_behind 7 = .ok (.iconst 0, 1) := by decide +kernel
theorem dX8_behind_8 : decode cX8_behind 8 = .ok (.goto 20, 3) := by decide +kernel
theorem dX8_behind_11 : decode cX8_behind 11 = .ok (.bipush 10, 2) := by decide +kernel
theorem dX8_behind_13 : decode cX8_behind 13 = .ok (.aload_n 0, 1) := by decide +kernel
theorem dX8_behind_14 : decode cX8_behind 14 = .ok (.getfield 26, 3) := by decide +kernel
theorem dX8_behind_17 : decode cX8_behind 17 = .ok (.imul, 1) := by decide +kernel
theorem dX8_behind_18 : decode cX8_behind 18 = .ok (.aload_n 0, 1) := by decide +kernel
theorem dX8_behind_19 : decode cX8_behind 19 = .ok (.getfield 41, 3) := by decide +kernel
theorem dX8_behind_22 : decode cX8_behind 22 = .ok (.aload_n 0, 1) := by decide +kernel
theorem dX8_behind_23 : decode cX8_behind 23 = .ok (.getfield 26, 3) := by decide +kernel
theorem dX8_behind_26 : decode cX8_behind 26 = .ok (.iaload, 1) := by decide +kernel
theorem dX8_behind_27 : decode cX8_behind 27 = .ok (.iadd, 1) := by decide +kernel
theorem dX8_behind_28 : decode cX8_behind 28 = .ok (.ireturn, 1) := by decide +kernel
theorem dX8_last_0 : decode cX8_last 0 = .ok (.iload_n 2, 1) := by decide +kernel
theorem dX8_last_1 : decode cX8_last 1 = .ok (.istore_n 3, 1) := by decide +kernel
theorem dX8_last_2 : decode cX8_last 2 = .ok (.aload_n 0, 1) := by decide +kernel
theorem dX8_last_3 : decode cX8_last 3 = .ok (.invokevirtual 251, 3) := by decide +kernel
theorem dX8_last_6 : decode cX8_last 6 = .ok (.istore 4, 2) := by decide +kernel
theorem dX8_last_8 : decode cX8_last 8 = .ok (.iload 4, 2) := by decide +kernel
theorem dX8_last_10 : decode cX8_last 10 = .ok (.aload_n 0, 1) := by decide +kernel
theorem dX8_last_11 : decode cX8_last 11 = .ok (.invokevirtual 254, 3) := by decide +kernel
theorem dX8_last_14 : decode cX8_last 14 = .ok (.if_icmp .ge 32, 3) := by decide +kernel
theorem dX8_last_17 : decode cX8_last 17 = .ok (.aload_n 0, 1) := by decide +kernel
theorem dX8_last_18 : decode cX8_last 18 = .ok (.getfield 44, 3) := by decide +kernel
theorem dX8_last_21 : decode cX8_last 21 = .ok (.iload 4, 2) := by decide +kernel
theorem dX8_last_23 : decode cX8_last 23 = .ok (.iaload, 1) := by decide +kernel
theorem dX8_last_24 : decode cX8_last 24 = .ok (.iload_n 1, 1) := by decide +kernel
theorem dX8_last_25 : decode cX8_last 25 = .ok (.if_icmp .ne 13, 3) := by decide +kernel
theorem dX8_last_28 : decode cX8_last 28 = .ok (.aload_n 0, 1) := by decide +kernel
theorem dX8_last_29 : decode cX8_last 29 = .ok (.getfield 47, 3) := by decide +kernel
theorem dX8_last_32 : decode cX8_last 32 = .ok (.iload 4, 2) := by decide +kernel
theorem dX8_last_34 : decode cX8_last 34 = .ok (.iaload, 1) := by decide +kernel
theorem dX8_last_35 : decode cX8_last 35 = .ok (.goto 4, 3) := by decide +kernel
theorem dX8_last_38 : decode cX8_last 38 = .ok (.iload_n 3, 1) := by decide +kernel
theorem dX8_last_39 : decode cX8_last 39 = .ok (.istore_n 3, 1) := by decide +kernel
theorem dX8_last_40 : decode cX8_last 40 = .ok (.iinc 4 1, 3) := by decide +kernel
theorem dX8_last_43 : decode cX8_last 43 = .ok (.goto (-35), 3) := by decide +kernel
theorem dX8_last_46 : decode cX8_last 46 = .ok (.iload_n 3, 1) := by decide +kernel
theorem dX8_last_47 : decode cX8_last 47 = .ok (.ireturn, 1) := by decide +kernel
theorem dX8_ask_0 : decode cX8_ask 0 = .ok (.aload_n 0, 1) := by decide +kernel
theorem dX8_ask_1 : decode cX8_ask 1 = .ok (.getfield 71, 3) := by decide +kernel
theorem dX8_ask_4 : decode cX8_ask 4 = .ok (.iconst 0, 1) := by decide +kernel
theorem dX8_ask_5 : decode cX8_ask 5 = .ok (.iload_n 1, 1) := by decide +kernel
theorem dX8_ask_6 : decode cX8_ask 6 = .ok (.iastore, 1) := by decide +kernel
theorem dX8_ask_7 : decode cX8_ask 7 = .ok (.aload_n 0, 1) := by decide +kernel
theorem dX8_ask_8 : decode cX8_ask 8 = .ok (.getfield 71, 3) := by decide +kernel
theorem dX8_ask_11 : decode cX8_ask 11 = .ok (.iconst 1, 1) := by decide +kernel
theorem dX8_ask_12 : decode cX8_ask 12 = .ok (.iload_n 2, 1) := by decide +kernel
theorem dX8_ask_13 : decode cX8_ask 13 = .ok (.iastore, 1) := by decide +kernel
theorem dX8_ask_14 : decode cX8_ask 14 = .ok (.aload_n 0, 1) := by decide +kernel
theorem dX8_ask_15 : decode cX8_ask 15 = .ok (.getfield 71, 3) := by decide +kernel
theorem dX8_ask_18 : decode cX8_ask 18 = .ok (.iconst 2, 1) := by decide +kernel
theorem dX8_ask_19 : decode cX8_ask 19 = .ok (.iload_n 3, 1) := by decide +kernel
theorem dX8_ask_20 : decode cX8_ask 20 = .ok (.iastore, 1) := by decide +kernel
theorem dX8_ask_21 : decode cX8_ask 21 = .ok (.aload_n 0, 1) := by decide +kernel
theorem dX8_ask_22 : decode cX8_ask 22 = .ok (.getfield 71, 3) := by decide +kernel
theorem dX8_ask_25 : decode cX8_ask 25 = .ok (.iconst 3, 1) := by decide +kernel
theorem dX8_ask_26 : decode cX8_ask 26 = .ok (.iload 4, 2) := by decide +kernel
theorem dX8_ask_28 : decode cX8_ask 28 = .ok (.iastore, 1) := by decide +kernel
theorem dX8_ask_29 : decode cX8_ask 29 = .ok (.aload_n 0, 1) := by decide +kernel
theorem dX8_ask_30 : decode cX8_ask 30 = .ok (.getfield 71, 3) := by decide +kernel
theorem dX8_ask_33 : decode cX8_ask 33 = .ok (.iconst 4, 1) := by decide +kernel
theorem dX8_ask_34 : decode cX8_ask 34 = .ok (.iload 5, 2) := by decide +kernel
theorem dX8_ask_36 : decode cX8_ask 36 = .ok (.iastore, 1) := by decide +kernel
theorem dX8_ask_37 : decode cX8_ask 37 = .ok (.return_, 1) := by decide +kernel
theorem dX8_holds_0 : decode cX8_holds 0 = .ok (.iconst 0, 1) := by decide +kernel
theorem dX8_holds_1 : decode cX8_holds 1 = .ok (.istore_n 2, 1) := by decide +kernel
theorem dX8_holds_2 : decode cX8_holds 2 = .ok (.aload_n 0, 1) := by decide +kernel
theorem dX8_holds_3 : decode cX8_holds 3 = .ok (.getfield 50, 3) := by decide +kernel
theorem dX8_holds_6 : decode cX8_holds 6 = .ok (.iload_n 1, 1) := by decide +kernel
theorem dX8_holds_7 : decode cX8_holds 7 = .ok (.iaload, 1) := by decide +kernel
theorem dX8_holds_8 : decode cX8_holds 8 = .ok (.istore_n 3, 1) := by decide +kernel
theorem dX8_holds_9 : decode cX8_holds 9 = .ok (.iload_n 3, 1) := by decide +kernel
theorem dX8_holds_10 : decode cX8_holds 10 = .ok (.aload_n 0, 1) := by decide +kernel
theorem dX8_holds_11 : decode cX8_holds 11 = .ok (.getfield 53, 3) := by decide +kernel
theorem dX8_holds_14 : decode cX8_holds 14 = .ok (.iload_n 1, 1) := by decide +kernel
theorem dX8_holds_15 : decode cX8_holds 15 = .ok (.iaload, 1) := by decide +kernel
theorem dX8_holds_16 : decode cX8_holds 16 = .ok (.if_icmp .ge 224, 3) := by decide +kernel
theorem dX8_holds_19 : decode cX8_holds 19 = .ok (.aload_n 0, 1) := by decide +kernel
theorem dX8_holds_20 : decode cX8_holds 20 = .ok (.getfield 56, 3) := by decide +kernel
theorem dX8_holds_23 : decode cX8_holds 23 = .ok (.iload_n 3, 1) := by decide +kernel
theorem dX8_holds_24 : decode cX8_holds 24 = .ok (.iaload, 1) := by decide +kernel
theorem dX8_holds_25 : decode cX8_holds 25 = .ok (.istore 4, 2) := by decide +kernel
theorem dX8_holds_27 : decode cX8_holds 27 = .ok (.iload 4, 2) := by decide +kernel
theorem dX8_holds_29 : decode cX8_holds 29 = .ok (.bipush (-33), 2) := by decide +kernel
theorem dX8_holds_31 : decode cX8_holds 31 = .ok (.if_icmp .ne 30, 3) := by decide +kernel
theorem dX8_holds_34 : decode cX8_holds 34 = .ok (.aload_n 0, 1) := by decide +kernel
theorem dX8_holds_35 : decode cX8_holds 35 = .ok (.getfield 74, 3) := by decide +kernel
theorem dX8_holds_38 : decode cX8_holds 38 = .ok (.iload_n 2, 1) := by decide +kernel
theorem dX8_holds_39 : decode cX8_holds 39 = .ok (.iconst 1, 1) := by decide +kernel
theorem dX8_holds_40 : decode cX8_holds 40 = .ok (.isub, 1) := by decide +kernel
theorem dX8_holds_41 : decode cX8_holds 41 = .ok (.aload_n 0, 1) := by decide +kernel
theorem dX8_holds_42 : decode cX8_holds 42 = .ok (.getfield 74, 3) := by decide +kernel
theorem dX8_holds_45 : decode cX8_holds 45 = .ok (.iload_n 2, 1) := by decide +kernel
theorem dX8_holds_46 : decode cX8_holds 46 = .ok (.iconst 1, 1) := by decide +kernel
theorem dX8_holds_47 : decode cX8_holds 47 = .ok (.isub, 1) := by decide +kernel
theorem dX8_holds_48 : decode cX8_holds 48 = .ok (.baload, 1) := by decide +kernel
theorem dX8_holds_49 : decode cX8_holds 49 = .ok (.ifCond .ne 7, 3) := by decide +kernel
theorem dX8_holds_52 : decode cX8_holds 52 = .ok (.iconst 1, 1) := by decide +kernel
theorem dX8_holds_53 : decode cX8_holds 53 = .ok (.goto 4, 3) := by decide +kernel
theorem dX8_holds_56 : decode cX8_holds 56 = .ok (.iconst 0, 1) := by decide +kernel
theorem dX8_holds_57 : decode cX8_holds 57 = .ok (.bastore, 1) := by decide +kernel
theorem dX8_holds_58 : decode cX8_holds 58 = .ok (.goto 176, 3) := by decide +kernel
theorem dX8_holds_61 : decode cX8_holds 61 = .ok (.iload 4, 2) := by decide +kernel
theorem dX8_holds_63 : decode cX8_holds 63 = .ok (.ifCond .ge 77, 3) := by decide +kernel
theorem dX8_holds_66 : decode cX8_holds 66 = .ok (.iinc 2 (-1), 3) := by decide +kernel
theorem dX8_holds_69 : decode cX8_holds 69 = .ok (.aload_n 0, 1) := by decide +kernel
theorem dX8_holds_70 : decode cX8_holds 70 = .ok (.getfield 74, 3) := by decide +kernel
theorem dX8_holds_73 : decode cX8_holds 73 = .ok (.iload_n 2, 1) := by decide +kernel
theorem dX8_holds_74 : decode cX8_holds 74 = .ok (.iconst 1, 1) := by decide +kernel
theorem dX8_holds_75 : decode cX8_holds 75 = .ok (.isub, 1) := by decide +kernel
theorem dX8_holds_76 : decode cX8_holds 76 = .ok (.iload 4, 2) := by decide +kernel
theorem dX8_holds_78 : decode cX8_holds 78 = .ok (.bipush (-38), 2) := by decide +kernel
theorem dX8_holds_80 : decode cX8_holds 80 = .ok (.if_icmp .ne 31, 3) := by decide +kernel
theorem dX8_holds_83 : decode cX8_holds 83 = .ok (.aload_n 0, 1) := by decide +kernel
theorem dX8_holds_84 : decode cX8_holds 84 = .ok (.getfield 74, 3) := by decide +kernel
theorem dX8_holds_87 : decode cX8_holds 87 = .ok (.iload_n 2, 1) := by decide +kernel
theorem dX8_holds_88 : decode cX8_holds 88 = .ok (.iconst 1, 1) := by decide +kernel
theorem dX8_holds_89 : decode cX8_holds 89 = .ok (.isub, 1) := by decide +kernel
theorem dX8_holds_90 : decode cX8_holds 90 = .ok (.baload, 1) := by decide +kernel
theorem dX8_holds_91 : decode cX8_holds 91 = .ok (.ifCond .eq 16, 3) := by decide +kernel
theorem dX8_holds_94 : decode cX8_holds 94 = .ok (.aload_n 0, 1) := by decide +kernel
theorem dX8_holds_95 : decode cX8_holds 95 = .ok (.getfield 74, 3) := by decide +kernel
theorem dX8_holds_98 : decode cX8_holds 98 = .ok (.iload_n 2, 1) := by decide +kernel
theorem dX8_holds_99 : decode cX8_holds 99 = .ok (.baload, 1) := by decide +kernel
theorem dX8_holds_100 : decode cX8_holds 100 = .ok (.ifCond .eq 7, 3) := by decide +kernel
theorem dX8_holds_103 : decode cX8_holds 103 = .ok (.iconst 1, 1) := by decide +kernel
theorem dX8_holds_104 : decode cX8_holds 104 = .ok (.goto 32, 3) := by decide +kernel
theorem dX8_holds_107 : decode cX8_holds 107 = .ok (.iconst 0, 1) := by decide +kernel
theorem dX8_holds_108 : decode cX8_holds 108 = .ok (.goto 28, 3) := by decide +kernel
theorem dX8_holds_111 : decode cX8_holds 111 = .ok (.aload_n 0, 1) := by decide +kernel
theorem dX8_holds_112 : decode cX8_holds 112 = .ok (.getfield 74, 3) := by decide +kernel
theorem dX8_holds_115 : decode cX8_holds 115 = .ok (.iload_n 2, 1) := by decide +kernel
theorem dX8_holds_116 : decode cX8_holds 116 = .ok (.iconst 1, 1) := by decide +kernel
theorem dX8_holds_117 : decode cX8_holds 117 = .ok (.isub, 1) := by decide +kernel
theorem dX8_holds_118 : decode cX8_holds 118 = .ok (.baload, 1) := by decide +kernel
theorem dX8_holds_119 : decode cX8_holds 119 = .ok (.ifCond .ne 12, 3) := by decide +kernel
theorem dX8_holds_122 : decode cX8_holds 122 = .ok (.aload_n 0, 1) := by decide +kernel
theorem dX8_holds_123 : decode cX8_holds 123 = .ok (.getfield 74, 3) := by decide +kernel
theorem dX8_holds_126 : decode cX8_holds 126 = .ok (.iload_n 2, 1) := by decide +kernel
theorem dX8_holds_127 : decode cX8_holds 127 = .ok (.baload, 1) := by decide +kernel
theorem dX8_holds_128 : decode cX8_holds 128 = .ok (.ifCond .eq 7, 3) := by decide +kernel
theorem dX8_holds_131 : decode cX8_holds 131 = .ok (.iconst 1, 1) := by decide +kernel
theorem dX8_holds_132 : decode cX8_holds 132 = .ok (.goto 4, 3) := by decide +kernel
theorem dX8_holds_135 : decode cX8_holds 135 = .ok (.iconst 0, 1) := by decide +kernel
theorem dX8_holds_136 : decode cX8_holds 136 = .ok (.bastore, 1) := by decide +kernel
theorem dX8_holds_137 : decode cX8_holds 137 = .ok (.goto 97, 3) := by decide +kernel
theorem dX8_holds_140 : decode cX8_holds 140 = .ok (.aload_n 0, 1) := by decide +kernel
theorem dX8_holds_141 : decode cX8_holds 141 = .ok (.getfield 71, 3) := by decide +kernel
theorem dX8_holds_144 : decode cX8_holds 144 = .ok (.iload 4, 2) := by decide +kernel
theorem dX8_holds_146 : decode cX8_holds 146 = .ok (.sipush 1000, 3) := by decide +kernel
theorem dX8_holds_149 : decode cX8_holds 149 = .ok (.idiv, 1) := by decide +kernel
theorem dX8_holds_150 : decode cX8_holds 150 = .ok (.iaload, 1) := by decide +kernel
theorem dX8_holds_151 : decode cX8_holds 151 = .ok (.istore 5, 2) := by decide +kernel
theorem dX8_holds_153 : decode cX8_holds 153 = .ok (.iload 4, 2) := by decide +kernel
theorem dX8_holds_155 : decode cX8_holds 155 = .ok (.bipush 100, 2) := by decide +kernel
theorem dX8_holds_157 : decode cX8_holds 157 = .ok (.idiv, 1) := by decide +kernel
theorem dX8_holds_158 : decode cX8_holds 158 = .ok (.bipush 10, 2) := by decide +kernel
theorem dX8_holds_160 : decode cX8_holds 160 = .ok (.irem, 1) := by decide +kernel
theorem dX8_holds_161 : decode cX8_holds 161 = .ok (.istore 6, 2) := by decide +kernel
theorem dX8_holds_163 : decode cX8_holds 163 = .ok (.aload_n 0, 1) := by decide +kernel
theorem dX8_holds_164 : decode cX8_holds 164 = .ok (.getfield 74, 3) := by decide +kernel
theorem dX8_holds_167 : decode cX8_holds 167 = .ok (.iload_n 2, 1) := by decide +kernel
theorem dX8_holds_168 : decode cX8_holds 168 = .ok (.iload 6, 2) := by decide +kernel
theorem dX8_holds_170 : decode cX8_holds 170 = .ok (.ifCond .ne 21, 3) := by decide +kernel
theorem dX8_holds_173 : decode cX8_holds 173 = .ok (.iload 5, 2) := by decide +kernel
theorem dX8_holds_175 : decode cX8_holds 175 = .ok (.iload 4, 2) := by decide +kernel
theorem dX8_holds_177 : decode cX8_holds 177 = .ok (.bipush 100, 2) := by decide +kernel
theorem dX8_holds_179 : decode cX8_holds 179 = .ok (.irem, 1) := by decide +kernel
theorem dX8_holds_180 : decode cX8_holds 180 = .ok (.if_icmp .ge 7, 3) := by decide +kernel
theorem dX8_holds_183 : decode cX8_holds 183 = .ok (.iconst 1, 1) := by decide +kernel
theorem dX8_holds_184 : decode cX8_holds 184 = .ok (.goto 46, 3) := by decide +kernel
theorem dX8_holds_187 : decode cX8_holds 187 = .ok (.iconst 0, 1) := by decide +kernel
theorem dX8_holds_188 : decode cX8_holds 188 = .ok (.goto 42, 3) := by decide +kernel
theorem dX8_holds_191 : decode cX8_holds 191 = .ok (.iload 6, 2) := by decide +kernel
theorem dX8_holds_193 : decode cX8_holds 193 = .ok (.iconst 1, 1) := by decide +kernel
theorem dX8_holds_194 : decode cX8_holds 194 = .ok (.if_icmp .ne 21, 3) := by decide +kernel
theorem dX8_holds_197 : decode cX8_holds 197 = .ok (.iload 5, 2) := by decide +kernel
theorem dX8_holds_199 : decode cX8_holds 199 = .ok (.iload 4, 2) := by decide +kernel
theorem dX8_holds_201 : decode cX8_holds 201 = .ok (.bipush 100, 2) := by decide +kernel
theorem dX8_holds_203 : decode cX8_holds 203 = .ok (.irem, 1) := by decide +kernel
theorem dX8_holds_204 : decode cX8_holds 204 = .ok (.if_icmp .ne 7, 3) := by decide +kernel
theorem dX8_holds_207 : decode cX8_holds 207 = .ok (.iconst 1, 1) := by decide +kernel
theorem dX8_holds_208 : decode cX8_holds 208 = .ok (.goto 22, 3) := by decide +kernel
theorem dX8_holds_211 : decode cX8_holds 211 = .ok (.iconst 0, 1) := by decide +kernel
theorem dX8_holds_212 : decode cX8_holds 212 = .ok (.goto 18, 3) := by decide +kernel
theorem dX8_holds_215 : decode cX8_holds 215 = .ok (.iload 5, 2) := by decide +kernel
theorem dX8_holds_217 : decode cX8_holds 217 = .ok (.iload 4, 2) := by decide +kernel
theorem dX8_holds_219 : decode cX8_holds 219 = .ok (.bipush 100, 2) := by decide +kernel
theorem dX8_holds_221 : decode cX8_holds 221 = .ok (.irem, 1) := by decide +kernel
theorem dX8_holds_222 : decode cX8_holds 222 = .ok (.if_icmp .le 7, 3) := by decide +kernel
theorem dX8_holds_225 : decode cX8_holds 225 = .ok (.iconst 1, 1) := by decide +kernel
theorem dX8_holds_226 : decode cX8_holds 226 = .ok (.goto 4, 3) := by decide +kernel
theorem dX8_holds_229 : decode cX8_holds 229 = .ok (.iconst 0, 1) := by decide +kernel
theorem dX8_holds_230 : decode cX8_holds 230 = .ok (.bastore, 1) := by decide +kernel
theorem dX8_holds_231 : decode cX8_holds 231 = .ok (.iinc 2 1, 3) := by decide +kernel
theorem dX8_holds_234 : decode cX8_holds 234 = .ok (.iinc 3 1, 3) := by decide +kernel
theorem dX8_holds_237 : decode cX8_holds 237 = .ok (.goto (-228), 3) := by decide +kernel
theorem dX8_holds_240 : decode cX8_holds 240 = .ok (.aload_n 0, 1) := by decide +kernel
theorem dX8_holds_241 : decode cX8_holds 241 = .ok (.getfield 74, 3) := by decide +kernel
theorem dX8_holds_244 : decode cX8_holds 244 = .ok (.iconst 0, 1) := by decide +kernel
theorem dX8_holds_245 : decode cX8_holds 245 = .ok (.baload, 1) := by decide +kernel
theorem dX8_holds_246 : decode cX8_holds 246 = .ok (.ireturn, 1) := by decide +kernel
theorem dX8_goesIn_0 : decode cX8_goesIn 0 = .ok (.aload_n 0, 1) := by decide +kernel
theorem dX8_goesIn_1 : decode cX8_goesIn 1 = .ok (.getfield 17, 3) := by decide +kernel
theorem dX8_goesIn_4 : decode cX8_goesIn 4 = .ok (.bipush 8, 2) := by decide +kernel
theorem dX8_goesIn_6 : decode cX8_goesIn 6 = .ok (.iload_n 1, 1) := by decide +kernel
theorem dX8_goesIn_7 : decode cX8_goesIn 7 = .ok (.imul, 1) := by decide +kernel
theorem dX8_goesIn_8 : decode cX8_goesIn 8 = .ok (.iload_n 2, 1) := by decide +kernel
theorem dX8_goesIn_9 : decode cX8_goesIn 9 = .ok (.iadd, 1) := by decide +kernel
theorem dX8_goesIn_10 : decode cX8_goesIn 10 = .ok (.iaload, 1) := by decide +kernel
theorem dX8_goesIn_11 : decode cX8_goesIn 11 = .ok (.istore_n 3, 1) := by decide +kernel
theorem dX8_goesIn_12 : decode cX8_goesIn 12 = .ok (.iload_n 1, 1) := by decide +kernel
theorem dX8_goesIn_13 : decode cX8_goesIn 13 = .ok (.iload_n 2, 1) := by decide +kernel
theorem dX8_goesIn_14 : decode cX8_goesIn 14 = .ok (.if_icmp .eq 7, 3) := by decide +kernel
theorem dX8_goesIn_17 : decode cX8_goesIn 17 = .ok (.iload_n 3, 1) := by decide +kernel
theorem dX8_goesIn_18 : decode cX8_goesIn 18 = .ok (.ifCond .ne 6, 3) := by decide +kernel
theorem dX8_goesIn_21 : decode cX8_goesIn 21 = .ok (.bipush (-5), 2) := by decide +kernel
theorem dX8_goesIn_23 : decode cX8_goesIn 23 = .ok (.ireturn, 1) := by decide +kernel
theorem dX8_goesIn_24 : decode cX8_goesIn 24 = .ok (.aload_n 0, 1) := by decide +kernel
theorem dX8_goesIn_25 : decode cX8_goesIn 25 = .ok (.iload_n 1, 1) := by decide +kernel
theorem dX8_goesIn_26 : decode cX8_goesIn 26 = .ok (.iload_n 2, 1) := by decide +kernel
theorem dX8_goesIn_27 : decode cX8_goesIn 27 = .ok (.iload_n 3, 1) := by decide +kernel
theorem dX8_goesIn_28 : decode cX8_goesIn 28 = .ok (.iconst 0, 1) := by decide +kernel
theorem dX8_goesIn_29 : decode cX8_goesIn 29 = .ok (.iconst 0, 1) := by decide +kernel
theorem dX8_goesIn_30 : decode cX8_goesIn 30 = .ok (.invokevirtual 257, 3) := by decide +kernel
theorem dX8_goesIn_33 : decode cX8_goesIn 33 = .ok (.aload_n 0, 1) := by decide +kernel
theorem dX8_goesIn_34 : decode cX8_goesIn 34 = .ok (.invokevirtual 251, 3) := by decide +kernel
theorem dX8_goesIn_37 : decode cX8_goesIn 37 = .ok (.istore 4, 2) := by decide +kernel
theorem dX8_goesIn_39 : decode cX8_goesIn 39 = .ok (.iload 4, 2) := by decide +kernel
theorem dX8_goesIn_41 : decode cX8_goesIn 41 = .ok (.aload_n 0, 1) := by decide +kernel
theorem dX8_goesIn_42 : decode cX8_goesIn 42 = .ok (.invokevirtual 254, 3) := by decide +kernel
theorem dX8_goesIn_45 : decode cX8_goesIn 45 = .ok (.if_icmp .ge 36, 3) := by decide +kernel
theorem dX8_goesIn_48 : decode cX8_goesIn 48 = .ok (.aload_n 0, 1) := by decide +kernel
theorem dX8_goesIn_49 : decode cX8_goesIn 49 = .ok (.getfield 44, 3) := by decide +kernel
theorem dX8_goesIn_52 : decode cX8_goesIn 52 = .ok (.iload 4, 2) := by decide +kernel
theorem dX8_goesIn_54 : decode cX8_goesIn 54 = .ok (.iaload, 1) := by decide +kernel
theorem dX8_goesIn_55 : decode cX8_goesIn 55 = .ok (.ifCond .ne 20, 3) := by decide +kernel
theorem dX8_goesIn_58 : decode cX8_goesIn 58 = .ok (.aload_n 0, 1) := by decide +kernel
theorem dX8_goesIn_59 : decode cX8_goesIn 59 = .ok (.iload 4, 2) := by decide +kernel
theorem dX8_goesIn_61 : decode cX8_goesIn 61 = .ok (.invokevirtual 261, 3) := by decide +kernel
theorem dX8_goesIn_64 : decode cX8_goesIn 64 = .ok (.ifCond .eq 11, 3) := by decide +kernel
theorem dX8_goesIn_67 : decode cX8_goesIn 67 = .ok (.aload_n 0, 1) := by decide +kernel
theorem dX8_goesIn_68 : decode cX8_goesIn 68 = .ok (.getfield 47, 3) := by decide +kernel
theorem dX8_goesIn_71 : decode cX8_goesIn 71 = .ok (.iload 4, 2) := by decide +kernel
theorem dX8_goesIn_73 : decode cX8_goesIn 73 = .ok (.iaload, 1) := by decide +kernel
theorem dX8_goesIn_74 : decode cX8_goesIn 74 = .ok (.ireturn, 1) := by decide +kernel
theorem dX8_goesIn_75 : decode cX8_goesIn 75 = .ok (.iinc 4 1, 3) := by decide +kernel
theorem dX8_goesIn_78 : decode cX8_goesIn 78 = .ok (.goto (-39), 3) := by decide +kernel
theorem dX8_goesIn_81 : decode cX8_goesIn 81 = .ok (.bipush (-5), 2) := by decide +kernel
theorem dX8_goesIn_83 : decode cX8_goesIn 83 = .ok (.ireturn, 1) := by decide +kernel
theorem dX8_goes_0 : decode cX8_goes 0 = .ok (.aload_n 0, 1) := by decide +kernel
theorem dX8_goes_1 : decode cX8_goes 1 = .ok (.iload_n 1, 1) := by decide +kernel
theorem dX8_goes_2 : decode cX8_goes 2 = .ok (.invokevirtual 193, 3) := by decide +kernel
theorem dX8_goes_5 : decode cX8_goes 5 = .ok (.ifCond .eq 11, 3) := by decide +kernel
theorem dX8_goes_8 : decode cX8_goes 8 = .ok (.aload_n 0, 1) := by decide +kernel
theorem dX8_goes_9 : decode cX8_goes 9 = .ok (.iload_n 2, 1) := by decide +kernel
theorem dX8_goes_10 : decode cX8_goes 10 = .ok (.invokevirtual 193, 3) := by decide +kernel
theorem dX8_goes_13 : decode cX8_goes 13 = .ok (.ifCond .ne 5, 3) := by decide +kernel
theorem dX8_goes_16 : decode cX8_goes 16 = .ok (.iconst (-1), 1) := by decide +kernel
theorem dX8_goes_17 : decode cX8_goes 17 = .ok (.ireturn, 1) := by decide +kernel
theorem dX8_goes_18 : decode cX8_goes 18 = .ok (.iload_n 1, 1) := by decide +kernel
theorem dX8_goes_19 : decode cX8_goes 19 = .ok (.iload_n 2, 1) := by decide +kernel
theorem dX8_goes_20 : decode cX8_goes 20 = .ok (.if_icmp .ne 8, 3) := by decide +kernel
theorem dX8_goes_23 : decode cX8_goes 23 = .ok (.bipush (-2), 2) := by decide +kernel
theorem dX8_goes_25 : decode cX8_goes 25 = .ok (.goto 9, 3) := by decide +kernel
theorem dX8_goes_28 : decode cX8_goes 28 = .ok (.aload_n 0, 1) := by decide +kernel
theorem dX8_goes_29 : decode cX8_goes 29 = .ok (.iload_n 1, 1) := by decide +kernel
theorem dX8_goes_30 : decode cX8_goes 30 = .ok (.iload_n 2, 1) := by decide +kernel
theorem dX8_goes_31 : decode cX8_goes 31 = .ok (.invokevirtual 264, 3) := by decide +kernel
theorem dX8_goes_34 : decode cX8_goes 34 = .ok (.ireturn, 1) := by decide +kernel
theorem dX8_habitOf_0 : decode cX8_habitOf 0 = .ok (.aload_n 0, 1) := by decide +kernel
theorem dX8_habitOf_1 : decode cX8_habitOf 1 = .ok (.iload_n 1, 1) := by decide +kernel
theorem dX8_habitOf_2 : decode cX8_habitOf 2 = .ok (.iconst 0, 1) := by decide +kernel
theorem dX8_habitOf_3 : decode cX8_habitOf 3 = .ok (.iconst 0, 1) := by decide +kernel
theorem dX8_habitOf_4 : decode cX8_habitOf 4 = .ok (.aload_n 0, 1) := by decide +kernel
theorem dX8_habitOf_5 : decode cX8_habitOf 5 = .ok (.getfield 13, 3) := by decide +kernel
theorem dX8_habitOf_8 : decode cX8_habitOf 8 = .ok (.iload_n 1, 1) := by decide +kernel
theorem dX8_habitOf_9 : decode cX8_habitOf 9 = .ok (.iaload, 1) := by decide +kernel
theorem dX8_habitOf_10 : decode cX8_habitOf 10 = .ok (.iload_n 2, 1) := by decide +kernel
theorem dX8_habitOf_11 : decode cX8_habitOf 11 = .ok (.invokevirtual 257, 3) := by decide +kernel
theorem dX8_habitOf_14 : decode cX8_habitOf 14 = .ok (.iconst 0, 1) := by decide +kernel
theorem dX8_habitOf_15 : decode cX8_habitOf 15 = .ok (.istore_n 3, 1) := by decide +kernel
theorem dX8_habitOf_16 : decode cX8_habitOf 16 = .ok (.aload_n 0, 1) := by decide +kernel
theorem dX8_habitOf_17 : decode cX8_habitOf 17 = .ok (.invokevirtual 251, 3) := by decide +kernel
theorem dX8_habitOf_20 : decode cX8_habitOf 20 = .ok (.istore 4, 2) := by decide +kernel
theorem dX8_habitOf_22 : decode cX8_habitOf 22 = .ok (.iload 4, 2) := by decide +kernel
theorem dX8_habitOf_24 : decode cX8_habitOf 24 = .ok (.aload_n 0, 1) := by decide +kernel
theorem dX8_habitOf_25 : decode cX8_habitOf 25 = .ok (.invokevirtual 254, 3) := by decide +kernel
theorem dX8_habitOf_28 : decode cX8_habitOf 28 = .ok (.if_icmp .ge 43, 3) := by decide +kernel
theorem dX8_habitOf_31 : decode cX8_habitOf 31 = .ok (.iload_n 3, 1) := by decide +kernel
theorem dX8_habitOf_32 : decode cX8_habitOf 32 = .ok (.aload_n 0, 1) := by decide +kernel
theorem dX8_habitOf_33 : decode cX8_habitOf 33 = .ok (.getfield 44, 3) := by decide +kernel
theorem dX8_habitOf_36 : decode cX8_habitOf 36 = .ok (.iload 4, 2) := by decide +kernel
theorem dX8_habitOf_38 : decode cX8_habitOf 38 = .ok (.iaload, 1) := by decide +kernel
theorem dX8_habitOf_39 : decode cX8_habitOf 39 = .ok (.iconst 1, 1) := by decide +kernel
theorem dX8_habitOf_40 : decode cX8_habitOf 40 = .ok (.if_icmp .ne 22, 3) := by decide +kernel
theorem dX8_habitOf_43 : decode cX8_habitOf 43 = .ok (.aload_n 0, 1) := by decide +kernel
theorem dX8_habitOf_44 : decode cX8_habitOf 44 = .ok (.iload 4, 2) := by decide +kernel
theorem dX8_habitOf_46 : decode cX8_habitOf 46 = .ok (.invokevirtual 261, 3) := by decide +kernel
theorem dX8_habitOf_49 : decode cX8_habitOf 49 = .ok (.ifCond .eq 13, 3) := by decide +kernel
theorem dX8_habitOf_52 : decode cX8_habitOf 52 = .ok (.aload_n 0, 1) := by decide +kernel
theorem dX8_habitOf_53 : decode cX8_habitOf 53 = .ok (.getfield 47, 3) := by decide +kernel
theorem dX8_habitOf_56 : decode cX8_habitOf 56 = .ok (.iload 4, 2) := by decide +kernel
theorem dX8_habitOf_58 : decode cX8_habitOf 58 = .ok (.iaload, 1) := by decide +kernel
theorem dX8_habitOf_59 : decode cX8_habitOf 59 = .ok (.goto 4, 3) := by decide +kernel
theorem dX8_habitOf_62 : decode cX8_habitOf 62 = .ok (.iconst 0, 1) := by decide +kernel
theorem dX8_habitOf_63 : decode cX8_habitOf 63 = .ok (.iadd, 1) := by decide +kernel
theorem dX8_habitOf_64 : decode cX8_habitOf 64 = .ok (.istore_n 3, 1) := by decide +kernel
theorem dX8_habitOf_65 : decode cX8_habitOf 65 = .ok (.iinc 4 1, 3) := by decide +kernel
theorem dX8_habitOf_68 : decode cX8_habitOf 68 = .ok (.goto (-46), 3) := by decide +kernel
theorem dX8_habitOf_71 : decode cX8_habitOf 71 = .ok (.iload_n 3, 1) := by decide +kernel
theorem dX8_habitOf_72 : decode cX8_habitOf 72 = .ok (.bipush 100, 2) := by decide +kernel
theorem dX8_habitOf_74 : decode cX8_habitOf 74 = .ok (.if_icmp .le 8, 3) := by decide +kernel
theorem dX8_habitOf_77 : decode cX8_habitOf 77 = .ok (.bipush 100, 2) := by decide +kernel
theorem dX8_habitOf_79 : decode cX8_habitOf 79 = .ok (.goto 4, 3) := by decide +kernel
theorem dX8_habitOf_82 : decode cX8_habitOf 82 = .ok (.iload_n 3, 1) := by decide +kernel
theorem dX8_habitOf_83 : decode cX8_habitOf 83 = .ok (.ireturn, 1) := by decide +kernel
theorem dX8_habit_0 : decode cX8_habit 0 = .ok (.aload_n 0, 1) := by decide +kernel
theorem dX8_habit_1 : decode cX8_habit 1 = .ok (.iload_n 1, 1) := by decide +kernel
theorem dX8_habit_2 : decode cX8_habit 2 = .ok (.invokevirtual 193, 3) := by decide +kernel
theorem dX8_habit_5 : decode cX8_habit 5 = .ok (.ifCond .eq 23, 3) := by decide +kernel
theorem dX8_habit_8 : decode cX8_habit 8 = .ok (.aload_n 0, 1) := by decide +kernel
theorem dX8_habit_9 : decode cX8_habit 9 = .ok (.iload_n 2, 1) := by decide +kernel
theorem dX8_habit_10 : decode cX8_habit 10 = .ok (.iconst 0, 1) := by decide +kernel
theorem dX8_habit_11 : decode cX8_habit 11 = .ok (.bipush 8, 2) := by decide +kernel
theorem dX8_habit_13 : decode cX8_habit 13 = .ok (.invokevirtual 189, 3) := by decide +kernel
theorem dX8_habit_16 : decode cX8_habit 16 = .ok (.ifCond .eq 12, 3) := by decide +kernel
theorem dX8_habit_19 : decode cX8_habit 19 = .ok (.aload_n 0, 1) := by decide +kernel
theorem dX8_habit_20 : decode cX8_habit 20 = .ok (.iload_n 1, 1) := by decide +kernel
theorem dX8_habit_21 : decode cX8_habit 21 = .ok (.iload_n 2, 1) := by decide +kernel
theorem dX8_habit_22 : decode cX8_habit 22 = .ok (.invokevirtual 268, 3) := by decide +kernel
theorem dX8_habit_25 : decode cX8_habit 25 = .ok (.goto 4, 3) := by decide +kernel
theorem dX8_habit_28 : decode cX8_habit 28 = .ok (.iconst (-1), 1) := by decide +kernel
theorem dX8_habit_29 : decode cX8_habit 29 = .ok (.ireturn, 1) := by decide +kernel
theorem dX8_layHours_0 : decode cX8_layHours 0 = .ok (.aload_n 0, 1) := by decide +kernel
theorem dX8_layHours_1 : decode cX8_layHours 1 = .ok (.aload_n 0, 1) := by decide +kernel
theorem dX8_layHours_2 : decode cX8_layHours 2 = .ok (.iconst 4, 1) := by decide +kernel
theorem dX8_layHours_3 : decode cX8_layHours 3 = .ok (.bipush 9, 2) := by decide +kernel
theorem dX8_layHours_5 : decode cX8_layHours 5 = .ok (.invokevirtual 271, 3) := by decide +kernel
theorem dX8_layHours_8 : decode cX8_layHours 8 = .ok (.bipush 9, 2) := by decide +kernel
theorem dX8_layHours_10 : decode cX8_layHours 10 = .ok (.if_icmp .le 8, 3) := by decide +kernel
theorem dX8_layHours_13 : decode cX8_layHours 13 = .ok (.bipush 9, 2) := by decide +kernel
theorem dX8_layHours_15 : decode cX8_layHours 15 = .ok (.goto 10, 3) := by decide +kernel
theorem dX8_layHours_18 : decode cX8_layHours 18 = .ok (.aload_n 0, 1) := by decide +kernel
theorem dX8_layHours_19 : decode cX8_layHours 19 = .ok (.iconst 4, 1) := by decide +kernel
theorem dX8_layHours_20 : decode cX8_layHours 20 = .ok (.bipush 9, 2) := by decide +kernel
theorem dX8_layHours_22 : decode cX8_layHours 22 = .ok (.invokevirtual 271, 3) := by decide +kernel
theorem dX8_layHours_25 : decode cX8_layHours 25 = .ok (.putfield 87, 3) := by decide +kernel
theorem dX8_layHours_28 : decode cX8_layHours 28 = .ok (.iconst 0, 1) := by decide +kernel
theorem dX8_layHours_29 : decode cX8_layHours 29 = .ok (.istore_n 1, 1) := by decide +kernel
theorem dX8_layHours_30 : decode cX8_layHours 30 = .ok (.iload_n 1, 1) := by decide +kernel
theorem dX8_layHours_31 : decode cX8_layHours 31 = .ok (.aload_n 0, 1) := by decide +kernel
theorem dX8_layHours_32 : decode cX8_layHours 32 = .ok (.getfield 7, 3) := by decide +kernel
theorem dX8_layHours_35 : decode cX8_layHours 35 = .ok (.if_icmp .ge 42, 3) := by decide +kernel
theorem dX8_layHours_38 : decode cX8_layHours 38 = .ok (.iconst 0, 1) := by decide +kernel
theorem dX8_layHours_39 : decode cX8_layHours 39 = .ok (.istore_n 2, 1) := by decide +kernel
theorem dX8_layHours_40 : decode cX8_layHours 40 = .ok (.iload_n 2, 1) := by decide +kernel
theorem dX8_layHours_41 : decode cX8_layHours 41 = .ok (.aload_n 0, 1) := by decide +kernel
theorem dX8_layHours_42 : decode cX8_layHours 42 = .ok (.getfield 7, 3) := by decide +kernel
theorem dX8_layHours_45 : decode cX8_layHours 45 = .ok (.if_icmp .ge 26, 3) := by decide +kernel
theorem dX8_layHours_48 : decode cX8_layHours 48 = .ok (.aload_n 0, 1) := by decide +kernel
theorem dX8_layHours_49 : decode cX8_layHours 49 = .ok (.getfield 78, 3) := by decide +kernel
theorem dX8_layHours_52 : decode cX8_layHours 52 = .ok (.bipush 8, 2) := by decide +kernel
theorem dX8_layHours_54 : decode cX8_layHours 54 = .ok (.iload_n 1, 1) := by decide +kernel
theorem dX8_layHours_55 : decode cX8_layHours 55 = .ok (.imul, 1) := by decide +kernel
theorem dX8_layHours_56 : decode cX8_layHours 56 = .ok (.iload_n 2, 1) := by decide +kernel
theorem dX8_layHours_57 : decode cX8_layHours 57 = .ok (.iadd, 1) := by decide +kernel
theorem dX8_layHours_58 : decode cX8_layHours 58 = .ok (.aload_n 0, 1) := by decide +kernel
theorem dX8_layHours_59 : decode cX8_layHours 59 = .ok (.iload_n 1, 1) := by decide +kernel
theorem dX8_layHours_60 : decode cX8_layHours 60 = .ok (.iload_n 2, 1) := by decide +kernel
theorem dX8_layHours_61 : decode cX8_layHours 61 = .ok (.invokevirtual 264, 3) := by decide +kernel
theorem dX8_layHours_64 : decode cX8_layHours 64 = .ok (.iastore, 1) := by decide +kernel
theorem dX8_layHours_65 : decode cX8_layHours 65 = .ok (.iinc 2 1, 3) := by decide +kernel
theorem dX8_layHours_68 : decode cX8_layHours 68 = .ok (.goto (-28), 3) := by decide +kernel
theorem dX8_layHours_71 : decode cX8_layHours 71 = .ok (.iinc 1 1, 3) := by decide +kernel
theorem dX8_layHours_74 : decode cX8_layHours 74 = .ok (.goto (-44), 3) := by decide +kernel
theorem dX8_layHours_77 : decode cX8_layHours 77 = .ok (.return_, 1) := by decide +kernel
theorem dX8_spread_0 : decode cX8_spread 0 = .ok (.iconst 0, 1) := by decide +kernel
theorem dX8_spread_1 : decode cX8_spread 1 = .ok (.istore_n 2, 1) := by decide +kernel
theorem dX8_spread_2 : decode cX8_spread 2 = .ok (.iload_n 2, 1) := by decide +kernel
theorem dX8_spread_3 : decode cX8_spread 3 = .ok (.aload_n 0, 1) := by decide +kernel
theorem dX8_spread_4 : decode cX8_spread 4 = .ok (.getfield 7, 3) := by decide +kernel
theorem dX8_spread_7 : decode cX8_spread 7 = .ok (.if_icmp .ge 36, 3) := by decide +kernel
theorem dX8_spread_10 : decode cX8_spread 10 = .ok (.aload_n 0, 1) := by decide +kernel
theorem dX8_spread_11 : decode cX8_spread 11 = .ok (.getfield 81, 3) := by decide +kernel
theorem dX8_spread_14 : decode cX8_spread 14 = .ok (.iload_n 2, 1) := by decide +kernel
theorem dX8_spread_15 : decode cX8_spread 15 = .ok (.aload_n 0, 1) := by decide +kernel
theorem dX8_spread_16 : decode cX8_spread 16 = .ok (.getfield 20, 3) := by decide +kernel
theorem dX8_spread_19 : decode cX8_spread 19 = .ok (.iload_n 2, 1) := by decide +kernel
theorem dX8_spread_20 : decode cX8_spread 20 = .ok (.iaload, 1) := by decide +kernel
theorem dX8_spread_21 : decode cX8_spread 21 = .ok (.ifCond .ge 9, 3) := by decide +kernel
theorem dX8_spread_24 : decode cX8_spread 24 = .ok (.ldc_w 274, 3) := by decide +kernel
theorem dX8_spread_27 : decode cX8_spread 27 = .ok (.goto 9, 3) := by decide +kernel
theorem dX8_spread_30 : decode cX8_spread 30 = .ok (.aload_n 0, 1) := by decide +kernel
theorem dX8_spread_31 : decode cX8_spread 31 = .ok (.getfield 20, 3) := by decide +kernel
theorem dX8_spread_34 : decode cX8_spread 34 = .ok (.iload_n 2, 1) := by decide +kernel
theorem dX8_spread_35 : decode cX8_spread 35 = .ok (.iaload, 1) := by decide +kernel
theorem dX8_spread_36 : decode cX8_spread 36 = .ok (.iastore, 1) := by decide +kernel
theorem dX8_spread_37 : decode cX8_spread 37 = .ok (.iinc 2 1, 3) := by decide +kernel
theorem dX8_spread_40 : decode cX8_spread 40 = .ok (.goto (-38), 3) := by decide +kernel
theorem dX8_spread_43 : decode cX8_spread 43 = .ok (.iconst 1, 1) := by decide +kernel
theorem dX8_spread_44 : decode cX8_spread 44 = .ok (.istore_n 2, 1) := by decide +kernel
theorem dX8_spread_45 : decode cX8_spread 45 = .ok (.iload_n 2, 1) := by decide +kernel
theorem dX8_spread_46 : decode cX8_spread 46 = .ok (.aload_n 0, 1) := by decide +kernel
theorem dX8_spread_47 : decode cX8_spread 47 = .ok (.getfield 87, 3) := by decide +kernel
theorem dX8_spread_50 : decode cX8_spread 50 = .ok (.if_icmp .gt 154, 3) := by decide +kernel
theorem dX8_spread_53 : decode cX8_spread 53 = .ok (.iconst 0, 1) := by decide +kernel
theorem dX8_spread_54 : decode cX8_spread 54 = .ok (.istore_n 3, 1) := by decide +kernel
theorem dX8_spread_55 : decode cX8_spread 55 = .ok (.iload_n 3, 1) := by decide +kernel
theorem dX8_spread_56 : decode cX8_spread 56 = .ok (.aload_n 0, 1) := by decide +kernel
theorem dX8_spread_57 : decode cX8_spread 57 = .ok (.getfield 7, 3) := by decide +kernel
theorem dX8_spread_60 : decode cX8_spread 60 = .ok (.if_icmp .ge 138, 3) := by decide +kernel
theorem dX8_spread_63 : decode cX8_spread 63 = .ok (.ldc_w 274, 3) := by decide +kernel
theorem dX8_spread_66 : decode cX8_spread 66 = .ok (.istore 4, 2) := by decide +kernel
theorem dX8_spread_68 : decode cX8_spread 68 = .ok (.iconst 0, 1) := by decide +kernel
theorem dX8_spread_69 : decode cX8_spread 69 = .ok (.istore 5, 2) := by decide +kernel
theorem dX8_spread_71 : decode cX8_spread 71 = .ok (.iload 5, 2) := by decide +kernel
theorem dX8_spread_73 : decode cX8_spread 73 = .ok (.aload_n 0, 1) := by decide +kernel
theorem dX8_spread_74 : decode cX8_spread 74 = .ok (.getfield 7, 3) := by decide +kernel
theorem dX8_spread_77 : decode cX8_spread 77 = .ok (.if_icmp .ge 102, 3) := by decide +kernel
theorem dX8_spread_80 : decode cX8_spread 80 = .ok (.aload_n 0, 1) := by decide +kernel
theorem dX8_spread_81 : decode cX8_spread 81 = .ok (.iload_n 1, 1) := by decide +kernel
theorem dX8_spread_82 : decode cX8_spread 82 = .ok (.iload 5, 2) := by decide +kernel
theorem dX8_spread_84 : decode cX8_spread 84 = .ok (.invokevirtual 275, 3) := by decide +kernel
theorem dX8_spread_87 : decode cX8_spread 87 = .ok (.ifCond .ne 86, 3) := by decide +kernel
theorem dX8_spread_90 : decode cX8_spread 90 = .ok (.aload_n 0, 1) := by decide +kernel
theorem dX8_spread_91 : decode cX8_spread 91 = .ok (.getfield 78, 3) := by decide +kernel
theorem dX8_spread_94 : decode cX8_spread 94 = .ok (.bipush 8, 2) := by decide +kernel
theorem dX8_spread_96 : decode cX8_spread 96 = .ok (.iload 5, 2) := by decide +kernel
theorem dX8_spread_98 : decode cX8_spread 98 = .ok (.imul, 1) := by decide +kernel
theorem dX8_spread_99 : decode cX8_spread 99 = .ok (.iload_n 3, 1) := by decide +kernel
theorem dX8_spread_100 : decode cX8_spread 100 = .ok (.iadd, 1) := by decide +kernel
theorem dX8_spread_101 : decode cX8_spread 101 = .ok (.iaload, 1) := by decide +kernel
theorem dX8_spread_102 : decode cX8_spread 102 = .ok (.ifCond .lt 71, 3) := by decide +kernel
theorem dX8_spread_105 : decode cX8_spread 105 = .ok (.aload_n 0, 1) := by decide +kernel
theorem dX8_spread_106 : decode cX8_spread 106 = .ok (.getfield 81, 3) := by decide +kernel
theorem dX8_spread_109 : decode cX8_spread 109 = .ok (.bipush 8, 2) := by decide +kernel
theorem dX8_spread_111 : decode cX8_spread 111 = .ok (.iload_n 2, 1) := by decide +kernel
theorem dX8_spread_112 : decode cX8_spread 112 = .ok (.iconst 1, 1) := by decide +kernel
theorem dX8_spread_113 : decode cX8_spread 113 = .ok (.isub, 1) := by decide +kernel
theorem dX8_spread_114 : decode cX8_spread 114 = .ok (.imul, 1) := by decide +kernel
theorem dX8_spread_115 : decode cX8_spread 115 = .ok (.iload 5, 2) := by decide +kernel
theorem dX8_spread_117 : decode cX8_spread 117 = .ok (.iadd, 1) := by decide +kernel
theorem dX8_spread_118 : decode cX8_spread 118 = .ok (.iaload, 1) := by decide +kernel
theorem dX8_spread_119 : decode cX8_spread 119 = .ok (.ldc_w 274, 3) := by decide +kernel
theorem dX8_spread_122 : decode cX8_spread 122 = .ok (.if_icmp .lt 6, 3) := by decide +kernel
theorem dX8_spread_125 : decode cX8_spread 125 = .ok (.goto 48, 3) := by decide +kernel
theorem dX8_spread_128 : decode cX8_spread 128 = .ok (.aload_n 0, 1) := by decide +kernel
theorem dX8_spread_129 : decode cX8_spread 129 = .ok (.getfield 81, 3) := by decide +kernel
theorem dX8_spread_132 : decode cX8_spread 132 = .ok (.bipush 8, 2) := by decide +kernel
theorem dX8_spread_134 : decode cX8_spread 134 = .ok (.iload_n 2, 1) := by decide +kernel
theorem dX8_spread_135 : decode cX8_spread 135 = .ok (.iconst 1, 1) := by decide +kernel
theorem dX8_spread_136 : decode cX8_spread 136 = .ok (.isub, 1) := by decide +kernel
theorem dX8_spread_137 : decode cX8_spread 137 = .ok (.imul, 1) := by decide +kernel
theorem dX8_spread_138 : decode cX8_spread 138 = .ok (.iload 5, 2) := by decide +kernel
theorem dX8_spread_140 : decode cX8_spread 140 = .ok (.iadd, 1) := by decide +kernel
theorem dX8_spread_141 : decode cX8_spread 141 = .ok (.iaload, 1) := by decide +kernel
theorem dX8_spread_142 : decode cX8_spread 142 = .ok (.aload_n 0, 1) := by decide +kernel
theorem dX8_spread_143 : decode cX8_spread 143 = .ok (.getfield 78, 3) := by decide +kernel
theorem dX8_spread_146 : decode cX8_spread 146 = .ok (.bipush 8, 2) := by decide +kernel
theorem dX8_spread_148 : decode cX8_spread 148 = .ok (.iload 5, 2) := by decide +kernel
theorem dX8_spread_150 : decode cX8_spread 150 = .ok (.imul, 1) := by decide +kernel
theorem dX8_spread_151 : decode cX8_spread 151 = .ok (.iload_n 3, 1) := by decide +kernel
theorem dX8_spread_152 : decode cX8_spread 152 = .ok (.iadd, 1) := by decide +kernel
theorem dX8_spread_153 : decode cX8_spread 153 = .ok (.iaload, 1) := by decide +kernel
theorem dX8_spread_154 : decode cX8_spread 154 = .ok (.iadd, 1) := by decide +kernel
theorem dX8_spread_155 : decode cX8_spread 155 = .ok (.istore 6, 2) := by decide +kernel
theorem dX8_spread_157 : decode cX8_spread 157 = .ok (.iload 6, 2) := by decide +kernel
theorem dX8_spread_159 : decode cX8_spread 159 = .ok (.iload 4, 2) := by decide +kernel
theorem dX8_spread_161 : decode cX8_spread 161 = .ok (.if_icmp .ge 8, 3) := by decide +kernel
theorem dX8_spread_164 : decode cX8_spread 164 = .ok (.iload 6, 2) := by decide +kernel
theorem dX8_spread_166 : decode cX8_spread 166 = .ok (.goto 5, 3) := by decide +kernel
theorem dX8_spread_169 : decode cX8_spread 169 = .ok (.iload 4, 2) := by decide +kernel
theorem dX8_spread_171 : decode cX8_spread 171 = .ok (.istore 4, 2) := by decide +kernel
theorem dX8_spread_173 : decode cX8_spread 173 = .ok (.iinc 5 1, 3) := by decide +kernel
theorem dX8_spread_176 : decode cX8_spread 176 = .ok (.goto (-105), 3) := by decide +kernel
theorem dX8_spread_179 : decode cX8_spread 179 = .ok (.aload_n 0, 1) := by decide +kernel
theorem dX8_spread_180 : decode cX8_spread 180 = .ok (.getfield 81, 3) := by decide +kernel
theorem dX8_spread_183 : decode cX8_spread 183 = .ok (.bipush 8, 2) := by decide +kernel
theorem dX8_spread_185 : decode cX8_spread 185 = .ok (.iload_n 2, 1) := by decide +kernel
theorem dX8_spread_186 : decode cX8_spread 186 = .ok (.imul, 1) := by decide +kernel
theorem dX8_spread_187 : decode cX8_spread 187 = .ok (.iload_n 3, 1) := by decide +kernel
theorem dX8_spread_188 : decode cX8_spread 188 = .ok (.iadd, 1) := by decide +kernel
theorem dX8_spread_189 : decode cX8_spread 189 = .ok (.iload 4, 2) := by decide +kernel
theorem dX8_spread_191 : decode cX8_spread 191 = .ok (.iastore, 1) := by decide +kernel
theorem dX8_spread_192 : decode cX8_spread 192 = .ok (.iinc 3 1, 3) := by decide +kernel
theorem dX8_spread_195 : decode cX8_spread 195 = .ok (.goto (-140), 3) := by decide +kernel
theorem dX8_spread_198 : decode cX8_spread 198 = .ok (.iinc 2 1, 3) := by decide +kernel
theorem dX8_spread_201 : decode cX8_spread 201 = .ok (.goto (-156), 3) := by decide +kernel
theorem dX8_spread_204 : decode cX8_spread 204 = .ok (.return_, 1) := by decide +kernel
theorem dX8_earliest_0 : decode cX8_earliest 0 = .ok (.ldc_w 274, 3) := by decide +kernel
theorem dX8_earliest_3 : decode cX8_earliest 3 = .ok (.istore_n 2, 1) := by decide +kernel
theorem dX8_earliest_4 : decode cX8_earliest 4 = .ok (.iconst 0, 1) := by decide +kernel
theorem dX8_earliest_5 : decode cX8_earliest 5 = .ok (.istore_n 3, 1) := by decide +kernel
theorem dX8_earliest_6 : decode cX8_earliest 6 = .ok (.iload_n 3, 1) := by decide +kernel
theorem dX8_earliest_7 : decode cX8_earliest 7 = .ok (.aload_n 0, 1) := by decide +kernel
theorem dX8_earliest_8 : decode cX8_earliest 8 = .ok (.getfield 87, 3) := by decide +kernel
theorem dX8_earliest_11 : decode cX8_earliest 11 = .ok (.if_icmp .gt 40, 3) := by decide +kernel
theorem dX8_earliest_14 : decode cX8_earliest 14 = .ok (.aload_n 0, 1) := by decide +kernel
theorem dX8_earliest_15 : decode cX8_earliest 15 = .ok (.getfield 81, 3) := by decide +kernel
theorem dX8_earliest_18 : decode cX8_earliest 18 = .ok (.bipush 8, 2) := by decide +kernel
theorem dX8_earliest_20 : decode cX8_earliest 20 = .ok (.iload_n 3, 1) := by decide +kernel
theorem dX8_earliest_21 : decode cX8_earliest 21 = .ok (.imul, 1) := by decide +kernel
theorem dX8_earliest_22 : decode cX8_earliest 22 = .ok (.iload_n 1, 1) := by decide +kernel
theorem dX8_earliest_23 : decode cX8_earliest 23 = .ok (.iadd, 1) := by decide +kernel
theorem dX8_earliest_24 : decode cX8_earliest 24 = .ok (.iaload, 1) := by decide +kernel
theorem dX8_earliest_25 : decode cX8_earliest 25 = .ok (.iload_n 2, 1) := by decide +kernel
theorem dX8_earliest_26 : decode cX8_earliest 26 = .ok (.if_icmp .ge 17, 3) := by decide +kernel
theorem dX8_earliest_29 : decode cX8_earliest 29 = .ok (.aload_n 0, 1) := by decide +kernel
theorem dX8_earliest_30 : decode cX8_earliest 30 = .ok (.getfield 81, 3) := by decide +kernel
theorem dX8_earliest_33 : decode cX8_earliest 33 = .ok (.bipush 8, 2) := by decide +kernel
theorem dX8_earliest_35 : decode cX8_earliest 35 = .ok (.iload_n 3, 1) := by decide +kernel
theorem dX8_earliest_36 : decode cX8_earliest 36 = .ok (.imul, 1) := by decide +kernel
theorem dX8_earliest_37 : decode cX8_earliest 37 = .ok (.iload_n 1, 1) := by decide +kernel
theorem dX8_earliest_38 : decode cX8_earliest 38 = .ok (.iadd, 1) := by decide +kernel
theorem dX8_earliest_39 : decode cX8_earliest 39 = .ok (.iaload, 1) := by decide +kernel
theorem dX8_earliest_40 : decode cX8_earliest 40 = .ok (.goto 4, 3) := by decide +kernel
theorem dX8_earliest_43 : decode cX8_earliest 43 = .ok (.iload_n 2, 1) := by decide +kernel
theorem dX8_earliest_44 : decode cX8_earliest 44 = .ok (.istore_n 2, 1) := by decide +kernel
theorem dX8_earliest_45 : decode cX8_earliest 45 = .ok (.iinc 3 1, 3) := by decide +kernel
theorem dX8_earliest_48 : decode cX8_earliest 48 = .ok (.goto (-42), 3) := by decide +kernel
theorem dX8_earliest_51 : decode cX8_earliest 51 = .ok (.iload_n 2, 1) := by decide +kernel
theorem dX8_earliest_52 : decode cX8_earliest 52 = .ok (.ireturn, 1) := by decide +kernel
theorem dX8_knows_0 : decode cX8_knows 0 = .ok (.aload_n 0, 1) := by decide +kernel
theorem dX8_knows_1 : decode cX8_knows 1 = .ok (.iload_n 1, 1) := by decide +kernel
theorem dX8_knows_2 : decode cX8_knows 2 = .ok (.invokevirtual 193, 3) := by decide +kernel
theorem dX8_knows_5 : decode cX8_knows 5 = .ok (.ifCond .ne 5, 3) := by decide +kernel
theorem dX8_knows_8 : decode cX8_knows 8 = .ok (.iconst (-1), 1) := by decide +kernel
theorem dX8_knows_9 : decode cX8_knows 9 = .ok (.ireturn, 1) := by decide +kernel
theorem dX8_knows_10 : decode cX8_knows 10 = .ok (.aload_n 0, 1) := by decide +kernel
theorem dX8_knows_11 : decode cX8_knows 11 = .ok (.invokevirtual 278, 3) := by decide +kernel
theorem dX8_knows_14 : decode cX8_knows 14 = .ok (.aload_n 0, 1) := by decide +kernel
theorem dX8_knows_15 : decode cX8_knows 15 = .ok (.iconst 0, 1) := by decide +kernel
theorem dX8_knows_16 : decode cX8_knows 16 = .ok (.invokevirtual 281, 3) := by decide +kernel
theorem dX8_knows_19 : decode cX8_knows 19 = .ok (.aload_n 0, 1) := by decide +kernel
theorem dX8_knows_20 : decode cX8_knows 20 = .ok (.iload_n 1, 1) := by decide +kernel
theorem dX8_knows_21 : decode cX8_knows 21 = .ok (.invokevirtual 284, 3) := by decide +kernel
theorem dX8_knows_24 : decode cX8_knows 24 = .ok (.ldc_w 274, 3) := by decide +kernel
theorem dX8_knows_27 : decode cX8_knows 27 = .ok (.if_icmp .ge 11, 3) := by decide +kernel
theorem dX8_knows_30 : decode cX8_knows 30 = .ok (.aload_n 0, 1) := by decide +kernel
theorem dX8_knows_31 : decode cX8_knows 31 = .ok (.iload_n 1, 1) := by decide +kernel
theorem dX8_knows_32 : decode cX8_knows 32 = .ok (.invokevirtual 284, 3) := by decide +kernel
theorem dX8_knows_35 : decode cX8_knows 35 = .ok (.goto 5, 3) := by decide +kernel
theorem dX8_knows_38 : decode cX8_knows 38 = .ok (.bipush (-5), 2) := by decide +kernel
theorem dX8_knows_40 : decode cX8_knows 40 = .ok (.ireturn, 1) := by decide +kernel
theorem dX8_findWay_0 : decode cX8_findWay 0 = .ok (.aload_n 0, 1) := by decide +kernel
theorem dX8_findWay_1 : decode cX8_findWay 1 = .ok (.invokevirtual 278, 3) := by decide +kernel
theorem dX8_findWay_4 : decode cX8_findWay 4 = .ok (.aload_n 0, 1) := by decide +kernel
theorem dX8_findWay_5 : decode cX8_findWay 5 = .ok (.iconst 0, 1) := by decide +kernel
theorem dX8_findWay_6 : decode cX8_findWay 6 = .ok (.invokevirtual 281, 3) := by decide +kernel
theorem dX8_findWay_9 : decode cX8_findWay 9 = .ok (.aload_n 0, 1) := by decide +kernel
theorem dX8_findWay_10 : decode cX8_findWay 10 = .ok (.iload_n 1, 1) := by decide +kernel
theorem dX8_findWay_11 : decode cX8_findWay 11 = .ok (.invokevirtual 284, 3) := by decide +kernel
theorem dX8_findWay_14 : decode cX8_findWay 14 = .ok (.istore_n 2, 1) := by decide +kernel
theorem dX8_findWay_15 : decode cX8_findWay 15 = .ok (.iload_n 2, 1) := by decide +kernel
theorem dX8_findWay_16 : decode cX8_findWay 16 = .ok (.ldc_w 274, 3) := by decide +kernel
theorem dX8_findWay_19 : decode cX8_findWay 19 = .ok (.if_icmp .lt 5, 3) := by decide +kernel
theorem dX8_findWay_22 : decode cX8_findWay 22 = .ok (.iconst 0, 1) := by decide +kernel
theorem dX8_findWay_23 : decode cX8_findWay 23 = .ok (.ireturn, 1) := by decide +kernel
theorem dX8_findWay_24 : decode cX8_findWay 24 = .ok (.iconst 0, 1) := by decide +kernel
theorem dX8_findWay_25 : decode cX8_findWay 25 = .ok (.istore_n 3, 1) := by decide +kernel
theorem dX8_findWay_26 : decode cX8_findWay 26 = .ok (.aload_n 0, 1) := by decide +kernel
theorem dX8_findWay_27 : decode cX8_findWay 27 = .ok (.getfield 81, 3) := by decide +kernel
theorem dX8_findWay_30 : decode cX8_findWay 30 = .ok (.bipush 8, 2) := by decide +kernel
theorem dX8_findWay_32 : decode cX8_findWay 32 = .ok (.iload_n 3, 1) := by decide +kernel
theorem dX8_findWay_33 : decode cX8_findWay 33 = .ok (.imul, 1) := by decide +kernel
theorem dX8_findWay_34 : decode cX8_findWay 34 = .ok (.iload_n 1, 1) := by decide +kernel
theorem dX8_findWay_35 : decode cX8_findWay 35 = .ok (.iadd, 1) := by decide +kernel
theorem dX8_findWay_36 : decode cX8_findWay 36 = .ok (.iaload, 1) := by decide +kernel
theorem dX8_findWay_37 : decode cX8_findWay 37 = .ok (.iload_n 2, 1) := by decide +kernel
theorem dX8_findWay_38 : decode cX8_findWay 38 = .ok (.if_icmp .eq 9, 3) := by decide +kernel
theorem dX8_findWay_41 : decode cX8_findWay 41 = .ok (.iinc 3 1, 3) := by decide +kernel
theorem dX8_findWay_44 : decode cX8_findWay 44 = .ok (.goto (-18), 3) := by decide +kernel
theorem dX8_findWay_47 : decode cX8_findWay 47 = .ok (.iconst 0, 1) := by decide +kernel
theorem dX8_findWay_48 : decode cX8_findWay 48 = .ok (.istore 4, 2) := by decide +kernel
theorem dX8_findWay_50 : decode cX8_findWay 50 = .ok (.iload 4, 2) := by decide +kernel
theorem dX8_findWay_52 : decode cX8_findWay 52 = .ok (.aload_n 0, 1) := by decide +kernel
theorem dX8_findWay_53 : decode cX8_findWay 53 = .ok (.getfield 7, 3) := by decide +kernel
theorem dX8_findWay_56 : decode cX8_findWay 56 = .ok (.if_icmp .ge 29, 3) := by decide +kernel
theorem dX8_findWay_59 : decode cX8_findWay 59 = .ok (.aload_n 0, 1) := by decide +kernel
theorem dX8_findWay_60 : decode cX8_findWay 60 = .ok (.getfield 84, 3) := by decide +kernel
theorem dX8_findWay_63 : decode cX8_findWay 63 = .ok (.iload 4, 2) := by decide +kernel
theorem dX8_findWay_65 : decode cX8_findWay 65 = .ok (.iload 4, 2) := by decide +kernel
theorem dX8_findWay_67 : decode cX8_findWay 67 = .ok (.iload_n 1, 1) := by decide +kernel
theorem dX8_findWay_68 : decode cX8_findWay 68 = .ok (.if_icmp .ne 7, 3) := by decide +kernel
theorem dX8_findWay_71 : decode cX8_findWay 71 = .ok (.iconst 0, 1) := by decide +kernel
theorem dX8_findWay_72 : decode cX8_findWay 72 = .ok (.goto 6, 3) := by decide +kernel
theorem dX8_findWay_75 : decode cX8_findWay 75 = .ok (.ldc_w 274, 3) := by decide +kernel
theorem dX8_findWay_78 : decode cX8_findWay 78 = .ok (.iastore, 1) := by decide +kernel
theorem dX8_findWay_79 : decode cX8_findWay 79 = .ok (.iinc 4 1, 3) := by decide +kernel
theorem dX8_findWay_82 : decode cX8_findWay 82 = .ok (.goto (-32), 3) := by decide +kernel
theorem dX8_findWay_85 : decode cX8_findWay 85 = .ok (.iconst 1, 1) := by decide +kernel
theorem dX8_findWay_86 : decode cX8_findWay 86 = .ok (.istore 4, 2) := by decide +kernel
theorem dX8_findWay_88 : decode cX8_findWay 88 = .ok (.iload 4, 2) := by decide +kernel
theorem dX8_findWay_90 : decode cX8_findWay 90 = .ok (.iload_n 3, 1) := by decide +kernel
theorem dX8_findWay_91 : decode cX8_findWay 91 = .ok (.if_icmp .gt 152, 3) := by decide +kernel
theorem dX8_findWay_94 : decode cX8_findWay 94 = .ok (.iconst 0, 1) := by decide +kernel
theorem dX8_findWay_95 : decode cX8_findWay 95 = .ok (.istore 5, 2) := by decide +kernel
theorem dX8_findWay_97 : decode cX8_findWay 97 = .ok (.iload 5, 2) := by decide +kernel
theorem dX8_findWay_99 : decode cX8_findWay 99 = .ok (.aload_n 0, 1) := by decide +kernel
theorem dX8_findWay_100 : decode cX8_findWay 100 = .ok (.getfield 7, 3) := by decide +kernel
theorem dX8_findWay_103 : decode cX8_findWay 103 = .ok (.if_icmp .ge 134, 3) := by decide +kernel
theorem dX8_findWay_106 : decode cX8_findWay 106 = .ok (.ldc_w 274, 3) := by decide +kernel
theorem dX8_findWay_109 : decode cX8_findWay 109 = .ok (.istore 6, 2) := by decide +kernel
theorem dX8_findWay_111 : decode cX8_findWay 111 = .ok (.iconst 0, 1) := by decide +kernel
theorem dX8_findWay_112 : decode cX8_findWay 112 = .ok (.istore 7, 2) := by decide +kernel
theorem dX8_findWay_114 : decode cX8_findWay 114 = .ok (.iload 7, 2) := by decide +kernel
theorem dX8_findWay_116 : decode cX8_findWay 116 = .ok (.aload_n 0, 1) := by decide +kernel
theorem dX8_findWay_117 : decode cX8_findWay 117 = .ok (.getfield 7, 3) := by decide +kernel
theorem dX8_findWay_120 : decode cX8_findWay 120 = .ok (.if_icmp .ge 96, 3) := by decide +kernel
theorem dX8_findWay_123 : decode cX8_findWay 123 = .ok (.aload_n 0, 1) := by decide +kernel
theorem dX8_findWay_124 : decode cX8_findWay 124 = .ok (.getfield 78, 3) := by decide +kernel
theorem dX8_findWay_127 : decode cX8_findWay 127 = .ok (.bipush 8, 2) := by decide +kernel
theorem dX8_findWay_129 : decode cX8_findWay 129 = .ok (.iload 5, 2) := by decide +kernel
theorem dX8_findWay_131 : decode cX8_findWay 131 = .ok (.imul, 1) := by decide +kernel
theorem dX8_findWay_132 : decode cX8_findWay 132 = .ok (.iload 7, 2) := by decide +kernel
theorem dX8_findWay_134 : decode cX8_findWay 134 = .ok (.iadd, 1) := by decide +kernel
theorem dX8_findWay_135 : decode cX8_findWay 135 = .ok (.iaload, 1) := by decide +kernel
theorem dX8_findWay_136 : decode cX8_findWay 136 = .ok (.ifCond .lt 74, 3) := by decide +kernel
theorem dX8_findWay_139 : decode cX8_findWay 139 = .ok (.aload_n 0, 1) := by decide +kernel
theorem dX8_findWay_140 : decode cX8_findWay 140 = .ok (.getfield 84, 3) := by decide +kernel
theorem dX8_findWay_143 : decode cX8_findWay 143 = .ok (.bipush 8, 2) := by decide +kernel
theorem dX8_findWay_145 : decode cX8_findWay 145 = .ok (.iload 4, 2) := by decide +kernel
theorem dX8_findWay_147 : decode cX8_findWay 147 = .ok (.iconst 1, 1) := by decide +kernel
theorem dX8_findWay_148 : decode cX8_findWay 148 = .ok (.isub, 1) := by decide +kernel
theorem dX8_findWay_149 : decode cX8_findWay 149 = .ok (.imul, 1) := by decide +kernel
theorem dX8_findWay_150 : decode cX8_findWay 150 = .ok (.iload 7, 2) := by decide +kernel
theorem dX8_findWay_152 : decode cX8_findWay 152 = .ok (.iadd, 1) := by decide +kernel
theorem dX8_findWay_153 : decode cX8_findWay 153 = .ok (.iaload, 1) := by decide +kernel
theorem dX8_findWay_154 : decode cX8_findWay 154 = .ok (.ldc_w 274, 3) := by decide +kernel
theorem dX8_findWay_157 : decode cX8_findWay 157 = .ok (.if_icmp .lt 6, 3) := by decide +kernel
theorem dX8_findWay_160 : decode cX8_findWay 160 = .ok (.goto 50, 3) := by decide +kernel
theorem dX8_findWay_163 : decode cX8_findWay 163 = .ok (.aload_n 0, 1) := by decide +kernel
theorem dX8_findWay_164 : decode cX8_findWay 164 = .ok (.getfield 78, 3) := by decide +kernel
theorem dX8_findWay_167 : decode cX8_findWay 167 = .ok (.bipush 8, 2) := by decide +kernel
theorem dX8_findWay_169 : decode cX8_findWay 169 = .ok (.iload 5, 2) := by decide +kernel
theorem dX8_findWay_171 : decode cX8_findWay 171 = .ok (.imul, 1) := by decide +kernel
theorem dX8_findWay_172 : decode cX8_findWay 172 = .ok (.iload 7, 2) := by decide +kernel
theorem dX8_findWay_174 : decode cX8_findWay 174 = .ok (.iadd, 1) := by decide +kernel
theorem dX8_findWay_175 : decode cX8_findWay 175 = .ok (.iaload, 1) := by decide +kernel
theorem dX8_findWay_176 : decode cX8_findWay 176 = .ok (.aload_n 0, 1) := by decide +kernel
theorem dX8_findWay_177 : decode cX8_findWay 177 = .ok (.getfield 84, 3) := by decide +kernel
theorem dX8_findWay_180 : decode cX8_findWay 180 = .ok (.bipush 8, 2) := by decide +kernel
theorem dX8_findWay_182 : decode cX8_findWay 182 = .ok (.iload 4, 2) := by decide +kernel
theorem dX8_findWay_184 : decode cX8_findWay 184 = .ok (.iconst 1, 1) := by decide +kernel
theorem dX8_findWay_185 : decode cX8_findWay 185 = .ok (.isub, 1) := by decide +kernel
theorem dX8_findWay_186 : decode cX8_findWay 186 = .ok (.imul, 1) := by decide +kernel
theorem dX8_findWay_187 : decode cX8_findWay 187 = .ok (.iload 7, 2) := by decide +kernel
theorem dX8_findWay_189 : decode cX8_findWay 189 = .ok (.iadd, 1) := by decide +kernel
theorem dX8_findWay_190 : decode cX8_findWay 190 = .ok (.iaload, 1) := by decide +kernel
theorem dX8_findWay_191 : decode cX8_findWay 191 = .ok (.iadd, 1) := by decide +kernel
theorem dX8_findWay_192 : decode cX8_findWay 192 = .ok (.istore 8, 2) := by decide +kernel
theorem dX8_findWay_194 : decode cX8_findWay 194 = .ok (.iload 8, 2) := by decide +kernel
theorem dX8_findWay_196 : decode cX8_findWay 196 = .ok (.iload 6, 2) := by decide +kernel
theorem dX8_findWay_198 : decode cX8_findWay 198 = .ok (.if_icmp .ge 8, 3) := by decide +kernel
theorem dX8_findWay_201 : decode cX8_findWay 201 = .ok (.iload 8, 2) := by decide +kernel
theorem dX8_findWay_203 : decode cX8_findWay 203 = .ok (.goto 5, 3) := by decide +kernel
theorem dX8_findWay_206 : decode cX8_findWay 206 = .ok (.iload 6, 2) := by decide +kernel
theorem dX8_findWay_208 : decode cX8_findWay 208 = .ok (.istore 6, 2) := by decide +kernel
theorem dX8_findWay_210 : decode cX8_findWay 210 = .ok (.iinc 7 1, 3) := by decide +kernel
theorem dX8_findWay_213 : decode cX8_findWay 213 = .ok (.goto (-99), 3) := by decide +kernel
theorem dX8_findWay_216 : decode cX8_findWay 216 = .ok (.aload_n 0, 1) := by decide +kernel
theorem dX8_findWay_217 : decode cX8_findWay 217 = .ok (.getfield 84, 3) := by decide +kernel
theorem dX8_findWay_220 : decode cX8_findWay 220 = .ok (.bipush 8, 2) := by decide +kernel
theorem dX8_findWay_222 : decode cX8_findWay 222 = .ok (.iload 4, 2) := by decide +kernel
theorem dX8_findWay_224 : decode cX8_findWay 224 = .ok (.imul, 1) := by decide +kernel
theorem dX8_findWay_225 : decode cX8_findWay 225 = .ok (.iload 5, 2) := by decide +kernel
theorem dX8_findWay_227 : decode cX8_findWay 227 = .ok (.iadd, 1) := by decide +kernel
theorem dX8_findWay_228 : decode cX8_findWay 228 = .ok (.iload 6, 2) := by decide +kernel
theorem dX8_findWay_230 : decode cX8_findWay 230 = .ok (.iastore, 1) := by decide +kernel
theorem dX8_findWay_231 : decode cX8_findWay 231 = .ok (.iinc 5 1, 3) := by decide +kernel
theorem dX8_findWay_234 : decode cX8_findWay 234 = .ok (.goto (-137), 3) := by decide +kernel
theorem dX8_findWay_237 : decode cX8_findWay 237 = .ok (.iinc 4 1, 3) := by decide +kernel
theorem dX8_findWay_240 : decode cX8_findWay 240 = .ok (.goto (-152), 3) := by decide +kernel
theorem dX8_findWay_243 : decode cX8_findWay 243 = .ok (.iload_n 2, 1) := by decide +kernel
theorem dX8_findWay_244 : decode cX8_findWay 244 = .ok (.istore 4, 2) := by decide +kernel
theorem dX8_findWay_246 : decode cX8_findWay 246 = .ok (.iconst 0, 1) := by decide +kernel
theorem dX8_findWay_247 : decode cX8_findWay 247 = .ok (.istore 5, 2) := by decide +kernel
theorem dX8_findWay_249 : decode cX8_findWay 249 = .ok (.iload 5, 2) := by decide +kernel
theorem dX8_findWay_251 : decode cX8_findWay 251 = .ok (.iload_n 3, 1) := by decide +kernel
theorem dX8_findWay_252 : decode cX8_findWay 252 = .ok (.if_icmp .gt 149, 3) := by decide +kernel
theorem dX8_findWay_255 : decode cX8_findWay 255 = .ok (.iconst (-1), 1) := by decide +kernel
theorem dX8_findWay_256 : decode cX8_findWay 256 = .ok (.istore 6, 2) := by decide +kernel
theorem dX8_findWay_258 : decode cX8_findWay 258 = .ok (.aload_n 0, 1) := by decide +kernel
theorem dX8_findWay_259 : decode cX8_findWay 259 = .ok (.getfield 7, 3) := by decide +kernel
theorem dX8_findWay_262 : decode cX8_findWay 262 = .ok (.iconst 1, 1) := by decide +kernel
theorem dX8_findWay_263 : decode cX8_findWay 263 = .ok (.isub, 1) := by decide +kernel
theorem dX8_findWay_264 : decode cX8_findWay 264 = .ok (.istore 7, 2) := by decide +kernel
theorem dX8_findWay_266 : decode cX8_findWay 266 = .ok (.iload 7, 2) := by decide +kernel
theorem dX8_findWay_268 : decode cX8_findWay 268 = .ok (.ifCond .lt 78, 3) := by decide +kernel
theorem dX8_findWay_271 : decode cX8_findWay 271 = .ok (.iload 5, 2) := by decide +kernel
theorem dX8_findWay_273 : decode cX8_findWay 273 = .ok (.ifCond .ne 13, 3) := by decide +kernel
theorem dX8_findWay_276 : decode cX8_findWay 276 = .ok (.aload_n 0, 1) := by decide +kernel
theorem dX8_findWay_277 : decode cX8_findWay 277 = .ok (.getfield 20, 3) := by decide +kernel
theorem dX8_findWay_280 : decode cX8_findWay 280 = .ok (.iload 7, 2) := by decide +kernel
theorem dX8_findWay_282 : decode cX8_findWay 282 = .ok (.iaload, 1) := by decide +kernel
theorem dX8_findWay_283 : decode cX8_findWay 283 = .ok (.goto 23, 3) := by decide +kernel
theorem dX8_findWay_286 : decode cX8_findWay 286 = .ok (.aload_n 0, 1) := by decide +kernel
theorem dX8_findWay_287 : decode cX8_findWay 287 = .ok (.getfield 78, 3) := by decide +kernel
theorem dX8_findWay_290 : decode cX8_findWay 290 = .ok (.bipush 8, 2) := by decide +kernel
theorem dX8_findWay_292 : decode cX8_findWay 292 = .ok (.aload_n 0, 1) := by decide +kernel
theorem dX8_findWay_293 : decode cX8_findWay 293 = .ok (.getfield 90, 3) := by decide +kernel
theorem dX8_findWay_296 : decode cX8_findWay 296 = .ok (.iload 5, 2) := by decide +kernel
theorem dX8_findWay_298 : decode cX8_findWay 298 = .ok (.iconst 1, 1) := by decide +kernel
theorem dX8_findWay_299 : decode cX8_findWay 299 = .ok (.isub, 1) := by decide +kernel
theorem dX8_findWay_300 : decode cX8_findWay 300 = .ok (.iaload, 1) := by decide +kernel
theorem dX8_findWay_301 : decode cX8_findWay 301 = .ok (.imul, 1) := by decide +kernel
theorem dX8_findWay_302 : decode cX8_findWay 302 = .ok (.iload 7, 2) := by decide +kernel
theorem dX8_findWay_304 : decode cX8_findWay 304 = .ok (.iadd, 1) := by decide +kernel
theorem dX8_findWay_305 : decode cX8_findWay 305 = .ok (.iaload, 1) := by decide +kernel
theorem dX8_findWay_306 : decode cX8_findWay 306 = .ok (.istore 8, 2) := by decide +kernel
theorem dX8_findWay_308 : decode cX8_findWay 308 = .ok (.iload 8, 2) := by decide +kernel
theorem dX8_findWay_310 : decode cX8_findWay 310 = .ok (.ifCond .lt 30, 3) := by decide +kernel
theorem dX8_findWay_313 : decode cX8_findWay 313 = .ok (.iload 8, 2) := by decide +kernel
theorem dX8_findWay_315 : decode cX8_findWay 315 = .ok (.aload_n 0, 1) := by decide +kernel
theorem dX8_findWay_316 : decode cX8_findWay 316 = .ok (.getfield 84, 3) := by decide +kernel
theorem dX8_findWay_319 : decode cX8_findWay 319 = .ok (.bipush 8, 2) := by decide +kernel
theorem dX8_findWay_321 : decode cX8_findWay 321 = .ok (.iload_n 3, 1) := by decide +kernel
theorem dX8_findWay_322 : decode cX8_findWay 322 = .ok (.iload 5, 2) := by decide +kernel
theorem dX8_findWay_324 : decode cX8_findWay 324 = .ok (.isub, 1) := by decide +kernel
theorem dX8_findWay_325 : decode cX8_findWay 325 = .ok (.imul, 1) := by decide +kernel
theorem dX8_findWay_326 : decode cX8_findWay 326 = .ok (.iload 7, 2) := by decide +kernel
theorem dX8_findWay_328 : decode cX8_findWay 328 = .ok (.iadd, 1) := by decide +kernel
theorem dX8_findWay_329 : decode cX8_findWay 329 = .ok (.iaload, 1) := by decide +kernel
theorem dX8_findWay_330 : decode cX8_findWay 330 = .ok (.iadd, 1) := by decide +kernel
theorem dX8_findWay_331 : decode cX8_findWay 331 = .ok (.iload 4, 2) := by decide +kernel
theorem dX8_findWay_333 : decode cX8_findWay 333 = .ok (.if_icmp .ne 7, 3) := by decide +kernel
theorem dX8_findWay_336 : decode cX8_findWay 336 = .ok (.iload 7, 2) := by decide +kernel
theorem dX8_findWay_338 : decode cX8_findWay 338 = .ok (.istore 6, 2) := by decide +kernel
theorem dX8_findWay_340 : decode cX8_findWay 340 = .ok (.iinc 7 (-1), 3) := by decide +kernel
theorem dX8_findWay_343 : decode cX8_findWay 343 = .ok (.goto (-77), 3) := by decide +kernel
theorem dX8_findWay_346 : decode cX8_findWay 346 = .ok (.aload_n 0, 1) := by decide +kernel
theorem dX8_findWay_347 : decode cX8_findWay 347 = .ok (.getfield 90, 3) := by decide +kernel
theorem dX8_findWay_350 : decode cX8_findWay 350 = .ok (.iload 5, 2) := by decide +kernel
theorem dX8_findWay_352 : decode cX8_findWay 352 = .ok (.iload 6, 2) := by decide +kernel
theorem dX8_findWay_354 : decode cX8_findWay 354 = .ok (.iastore, 1) := by decide +kernel
theorem dX8_findWay_355 : decode cX8_findWay 355 = .ok (.iload 4, 2) := by decide +kernel
theorem dX8_findWay_357 : decode cX8_findWay 357 = .ok (.iload 5, 2) := by decide +kernel
theorem dX8_findWay_359 : decode cX8_findWay 359 = .ok (.ifCond .ne 13, 3) := by decide +kernel
theorem dX8_findWay_362 : decode cX8_findWay 362 = .ok (.aload_n 0, 1) := by decide +kernel
theorem dX8_findWay_363 : decode cX8_findWay 363 = .ok (.getfield 20, 3) := by decide +kernel
theorem dX8_findWay_366 : decode cX8_findWay 366 = .ok (.iload 6, 2) := by decide +kernel
theorem dX8_findWay_368 : decode cX8_findWay 368 = .ok (.iaload, 1) := by decide +kernel
theorem dX8_findWay_369 : decode cX8_findWay 369 = .ok (.goto 23, 3) := by decide +kernel
theorem dX8_findWay_372 : decode cX8_findWay 372 = .ok (.aload_n 0, 1) := by decide +kernel
theorem dX8_findWay_373 : decode cX8_findWay 373 = .ok (.getfield 78, 3) := by decide +kernel
theorem dX8_findWay_376 : decode cX8_findWay 376 = .ok (.bipush 8, 2) := by decide +kernel
theorem dX8_findWay_378 : decode cX8_findWay 378 = .ok (.aload_n 0, 1) := by decide +kernel
theorem dX8_findWay_379 : decode cX8_findWay 379 = .ok (.getfield 90, 3) := by decide +kernel
theorem dX8_findWay_382 : decode cX8_findWay 382 = .ok (.iload 5, 2) := by decide +kernel
theorem dX8_findWay_384 : decode cX8_findWay 384 = .ok (.iconst 1, 1) := by decide +kernel
theorem dX8_findWay_385 : decode cX8_findWay 385 = .ok (.isub, 1) := by decide +kernel
theorem dX8_findWay_386 : decode cX8_findWay 386 = .ok (.iaload, 1) := by decide +kernel
theorem dX8_findWay_387 : decode cX8_findWay 387 = .ok (.imul, 1) := by decide +kernel
theorem dX8_findWay_388 : decode cX8_findWay 388 = .ok (.iload 6, 2) := by decide +kernel
theorem dX8_findWay_390 : decode cX8_findWay 390 = .ok (.iadd, 1) := by decide +kernel
theorem dX8_findWay_391 : decode cX8_findWay 391 = .ok (.iaload, 1) := by decide +kernel
theorem dX8_findWay_392 : decode cX8_findWay 392 = .ok (.isub, 1) := by decide +kernel
theorem dX8_findWay_393 : decode cX8_findWay 393 = .ok (.istore 4, 2) := by decide +kernel
theorem dX8_findWay_395 : decode cX8_findWay 395 = .ok (.iinc 5 1, 3) := by decide +kernel
theorem dX8_findWay_398 : decode cX8_findWay 398 = .ok (.goto (-149), 3) := by decide +kernel
theorem dX8_findWay_401 : decode cX8_findWay 401 = .ok (.iload_n 3, 1) := by decide +kernel
theorem dX8_findWay_402 : decode cX8_findWay 402 = .ok (.iconst 1, 1) := by decide +kernel
theorem dX8_findWay_403 : decode cX8_findWay 403 = .ok (.iadd, 1) := by decide +kernel
theorem dX8_findWay_404 : decode cX8_findWay 404 = .ok (.ireturn, 1) := by decide +kernel
theorem dX8_way_0 : decode cX8_way 0 = .ok (.aload_n 0, 1) := by decide +kernel
theorem dX8_way_1 : decode cX8_way 1 = .ok (.iload_n 1, 1) := by decide +kernel
theorem dX8_way_2 : decode cX8_way 2 = .ok (.invokevirtual 193, 3) := by decide +kernel
theorem dX8_way_5 : decode cX8_way 5 = .ok (.ifCond .ne 5, 3) := by decide +kernel
theorem dX8_way_8 : decode cX8_way 8 = .ok (.iconst (-1), 1) := by decide +kernel
theorem dX8_way_9 : decode cX8_way 9 = .ok (.ireturn, 1) := by decide +kernel
theorem dX8_way_10 : decode cX8_way 10 = .ok (.aload_n 0, 1) := by decide +kernel
theorem dX8_way_11 : decode cX8_way 11 = .ok (.iload_n 1, 1) := by decide +kernel
theorem dX8_way_12 : decode cX8_way 12 = .ok (.invokevirtual 287, 3) := by decide +kernel
theorem dX8_way_15 : decode cX8_way 15 = .ok (.istore_n 3, 1) := by decide +kernel
theorem dX8_way_16 : decode cX8_way 16 = .ok (.iload_n 2, 1) := by decide +kernel
theorem dX8_way_17 : decode cX8_way 17 = .ok (.iconst (-1), 1) := by decide +kernel
theorem dX8_way_18 : decode cX8_way 18 = .ok (.if_icmp .ne 5, 3) := by decide +kernel
theorem dX8_way_21 : decode cX8_way 21 = .ok (.iload_n 3, 1) := by decide +kernel
theorem dX8_way_22 : decode cX8_way 22 = .ok (.ireturn, 1) := by decide +kernel
theorem dX8_way_23 : decode cX8_way 23 = .ok (.aload_n 0, 1) := by decide +kernel
theorem dX8_way_24 : decode cX8_way 24 = .ok (.iload_n 2, 1) := by decide +kernel
theorem dX8_way_25 : decode cX8_way 25 = .ok (.iconst 0, 1) := by decide +kernel
theorem dX8_way_26 : decode cX8_way 26 = .ok (.iload_n 3, 1) := by decide +kernel
theorem dX8_way_27 : decode cX8_way 27 = .ok (.iconst 1, 1) := by decide +kernel
theorem dX8_way_28 : decode cX8_way 28 = .ok (.isub, 1) := by decide +kernel
theorem dX8_way_29 : decode cX8_way 29 = .ok (.invokevirtual 189, 3) := by decide +kernel
theorem dX8_way_32 : decode cX8_way 32 = .ok (.ifCond .eq 12, 3) := by decide +kernel
theorem dX8_way_35 : decode cX8_way 35 = .ok (.aload_n 0, 1) := by decide +kernel
theorem dX8_way_36 : decode cX8_way 36 = .ok (.getfield 90, 3) := by decide +kernel
theorem dX8_way_39 : decode cX8_way 39 = .ok (.iload_n 2, 1) := by decide +kernel
theorem dX8_way_40 : decode cX8_way 40 = .ok (.iaload, 1) := by decide +kernel
theorem dX8_way_41 : decode cX8_way 41 = .ok (.goto 4, 3) := by decide +kernel
theorem dX8_way_44 : decode cX8_way 44 = .ok (.iconst (-1), 1) := by decide +kernel
theorem dX8_way_45 : decode cX8_way 45 = .ok (.ireturn, 1) := by decide +kernel
theorem dX8_silent_0 : decode cX8_silent 0 = .ok (.aload_n 0, 1) := by decide +kernel
theorem dX8_silent_1 : decode cX8_silent 1 = .ok (.iload_n 1, 1) := by decide +kernel
theorem dX8_silent_2 : decode cX8_silent 2 = .ok (.invokevirtual 193, 3) := by decide +kernel
theorem dX8_silent_5 : decode cX8_silent 5 = .ok (.ifCond .ne 5, 3) := by decide +kernel
theorem dX8_silent_8 : decode cX8_silent 8 = .ok (.iconst (-1), 1) := by decide +kernel
theorem dX8_silent_9 : decode cX8_silent 9 = .ok (.ireturn, 1) := by decide +kernel
theorem dX8_silent_10 : decode cX8_silent 10 = .ok (.aload_n 0, 1) := by decide +kernel
theorem dX8_silent_11 : decode cX8_silent 11 = .ok (.iload_n 2, 1) := by decide +kernel
theorem dX8_silent_12 : decode cX8_silent 12 = .ok (.invokevirtual 290, 3) := by decide +kernel
theorem dX8_silent_15 : decode cX8_silent 15 = .ok (.ifCond .ne 6, 3) := by decide +kernel
theorem dX8_silent_18 : decode cX8_silent 18 = .ok (.bipush (-2), 2) := by decide +kernel
theorem dX8_silent_20 : decode cX8_silent 20 = .ok (.ireturn, 1) := by decide +kernel
theorem dX8_silent_21 : decode cX8_silent 21 = .ok (.aload_n 0, 1) := by decide +kernel
theorem dX8_silent_22 : decode cX8_silent 22 = .ok (.getfield 20, 3) := by decide +kernel
theorem dX8_silent_25 : decode cX8_silent 25 = .ok (.iload_n 1, 1) := by decide +kernel
theorem dX8_silent_26 : decode cX8_silent 26 = .ok (.iaload, 1) := by decide +kernel
theorem dX8_silent_27 : decode cX8_silent 27 = .ok (.ifCond .lt 16, 3) := by decide +kernel
theorem dX8_silent_30 : decode cX8_silent 30 = .ok (.aload_n 0, 1) := by decide +kernel
theorem dX8_silent_31 : decode cX8_silent 31 = .ok (.getfield 20, 3) := by decide +kernel
theorem dX8_silent_34 : decode cX8_silent 34 = .ok (.iload_n 1, 1) := by decide +kernel
theorem dX8_silent_35 : decode cX8_silent 35 = .ok (.iaload, 1) := by decide +kernel
theorem dX8_silent_36 : decode cX8_silent 36 = .ok (.iload_n 2, 1) := by decide +kernel
theorem dX8_silent_37 : decode cX8_silent 37 = .ok (.if_icmp .gt 6, 3) := by decide +kernel
theorem dX8_silent_40 : decode cX8_silent 40 = .ok (.bipush (-5), 2) := by decide +kernel
theorem dX8_silent_42 : decode cX8_silent 42 = .ok (.ireturn, 1) := by decide +kernel
theorem dX8_silent_43 : decode cX8_silent 43 = .ok (.aload_n 0, 1) := by decide +kernel
theorem dX8_silent_44 : decode cX8_silent 44 = .ok (.invokevirtual 278, 3) := by decide +kernel
theorem dX8_silent_47 : decode cX8_silent 47 = .ok (.bipush (-5), 2) := by decide +kernel
theorem dX8_silent_49 : decode cX8_silent 49 = .ok (.istore_n 3, 1) := by decide +kernel
theorem dX8_silent_50 : decode cX8_silent 50 = .ok (.iconst 0, 1) := by decide +kernel
theorem dX8_silent_51 : decode cX8_silent 51 = .ok (.istore 4, 2) := by decide +kernel
theorem dX8_silent_53 : decode cX8_silent 53 = .ok (.iload 4, 2) := by decide +kernel
theorem dX8_silent_55 : decode cX8_silent 55 = .ok (.iconst 1, 1) := by decide +kernel
theorem dX8_silent_56 : decode cX8_silent 56 = .ok (.aload_n 0, 1) := by decide +kernel
theorem dX8_silent_57 : decode cX8_silent 57 = .ok (.getfield 7, 3) := by decide +kernel
theorem dX8_silent_60 : decode cX8_silent 60 = .ok (.ishl, 1) := by decide +kernel
theorem dX8_silent_61 : decode cX8_silent 61 = .ok (.if_icmp .ge 58, 3) := by decide +kernel
theorem dX8_silent_64 : decode cX8_silent 64 = .ok (.aload_n 0, 1) := by decide +kernel
theorem dX8_silent_65 : decode cX8_silent 65 = .ok (.iload 4, 2) := by decide +kernel
theorem dX8_silent_67 : decode cX8_silent 67 = .ok (.iload_n 1, 1) := by decide +kernel
theorem dX8_silent_68 : decode cX8_silent 68 = .ok (.invokevirtual 275, 3) := by decide +kernel
theorem dX8_silent_71 : decode cX8_silent 71 = .ok (.ifCond .ne 42, 3) := by decide +kernel
theorem dX8_silent_74 : decode cX8_silent 74 = .ok (.iload_n 3, 1) := by decide +kernel
theorem dX8_silent_75 : decode cX8_silent 75 = .ok (.ifCond .lt 20, 3) := by decide +kernel
theorem dX8_silent_78 : decode cX8_silent 78 = .ok (.aload_n 0, 1) := by decide +kernel
theorem dX8_silent_79 : decode cX8_silent 79 = .ok (.iload 4, 2) := by decide +kernel
theorem dX8_silent_81 : decode cX8_silent 81 = .ok (.invokevirtual 293, 3) := by decide +kernel
theorem dX8_silent_84 : decode cX8_silent 84 = .ok (.aload_n 0, 1) := by decide +kernel
theorem dX8_silent_85 : decode cX8_silent 85 = .ok (.iload_n 3, 1) := by decide +kernel
theorem dX8_silent_86 : decode cX8_silent 86 = .ok (.invokevirtual 293, 3) := by decide +kernel
theorem dX8_silent_89 : decode cX8_silent 89 = .ok (.if_icmp .lt 6, 3) := by decide +kernel
theorem dX8_silent_92 : decode cX8_silent 92 = .ok (.goto 21, 3) := by decide +kernel
theorem dX8_silent_95 : decode cX8_silent 95 = .ok (.aload_n 0, 1) := by decide +kernel
theorem dX8_silent_96 : decode cX8_silent 96 = .ok (.iload 4, 2) := by decide +kernel
theorem dX8_silent_98 : decode cX8_silent 98 = .ok (.invokevirtual 281, 3) := by decide +kernel
theorem dX8_silent_101 : decode cX8_silent 101 = .ok (.aload_n 0, 1) := by decide +kernel
theorem dX8_silent_102 : decode cX8_silent 102 = .ok (.iload_n 1, 1) := by decide +kernel
theorem dX8_silent_103 : decode cX8_silent 103 = .ok (.invokevirtual 284, 3) := by decide +kernel
theorem dX8_silent_106 : decode cX8_silent 106 = .ok (.iload_n 2, 1) := by decide +kernel
theorem dX8_silent_107 : decode cX8_silent 107 = .ok (.if_icmp .le 6, 3) := by decide +kernel
theorem dX8_silent_110 : decode cX8_silent 110 = .ok (.iload 4, 2) := by decide +kernel
theorem dX8_silent_112 : decode cX8_silent 112 = .ok (.istore_n 3, 1) := by decide +kernel
theorem dX8_silent_113 : decode cX8_silent 113 = .ok (.iinc 4 1, 3) := by decide +kernel
theorem dX8_silent_116 : decode cX8_silent 116 = .ok (.goto (-63), 3) := by decide +kernel
theorem dX8_silent_119 : decode cX8_silent 119 = .ok (.iload_n 3, 1) := by decide +kernel
theorem dX8_silent_120 : decode cX8_silent 120 = .ok (.ireturn, 1) := by decide +kernel
theorem dX8_isTrade_0 : decode cX8_isTrade 0 = .ok (.aload_n 0, 1) := by decide +kernel
theorem dX8_isTrade_1 : decode cX8_isTrade 1 = .ok (.iload_n 1, 1) := by decide +kernel
theorem dX8_isTrade_2 : decode cX8_isTrade 2 = .ok (.iconst 0, 1) := by decide +kernel
theorem dX8_isTrade_3 : decode cX8_isTrade 3 = .ok (.aload_n 0, 1) := by decide +kernel
theorem dX8_isTrade_4 : decode cX8_isTrade 4 = .ok (.getfield 93, 3) := by decide +kernel
theorem dX8_isTrade_7 : decode cX8_isTrade 7 = .ok (.iconst 1, 1) := by decide +kernel
theorem dX8_isTrade_8 : decode cX8_isTrade 8 = .ok (.isub, 1) := by decide +kernel
theorem dX8_isTrade_9 : decode cX8_isTrade 9 = .ok (.invokevirtual 189, 3) := by decide +kernel
theorem dX8_isTrade_12 : decode cX8_isTrade 12 = .ok (.ireturn, 1) := by decide +kernel
theorem dX8_trade_0 : decode cX8_trade 0 = .ok (.aload_n 0, 1) := by decide +kernel
theorem dX8_trade_1 : decode cX8_trade 1 = .ok (.iload_n 1, 1) := by decide +kernel
theorem dX8_trade_2 : decode cX8_trade 2 = .ok (.iconst 0, 1) := by decide +kernel
theorem dX8_trade_3 : decode cX8_trade 3 = .ok (.bipush 6, 2) := by decide +kernel
theorem dX8_trade_5 : decode cX8_trade 5 = .ok (.invokevirtual 189, 3) := by decide +kernel
theorem dX8_trade_8 : decode cX8_trade 8 = .ok (.ifCond .eq 22, 3) := by decide +kernel
theorem dX8_trade_11 : decode cX8_trade 11 = .ok (.aload_n 0, 1) := by decide +kernel
theorem dX8_trade_12 : decode cX8_trade 12 = .ok (.iload_n 2, 1) := by decide +kernel
theorem dX8_trade_13 : decode cX8_trade 13 = .ok (.invokevirtual 193, 3) := by decide +kernel
theorem dX8_trade_16 : decode cX8_trade 16 = .ok (.ifCond .eq 14, 3) := by decide +kernel
theorem dX8_trade_19 : decode cX8_trade 19 = .ok (.aload_n 0, 1) := by decide +kernel
theorem dX8_trade_20 : decode cX8_trade 20 = .ok (.iload_n 3, 1) := by decide +kernel
theorem dX8_trade_21 : decode cX8_trade 21 = .ok (.iconst 0, 1) := by decide +kernel
theorem dX8_trade_22 : decode cX8_trade 22 = .ok (.bipush 8, 2) := by decide +kernel
theorem dX8_trade_24 : decode cX8_trade 24 = .ok (.invokevirtual 189, 3) := by decide +kernel
theorem dX8_trade_27 : decode cX8_trade 27 = .ok (.ifCond .ne 5, 3) := by decide +kernel
theorem dX8_trade_30 : decode cX8_trade 30 = .ok (.iconst (-1), 1) := by decide +kernel
theorem dX8_trade_31 : decode cX8_trade 31 = .ok (.ireturn, 1) := by decide +kernel
theorem dX8_trade_32 : decode cX8_trade 32 = .ok (.aload_n 0, 1) := by decide +kernel
theorem dX8_trade_33 : decode cX8_trade 33 = .ok (.iload 4, 2) := by decide +kernel
theorem dX8_trade_35 : decode cX8_trade 35 = .ok (.invokevirtual 290, 3) := by decide +kernel
theorem dX8_trade_38 : decode cX8_trade 38 = .ok (.ifCond .eq 15, 3) := by decide +kernel
theorem dX8_trade_41 : decode cX8_trade 41 = .ok (.aload_n 0, 1) := by decide +kernel
theorem dX8_trade_42 : decode cX8_trade 42 = .ok (.iload 5, 2) := by decide +kernel
theorem dX8_trade_44 : decode cX8_trade 44 = .ok (.iconst 1, 1) := by decide +kernel
theorem dX8_trade_45 : decode cX8_trade 45 = .ok (.bipush 99, 2) := by decide +kernel
theorem dX8_trade_47 : decode cX8_trade 47 = .ok (.invokevirtual 189, 3) := by decide +kernel
theorem dX8_trade_50 : decode cX8_trade 50 = .ok (.ifCond .ne 6, 3) := by decide +kernel
theorem dX8_trade_53 : decode cX8_trade 53 = .ok (.bipush (-2), 2) := by decide +kernel
theorem dX8_trade_55 : decode cX8_trade 55 = .ok (.ireturn, 1) := by decide +kernel
theorem dX8_trade_56 : decode cX8_trade 56 = .ok (.aload_n 0, 1) := by decide +kernel
theorem dX8_trade_57 : decode cX8_trade 57 = .ok (.getfield 93, 3) := by decide +kernel
theorem dX8_trade_60 : decode cX8_trade 60 = .ok (.bipush 16, 2) := by decide +kernel
theorem dX8_trade_62 : decode cX8_trade 62 = .ok (.if_icmp .ne 6, 3) := by decide +kernel
theorem dX8_trade_65 : decode cX8_trade 65 = .ok (.bipush (-4), 2) := by decide +kernel
theorem dX8_trade_67 : decode cX8_trade 67 = .ok (.ireturn, 1) := by decide +kernel
theorem dX8_trade_68 : decode cX8_trade 68 = .ok (.aload_n 0, 1) := by decide +kernel
theorem dX8_trade_69 : decode cX8_trade 69 = .ok (.getfield 96, 3) := by decide +kernel
theorem dX8_trade_72 : decode cX8_trade 72 = .ok (.aload_n 0, 1) := by decide +kernel
theorem dX8_trade_73 : decode cX8_trade 73 = .ok (.getfield 93, 3) := by decide +kernel
theorem dX8_trade_76 : decode cX8_trade 76 = .ok (.iload_n 1, 1) := by decide +kernel
theorem dX8_trade_77 : decode cX8_trade 77 = .ok (.iastore, 1) := by decide +kernel
theorem dX8_trade_78 : decode cX8_trade 78 = .ok (.aload_n 0, 1) := by decide +kernel
theorem dX8_trade_79 : decode cX8_trade 79 = .ok (.getfield 99, 3) := by decide +kernel
theorem dX8_trade_82 : decode cX8_trade 82 = .ok (.aload_n 0, 1) := by decide +kernel
theorem dX8_trade_83 : decode cX8_trade 83 = .ok (.getfield 93, 3) := by decide +kernel
theorem dX8_trade_86 : decode cX8_trade 86 = .ok (.iload_n 2, 1) := by decide +kernel
theorem dX8_trade_87 : decode cX8_trade 87 = .ok (.iastore, 1) := by decide +kernel
theorem dX8_trade_88 : decode cX8_trade 88 = .ok (.aload_n 0, 1) := by decide +kernel
theorem dX8_trade_89 : decode cX8_trade 89 = .ok (.getfield 102, 3) := by decide +kernel
theorem dX8_trade_92 : decode cX8_trade 92 = .ok (.aload_n 0, 1) := by decide +kernel
theorem dX8_trade_93 : decode cX8_trade 93 = .ok (.getfield 93, 3) := by decide +kernel
theorem dX8_trade_96 : decode cX8_trade 96 = .ok (.iload_n 3, 1) := by decide +kernel
theorem dX8_trade_97 : decode cX8_trade 97 = .ok (.iastore, 1) := by decide +kernel
theorem dX8_trade_98 : decode cX8_trade 98 = .ok (.aload_n 0, 1) := by decide +kernel
theorem dX8_trade_99 : decode cX8_trade 99 = .ok (.getfield 105, 3) := by decide +kernel
theorem dX8_trade_102 : decode cX8_trade 102 = .ok (.aload_n 0, 1) := by decide +kernel
theorem dX8_trade_103 : decode cX8_trade 103 = .ok (.getfield 93, 3) := by decide +kernel
theorem dX8_trade_106 : decode cX8_trade 106 = .ok (.iload 4, 2) := by decide +kernel
theorem dX8_trade_108 : decode cX8_trade 108 = .ok (.iastore, 1) := by decide +kernel
theorem dX8_trade_109 : decode cX8_trade 109 = .ok (.aload_n 0, 1) := by decide +kernel
theorem dX8_trade_110 : decode cX8_trade 110 = .ok (.getfield 108, 3) := by decide +kernel
theorem dX8_trade_113 : decode cX8_trade 113 = .ok (.aload_n 0, 1) := by decide +kernel
theorem dX8_trade_114 : decode cX8_trade 114 = .ok (.getfield 93, 3) := by decide +kernel
theorem dX8_trade_117 : decode cX8_trade 117 = .ok (.iload 5, 2) := by decide +kernel
theorem dX8_trade_119 : decode cX8_trade 119 = .ok (.iastore, 1) := by decide +kernel
theorem dX8_trade_120 : decode cX8_trade 120 = .ok (.aload_n 0, 1) := by decide +kernel
theorem dX8_trade_121 : decode cX8_trade 121 = .ok (.dup, 1) := by decide +kernel
theorem dX8_trade_122 : decode cX8_trade 122 = .ok (.getfield 93, 3) := by decide +kernel
theorem dX8_trade_125 : decode cX8_trade 125 = .ok (.iconst 1, 1) := by decide +kernel
theorem dX8_trade_126 : decode cX8_trade 126 = .ok (.iadd, 1) := by decide +kernel
theorem dX8_trade_127 : decode cX8_trade 127 = .ok (.putfield 93, 3) := by decide +kernel
theorem dX8_trade_130 : decode cX8_trade 130 = .ok (.aload_n 0, 1) := by decide +kernel
theorem dX8_trade_131 : decode cX8_trade 131 = .ok (.getfield 93, 3) := by decide +kernel
theorem dX8_trade_134 : decode cX8_trade 134 = .ok (.iconst 1, 1) := by decide +kernel
theorem dX8_trade_135 : decode cX8_trade 135 = .ok (.isub, 1) := by decide +kernel
theorem dX8_trade_136 : decode cX8_trade 136 = .ok (.ireturn, 1) := by decide +kernel
theorem dX8_hasOther_0 : decode cX8_hasOther 0 = .ok (.iconst 0, 1) := by decide +kernel
theorem dX8_hasOther_1 : decode cX8_hasOther 1 = .ok (.istore_n 2, 1) := by decide +kernel
theorem dX8_hasOther_2 : decode cX8_hasOther 2 = .ok (.iload_n 2, 1) := by decide +kernel
theorem dX8_hasOther_3 : decode cX8_hasOther 3 = .ok (.aload_n 0, 1) := by decide +kernel
theorem dX8_hasOther_4 : decode cX8_hasOther 4 = .ok (.getfield 93, 3) := by decide +kernel
theorem dX8_hasOther_7 : decode cX8_hasOther 7 = .ok (.if_icmp .ge 46, 3) := by decide +kernel
theorem dX8_hasOther_10 : decode cX8_hasOther 10 = .ok (.iload_n 2, 1) := by decide +kernel
theorem dX8_hasOther_11 : decode cX8_hasOther 11 = .ok (.iload_n 1, 1) := by decide +kernel
theorem dX8_hasOther_12 : decode cX8_hasOther 12 = .ok (.if_icmp .eq 35, 3) := by decide +kernel
theorem dX8_hasOther_15 : decode cX8_hasOther 15 = .ok (.aload_n 0, 1) := by decide +kernel
theorem dX8_hasOther_16 : decode cX8_hasOther 16 = .ok (.getfield 99, 3) := by decide +kernel
theorem dX8_hasOther_19 : decode cX8_hasOther 19 = .ok (.iload_n 2, 1) := by decide +kernel
theorem dX8_hasOther_20 : decode cX8_hasOther 20 = .ok (.iaload, 1) := by decide +kernel
theorem dX8_hasOther_21 : decode cX8_hasOther 21 = .ok (.aload_n 0, 1) := by decide +kernel
theorem dX8_hasOther_22 : decode cX8_hasOther 22 = .ok (.getfield 99, 3) := by decide +kernel
theorem dX8_hasOther_25 : decode cX8_hasOther 25 = .ok (.iload_n 1, 1) := by decide +kernel
theorem dX8_hasOther_26 : decode cX8_hasOther 26 = .ok (.iaload, 1) := by decide +kernel
theorem dX8_hasOther_27 : decode cX8_hasOther 27 = .ok (.if_icmp .ne 20, 3) := by decide +kernel
theorem dX8_hasOther_30 : decode cX8_hasOther 30 = .ok (.aload_n 0, 1) := by decide +kernel
theorem dX8_hasOther_31 : decode cX8_hasOther 31 = .ok (.getfield 102, 3) := by decide +kernel
theorem dX8_hasOther_34 : decode cX8_hasOther 34 = .ok (.iload_n 2, 1) := by decide +kernel
theorem dX8_hasOther_35 : decode cX8_hasOther 35 = .ok (.iaload, 1) := by decide +kernel
theorem dX8_hasOther_36 : decode cX8_hasOther 36 = .ok (.aload_n 0, 1) := by decide +kernel
theorem dX8_hasOther_37 : decode cX8_hasOther 37 = .ok (.getfield 102, 3) := by decide +kernel
theorem dX8_hasOther_40 : decode cX8_hasOther 40 = .ok (.iload_n 1, 1) := by decide +kernel
theorem dX8_hasOther_41 : decode cX8_hasOther 41 = .ok (.iaload, 1) := by decide +kernel
theorem dX8_hasOther_42 : decode cX8_hasOther 42 = .ok (.if_icmp .ne 5, 3) := by decide +kernel
theorem dX8_hasOther_45 : decode cX8_hasOther 45 = .ok (.iconst 1, 1) := by decide +kernel
theorem dX8_hasOther_46 : decode cX8_hasOther 46 = .ok (.ireturn, 1) := by decide +kernel
theorem dX8_hasOther_47 : decode cX8_hasOther 47 = .ok (.iinc 2 1, 3) := by decide +kernel
theorem dX8_hasOther_50 : decode cX8_hasOther 50 = .ok (.goto (-48), 3) := by decide +kernel
theorem dX8_hasOther_53 : decode cX8_hasOther 53 = .ok (.iconst 0, 1) := by decide +kernel
theorem dX8_hasOther_54 : decode cX8_hasOther 54 = .ok (.ireturn, 1) := by decide +kernel
theorem dX8_explains_0 : decode cX8_explains 0 = .ok (.aload_n 0, 1) := by decide +kernel
theorem dX8_explains_1 : decode cX8_explains 1 = .ok (.aload_n 0, 1) := by decide +kernel
theorem dX8_explains_2 : decode cX8_explains 2 = .ok (.getfield 99, 3) := by decide +kernel
theorem dX8_explains_5 : decode cX8_explains 5 = .ok (.iload_n 2, 1) := by decide +kernel
theorem dX8_explains_6 : decode cX8_explains 6 = .ok (.iaload, 1) := by decide +kernel
theorem dX8_explains_7 : decode cX8_explains 7 = .ok (.invokevirtual 284, 3) := by decide +kernel
theorem dX8_explains_10 : decode cX8_explains 10 = .ok (.aload_n 0, 1) := by decide +kernel
theorem dX8_explains_11 : decode cX8_explains 11 = .ok (.getfield 105, 3) := by decide +kernel
theorem dX8_explains_14 : decode cX8_explains 14 = .ok (.iload_n 2, 1) := by decide +kernel
theorem dX8_explains_15 : decode cX8_explains 15 = .ok (.iaload, 1) := by decide +kernel
theorem dX8_explains_16 : decode cX8_explains 16 = .ok (.if_icmp .gt 7, 3) := by decide +kernel
theorem dX8_explains_19 : decode cX8_explains 19 = .ok (.iconst 1, 1) := by decide +kernel
theorem dX8_explains_20 : decode cX8_explains 20 = .ok (.goto 4, 3) := by decide +kernel
theorem dX8_explains_23 : decode cX8_explains 23 = .ok (.iconst 0, 1) := by decide +kernel
theorem dX8_explains_24 : decode cX8_explains 24 = .ok (.istore_n 3, 1) := by decide +kernel
theorem dX8_explains_25 : decode cX8_explains 25 = .ok (.iload_n 1, 1) := by decide +kernel
theorem dX8_explains_26 : decode cX8_explains 26 = .ok (.tableswitch 141 0 5 #[38, 40, 65, 88, 90, 117], 38) := by decide +kernel
theorem dX8_explains_64 : decode cX8_explains 64 = .ok (.iconst 1, 1) := by decide +kernel
theorem dX8_explains_65 : decode cX8_explains 65 = .ok (.ireturn, 1) := by decide +kernel
theorem dX8_explains_66 : decode cX8_explains 66 = .ok (.aload_n 0, 1) := by decide +kernel
theorem dX8_explains_67 : decode cX8_explains 67 = .ok (.aload_n 0, 1) := by decide +kernel
theorem dX8_explains_68 : decode cX8_explains 68 = .ok (.getfield 99, 3) := by decide +kernel
theorem dX8_explains_71 : decode cX8_explains 71 = .ok (.iload_n 2, 1) := by decide +kernel
theorem dX8_explains_72 : decode cX8_explains 72 = .ok (.iaload, 1) := by decide +kernel
theorem dX8_explains_73 : decode cX8_explains 73 = .ok (.aload_n 0, 1) := by decide +kernel
theorem dX8_explains_74 : decode cX8_explains 74 = .ok (.getfield 102, 3) := by decide +kernel
theorem dX8_explains_77 : decode cX8_explains 77 = .ok (.iload_n 2, 1) := by decide +kernel
theorem dX8_explains_78 : decode cX8_explains 78 = .ok (.iaload, 1) := by decide +kernel
theorem dX8_explains_79 : decode cX8_explains 79 = .ok (.invokevirtual 268, 3) := by decide +kernel
theorem dX8_explains_82 : decode cX8_explains 82 = .ok (.ifCond .le 7, 3) := by decide +kernel
theorem dX8_explains_85 : decode cX8_explains 85 = .ok (.iconst 1, 1) := by decide +kernel
theorem dX8_explains_86 : decode cX8_explains 86 = .ok (.goto 4, 3) := by decide +kernel
theorem dX8_explains_89 : decode cX8_explains 89 = .ok (.iconst 0, 1) := by decide +kernel
theorem dX8_explains_90 : decode cX8_explains 90 = .ok (.ireturn, 1) := by decide +kernel
theorem dX8_explains_91 : decode cX8_explains 91 = .ok (.aload_n 0, 1) := by decide +kernel
theorem dX8_explains_92 : decode cX8_explains 92 = .ok (.getfield 105, 3) := by decide +kernel
theorem dX8_explains_95 : decode cX8_explains 95 = .ok (.iload_n 2, 1) := by decide +kernel
theorem dX8_explains_96 : decode cX8_explains 96 = .ok (.iaload, 1) := by decide +kernel
theorem dX8_explains_97 : decode cX8_explains 97 = .ok (.aload_n 0, 1) := by decide +kernel
theorem dX8_explains_98 : decode cX8_explains 98 = .ok (.iconst 2, 1) := by decide +kernel
theorem dX8_explains_99 : decode cX8_explains 99 = .ok (.sipush 999, 3) := by decide +kernel
theorem dX8_explains_102 : decode cX8_explains 102 = .ok (.invokevirtual 271, 3) := by decide +kernel
theorem dX8_explains_105 : decode cX8_explains 105 = .ok (.if_icmp .lt 7, 3) := by decide +kernel
theorem dX8_explains_108 : decode cX8_explains 108 = .ok (.iconst 1, 1) := by decide +kernel
theorem dX8_explains_109 : decode cX8_explains 109 = .ok (.goto 4, 3) := by decide +kernel
theorem dX8_explains_112 : decode cX8_explains 112 = .ok (.iconst 0, 1) := by decide +kernel
theorem dX8_explains_113 : decode cX8_explains 113 = .ok (.ireturn, 1) := by decide +kernel
theorem dX8_explains_114 : decode cX8_explains 114 = .ok (.iload_n 3, 1) := by decide +kernel
theorem dX8_explains_115 : decode cX8_explains 115 = .ok (.ireturn, 1) := by decide +kernel
theorem dX8_explains_116 : decode cX8_explains 116 = .ok (.aload_n 0, 1) := by decide +kernel
theorem dX8_explains_117 : decode cX8_explains 117 = .ok (.aload_n 0, 1) := by decide +kernel
theorem dX8_explains_118 : decode cX8_explains 118 = .ok (.getfield 99, 3) := by decide +kernel
theorem dX8_explains_121 : decode cX8_explains 121 = .ok (.iload_n 2, 1) := by decide +kernel
theorem dX8_explains_122 : decode cX8_explains 122 = .ok (.iaload, 1) := by decide +kernel
theorem dX8_explains_123 : decode cX8_explains 123 = .ok (.aload_n 0, 1) := by decide +kernel
theorem dX8_explains_124 : decode cX8_explains 124 = .ok (.getfield 102, 3) := by decide +kernel
theorem dX8_explains_127 : decode cX8_explains 127 = .ok (.iload_n 2, 1) := by decide +kernel
theorem dX8_explains_128 : decode cX8_explains 128 = .ok (.iaload, 1) := by decide +kernel
theorem dX8_explains_129 : decode cX8_explains 129 = .ok (.invokevirtual 268, 3) := by decide +kernel
theorem dX8_explains_132 : decode cX8_explains 132 = .ok (.bipush 50, 2) := by decide +kernel
theorem dX8_explains_134 : decode cX8_explains 134 = .ok (.if_icmp .lt 7, 3) := by decide +kernel
theorem dX8_explains_137 : decode cX8_explains 137 = .ok (.iconst 1, 1) := by decide +kernel
theorem dX8_explains_138 : decode cX8_explains 138 = .ok (.goto 4, 3) := by decide +kernel
theorem dX8_explains_141 : decode cX8_explains 141 = .ok (.iconst 0, 1) := by decide +kernel
theorem dX8_explains_142 : decode cX8_explains 142 = .ok (.ireturn, 1) := by decide +kernel
theorem dX8_explains_143 : decode cX8_explains 143 = .ok (.iload_n 3, 1) := by decide +kernel
theorem dX8_explains_144 : decode cX8_explains 144 = .ok (.ifCond .eq 21, 3) := by decide +kernel
theorem dX8_explains_147 : decode cX8_explains 147 = .ok (.aload_n 0, 1) := by decide +kernel
theorem dX8_explains_148 : decode cX8_explains 148 = .ok (.getfield 20, 3) := by decide +kernel
theorem dX8_explains_151 : decode cX8_explains 151 = .ok (.aload_n 0, 1) := by decide +kernel
theorem dX8_explains_152 : decode cX8_explains 152 = .ok (.getfield 99, 3) := by decide +kernel
theorem dX8_explains_155 : decode cX8_explains 155 = .ok (.iload_n 2, 1) := by decide +kernel
theorem dX8_explains_156 : decode cX8_explains 156 = .ok (.iaload, 1) := by decide +kernel
theorem dX8_explains_157 : decode cX8_explains 157 = .ok (.iaload, 1) := by decide +kernel
theorem dX8_explains_158 : decode cX8_explains 158 = .ok (.ifCond .ge 7, 3) := by decide +kernel
theorem dX8_explains_161 : decode cX8_explains 161 = .ok (.iconst 1, 1) := by decide +kernel
theorem dX8_explains_162 : decode cX8_explains 162 = .ok (.goto 4, 3) := by decide +kernel
theorem dX8_explains_165 : decode cX8_explains 165 = .ok (.iconst 0, 1) := by decide +kernel
theorem dX8_explains_166 : decode cX8_explains 166 = .ok (.ireturn, 1) := by decide +kernel
theorem dX8_explains_167 : decode cX8_explains 167 = .ok (.iload_n 3, 1) := by decide +kernel
theorem dX8_explains_168 : decode cX8_explains 168 = .ok (.ifCond .eq 32, 3) := by decide +kernel
theorem dX8_explains_171 : decode cX8_explains 171 = .ok (.aload_n 0, 1) := by decide +kernel
theorem dX8_explains_172 : decode cX8_explains 172 = .ok (.getfield 108, 3) := by decide +kernel
theorem dX8_explains_175 : decode cX8_explains 175 = .ok (.iload_n 2, 1) := by decide +kernel
theorem dX8_explains_176 : decode cX8_explains 176 = .ok (.iaload, 1) := by decide +kernel
theorem dX8_explains_177 : decode cX8_explains 177 = .ok (.aload_n 0, 1) := by decide +kernel
theorem dX8_explains_178 : decode cX8_explains 178 = .ok (.iconst 3, 1) := by decide +kernel
theorem dX8_explains_179 : decode cX8_explains 179 = .ok (.sipush 999, 3) := by decide +kernel
theorem dX8_explains_182 : decode cX8_explains 182 = .ok (.invokevirtual 271, 3) := by decide +kernel
theorem dX8_explains_185 : decode cX8_explains 185 = .ok (.if_icmp .ge 15, 3) := by decide +kernel
theorem dX8_explains_188 : decode cX8_explains 188 = .ok (.aload_n 0, 1) := by decide +kernel
theorem dX8_explains_189 : decode cX8_explains 189 = .ok (.iload_n 2, 1) := by decide +kernel
theorem dX8_explains_190 : decode cX8_explains 190 = .ok (.invokevirtual 296, 3) := by decide +kernel
theorem dX8_explains_193 : decode cX8_explains 193 = .ok (.ifCond .eq 7, 3) := by decide +kernel
theorem dX8_explains_196 : decode cX8_explains 196 = .ok (.iconst 1, 1) := by decide +kernel
theorem dX8_explains_197 : decode cX8_explains 197 = .ok (.goto 4, 3) := by decide +kernel
theorem dX8_explains_200 : decode cX8_explains 200 = .ok (.iconst 0, 1) := by decide +kernel
theorem dX8_explains_201 : decode cX8_explains 201 = .ok (.ireturn, 1) := by decide +kernel
theorem dX8_allOf_0 : decode cX8_allOf 0 = .ok (.iconst 0, 1) := by decide +kernel
theorem dX8_allOf_1 : decode cX8_allOf 1 = .ok (.istore_n 2, 1) := by decide +kernel
theorem dX8_allOf_2 : decode cX8_allOf 2 = .ok (.iconst 0, 1) := by decide +kernel
theorem dX8_allOf_3 : decode cX8_allOf 3 = .ok (.istore_n 3, 1) := by decide +kernel
theorem dX8_allOf_4 : decode cX8_allOf 4 = .ok (.iload_n 3, 1) := by decide +kernel
theorem dX8_allOf_5 : decode cX8_allOf 5 = .ok (.bipush 7, 2) := by decide +kernel
theorem dX8_allOf_7 : decode cX8_allOf 7 = .ok (.if_icmp .ge 28, 3) := by decide +kernel
theorem dX8_allOf_10 : decode cX8_allOf 10 = .ok (.iload_n 2, 1) := by decide +kernel
theorem dX8_allOf_11 : decode cX8_allOf 11 = .ok (.aload_n 0, 1) := by decide +kernel
theorem dX8_allOf_12 : decode cX8_allOf 12 = .ok (.iload_n 3, 1) := by decide +kernel
theorem dX8_allOf_13 : decode cX8_allOf 13 = .ok (.iload_n 1, 1) := by decide +kernel
theorem dX8_allOf_14 : decode cX8_allOf 14 = .ok (.invokevirtual 299, 3) := by decide +kernel
theorem dX8_allOf_17 : decode cX8_allOf 17 = .ok (.ifCond .eq 9, 3) := by decide +kernel
theorem dX8_allOf_20 : decode cX8_allOf 20 = .ok (.iconst 1, 1) := by decide +kernel
theorem dX8_allOf_21 : decode cX8_allOf 21 = .ok (.iload_n 3, 1) := by decide +kernel
theorem dX8_allOf_22 : decode cX8_allOf 22 = .ok (.ishl, 1) := by decide +kernel
theorem dX8_allOf_23 : decode cX8_allOf 23 = .ok (.goto 4, 3) := by decide +kernel
theorem dX8_allOf_26 : decode cX8_allOf 26 = .ok (.iconst 0, 1) := by decide +kernel
theorem dX8_allOf_27 : decode cX8_allOf 27 = .ok (.ior, 1) := by decide +kernel
theorem dX8_allOf_28 : decode cX8_allOf 28 = .ok (.istore_n 2, 1) := by decide +kernel
theorem dX8_allOf_29 : decode cX8_allOf 29 = .ok (.iinc 3 1, 3) := by decide +kernel
theorem dX8_allOf_32 : decode cX8_allOf 32 = .ok (.goto (-28), 3) := by decide +kernel
theorem dX8_allOf_35 : decode cX8_allOf 35 = .ok (.iload_n 2, 1) := by decide +kernel
theorem dX8_allOf_36 : decode cX8_allOf 36 = .ok (.ireturn, 1) := by decide +kernel
theorem dX8_of_0 : decode cX8_of 0 = .ok (.aload_n 0, 1) := by decide +kernel
theorem dX8_of_1 : decode cX8_of 1 = .ok (.iload_n 1, 1) := by decide +kernel
theorem dX8_of_2 : decode cX8_of 2 = .ok (.invokevirtual 302, 3) := by decide +kernel
theorem dX8_of_5 : decode cX8_of 5 = .ok (.ifCond .eq 13, 3) := by decide +kernel
theorem dX8_of_8 : decode cX8_of 8 = .ok (.aload_n 0, 1) := by decide +kernel
theorem dX8_of_9 : decode cX8_of 9 = .ok (.iload_n 2, 1) := by decide +kernel
theorem dX8_of_10 : decode cX8_of 10 = .ok (.iconst 0, 1) := by decide +kernel
theorem dX8_of_11 : decode cX8_of 11 = .ok (.iconst 5, 1) := by decide +kernel
theorem dX8_of_12 : decode cX8_of 12 = .ok (.invokevirtual 189, 3) := by decide +kernel
theorem dX8_of_15 : decode cX8_of 15 = .ok (.ifCond .ne 5, 3) := by decide +kernel
theorem dX8_of_18 : decode cX8_of 18 = .ok (.iconst (-1), 1) := by decide +kernel
theorem dX8_of_19 : decode cX8_of 19 = .ok (.ireturn, 1) := by decide +kernel
theorem dX8_of_20 : decode cX8_of 20 = .ok (.iload_n 2, 1) := by decide +kernel
theorem dX8_of_21 : decode cX8_of 21 = .ok (.tableswitch 70 0 4 #[35, 42, 49, 56, 63], 35) := by decide +kernel
theorem dX8_of_56 : decode cX8_of 56 = .ok (.aload_n 0, 1) := by decide +kernel
theorem dX8_of_57 : decode cX8_of 57 = .ok (.getfield 96, 3) := by decide +kernel
theorem dX8_of_60 : decode cX8_of 60 = .ok (.iload_n 1, 1) := by decide +kernel
theorem dX8_of_61 : decode cX8_of 61 = .ok (.iaload, 1) := by decide +kernel
theorem dX8_of_62 : decode cX8_of 62 = .ok (.ireturn, 1) := by decide +kernel
theorem dX8_of_63 : decode cX8_of 63 = .ok (.aload_n 0, 1) := by decide +kernel
theorem dX8_of_64 : decode cX8_of 64 = .ok (.getfield 99, 3) := by decide +kernel
theorem dX8_of_67 : decode cX8_of 67 = .ok (.iload_n 1, 1) := by decide +kernel
theorem dX8_of_68 : decode cX8_of 68 = .ok (.iaload, 1) := by decide +kernel
theorem dX8_of_69 : decode cX8_of 69 = .ok (.ireturn, 1) := by decide +kernel
theorem dX8_of_70 : decode cX8_of 70 = .ok (.aload_n 0, 1) := by decide +kernel
theorem dX8_of_71 : decode cX8_of 71 = .ok (.getfield 102, 3) := by decide +kernel
theorem dX8_of_74 : decode cX8_of 74 = .ok (.iload_n 1, 1) := by decide +kernel
theorem dX8_of_75 : decode cX8_of 75 = .ok (.iaload, 1) := by decide +kernel
theorem dX8_of_76 : decode cX8_of 76 = .ok (.ireturn, 1) := by decide +kernel
theorem dX8_of_77 : decode cX8_of 77 = .ok (.aload_n 0, 1) := by decide +kernel
theorem dX8_of_78 : decode cX8_of 78 = .ok (.getfield 105, 3) := by decide +kernel
theorem dX8_of_81 : decode cX8_of 81 = .ok (.iload_n 1, 1) := by decide +kernel
theorem dX8_of_82 : decode cX8_of 82 = .ok (.iaload, 1) := by decide +kernel
theorem dX8_of_83 : decode cX8_of 83 = .ok (.ireturn, 1) := by decide +kernel
theorem dX8_of_84 : decode cX8_of 84 = .ok (.aload_n 0, 1) := by decide +kernel
theorem dX8_of_85 : decode cX8_of 85 = .ok (.getfield 108, 3) := by decide +kernel
theorem dX8_of_88 : decode cX8_of 88 = .ok (.iload_n 1, 1) := by decide +kernel
theorem dX8_of_89 : decode cX8_of 89 = .ok (.iaload, 1) := by decide +kernel
theorem dX8_of_90 : decode cX8_of 90 = .ok (.ireturn, 1) := by decide +kernel
theorem dX8_of_91 : decode cX8_of 91 = .ok (.aload_n 0, 1) := by decide +kernel
theorem dX8_of_92 : decode cX8_of 92 = .ok (.invokevirtual 278, 3) := by decide +kernel
theorem dX8_of_95 : decode cX8_of 95 = .ok (.aload_n 0, 1) := by decide +kernel
theorem dX8_of_96 : decode cX8_of 96 = .ok (.iconst 0, 1) := by decide +kernel
theorem dX8_of_97 : decode cX8_of 97 = .ok (.invokevirtual 281, 3) := by decide +kernel
theorem dX8_of_100 : decode cX8_of 100 = .ok (.aload_n 0, 1) := by decide +kernel
theorem dX8_of_101 : decode cX8_of 101 = .ok (.iload_n 1, 1) := by decide +kernel
theorem dX8_of_102 : decode cX8_of 102 = .ok (.invokevirtual 305, 3) := by decide +kernel
theorem dX8_of_105 : decode cX8_of 105 = .ok (.ireturn, 1) := by decide +kernel
theorem dX8_sure_0 : decode cX8_sure 0 = .ok (.aload_n 0, 1) := by decide +kernel
theorem dX8_sure_1 : decode cX8_sure 1 = .ok (.iload_n 1, 1) := by decide +kernel
theorem dX8_sure_2 : decode cX8_sure 2 = .ok (.iconst 0, 1) := by decide +kernel
theorem dX8_sure_3 : decode cX8_sure 3 = .ok (.iconst 1, 1) := by decide +kernel
theorem dX8_sure_4 : decode cX8_sure 4 = .ok (.invokevirtual 189, 3) := by decide +kernel
theorem dX8_sure_7 : decode cX8_sure 7 = .ok (.ifCond .ne 5, 3) := by decide +kernel
theorem dX8_sure_10 : decode cX8_sure 10 = .ok (.iconst (-1), 1) := by decide +kernel
theorem dX8_sure_11 : decode cX8_sure 11 = .ok (.ireturn, 1) := by decide +kernel
theorem dX8_sure_12 : decode cX8_sure 12 = .ok (.aload_n 0, 1) := by decide +kernel
theorem dX8_sure_13 : decode cX8_sure 13 = .ok (.invokevirtual 278, 3) := by decide +kernel
theorem dX8_sure_16 : decode cX8_sure 16 = .ok (.aload_n 0, 1) := by decide +kernel
theorem dX8_sure_17 : decode cX8_sure 17 = .ok (.iconst 0, 1) := by decide +kernel
theorem dX8_sure_18 : decode cX8_sure 18 = .ok (.invokevirtual 281, 3) := by decide +kernel
theorem dX8_sure_21 : decode cX8_sure 21 = .ok (.iconst 0, 1) := by decide +kernel
theorem dX8_sure_22 : decode cX8_sure 22 = .ok (.istore_n 2, 1) := by decide +kernel
theorem dX8_sure_23 : decode cX8_sure 23 = .ok (.iconst 0, 1) := by decide +kernel
theorem dX8_sure_24 : decode cX8_sure 24 = .ok (.istore_n 3, 1) := by decide +kernel
theorem dX8_sure_25 : decode cX8_sure 25 = .ok (.iload_n 3, 1) := by decide +kernel
theorem dX8_sure_26 : decode cX8_sure 26 = .ok (.aload_n 0, 1) := by decide +kernel
theorem dX8_sure_27 : decode cX8_sure 27 = .ok (.getfield 93, 3) := by decide +kernel
theorem dX8_sure_30 : decode cX8_sure 30 = .ok (.if_icmp .ge 95, 3) := by decide +kernel
theorem dX8_sure_33 : decode cX8_sure 33 = .ok (.aload_n 0, 1) := by decide +kernel
theorem dX8_sure_34 : decode cX8_sure 34 = .ok (.iload_n 3, 1) := by decide +kernel
theorem dX8_sure_35 : decode cX8_sure 35 = .ok (.invokevirtual 305, 3) := by decide +kernel
theorem dX8_sure_38 : decode cX8_sure 38 = .ok (.istore 4, 2) := by decide +kernel
theorem dX8_sure_40 : decode cX8_sure 40 = .ok (.iload_n 1, 1) := by decide +kernel
theorem dX8_sure_41 : decode cX8_sure 41 = .ok (.ifCond .ne 41, 3) := by decide +kernel
theorem dX8_sure_44 : decode cX8_sure 44 = .ok (.aload_n 0, 1) := by decide +kernel
theorem dX8_sure_45 : decode cX8_sure 45 = .ok (.iload 4, 2) := by decide +kernel
theorem dX8_sure_47 : decode cX8_sure 47 = .ok (.iconst 3, 1) := by decide +kernel
theorem dX8_sure_48 : decode cX8_sure 48 = .ok (.invokevirtual 275, 3) := by decide +kernel
theorem dX8_sure_51 : decode cX8_sure 51 = .ok (.ifCond .eq 27, 3) := by decide +kernel
theorem dX8_sure_54 : decode cX8_sure 54 = .ok (.aload_n 0, 1) := by decide +kernel
theorem dX8_sure_55 : decode cX8_sure 55 = .ok (.iload 4, 2) := by decide +kernel
theorem dX8_sure_57 : decode cX8_sure 57 = .ok (.iconst 1, 1) := by decide +kernel
theorem dX8_sure_58 : decode cX8_sure 58 = .ok (.invokevirtual 275, 3) := by decide +kernel
theorem dX8_sure_61 : decode cX8_sure 61 = .ok (.ifCond .ne 17, 3) := by decide +kernel
theorem dX8_sure_64 : decode cX8_sure 64 = .ok (.aload_n 0, 1) := by decide +kernel
theorem dX8_sure_65 : decode cX8_sure 65 = .ok (.iload 4, 2) := by decide +kernel
theorem dX8_sure_67 : decode cX8_sure 67 = .ok (.iconst 2, 1) := by decide +kernel
theorem dX8_sure_68 : decode cX8_sure 68 = .ok (.invokevirtual 275, 3) := by decide +kernel
theorem dX8_sure_71 : decode cX8_sure 71 = .ok (.ifCond .ne 7, 3) := by decide +kernel
theorem dX8_sure_74 : decode cX8_sure 74 = .ok (.iconst 1, 1) := by decide +kernel
theorem dX8_sure_75 : decode cX8_sure 75 = .ok (.goto 27, 3) := by decide +kernel
theorem dX8_sure_78 : decode cX8_sure 78 = .ok (.iconst 0, 1) := by decide +kernel
theorem dX8_sure_79 : decode cX8_sure 79 = .ok (.goto 23, 3) := by decide +kernel
theorem dX8_sure_82 : decode cX8_sure 82 = .ok (.aload_n 0, 1) := by decide +kernel
theorem dX8_sure_83 : decode cX8_sure 83 = .ok (.iload 4, 2) := by decide +kernel
theorem dX8_sure_85 : decode cX8_sure 85 = .ok (.aload_n 0, 1) := by decide +kernel
theorem dX8_sure_86 : decode cX8_sure 86 = .ok (.getfield 96, 3) := by decide +kernel
theorem dX8_sure_89 : decode cX8_sure 89 = .ok (.iload_n 3, 1) := by decide +kernel
theorem dX8_sure_90 : decode cX8_sure 90 = .ok (.iaload, 1) := by decide +kernel
theorem dX8_sure_91 : decode cX8_sure 91 = .ok (.invokevirtual 275, 3) := by decide +kernel
theorem dX8_sure_94 : decode cX8_sure 94 = .ok (.ifCond .ne 7, 3) := by decide +kernel
theorem dX8_sure_97 : decode cX8_sure 97 = .ok (.iconst 1, 1) := by decide +kernel
theorem dX8_sure_98 : decode cX8_sure 98 = .ok (.goto 4, 3) := by decide +kernel
theorem dX8_sure_101 : decode cX8_sure 101 = .ok (.iconst 0, 1) := by decide +kernel
theorem dX8_sure_102 : decode cX8_sure 102 = .ok (.istore 5, 2) := by decide +kernel
theorem dX8_sure_104 : decode cX8_sure 104 = .ok (.iload_n 2, 1) := by decide +kernel
theorem dX8_sure_105 : decode cX8_sure 105 = .ok (.iload 5, 2) := by decide +kernel
theorem dX8_sure_107 : decode cX8_sure 107 = .ok (.ifCond .eq 9, 3) := by decide +kernel
theorem dX8_sure_110 : decode cX8_sure 110 = .ok (.iconst 1, 1) := by decide +kernel
theorem dX8_sure_111 : decode cX8_sure 111 = .ok (.iload_n 3, 1) := by decide +kernel
theorem dX8_sure_112 : decode cX8_sure 112 = .ok (.ishl, 1) := by decide +kernel
theorem dX8_sure_113 : decode cX8_sure 113 = .ok (.goto 4, 3) := by decide +kernel
theorem dX8_sure_116 : decode cX8_sure 116 = .ok (.iconst 0, 1) := by decide +kernel
theorem dX8_sure_117 : decode cX8_sure 117 = .ok (.ior, 1) := by decide +kernel
theorem dX8_sure_118 : decode cX8_sure 118 = .ok (.istore_n 2, 1) := by decide +kernel
theorem dX8_sure_119 : decode cX8_sure 119 = .ok (.iinc 3 1, 3) := by decide +kernel
theorem dX8_sure_122 : decode cX8_sure 122 = .ok (.goto (-97), 3) := by decide +kernel
theorem dX8_sure_125 : decode cX8_sure 125 = .ok (.iload_n 2, 1) := by decide +kernel
theorem dX8_sure_126 : decode cX8_sure 126 = .ok (.ireturn, 1) := by decide +kernel
theorem dX8_fridaysOf_0 : decode cX8_fridaysOf 0 = .ok (.iconst 0, 1) := by decide +kernel
theorem dX8_fridaysOf_1 : decode cX8_fridaysOf 1 = .ok (.istore_n 2, 1) := by decide +kernel
theorem dX8_fridaysOf_2 : decode cX8_fridaysOf 2 = .ok (.iconst 0, 1) := by decide +kernel
theorem dX8_fridaysOf_3 : decode cX8_fridaysOf 3 = .ok (.istore_n 3, 1) := by decide +kernel
theorem dX8_fridaysOf_4 : decode cX8_fridaysOf 4 = .ok (.iload_n 3, 1) := by decide +kernel
theorem dX8_fridaysOf_5 : decode cX8_fridaysOf 5 = .ok (.aload_n 0, 1) := by decide +kernel
theorem dX8_fridaysOf_6 : decode cX8_fridaysOf 6 = .ok (.getfield 93, 3) := by decide +kernel
theorem dX8_fridaysOf_9 : decode cX8_fridaysOf 9 = .ok (.if_icmp .ge 34, 3) := by decide +kernel
theorem dX8_fridaysOf_12 : decode cX8_fridaysOf 12 = .ok (.iload_n 2, 1) := by decide +kernel
theorem dX8_fridaysOf_13 : decode cX8_fridaysOf 13 = .ok (.aload_n 0, 1) := by decide +kernel
theorem dX8_fridaysOf_14 : decode cX8_fridaysOf 14 = .ok (.getfield 99, 3) := by decide +kernel
theorem dX8_fridaysOf_17 : decode cX8_fridaysOf 17 = .ok (.iload_n 3, 1) := by decide +kernel
theorem dX8_fridaysOf_18 : decode cX8_fridaysOf 18 = .ok (.iaload, 1) := by decide +kernel
theorem dX8_fridaysOf_19 : decode cX8_fridaysOf 19 = .ok (.iload_n 1, 1) := by decide +kernel
theorem dX8_fridaysOf_20 : decode cX8_fridaysOf 20 = .ok (.if_icmp .ne 14, 3) := by decide +kernel
theorem dX8_fridaysOf_23 : decode cX8_fridaysOf 23 = .ok (.iconst 1, 1) := by decide +kernel
theorem dX8_fridaysOf_24 : decode cX8_fridaysOf 24 = .ok (.aload_n 0, 1) := by decide +kernel
theorem dX8_fridaysOf_25 : decode cX8_fridaysOf 25 = .ok (.getfield 102, 3) := by decide +kernel
theorem dX8_fridaysOf_28 : decode cX8_fridaysOf 28 = .ok (.iload_n 3, 1) := by decide +kernel
theorem dX8_fridaysOf_29 : decode cX8_fridaysOf 29 = .ok (.iaload, 1) := by decide +kernel
theorem dX8_fridaysOf_30 : decode cX8_fridaysOf 30 = .ok (.ishl, 1) := by decide +kernel
theorem dX8_fridaysOf_31 : decode cX8_fridaysOf 31 = .ok (.goto 4, 3) := by decide +kernel
theorem dX8_fridaysOf_34 : decode cX8_fridaysOf 34 = .ok (.iconst 0, 1) := by decide +kernel
theorem dX8_fridaysOf_35 : decode cX8_fridaysOf 35 = .ok (.ior, 1) := by decide +kernel
theorem dX8_fridaysOf_36 : decode cX8_fridaysOf 36 = .ok (.istore_n 2, 1) := by decide +kernel
theorem dX8_fridaysOf_37 : decode cX8_fridaysOf 37 = .ok (.iinc 3 1, 3) := by decide +kernel
theorem dX8_fridaysOf_40 : decode cX8_fridaysOf 40 = .ok (.goto (-36), 3) := by decide +kernel
theorem dX8_fridaysOf_43 : decode cX8_fridaysOf 43 = .ok (.iload_n 2, 1) := by decide +kernel
theorem dX8_fridaysOf_44 : decode cX8_fridaysOf 44 = .ok (.ireturn, 1) := by decide +kernel
theorem dX8_fridays_0 : decode cX8_fridays 0 = .ok (.aload_n 0, 1) := by decide +kernel
theorem dX8_fridays_1 : decode cX8_fridays 1 = .ok (.iload_n 1, 1) := by decide +kernel
theorem dX8_fridays_2 : decode cX8_fridays 2 = .ok (.invokevirtual 193, 3) := by decide +kernel
theorem dX8_fridays_5 : decode cX8_fridays 5 = .ok (.ifCond .eq 11, 3) := by decide +kernel
theorem dX8_fridays_8 : decode cX8_fridays 8 = .ok (.aload_n 0, 1) := by decide +kernel
theorem dX8_fridays_9 : decode cX8_fridays 9 = .ok (.iload_n 1, 1) := by decide +kernel
theorem dX8_fridays_10 : decode cX8_fridays 10 = .ok (.invokevirtual 308, 3) := by decide +kernel
theorem dX8_fridays_13 : decode cX8_fridays 13 = .ok (.goto 4, 3) := by decide +kernel
theorem dX8_fridays_16 : decode cX8_fridays 16 = .ok (.iconst (-1), 1) := by decide +kernel
theorem dX8_fridays_17 : decode cX8_fridays 17 = .ok (.ireturn, 1) := by decide +kernel
theorem dX8_againOf_0 : decode cX8_againOf 0 = .ok (.iconst 0, 1) := by decide +kernel
theorem dX8_againOf_1 : decode cX8_againOf 1 = .ok (.istore_n 3, 1) := by decide +kernel
theorem dX8_againOf_2 : decode cX8_againOf 2 = .ok (.iload_n 3, 1) := by decide +kernel
theorem dX8_againOf_3 : decode cX8_againOf 3 = .ok (.bipush 10, 2) := by decide +kernel
theorem dX8_againOf_5 : decode cX8_againOf 5 = .ok (.if_icmp .ge 24, 3) := by decide +kernel
theorem dX8_againOf_8 : decode cX8_againOf 8 = .ok (.aload_n 0, 1) := by decide +kernel
theorem dX8_againOf_9 : decode cX8_againOf 9 = .ok (.getfield 111, 3) := by decide +kernel
theorem dX8_againOf_12 : decode cX8_againOf 12 = .ok (.iload_n 3, 1) := by decide +kernel
theorem dX8_againOf_13 : decode cX8_againOf 13 = .ok (.iload_n 3, 1) := by decide +kernel
theorem dX8_againOf_14 : decode cX8_againOf 14 = .ok (.ifCond .ne 7, 3) := by decide +kernel
theorem dX8_againOf_17 : decode cX8_againOf 17 = .ok (.lconst 1, 1) := by decide +kernel
theorem dX8_againOf_18 : decode cX8_againOf 18 = .ok (.goto 4, 3) := by decide +kernel
theorem dX8_againOf_21 : decode cX8_againOf 21 = .ok (.lconst 0, 1) := by decide +kernel
theorem dX8_againOf_22 : decode cX8_againOf 22 = .ok (.lastore, 1) := by decide +kernel
theorem dX8_againOf_23 : decode cX8_againOf 23 = .ok (.iinc 3 1, 3) := by decide +kernel
theorem dX8_againOf_26 : decode cX8_againOf 26 = .ok (.goto (-24), 3) := by decide +kernel
theorem dX8_againOf_29 : decode cX8_againOf 29 = .ok (.aload_n 0, 1) := by decide +kernel
theorem dX8_againOf_30 : decode cX8_againOf 30 = .ok (.lconst 1, 1) := by decide +kernel
theorem dX8_againOf_31 : decode cX8_againOf 31 = .ok (.putfield 115, 3) := by decide +kernel
theorem dX8_againOf_34 : decode cX8_againOf 34 = .ok (.iconst 0, 1) := by decide +kernel
theorem dX8_againOf_35 : decode cX8_againOf 35 = .ok (.istore_n 3, 1) := by decide +kernel
theorem dX8_againOf_36 : decode cX8_againOf 36 = .ok (.iload_n 3, 1) := by decide +kernel
theorem dX8_againOf_37 : decode cX8_againOf 37 = .ok (.iload_n 2, 1) := by decide +kernel
theorem dX8_againOf_38 : decode cX8_againOf 38 = .ok (.if_icmp .ge 89, 3) := by decide +kernel
theorem dX8_againOf_41 : decode cX8_againOf 41 = .ok (.aload_n 0, 1) := by decide +kernel
theorem dX8_againOf_42 : decode cX8_againOf 42 = .ok (.iload_n 1, 1) := by decide +kernel
theorem dX8_againOf_43 : decode cX8_againOf 43 = .ok (.iload_n 3, 1) := by decide +kernel
theorem dX8_againOf_44 : decode cX8_againOf 44 = .ok (.invokevirtual 268, 3) := by decide +kernel
theorem dX8_againOf_47 : decode cX8_againOf 47 = .ok (.istore 4, 2) := by decide +kernel
theorem dX8_againOf_49 : decode cX8_againOf 49 = .ok (.iload_n 3, 1) := by decide +kernel
theorem dX8_againOf_50 : decode cX8_againOf 50 = .ok (.iconst 1, 1) := by decide +kernel
theorem dX8_againOf_51 : decode cX8_againOf 51 = .ok (.iadd, 1) := by decide +kernel
theorem dX8_againOf_52 : decode cX8_againOf 52 = .ok (.istore 5, 2) := by decide +kernel
theorem dX8_againOf_54 : decode cX8_againOf 54 = .ok (.iload 5, 2) := by decide +kernel
theorem dX8_againOf_56 : decode cX8_againOf 56 = .ok (.ifCond .lt 53, 3) := by decide +kernel
theorem dX8_againOf_59 : decode cX8_againOf 59 = .ok (.aload_n 0, 1) := by decide +kernel
theorem dX8_againOf_60 : decode cX8_againOf 60 = .ok (.getfield 111, 3) := by decide +kernel
theorem dX8_againOf_63 : decode cX8_againOf 63 = .ok (.iload 5, 2) := by decide +kernel
theorem dX8_againOf_65 : decode cX8_againOf 65 = .ok (.aload_n 0, 1) := by decide +kernel
theorem dX8_againOf_66 : decode cX8_againOf 66 = .ok (.getfield 111, 3) := by decide +kernel
theorem dX8_againOf_69 : decode cX8_againOf 69 = .ok (.iload 5, 2) := by decide +kernel
theorem dX8_againOf_71 : decode cX8_againOf 71 = .ok (.laload, 1) := by decide +kernel
theorem dX8_againOf_72 : decode cX8_againOf 72 = .ok (.bipush 100, 2) := by decide +kernel
theorem dX8_againOf_74 : decode cX8_againOf 74 = .ok (.iload 4, 2) := by decide +kernel
theorem dX8_againOf_76 : decode cX8_againOf 76 = .ok (.isub, 1) := by decide +kernel
theorem dX8_againOf_77 : decode cX8_againOf 77 = .ok (.i2l, 1) := by decide +kernel
theorem dX8_againOf_78 : decode cX8_againOf 78 = .ok (.lmul, 1) := by decide +kernel
theorem dX8_againOf_79 : decode cX8_againOf 79 = .ok (.iload 5, 2) := by decide +kernel
theorem dX8_againOf_81 : decode cX8_againOf 81 = .ok (.ifCond .le 19, 3) := by decide +kernel
theorem dX8_againOf_84 : decode cX8_againOf 84 = .ok (.aload_n 0, 1) := by decide +kernel
theorem dX8_againOf_85 : decode cX8_againOf 85 = .ok (.getfield 111, 3) := by decide +kernel
theorem dX8_againOf_88 : decode cX8_againOf 88 = .ok (.iload 5, 2) := by decide +kernel
theorem dX8_againOf_90 : decode cX8_againOf 90 = .ok (.iconst 1, 1) := by decide +kernel
theorem dX8_againOf_91 : decode cX8_againOf 91 = .ok (.isub, 1) := by decide +kernel
theorem dX8_againOf_92 : decode cX8_againOf 92 = .ok (.laload, 1) := by decide +kernel
theorem dX8_againOf_93 : decode cX8_againOf 93 = .ok (.iload 4, 2) := by decide +kernel
theorem dX8_againOf_95 : decode cX8_againOf 95 = .ok (.i2l, 1) := by decide +kernel
theorem dX8_againOf_96 : decode cX8_againOf 96 = .ok (.lmul, 1) := by decide +kernel
theorem dX8_againOf_97 : decode cX8_againOf 97 = .ok (.goto 4, 3) := by decide +kernel
theorem dX8_againOf_100 : decode cX8_againOf 100 = .ok (.lconst 0, 1) := by decide +kernel
theorem dX8_againOf_101 : decode cX8_againOf 101 = .ok (.ladd, 1) := by decide +kernel
theorem dX8_againOf_102 : decode cX8_againOf 102 = .ok (.lastore, 1) := by decide +kernel
theorem dX8_againOf_103 : decode cX8_againOf 103 = .ok (.iinc 5 (-1), 3) := by decide +kernel
theorem dX8_againOf_106 : decode cX8_againOf 106 = .ok (.goto (-52), 3) := by decide +kernel
theorem dX8_againOf_109 : decode cX8_againOf 109 = .ok (.aload_n 0, 1) := by decide +kernel
theorem dX8_againOf_110 : decode cX8_againOf 110 = .ok (.dup, 1) := by decide +kernel
theorem dX8_againOf_111 : decode cX8_againOf 111 = .ok (.getfield 115, 3) := by decide +kernel
theorem dX8_againOf_114 : decode cX8_againOf 114 = .ok (.ldc2_w 311, 3) := by decide +kernel
theorem dX8_againOf_117 : decode cX8_againOf 117 = .ok (.lmul, 1) := by decide +kernel
theorem dX8_againOf_118 : decode cX8_againOf 118 = .ok (.putfield 115, 3) := by decide +kernel
theorem dX8_againOf_121 : decode cX8_againOf 121 = .ok (.iinc 3 1, 3) := by decide +kernel
theorem dX8_againOf_124 : decode cX8_againOf 124 = .ok (.goto (-88), 3) := by decide +kernel
theorem dX8_againOf_127 : decode cX8_againOf 127 = .ok (.lconst 0, 1) := by decide +kernel
theorem dX8_againOf_128 : decode cX8_againOf 128 = .ok (.lstore_n 3, 1) := by decide +kernel
theorem dX8_againOf_129 : decode cX8_againOf 129 = .ok (.aload_n 0, 1) := by decide +kernel
theorem dX8_againOf_130 : decode cX8_againOf 130 = .ok (.aload_n 0, 1) := by decide +kernel
theorem dX8_againOf_131 : decode cX8_againOf 131 = .ok (.iload_n 1, 1) := by decide +kernel
theorem dX8_againOf_132 : decode cX8_againOf 132 = .ok (.invokevirtual 308, 3) := by decide +kernel
theorem dX8_againOf_135 : decode cX8_againOf 135 = .ok (.iconst 1, 1) := by decide +kernel
theorem dX8_againOf_136 : decode cX8_againOf 136 = .ok (.iload_n 2, 1) := by decide +kernel
theorem dX8_againOf_137 : decode cX8_againOf 137 = .ok (.ishl, 1) := by decide +kernel
theorem dX8_againOf_138 : decode cX8_againOf 138 = .ok (.iconst 1, 1) := by decide +kernel
theorem dX8_againOf_139 : decode cX8_againOf 139 = .ok (.isub, 1) := by decide +kernel
theorem dX8_againOf_140 : decode cX8_againOf 140 = .ok (.iand, 1) := by decide +kernel
theorem dX8_againOf_141 : decode cX8_againOf 141 = .ok (.invokevirtual 293, 3) := by decide +kernel
theorem dX8_againOf_144 : decode cX8_againOf 144 = .ok (.istore 5, 2) := by decide +kernel
theorem dX8_againOf_146 : decode cX8_againOf 146 = .ok (.iload 5, 2) := by decide +kernel
theorem dX8_againOf_148 : decode cX8_againOf 148 = .ok (.iload_n 2, 1) := by decide +kernel
theorem dX8_againOf_149 : decode cX8_againOf 149 = .ok (.if_icmp .gt 19, 3) := by decide +kernel
theorem dX8_againOf_152 : decode cX8_againOf 152 = .ok (.lload_n 3, 1) := by decide +kernel
theorem dX8_againOf_153 : decode cX8_againOf 153 = .ok (.aload_n 0, 1) := by decide +kernel
theorem dX8_againOf_154 : decode cX8_againOf 154 = .ok (.getfield 111, 3) := by decide +kernel
theorem dX8_againOf_157 : decode cX8_againOf 157 = .ok (.iload 5, 2) := by decide +kernel
theorem dX8_againOf_159 : decode cX8_againOf 159 = .ok (.laload, 1) := by decide +kernel
theorem dX8_againOf_160 : decode cX8_againOf 160 = .ok (.ladd, 1) := by decide +kernel
theorem dX8_againOf_161 : decode cX8_againOf 161 = .ok (.lstore_n 3, 1) := by decide +kernel
theorem dX8_againOf_162 : decode cX8_againOf 162 = .ok (.iinc 5 1, 3) := by decide +kernel
theorem dX8_againOf_165 : decode cX8_againOf 165 = .ok (.goto (-19), 3) := by decide +kernel
theorem dX8_againOf_168 : decode cX8_againOf 168 = .ok (.lload_n 3, 1) := by decide +kernel
theorem dX8_againOf_169 : decode cX8_againOf 169 = .ok (.lreturn, 1) := by decide +kernel
theorem dX8_divisor_0 : decode cX8_divisor 0 = .ok (.lload_n 1, 1) := by decide +kernel
theorem dX8_divisor_1 : decode cX8_divisor 1 = .ok (.lstore 5, 2) := by decide +kernel
theorem dX8_divisor_3 : decode cX8_divisor 3 = .ok (.lload_n 3, 1) := by decide +kernel
theorem dX8_divisor_4 : decode cX8_divisor 4 = .ok (.lstore 7, 2) := by decide +kernel
theorem dX8_divisor_6 : decode cX8_divisor 6 = .ok (.lload 7, 2) := by decide +kernel
theorem dX8_divisor_8 : decode cX8_divisor 8 = .ok (.lconst 0, 1) := by decide +kernel
theorem dX8_divisor_9 : decode cX8_divisor 9 = .ok (.lcmp, 1) := by decide +kernel
theorem dX8_divisor_10 : decode cX8_divisor 10 = .ok (.ifCond .eq 21, 3) := by decide +kernel
theorem dX8_divisor_13 : decode cX8_divisor 13 = .ok (.lload 5, 2) := by decide +kernel
theorem dX8_divisor_15 : decode cX8_divisor 15 = .ok (.lload 7, 2) := by decide +kernel
theorem dX8_divisor_17 : decode cX8_divisor 17 = .ok (.lrem, 1) := by decide +kernel
theorem dX8_divisor_18 : decode cX8_divisor 18 = .ok (.lstore 9, 2) := by decide +kernel
theorem dX8_divisor_20 : decode cX8_divisor 20 = .ok (.lload 7, 2) := by decide +kernel
theorem dX8_divisor_22 : decode cX8_divisor 22 = .ok (.lstore 5, 2) := by decide +kernel
theorem dX8_divisor_24 : decode cX8_divisor 24 = .ok (.lload 9, 2) := by decide +kernel
theorem dX8_divisor_26 : decode cX8_divisor 26 = .ok (.lstore 7, 2) := by decide +kernel
theorem dX8_divisor_28 : decode cX8_divisor 28 = .ok (.goto (-22), 3) := by decide +kernel
theorem dX8_divisor_31 : decode cX8_divisor 31 = .ok (.lload 5, 2) := by decide +kernel
theorem dX8_divisor_33 : decode cX8_divisor 33 = .ok (.lreturn, 1) := by decide +kernel
theorem dX8_again_0 : decode cX8_again 0 = .ok (.aload_n 0, 1) := by decide +kernel
theorem dX8_again_1 : decode cX8_again 1 = .ok (.iload_n 1, 1) := by decide +kernel
theorem dX8_again_2 : decode cX8_again 2 = .ok (.invokevirtual 193, 3) := by decide +kernel
theorem dX8_again_5 : decode cX8_again 5 = .ok (.ifCond .eq 35, 3) := by decide +kernel
theorem dX8_again_8 : decode cX8_again 8 = .ok (.aload_n 0, 1) := by decide +kernel
theorem dX8_again_9 : decode cX8_again 9 = .ok (.iload_n 2, 1) := by decide +kernel
theorem dX8_again_10 : decode cX8_again 10 = .ok (.iconst 0, 1) := by decide +kernel
theorem dX8_again_11 : decode cX8_again 11 = .ok (.bipush 9, 2) := by decide +kernel
theorem dX8_again_13 : decode cX8_again 13 = .ok (.invokevirtual 189, 3) := by decide +kernel
theorem dX8_again_16 : decode cX8_again 16 = .ok (.ifCond .eq 24, 3) := by decide +kernel
theorem dX8_again_19 : decode cX8_again 19 = .ok (.aload_n 0, 1) := by decide +kernel
theorem dX8_again_20 : decode cX8_again 20 = .ok (.iload_n 3, 1) := by decide +kernel
theorem dX8_again_21 : decode cX8_again 21 = .ok (.iconst 0, 1) := by decide +kernel
theorem dX8_again_22 : decode cX8_again 22 = .ok (.iconst 1, 1) := by decide +kernel
theorem dX8_again_23 : decode cX8_again 23 = .ok (.invokevirtual 189, 3) := by decide +kernel
theorem dX8_again_26 : decode cX8_again 26 = .ok (.ifCond .eq 14, 3) := by decide +kernel
theorem dX8_again_29 : decode cX8_again 29 = .ok (.aload_n 0, 1) := by decide +kernel
theorem dX8_again_30 : decode cX8_again 30 = .ok (.iload 4, 2) := by decide +kernel
theorem dX8_again_32 : decode cX8_again 32 = .ok (.iconst 0, 1) := by decide +kernel
theorem dX8_again_33 : decode cX8_again 33 = .ok (.iconst 1, 1) := by decide +kernel
theorem dX8_again_34 : decode cX8_again 34 = .ok (.invokevirtual 189, 3) := by decide +kernel
theorem dX8_again_37 : decode cX8_again 37 = .ok (.ifCond .ne 7, 3) := by decide +kernel
theorem dX8_again_40 : decode cX8_again 40 = .ok (.ldc2_w 313, 3) := by decide +kernel
theorem dX8_again_43 : decode cX8_again 43 = .ok (.lreturn, 1) := by decide +kernel
theorem dX8_again_44 : decode cX8_again 44 = .ok (.aload_n 0, 1) := by decide +kernel
theorem dX8_again_45 : decode cX8_again 45 = .ok (.iload_n 1, 1) := by decide +kernel
theorem dX8_again_46 : decode cX8_again 46 = .ok (.iload_n 2, 1) := by decide +kernel
theorem dX8_again_47 : decode cX8_again 47 = .ok (.invokevirtual 315, 3) := by decide +kernel
theorem dX8_again_50 : decode cX8_again 50 = .ok (.iload_n 3, 1) := by decide +kernel
theorem dX8_again_51 : decode cX8_again 51 = .ok (.iconst 1, 1) := by decide +kernel
theorem dX8_again_52 : decode cX8_again 52 = .ok (.if_icmp .ne 10, 3) := by decide +kernel
theorem dX8_again_55 : decode cX8_again 55 = .ok (.aload_n 0, 1) := by decide +kernel
theorem dX8_again_56 : decode cX8_again 56 = .ok (.getfield 7, 3) := by decide +kernel
theorem dX8_again_59 : decode cX8_again 59 = .ok (.goto 4, 3) := by decide +kernel
theorem dX8_again_62 : decode cX8_again 62 = .ok (.iconst 1, 1) := by decide +kernel
theorem dX8_again_63 : decode cX8_again 63 = .ok (.i2l, 1) := by decide +kernel
theorem dX8_again_64 : decode cX8_again 64 = .ok (.lmul, 1) := by decide +kernel
theorem dX8_again_65 : decode cX8_again 65 = .ok (.lstore 5, 2) := by decide +kernel
theorem dX8_again_67 : decode cX8_again 67 = .ok (.lload 5, 2) := by decide +kernel
theorem dX8_again_69 : decode cX8_again 69 = .ok (.aload_n 0, 1) := by decide +kernel
theorem dX8_again_70 : decode cX8_again 70 = .ok (.getfield 115, 3) := by decide +kernel
theorem dX8_again_73 : decode cX8_again 73 = .ok (.lcmp, 1) := by decide +kernel
theorem dX8_again_74 : decode cX8_again 74 = .ok (.ifCond .le 10, 3) := by decide +kernel
theorem dX8_again_77 : decode cX8_again 77 = .ok (.aload_n 0, 1) := by decide +kernel
theorem dX8_again_78 : decode cX8_again 78 = .ok (.getfield 115, 3) := by decide +kernel
theorem dX8_again_81 : decode cX8_again 81 = .ok (.goto 5, 3) := by decide +kernel
theorem dX8_again_84 : decode cX8_again 84 = .ok (.lload 5, 2) := by decide +kernel
theorem dX8_again_86 : decode cX8_again 86 = .ok (.lstore 5, 2) := by decide +kernel
theorem dX8_again_88 : decode cX8_again 88 = .ok (.aload_n 0, 1) := by decide +kernel
theorem dX8_again_89 : decode cX8_again 89 = .ok (.lload 5, 2) := by decide +kernel
theorem dX8_again_91 : decode cX8_again 91 = .ok (.aload_n 0, 1) := by decide +kernel
theorem dX8_again_92 : decode cX8_again 92 = .ok (.getfield 115, 3) := by decide +kernel
theorem dX8_again_95 : decode cX8_again 95 = .ok (.invokevirtual 319, 3) := by decide +kernel
theorem dX8_again_98 : decode cX8_again 98 = .ok (.lstore 7, 2) := by decide +kernel
theorem dX8_again_100 : decode cX8_again 100 = .ok (.iload 4, 2) := by decide +kernel
theorem dX8_again_102 : decode cX8_again 102 = .ok (.ifCond .ne 11, 3) := by decide +kernel
theorem dX8_again_105 : decode cX8_again 105 = .ok (.lload 5, 2) := by decide +kernel
theorem dX8_again_107 : decode cX8_again 107 = .ok (.lload 7, 2) := by decide +kernel
theorem dX8_again_109 : decode cX8_again 109 = .ok (.ldiv, 1) := by decide +kernel
theorem dX8_again_110 : decode cX8_again 110 = .ok (.goto 10, 3) := by decide +kernel
theorem dX8_again_113 : decode cX8_again 113 = .ok (.aload_n 0, 1) := by decide +kernel
theorem dX8_again_114 : decode cX8_again 114 = .ok (.getfield 115, 3) := by decide +kernel
theorem dX8_again_117 : decode cX8_again 117 = .ok (.lload 7, 2) := by decide +kernel
theorem dX8_again_119 : decode cX8_again 119 = .ok (.ldiv, 1) := by decide +kernel
theorem dX8_again_120 : decode cX8_again 120 = .ok (.lreturn, 1) := by decide +kernel
theorem dX8_oddest_0 : decode cX8_oddest 0 = .ok (.aload_n 0, 1) := by decide +kernel
theorem dX8_oddest_1 : decode cX8_oddest 1 = .ok (.getfield 7, 3) := by decide +kernel
theorem dX8_oddest_4 : decode cX8_oddest 4 = .ok (.ifCond .ne 5, 3) := by decide +kernel
theorem dX8_oddest_7 : decode cX8_oddest 7 = .ok (.iconst (-1), 1) := by decide +kernel
theorem dX8_oddest_8 : decode cX8_oddest 8 = .ok (.ireturn, 1) := by decide +kernel
theorem dX8_oddest_9 : decode cX8_oddest 9 = .ok (.aload_n 0, 1) := by decide +kernel
theorem dX8_oddest_10 : decode cX8_oddest 10 = .ok (.iload_n 1, 1) := by decide +kernel
theorem dX8_oddest_11 : decode cX8_oddest 11 = .ok (.iconst 0, 1) := by decide +kernel
theorem dX8_oddest_12 : decode cX8_oddest 12 = .ok (.bipush 9, 2) := by decide +kernel
theorem dX8_oddest_14 : decode cX8_oddest 14 = .ok (.invokevirtual 189, 3) := by decide +kernel
theorem dX8_oddest_17 : decode cX8_oddest 17 = .ok (.ifCond .ne 6, 3) := by decide +kernel
theorem dX8_oddest_20 : decode cX8_oddest 20 = .ok (.bipush (-2), 2) := by decide +kernel
theorem dX8_oddest_22 : decode cX8_oddest 22 = .ok (.ireturn, 1) := by decide +kernel
theorem dX8_oddest_23 : decode cX8_oddest 23 = .ok (.iconst (-1), 1) := by decide +kernel
theorem dX8_oddest_24 : decode cX8_oddest 24 = .ok (.istore_n 2, 1) := by decide +kernel
theorem dX8_oddest_25 : decode cX8_oddest 25 = .ok (.lconst 0, 1) := by decide +kernel
theorem dX8_oddest_26 : decode cX8_oddest 26 = .ok (.lstore_n 3, 1) := by decide +kernel
theorem dX8_oddest_27 : decode cX8_oddest 27 = .ok (.iconst 0, 1) := by decide +kernel
theorem dX8_oddest_28 : decode cX8_oddest 28 = .ok (.istore 5, 2) := by decide +kernel
theorem dX8_oddest_30 : decode cX8_oddest 30 = .ok (.iload 5, 2) := by decide +kernel
theorem dX8_oddest_32 : decode cX8_oddest 32 = .ok (.aload_n 0, 1) := by decide +kernel
theorem dX8_oddest_33 : decode cX8_oddest 33 = .ok (.getfield 7, 3) := by decide +kernel
theorem dX8_oddest_36 : decode cX8_oddest 36 = .ok (.if_icmp .ge 38, 3) := by decide +kernel
theorem dX8_oddest_39 : decode cX8_oddest 39 = .ok (.aload_n 0, 1) := by decide +kernel
theorem dX8_oddest_40 : decode cX8_oddest 40 = .ok (.iload 5, 2) := by decide +kernel
theorem dX8_oddest_42 : decode cX8_oddest 42 = .ok (.iload_n 1, 1) := by decide +kernel
theorem dX8_oddest_43 : decode cX8_oddest 43 = .ok (.invokevirtual 315, 3) := by decide +kernel
theorem dX8_oddest_46 : decode cX8_oddest 46 = .ok (.lstore 6, 2) := by decide +kernel
theorem dX8_oddest_48 : decode cX8_oddest 48 = .ok (.iload_n 2, 1) := by decide +kernel
theorem dX8_oddest_49 : decode cX8_oddest 49 = .ok (.ifCond .lt 13, 3) := by decide +kernel
theorem dX8_oddest_52 : decode cX8_oddest 52 = .ok (.lload 6, 2) := by decide +kernel
theorem dX8_oddest_54 : decode cX8_oddest 54 = .ok (.lload_n 3, 1) := by decide +kernel
theorem dX8_oddest_55 : decode cX8_oddest 55 = .ok (.lcmp, 1) := by decide +kernel
theorem dX8_oddest_56 : decode cX8_oddest 56 = .ok (.ifCond .lt 6, 3) := by decide +kernel
theorem dX8_oddest_59 : decode cX8_oddest 59 = .ok (.goto 9, 3) := by decide +kernel
theorem dX8_oddest_62 : decode cX8_oddest 62 = .ok (.iload 5, 2) := by decide +kernel
theorem dX8_oddest_64 : decode cX8_oddest 64 = .ok (.istore_n 2, 1) := by decide +kernel
theorem dX8_oddest_65 : decode cX8_oddest 65 = .ok (.lload 6, 2) := by decide +kernel
theorem dX8_oddest_67 : decode cX8_oddest 67 = .ok (.lstore_n 3, 1) := by decide +kernel
theorem dX8_oddest_68 : decode cX8_oddest 68 = .ok (.iinc 5 1, 3) := by decide +kernel
theorem dX8_oddest_71 : decode cX8_oddest 71 = .ok (.goto (-41), 3) := by decide +kernel
theorem dX8_oddest_74 : decode cX8_oddest 74 = .ok (.iload_n 2, 1) := by decide +kernel
theorem dX8_oddest_75 : decode cX8_oddest 75 = .ok (.ireturn, 1) := by decide +kernel
theorem dX8_ring_0 : decode cX8_ring 0 = .ok (.aload_n 0, 1) := by decide +kernel
theorem dX8_ring_1 : decode cX8_ring 1 = .ok (.iload_n 1, 1) := by decide +kernel
theorem dX8_ring_2 : decode cX8_ring 2 = .ok (.iconst 0, 1) := by decide +kernel
theorem dX8_ring_3 : decode cX8_ring 3 = .ok (.iconst 1, 1) := by decide +kernel
theorem dX8_ring_4 : decode cX8_ring 4 = .ok (.invokevirtual 189, 3) := by decide +kernel
theorem dX8_ring_7 : decode cX8_ring 7 = .ok (.ifCond .ne 5, 3) := by decide +kernel
theorem dX8_ring_10 : decode cX8_ring 10 = .ok (.iconst (-1), 1) := by decide +kernel
theorem dX8_ring_11 : decode cX8_ring 11 = .ok (.ireturn, 1) := by decide +kernel
theorem dX8_ring_12 : decode cX8_ring 12 = .ok (.iconst 0, 1) := by decide +kernel
theorem dX8_ring_13 : decode cX8_ring 13 = .ok (.istore_n 2, 1) := by decide +kernel
theorem dX8_ring_14 : decode cX8_ring 14 = .ok (.iconst 0, 1) := by decide +kernel
theorem dX8_ring_15 : decode cX8_ring 15 = .ok (.istore_n 3, 1) := by decide +kernel
theorem dX8_ring_16 : decode cX8_ring 16 = .ok (.iconst 0, 1) := by decide +kernel
theorem dX8_ring_17 : decode cX8_ring 17 = .ok (.istore 4, 2) := by decide +kernel
theorem dX8_ring_19 : decode cX8_ring 19 = .ok (.iload 4, 2) := by decide +kernel
theorem dX8_ring_21 : decode cX8_ring 21 = .ok (.aload_n 0, 1) := by decide +kernel
theorem dX8_ring_22 : decode cX8_ring 22 = .ok (.getfield 7, 3) := by decide +kernel
theorem dX8_ring_25 : decode cX8_ring 25 = .ok (.if_icmp .ge 127, 3) := by decide +kernel
theorem dX8_ring_28 : decode cX8_ring 28 = .ok (.iconst 0, 1) := by decide +kernel
theorem dX8_ring_29 : decode cX8_ring 29 = .ok (.istore 5, 2) := by decide +kernel
theorem dX8_ring_31 : decode cX8_ring 31 = .ok (.iconst 0, 1) := by decide +kernel
theorem dX8_ring_32 : decode cX8_ring 32 = .ok (.istore 6, 2) := by decide +kernel
theorem dX8_ring_34 : decode cX8_ring 34 = .ok (.iload 6, 2) := by decide +kernel
theorem dX8_ring_36 : decode cX8_ring 36 = .ok (.aload_n 0, 1) := by decide +kernel
theorem dX8_ring_37 : decode cX8_ring 37 = .ok (.getfield 7, 3) := by decide +kernel
theorem dX8_ring_40 : decode cX8_ring 40 = .ok (.if_icmp .ge 60, 3) := by decide +kernel
theorem dX8_ring_43 : decode cX8_ring 43 = .ok (.aload_n 0, 1) := by decide +kernel
theorem dX8_ring_44 : decode cX8_ring 44 = .ok (.iload 4, 2) := by decide +kernel
theorem dX8_ring_46 : decode cX8_ring 46 = .ok (.invokevirtual 308, 3) := by decide +kernel
theorem dX8_ring_49 : decode cX8_ring 49 = .ok (.ifCond .eq 45, 3) := by decide +kernel
theorem dX8_ring_52 : decode cX8_ring 52 = .ok (.aload_n 0, 1) := by decide +kernel
theorem dX8_ring_53 : decode cX8_ring 53 = .ok (.iload 4, 2) := by decide +kernel
theorem dX8_ring_55 : decode cX8_ring 55 = .ok (.invokevirtual 308, 3) := by decide +kernel
theorem dX8_ring_58 : decode cX8_ring 58 = .ok (.aload_n 0, 1) := by decide +kernel
theorem dX8_ring_59 : decode cX8_ring 59 = .ok (.iload 6, 2) := by decide +kernel
theorem dX8_ring_61 : decode cX8_ring 61 = .ok (.invokevirtual 308, 3) := by decide +kernel
theorem dX8_ring_64 : decode cX8_ring 64 = .ok (.if_icmp .eq 6, 3) := by decide +kernel
theorem dX8_ring_67 : decode cX8_ring 67 = .ok (.goto 27, 3) := by decide +kernel
theorem dX8_ring_70 : decode cX8_ring 70 = .ok (.iload 5, 2) := by decide +kernel
theorem dX8_ring_72 : decode cX8_ring 72 = .ok (.iconst 1, 1) := by decide +kernel
theorem dX8_ring_73 : decode cX8_ring 73 = .ok (.iload 6, 2) := by decide +kernel
theorem dX8_ring_75 : decode cX8_ring 75 = .ok (.ishl, 1) := by decide +kernel
theorem dX8_ring_76 : decode cX8_ring 76 = .ok (.ior, 1) := by decide +kernel
theorem dX8_ring_77 : decode cX8_ring 77 = .ok (.istore 5, 2) := by decide +kernel
theorem dX8_ring_79 : decode cX8_ring 79 = .ok (.iload_n 2, 1) := by decide +kernel
theorem dX8_ring_80 : decode cX8_ring 80 = .ok (.iload 6, 2) := by decide +kernel
theorem dX8_ring_82 : decode cX8_ring 82 = .ok (.iload 4, 2) := by decide +kernel
theorem dX8_ring_84 : decode cX8_ring 84 = .ok (.if_icmp .ge 7, 3) := by decide +kernel
theorem dX8_ring_87 : decode cX8_ring 87 = .ok (.iconst 1, 1) := by decide +kernel
theorem dX8_ring_88 : decode cX8_ring 88 = .ok (.goto 4, 3) := by decide +kernel
theorem dX8_ring_91 : decode cX8_ring 91 = .ok (.iconst 0, 1) := by decide +kernel
theorem dX8_ring_92 : decode cX8_ring 92 = .ok (.iadd, 1) := by decide +kernel
theorem dX8_ring_93 : decode cX8_ring 93 = .ok (.istore_n 2, 1) := by decide +kernel
theorem dX8_ring_94 : decode cX8_ring 94 = .ok (.iinc 6 1, 3) := by decide +kernel
theorem dX8_ring_97 : decode cX8_ring 97 = .ok (.goto (-63), 3) := by decide +kernel
theorem dX8_ring_100 : decode cX8_ring 100 = .ok (.aload_n 0, 1) := by decide +kernel
theorem dX8_ring_101 : decode cX8_ring 101 = .ok (.iload 5, 2) := by decide +kernel
theorem dX8_ring_103 : decode cX8_ring 103 = .ok (.invokevirtual 293, 3) := by decide +kernel
theorem dX8_ring_106 : decode cX8_ring 106 = .ok (.iconst 2, 1) := by decide +kernel
theorem dX8_ring_107 : decode cX8_ring 107 = .ok (.if_icmp .ge 6, 3) := by decide +kernel
theorem dX8_ring_110 : decode cX8_ring 110 = .ok (.goto 36, 3) := by decide +kernel
theorem dX8_ring_113 : decode cX8_ring 113 = .ok (.aload_n 0, 1) := by decide +kernel
theorem dX8_ring_114 : decode cX8_ring 114 = .ok (.iload 5, 2) := by decide +kernel
theorem dX8_ring_116 : decode cX8_ring 116 = .ok (.invokevirtual 293, 3) := by decide +kernel
theorem dX8_ring_119 : decode cX8_ring 119 = .ok (.aload_n 0, 1) := by decide +kernel
theorem dX8_ring_120 : decode cX8_ring 120 = .ok (.iload_n 3, 1) := by decide +kernel
theorem dX8_ring_121 : decode cX8_ring 121 = .ok (.invokevirtual 293, 3) := by decide +kernel
theorem dX8_ring_124 : decode cX8_ring 124 = .ok (.isub, 1) := by decide +kernel
theorem dX8_ring_125 : decode cX8_ring 125 = .ok (.istore 6, 2) := by decide +kernel
theorem dX8_ring_127 : decode cX8_ring 127 = .ok (.iload 6, 2) := by decide +kernel
theorem dX8_ring_129 : decode cX8_ring 129 = .ok (.ifCond .gt 14, 3) := by decide +kernel
theorem dX8_ring_132 : decode cX8_ring 132 = .ok (.iload 6, 2) := by decide +kernel
theorem dX8_ring_134 : decode cX8_ring 134 = .ok (.ifCond .ne 12, 3) := by decide +kernel
theorem dX8_ring_137 : decode cX8_ring 137 = .ok (.iload 5, 2) := by decide +kernel
theorem dX8_ring_139 : decode cX8_ring 139 = .ok (.iload_n 3, 1) := by decide +kernel
theorem dX8_ring_140 : decode cX8_ring 140 = .ok (.if_icmp .ge 6, 3) := by decide +kernel
theorem dX8_ring_143 : decode cX8_ring 143 = .ok (.iload 5, 2) := by decide +kernel
theorem dX8_ring_145 : decode cX8_ring 145 = .ok (.istore_n 3, 1) := by decide +kernel
theorem dX8_ring_146 : decode cX8_ring 146 = .ok (.iinc 4 1, 3) := by decide +kernel
theorem dX8_ring_149 : decode cX8_ring 149 = .ok (.goto (-130), 3) := by decide +kernel
theorem dX8_ring_152 : decode cX8_ring 152 = .ok (.iload_n 1, 1) := by decide +kernel
theorem dX8_ring_153 : decode cX8_ring 153 = .ok (.ifCond .ne 7, 3) := by decide +kernel
theorem dX8_ring_156 : decode cX8_ring 156 = .ok (.iload_n 2, 1) := by decide +kernel
theorem dX8_ring_157 : decode cX8_ring 157 = .ok (.goto 4, 3) := by decide +kernel
theorem dX8_ring_160 : decode cX8_ring 160 = .ok (.iload_n 3, 1) := by decide +kernel
theorem dX8_ring_161 : decode cX8_ring 161 = .ok (.ireturn, 1) := by decide +kernel
theorem dX8_knowers_0 : decode cX8_knowers 0 = .ok (.iconst 0, 1) := by decide +kernel
theorem dX8_knowers_1 : decode cX8_knowers 1 = .ok (.istore_n 2, 1) := by decide +kernel
theorem dX8_knowers_2 : decode cX8_knowers 2 = .ok (.iconst 0, 1) := by decide +kernel
theorem dX8_knowers_3 : decode cX8_knowers 3 = .ok (.istore_n 3, 1) := by decide +kernel
theorem dX8_knowers_4 : decode cX8_knowers 4 = .ok (.iload_n 3, 1) := by decide +kernel
theorem dX8_knowers_5 : decode cX8_knowers 5 = .ok (.aload_n 0, 1) := by decide +kernel
theorem dX8_knowers_6 : decode cX8_knowers 6 = .ok (.getfield 7, 3) := by decide +kernel
theorem dX8_knowers_9 : decode cX8_knowers 9 = .ok (.if_icmp .ge 28, 3) := by decide +kernel
theorem dX8_knowers_12 : decode cX8_knowers 12 = .ok (.iload_n 2, 1) := by decide +kernel
theorem dX8_knowers_13 : decode cX8_knowers 13 = .ok (.aload_n 0, 1) := by decide +kernel
theorem dX8_knowers_14 : decode cX8_knowers 14 = .ok (.iload_n 3, 1) := by decide +kernel
theorem dX8_knowers_15 : decode cX8_knowers 15 = .ok (.invokevirtual 284, 3) := by decide +kernel
theorem dX8_knowers_18 : decode cX8_knowers 18 = .ok (.iload_n 1, 1) := by decide +kernel
theorem dX8_knowers_19 : decode cX8_knowers 19 = .ok (.if_icmp .gt 9, 3) := by decide +kernel
theorem dX8_knowers_22 : decode cX8_knowers 22 = .ok (.iconst 1, 1) := by decide +kernel
theorem dX8_knowers_23 : decode cX8_knowers 23 = .ok (.iload_n 3, 1) := by decide +kernel
theorem dX8_knowers_24 : decode cX8_knowers 24 = .ok (.ishl, 1) := by decide +kernel
theorem dX8_knowers_25 : decode cX8_knowers 25 = .ok (.goto 4, 3) := by decide +kernel
theorem dX8_knowers_28 : decode cX8_knowers 28 = .ok (.iconst 0, 1) := by decide +kernel
theorem dX8_knowers_29 : decode cX8_knowers 29 = .ok (.ior, 1) := by decide +kernel
theorem dX8_knowers_30 : decode cX8_knowers 30 = .ok (.istore_n 2, 1) := by decide +kernel
theorem dX8_knowers_31 : decode cX8_knowers 31 = .ok (.iinc 3 1, 3) := by decide +kernel
theorem dX8_knowers_34 : decode cX8_knowers 34 = .ok (.goto (-30), 3) := by decide +kernel
theorem dX8_knowers_37 : decode cX8_knowers 37 = .ok (.iload_n 2, 1) := by decide +kernel
theorem dX8_knowers_38 : decode cX8_knowers 38 = .ok (.ireturn, 1) := by decide +kernel
theorem dX8_fewest_0 : decode cX8_fewest 0 = .ok (.iconst 0, 1) := by decide +kernel
theorem dX8_fewest_1 : decode cX8_fewest 1 = .ok (.istore 4, 2) := by decide +kernel
theorem dX8_fewest_3 : decode cX8_fewest 3 = .ok (.iload 4, 2) := by decide +kernel
theorem dX8_fewest_5 : decode cX8_fewest 5 = .ok (.iload_n 2, 1) := by decide +kernel
theorem dX8_fewest_6 : decode cX8_fewest 6 = .ok (.if_icmp .gt 31, 3) := by decide +kernel
theorem dX8_fewest_9 : decode cX8_fewest 9 = .ok (.iload 4, 2) := by decide +kernel
theorem dX8_fewest_11 : decode cX8_fewest 11 = .ok (.iload_n 3, 1) := by decide +kernel
theorem dX8_fewest_12 : decode cX8_fewest 12 = .ok (.iconst 1, 1) := by decide +kernel
theorem dX8_fewest_13 : decode cX8_fewest 13 = .ok (.if_icmp .ge 7, 3) := by decide +kernel
theorem dX8_fewest_16 : decode cX8_fewest 16 = .ok (.iconst 0, 1) := by decide +kernel
theorem dX8_fewest_17 : decode cX8_fewest 17 = .ok (.goto 6, 3) := by decide +kernel
theorem dX8_fewest_20 : decode cX8_fewest 20 = .ok (.iload_n 3, 1) := by decide +kernel
theorem dX8_fewest_21 : decode cX8_fewest 21 = .ok (.iconst 1, 1) := by decide +kernel
theorem dX8_fewest_22 : decode cX8_fewest 22 = .ok (.isub, 1) := by decide +kernel
theorem dX8_fewest_23 : decode cX8_fewest 23 = .ok (.imul, 1) := by decide +kernel
theorem dX8_fewest_24 : decode cX8_fewest 24 = .ok (.iload_n 1, 1) := by decide +kernel
theorem dX8_fewest_25 : decode cX8_fewest 25 = .ok (.if_icmp .lt 6, 3) := by decide +kernel
theorem dX8_fewest_28 : decode cX8_fewest 28 = .ok (.iload 4, 2) := by decide +kernel
theorem dX8_fewest_30 : decode cX8_fewest 30 = .ok (.ireturn, 1) := by decide +kernel
theorem dX8_fewest_31 : decode cX8_fewest 31 = .ok (.iinc 4 1, 3) := by decide +kernel
theorem dX8_fewest_34 : decode cX8_fewest 34 = .ok (.goto (-31), 3) := by decide +kernel
theorem dX8_fewest_37 : decode cX8_fewest 37 = .ok (.bipush (-5), 2) := by decide +kernel
theorem dX8_fewest_39 : decode cX8_fewest 39 = .ok (.ireturn, 1) := by decide +kernel
theorem dX8_parted_0 : decode cX8_parted 0 = .ok (.aload_n 0, 1) := by decide +kernel
theorem dX8_parted_1 : decode cX8_parted 1 = .ok (.iload_n 1, 1) := by decide +kernel
theorem dX8_parted_2 : decode cX8_parted 2 = .ok (.iconst 0, 1) := by decide +kernel
theorem dX8_parted_3 : decode cX8_parted 3 = .ok (.sipush 999, 3) := by decide +kernel
theorem dX8_parted_6 : decode cX8_parted 6 = .ok (.invokevirtual 189, 3) := by decide +kernel
theorem dX8_parted_9 : decode cX8_parted 9 = .ok (.ifCond .eq 11, 3) := by decide +kernel
theorem dX8_parted_12 : decode cX8_parted 12 = .ok (.aload_n 0, 1) := by decide +kernel
theorem dX8_parted_13 : decode cX8_parted 13 = .ok (.iload_n 2, 1) := by decide +kernel
theorem dX8_parted_14 : decode cX8_parted 14 = .ok (.invokevirtual 290, 3) := by decide +kernel
theorem dX8_parted_17 : decode cX8_parted 17 = .ok (.ifCond .ne 6, 3) := by decide +kernel
theorem dX8_parted_20 : decode cX8_parted 20 = .ok (.bipush (-2), 2) := by decide +kernel
theorem dX8_parted_22 : decode cX8_parted 22 = .ok (.ireturn, 1) := by decide +kernel
theorem dX8_parted_23 : decode cX8_parted 23 = .ok (.aload_n 0, 1) := by decide +kernel
theorem dX8_parted_24 : decode cX8_parted 24 = .ok (.invokevirtual 278, 3) := by decide +kernel
theorem dX8_parted_27 : decode cX8_parted 27 = .ok (.aload_n 0, 1) := by decide +kernel
theorem dX8_parted_28 : decode cX8_parted 28 = .ok (.iconst 0, 1) := by decide +kernel
theorem dX8_parted_29 : decode cX8_parted 29 = .ok (.invokevirtual 281, 3) := by decide +kernel
theorem dX8_parted_32 : decode cX8_parted 32 = .ok (.aload_n 0, 1) := by decide +kernel
theorem dX8_parted_33 : decode cX8_parted 33 = .ok (.iload_n 1, 1) := by decide +kernel
theorem dX8_parted_34 : decode cX8_parted 34 = .ok (.aload_n 0, 1) := by decide +kernel
theorem dX8_parted_35 : decode cX8_parted 35 = .ok (.aload_n 0, 1) := by decide +kernel
theorem dX8_parted_36 : decode cX8_parted 36 = .ok (.iload_n 2, 1) := by decide +kernel
theorem dX8_parted_37 : decode cX8_parted 37 = .ok (.invokevirtual 323, 3) := by decide +kernel
theorem dX8_parted_40 : decode cX8_parted 40 = .ok (.invokevirtual 293, 3) := by decide +kernel
theorem dX8_parted_43 : decode cX8_parted 43 = .ok (.aload_n 0, 1) := by decide +kernel
theorem dX8_parted_44 : decode cX8_parted 44 = .ok (.iconst 3, 1) := by decide +kernel
theorem dX8_parted_45 : decode cX8_parted 45 = .ok (.sipush 999, 3) := by decide +kernel
theorem dX8_parted_48 : decode cX8_parted 48 = .ok (.invokevirtual 271, 3) := by decide +kernel
theorem dX8_parted_51 : decode cX8_parted 51 = .ok (.invokevirtual 326, 3) := by decide +kernel
theorem dX8_parted_54 : decode cX8_parted 54 = .ok (.ireturn, 1) := by decide +kernel
theorem dX8_watch_0 : decode cX8_watch 0 = .ok (.aload_n 0, 1) := by decide +kernel
theorem dX8_watch_1 : decode cX8_watch 1 = .ok (.iload_n 1, 1) := by decide +kernel
theorem dX8_watch_2 : decode cX8_watch 2 = .ok (.iconst 0, 1) := by decide +kernel
theorem dX8_watch_3 : decode cX8_watch 3 = .ok (.sipush 999, 3) := by decide +kernel
theorem dX8_watch_6 : decode cX8_watch 6 = .ok (.invokevirtual 189, 3) := by decide +kernel
theorem dX8_watch_9 : decode cX8_watch 9 = .ok (.ifCond .eq 22, 3) := by decide +kernel
theorem dX8_watch_12 : decode cX8_watch 12 = .ok (.aload_n 0, 1) := by decide +kernel
theorem dX8_watch_13 : decode cX8_watch 13 = .ok (.iload_n 2, 1) := by decide +kernel
theorem dX8_watch_14 : decode cX8_watch 14 = .ok (.invokevirtual 290, 3) := by decide +kernel
theorem dX8_watch_17 : decode cX8_watch 17 = .ok (.ifCond .eq 14, 3) := by decide +kernel
theorem dX8_watch_20 : decode cX8_watch 20 = .ok (.aload_n 0, 1) := by decide +kernel
theorem dX8_watch_21 : decode cX8_watch 21 = .ok (.iload_n 3, 1) := by decide +kernel
theorem dX8_watch_22 : decode cX8_watch 22 = .ok (.iconst 0, 1) := by decide +kernel
theorem dX8_watch_23 : decode cX8_watch 23 = .ok (.bipush 8, 2) := by decide +kernel
theorem dX8_watch_25 : decode cX8_watch 25 = .ok (.invokevirtual 189, 3) := by decide +kernel
theorem dX8_watch_28 : decode cX8_watch 28 = .ok (.ifCond .ne 6, 3) := by decide +kernel
theorem dX8_watch_31 : decode cX8_watch 31 = .ok (.bipush (-2), 2) := by decide +kernel
theorem dX8_watch_33 : decode cX8_watch 33 = .ok (.ireturn, 1) := by decide +kernel
theorem dX8_watch_34 : decode cX8_watch 34 = .ok (.aload_n 0, 1) := by decide +kernel
theorem dX8_watch_35 : decode cX8_watch 35 = .ok (.invokevirtual 278, 3) := by decide +kernel
theorem dX8_watch_38 : decode cX8_watch 38 = .ok (.aload_n 0, 1) := by decide +kernel
theorem dX8_watch_39 : decode cX8_watch 39 = .ok (.iconst 0, 1) := by decide +kernel
theorem dX8_watch_40 : decode cX8_watch 40 = .ok (.invokevirtual 281, 3) := by decide +kernel
theorem dX8_watch_43 : decode cX8_watch 43 = .ok (.aload_n 0, 1) := by decide +kernel
theorem dX8_watch_44 : decode cX8_watch 44 = .ok (.aload_n 0, 1) := by decide +kernel
theorem dX8_watch_45 : decode cX8_watch 45 = .ok (.iload_n 2, 1) := by decide +kernel
theorem dX8_watch_46 : decode cX8_watch 46 = .ok (.invokevirtual 323, 3) := by decide +kernel
theorem dX8_watch_49 : decode cX8_watch 49 = .ok (.invokevirtual 293, 3) := by decide +kernel
theorem dX8_watch_52 : decode cX8_watch 52 = .ok (.istore 4, 2) := by decide +kernel
theorem dX8_watch_54 : decode cX8_watch 54 = .ok (.iconst 1, 1) := by decide +kernel
theorem dX8_watch_55 : decode cX8_watch 55 = .ok (.istore 5, 2) := by decide +kernel
theorem dX8_watch_57 : decode cX8_watch 57 = .ok (.iload 5, 2) := by decide +kernel
theorem dX8_watch_59 : decode cX8_watch 59 = .ok (.sipush 1000, 3) := by decide +kernel
theorem dX8_watch_62 : decode cX8_watch 62 = .ok (.if_icmp .ge 34, 3) := by decide +kernel
theorem dX8_watch_65 : decode cX8_watch 65 = .ok (.aload_n 0, 1) := by decide +kernel
theorem dX8_watch_66 : decode cX8_watch 66 = .ok (.iload_n 1, 1) := by decide +kernel
theorem dX8_watch_67 : decode cX8_watch 67 = .ok (.iload 4, 2) := by decide +kernel
theorem dX8_watch_69 : decode cX8_watch 69 = .ok (.iload 5, 2) := by decide +kernel
theorem dX8_watch_71 : decode cX8_watch 71 = .ok (.invokevirtual 326, 3) := by decide +kernel
theorem dX8_watch_74 : decode cX8_watch 74 = .ok (.istore 6, 2) := by decide +kernel
theorem dX8_watch_76 : decode cX8_watch 76 = .ok (.iload 6, 2) := by decide +kernel
theorem dX8_watch_78 : decode cX8_watch 78 = .ok (.ifCond .lt 12, 3) := by decide +kernel
theorem dX8_watch_81 : decode cX8_watch 81 = .ok (.iload 6, 2) := by decide +kernel
theorem dX8_watch_83 : decode cX8_watch 83 = .ok (.iload_n 3, 1) := by decide +kernel
theorem dX8_watch_84 : decode cX8_watch 84 = .ok (.if_icmp .gt 6, 3) := by decide +kernel
theorem dX8_watch_87 : decode cX8_watch 87 = .ok (.iload 5, 2) := by decide +kernel
theorem dX8_watch_89 : decode cX8_watch 89 = .ok (.ireturn, 1) := by decide +kernel
theorem dX8_watch_90 : decode cX8_watch 90 = .ok (.iinc 5 1, 3) := by decide +kernel
theorem dX8_watch_93 : decode cX8_watch 93 = .ok (.goto (-36), 3) := by decide +kernel
theorem dX8_watch_96 : decode cX8_watch 96 = .ok (.bipush (-5), 2) := by decide +kernel
theorem dX8_watch_98 : decode cX8_watch 98 = .ok (.ireturn, 1) := by decide +kernel
theorem dX8_ask__0 : decode cX8_ask_ 0 = .ok (.aload_n 0, 1) := by decide +kernel
theorem dX8_ask__1 : decode cX8_ask_ 1 = .ok (.getfield 7, 3) := by decide +kernel
theorem dX8_ask__4 : decode cX8_ask_ 4 = .ok (.ifCond .ne 5, 3) := by decide +kernel
theorem dX8_ask__7 : decode cX8_ask_ 7 = .ok (.iconst (-1), 1) := by decide +kernel
theorem dX8_ask__8 : decode cX8_ask_ 8 = .ok (.ireturn, 1) := by decide +kernel
theorem dX8_ask__9 : decode cX8_ask_ 9 = .ok (.aload_n 0, 1) := by decide +kernel
theorem dX8_ask__10 : decode cX8_ask_ 10 = .ok (.iload_n 1, 1) := by decide +kernel
theorem dX8_ask__11 : decode cX8_ask_ 11 = .ok (.invokevirtual 290, 3) := by decide +kernel
theorem dX8_ask__14 : decode cX8_ask_ 14 = .ok (.ifCond .ne 6, 3) := by decide +kernel
theorem dX8_ask__17 : decode cX8_ask_ 17 = .ok (.bipush (-2), 2) := by decide +kernel
theorem dX8_ask__19 : decode cX8_ask_ 19 = .ok (.ireturn, 1) := by decide +kernel
theorem dX8_ask__20 : decode cX8_ask_ 20 = .ok (.aload_n 0, 1) := by decide +kernel
theorem dX8_ask__21 : decode cX8_ask_ 21 = .ok (.invokevirtual 278, 3) := by decide +kernel
theorem dX8_ask__24 : decode cX8_ask_ 24 = .ok (.aload_n 0, 1) := by decide +kernel
theorem dX8_ask__25 : decode cX8_ask_ 25 = .ok (.iconst 0, 1) := by decide +kernel
theorem dX8_ask__26 : decode cX8_ask_ 26 = .ok (.invokevirtual 281, 3) := by decide +kernel
theorem dX8_ask__29 : decode cX8_ask_ 29 = .ok (.aload_n 0, 1) := by decide +kernel
theorem dX8_ask__30 : decode cX8_ask_ 30 = .ok (.iload_n 1, 1) := by decide +kernel
theorem dX8_ask__31 : decode cX8_ask_ 31 = .ok (.invokevirtual 323, 3) := by decide +kernel
theorem dX8_ask__34 : decode cX8_ask_ 34 = .ok (.istore_n 2, 1) := by decide +kernel
theorem dX8_ask__35 : decode cX8_ask_ 35 = .ok (.iconst (-1), 1) := by decide +kernel
theorem dX8_ask__36 : decode cX8_ask_ 36 = .ok (.istore_n 3, 1) := by decide +kernel
theorem dX8_ask__37 : decode cX8_ask_ 37 = .ok (.iconst 0, 1) := by decide +kernel
theorem dX8_ask__38 : decode cX8_ask_ 38 = .ok (.istore 4, 2) := by decide +kernel
theorem dX8_ask__40 : decode cX8_ask_ 40 = .ok (.iconst 0, 1) := by decide +kernel
theorem dX8_ask__41 : decode cX8_ask_ 41 = .ok (.istore 5, 2) := by decide +kernel
theorem dX8_ask__43 : decode cX8_ask_ 43 = .ok (.iload 5, 2) := by decide +kernel
theorem dX8_ask__45 : decode cX8_ask_ 45 = .ok (.aload_n 0, 1) := by decide +kernel
theorem dX8_ask__46 : decode cX8_ask_ 46 = .ok (.getfield 7, 3) := by decide +kernel
theorem dX8_ask__49 : decode cX8_ask_ 49 = .ok (.if_icmp .ge 60, 3) := by decide +kernel
theorem dX8_ask__52 : decode cX8_ask_ 52 = .ok (.aload_n 0, 1) := by decide +kernel
theorem dX8_ask__53 : decode cX8_ask_ 53 = .ok (.iconst 1, 1) := by decide +kernel
theorem dX8_ask__54 : decode cX8_ask_ 54 = .ok (.iload 5, 2) := by decide +kernel
theorem dX8_ask__56 : decode cX8_ask_ 56 = .ok (.ishl, 1) := by decide +kernel
theorem dX8_ask__57 : decode cX8_ask_ 57 = .ok (.invokevirtual 281, 3) := by decide +kernel
theorem dX8_ask__60 : decode cX8_ask_ 60 = .ok (.aload_n 0, 1) := by decide +kernel
theorem dX8_ask__61 : decode cX8_ask_ 61 = .ok (.iload_n 2, 1) := by decide +kernel
theorem dX8_ask__62 : decode cX8_ask_ 62 = .ok (.aload_n 0, 1) := by decide +kernel
theorem dX8_ask__63 : decode cX8_ask_ 63 = .ok (.iload_n 1, 1) := by decide +kernel
theorem dX8_ask__64 : decode cX8_ask_ 64 = .ok (.invokevirtual 323, 3) := by decide +kernel
theorem dX8_ask__67 : decode cX8_ask_ 67 = .ok (.iconst (-1), 1) := by decide +kernel
theorem dX8_ask__68 : decode cX8_ask_ 68 = .ok (.ixor, 1) := by decide +kernel
theorem dX8_ask__69 : decode cX8_ask_ 69 = .ok (.iand, 1) := by decide +kernel
theorem dX8_ask__70 : decode cX8_ask_ 70 = .ok (.iconst 1, 1) := by decide +kernel
theorem dX8_ask__71 : decode cX8_ask_ 71 = .ok (.iload 5, 2) := by decide +kernel
theorem dX8_ask__73 : decode cX8_ask_ 73 = .ok (.ishl, 1) := by decide +kernel
theorem dX8_ask__74 : decode cX8_ask_ 74 = .ok (.iconst (-1), 1) := by decide +kernel
theorem dX8_ask__75 : decode cX8_ask_ 75 = .ok (.ixor, 1) := by decide +kernel
theorem dX8_ask__76 : decode cX8_ask_ 76 = .ok (.iand, 1) := by decide +kernel
theorem dX8_ask__77 : decode cX8_ask_ 77 = .ok (.invokevirtual 293, 3) := by decide +kernel
theorem dX8_ask__80 : decode cX8_ask_ 80 = .ok (.istore 6, 2) := by decide +kernel
theorem dX8_ask__82 : decode cX8_ask_ 82 = .ok (.iload_n 3, 1) := by decide +kernel
theorem dX8_ask__83 : decode cX8_ask_ 83 = .ok (.ifCond .lt 13, 3) := by decide +kernel
theorem dX8_ask__86 : decode cX8_ask_ 86 = .ok (.iload 6, 2) := by decide +kernel
theorem dX8_ask__88 : decode cX8_ask_ 88 = .ok (.iload 4, 2) := by decide +kernel
theorem dX8_ask__90 : decode cX8_ask_ 90 = .ok (.if_icmp .gt 6, 3) := by decide +kernel
theorem dX8_ask__93 : decode cX8_ask_ 93 = .ok (.goto 10, 3) := by decide +kernel
theorem dX8_ask__96 : decode cX8_ask_ 96 = .ok (.iload 5, 2) := by decide +kernel
theorem dX8_ask__98 : decode cX8_ask_ 98 = .ok (.istore_n 3, 1) := by decide +kernel
theorem dX8_ask__99 : decode cX8_ask_ 99 = .ok (.iload 6, 2) := by decide +kernel
theorem dX8_ask__101 : decode cX8_ask_ 101 = .ok (.istore 4, 2) := by decide +kernel
theorem dX8_ask__103 : decode cX8_ask_ 103 = .ok (.iinc 5 1, 3) := by decide +kernel
theorem dX8_ask__106 : decode cX8_ask_ 106 = .ok (.goto (-63), 3) := by decide +kernel
theorem dX8_ask__109 : decode cX8_ask_ 109 = .ok (.iload_n 3, 1) := by decide +kernel
theorem dX8_ask__110 : decode cX8_ask_ 110 = .ok (.ireturn, 1) := by decide +kernel
theorem dX8_blank_0 : decode cX8_blank 0 = .ok (.iload_n 1, 1) := by decide +kernel
theorem dX8_blank_1 : decode cX8_blank 1 = .ok (.iconst (-1), 1) := by decide +kernel
theorem dX8_blank_2 : decode cX8_blank 2 = .ok (.if_icmp .ne 10, 3) := by decide +kernel
theorem dX8_blank_5 : decode cX8_blank 5 = .ok (.aload_n 0, 1) := by decide +kernel
theorem dX8_blank_6 : decode cX8_blank 6 = .ok (.iconst 0, 1) := by decide +kernel
theorem dX8_blank_7 : decode cX8_blank 7 = .ok (.putfield 119, 3) := by decide +kernel
theorem dX8_blank_10 : decode cX8_blank 10 = .ok (.iconst 0, 1) := by decide +kernel
theorem dX8_blank_11 : decode cX8_blank 11 = .ok (.ireturn, 1) := by decide +kernel
theorem dX8_blank_12 : decode cX8_blank 12 = .ok (.aload_n 0, 1) := by decide +kernel
theorem dX8_blank_13 : decode cX8_blank 13 = .ok (.iload_n 1, 1) := by decide +kernel
theorem dX8_blank_14 : decode cX8_blank 14 = .ok (.iconst 1, 1) := by decide +kernel
theorem dX8_blank_15 : decode cX8_blank 15 = .ok (.bipush 12, 2) := by decide +kernel
theorem dX8_blank_17 : decode cX8_blank 17 = .ok (.invokevirtual 189, 3) := by decide +kernel
theorem dX8_blank_20 : decode cX8_blank 20 = .ok (.ifCond .ne 6, 3) := by decide +kernel
theorem dX8_blank_23 : decode cX8_blank 23 = .ok (.bipush (-2), 2) := by decide +kernel
theorem dX8_blank_25 : decode cX8_blank 25 = .ok (.ireturn, 1) := by decide +kernel
theorem dX8_blank_26 : decode cX8_blank 26 = .ok (.aload_n 0, 1) := by decide +kernel
theorem dX8_blank_27 : decode cX8_blank 27 = .ok (.getfield 119, 3) := by decide +kernel
theorem dX8_blank_30 : decode cX8_blank 30 = .ok (.bipush 6, 2) := by decide +kernel
theorem dX8_blank_32 : decode cX8_blank 32 = .ok (.if_icmp .ne 6, 3) := by decide +kernel
theorem dX8_blank_35 : decode cX8_blank 35 = .ok (.bipush (-4), 2) := by decide +kernel
theorem dX8_blank_37 : decode cX8_blank 37 = .ok (.ireturn, 1) := by decide +kernel
theorem dX8_blank_38 : decode cX8_blank 38 = .ok (.aload_n 0, 1) := by decide +kernel
theorem dX8_blank_39 : decode cX8_blank 39 = .ok (.getfield 122, 3) := by decide +kernel
theorem dX8_blank_42 : decode cX8_blank 42 = .ok (.aload_n 0, 1) := by decide +kernel
theorem dX8_blank_43 : decode cX8_blank 43 = .ok (.getfield 119, 3) := by decide +kernel
theorem dX8_blank_46 : decode cX8_blank 46 = .ok (.iload_n 1, 1) := by decide +kernel
theorem dX8_blank_47 : decode cX8_blank 47 = .ok (.iastore, 1) := by decide +kernel
theorem dX8_blank_48 : decode cX8_blank 48 = .ok (.aload_n 0, 1) := by decide +kernel
theorem dX8_blank_49 : decode cX8_blank 49 = .ok (.dup, 1) := by decide +kernel
theorem dX8_blank_50 : decode cX8_blank 50 = .ok (.getfield 119, 3) := by decide +kernel
theorem dX8_blank_53 : decode cX8_blank 53 = .ok (.iconst 1, 1) := by decide +kernel
theorem dX8_blank_54 : decode cX8_blank 54 = .ok (.iadd, 1) := by decide +kernel
theorem dX8_blank_55 : decode cX8_blank 55 = .ok (.putfield 119, 3) := by decide +kernel
theorem dX8_blank_58 : decode cX8_blank 58 = .ok (.aload_n 0, 1) := by decide +kernel
theorem dX8_blank_59 : decode cX8_blank 59 = .ok (.getfield 119, 3) := by decide +kernel
theorem dX8_blank_62 : decode cX8_blank 62 = .ok (.ireturn, 1) := by decide +kernel
theorem dX8_fillAll_0 : decode cX8_fillAll 0 = .ok (.iconst 0, 1) := by decide +kernel
theorem dX8_fillAll_1 : decode cX8_fillAll 1 = .ok (.istore_n 1, 1) := by decide +kernel
theorem dX8_fillAll_2 : decode cX8_fillAll 2 = .ok (.iload_n 1, 1) := by decide +kernel
theorem dX8_fillAll_3 : decode cX8_fillAll 3 = .ok (.bipush 6, 2) := by decide +kernel
theorem dX8_fillAll_5 : decode cX8_fillAll 5 = .ok (.if_icmp .ge 18, 3) := by decide +kernel
theorem dX8_fillAll_8 : decode cX8_fillAll 8 = .ok (.aload_n 0, 1) := by decide +kernel
theorem dX8_fillAll_9 : decode cX8_fillAll 9 = .ok (.getfield 131, 3) := by decide +kernel
theorem dX8_fillAll_12 : decode cX8_fillAll 12 = .ok (.iload_n 1, 1) := by decide +kernel
theorem dX8_fillAll_13 : decode cX8_fillAll 13 = .ok (.sipush 255, 3) := by decide +kernel
theorem dX8_fillAll_16 : decode cX8_fillAll 16 = .ok (.iastore, 1) := by decide +kernel
theorem dX8_fillAll_17 : decode cX8_fillAll 17 = .ok (.iinc 1 1, 3) := by decide +kernel
theorem dX8_fillAll_20 : decode cX8_fillAll 20 = .ok (.goto (-18), 3) := by decide +kernel
theorem dX8_fillAll_23 : decode cX8_fillAll 23 = .ok (.iconst 0, 1) := by decide +kernel
theorem dX8_fillAll_24 : decode cX8_fillAll 24 = .ok (.istore_n 1, 1) := by decide +kernel
theorem dX8_fillAll_25 : decode cX8_fillAll 25 = .ok (.iconst 0, 1) := by decide +kernel
theorem dX8_fillAll_26 : decode cX8_fillAll 26 = .ok (.istore_n 2, 1) := by decide +kernel
theorem dX8_fillAll_27 : decode cX8_fillAll 27 = .ok (.aload_n 0, 1) := by decide +kernel
theorem dX8_fillAll_28 : decode cX8_fillAll 28 = .ok (.getfield 125, 3) := by decide +kernel
theorem dX8_fillAll_31 : decode cX8_fillAll 31 = .ok (.iconst 0, 1) := by decide +kernel
theorem dX8_fillAll_32 : decode cX8_fillAll 32 = .ok (.iconst 0, 1) := by decide +kernel
theorem dX8_fillAll_33 : decode cX8_fillAll 33 = .ok (.iastore, 1) := by decide +kernel
theorem dX8_fillAll_34 : decode cX8_fillAll 34 = .ok (.aload_n 0, 1) := by decide +kernel
theorem dX8_fillAll_35 : decode cX8_fillAll 35 = .ok (.getfield 128, 3) := by decide +kernel
theorem dX8_fillAll_38 : decode cX8_fillAll 38 = .ok (.iconst 0, 1) := by decide +kernel
theorem dX8_fillAll_39 : decode cX8_fillAll 39 = .ok (.iconst 0, 1) := by decide +kernel
theorem dX8_fillAll_40 : decode cX8_fillAll 40 = .ok (.iastore, 1) := by decide +kernel
theorem dX8_fillAll_41 : decode cX8_fillAll 41 = .ok (.iload_n 2, 1) := by decide +kernel
theorem dX8_fillAll_42 : decode cX8_fillAll 42 = .ok (.ifCond .lt 155, 3) := by decide +kernel
theorem dX8_fillAll_45 : decode cX8_fillAll 45 = .ok (.iload_n 2, 1) := by decide +kernel
theorem dX8_fillAll_46 : decode cX8_fillAll 46 = .ok (.aload_n 0, 1) := by decide +kernel
theorem dX8_fillAll_47 : decode cX8_fillAll 47 = .ok (.getfield 119, 3) := by decide +kernel
theorem dX8_fillAll_50 : decode cX8_fillAll 50 = .ok (.if_icmp .ne 54, 3) := by decide +kernel
theorem dX8_fillAll_53 : decode cX8_fillAll 53 = .ok (.iinc 1 1, 3) := by decide +kernel
theorem dX8_fillAll_56 : decode cX8_fillAll 56 = .ok (.iconst 0, 1) := by decide +kernel
theorem dX8_fillAll_57 : decode cX8_fillAll 57 = .ok (.istore_n 3, 1) := by decide +kernel
theorem dX8_fillAll_58 : decode cX8_fillAll 58 = .ok (.iload_n 3, 1) := by decide +kernel
theorem dX8_fillAll_59 : decode cX8_fillAll 59 = .ok (.aload_n 0, 1) := by decide +kernel
theorem dX8_fillAll_60 : decode cX8_fillAll 60 = .ok (.getfield 119, 3) := by decide +kernel
theorem dX8_fillAll_63 : decode cX8_fillAll 63 = .ok (.if_icmp .ge 35, 3) := by decide +kernel
theorem dX8_fillAll_66 : decode cX8_fillAll 66 = .ok (.aload_n 0, 1) := by decide +kernel
theorem dX8_fillAll_67 : decode cX8_fillAll 67 = .ok (.getfield 131, 3) := by decide +kernel
theorem dX8_fillAll_70 : decode cX8_fillAll 70 = .ok (.iload_n 3, 1) := by decide +kernel
theorem dX8_fillAll_71 : decode cX8_fillAll 71 = .ok (.dup2, 1) := by decide +kernel
theorem dX8_fillAll_72 : decode cX8_fillAll 72 = .ok (.iaload, 1) := by decide +kernel
theorem dX8_fillAll_73 : decode cX8_fillAll 73 = .ok (.aload_n 0, 1) := by decide +kernel
theorem dX8_fillAll_74 : decode cX8_fillAll 74 = .ok (.getfield 128, 3) := by decide +kernel
theorem dX8_fillAll_77 : decode cX8_fillAll 77 = .ok (.iload_n 3, 1) := by decide +kernel
theorem dX8_fillAll_78 : decode cX8_fillAll 78 = .ok (.iconst 1, 1) := by decide +kernel
theorem dX8_fillAll_79 : decode cX8_fillAll 79 = .ok (.iadd, 1) := by decide +kernel
theorem dX8_fillAll_80 : decode cX8_fillAll 80 = .ok (.iaload, 1) := by decide +kernel
theorem dX8_fillAll_81 : decode cX8_fillAll 81 = .ok (.aload_n 0, 1) := by decide +kernel
theorem dX8_fillAll_82 : decode cX8_fillAll 82 = .ok (.getfield 128, 3) := by decide +kernel
theorem dX8_fillAll_85 : decode cX8_fillAll 85 = .ok (.iload_n 3, 1) := by decide +kernel
theorem dX8_fillAll_86 : decode cX8_fillAll 86 = .ok (.iaload, 1) := by decide +kernel
theorem dX8_fillAll_87 : decode cX8_fillAll 87 = .ok (.iconst (-1), 1) := by decide +kernel
theorem dX8_fillAll_88 : decode cX8_fillAll 88 = .ok (.ixor, 1) := by decide +kernel
theorem dX8_fillAll_89 : decode cX8_fillAll 89 = .ok (.iand, 1) := by decide +kernel
theorem dX8_fillAll_90 : decode cX8_fillAll 90 = .ok (.iand, 1) := by decide +kernel
theorem dX8_fillAll_91 : decode cX8_fillAll 91 = .ok (.iastore, 1) := by decide +kernel
theorem dX8_fillAll_92 : decode cX8_fillAll 92 = .ok (.iinc 3 1, 3) := by decide +kernel
theorem dX8_fillAll_95 : decode cX8_fillAll 95 = .ok (.goto (-37), 3) := by decide +kernel
theorem dX8_fillAll_98 : decode cX8_fillAll 98 = .ok (.iinc 2 (-1), 3) := by decide +kernel
theorem dX8_fillAll_101 : decode cX8_fillAll 101 = .ok (.goto (-60), 3) := by decide +kernel
theorem dX8_fillAll_104 : decode cX8_fillAll 104 = .ok (.aload_n 0, 1) := by decide +kernel
theorem dX8_fillAll_105 : decode cX8_fillAll 105 = .ok (.getfield 125, 3) := by decide +kernel
theorem dX8_fillAll_108 : decode cX8_fillAll 108 = .ok (.iload_n 2, 1) := by decide +kernel
theorem dX8_fillAll_109 : decode cX8_fillAll 109 = .ok (.iaload, 1) := by decide +kernel
theorem dX8_fillAll_110 : decode cX8_fillAll 110 = .ok (.istore_n 3, 1) := by decide +kernel
theorem dX8_fillAll_111 : decode cX8_fillAll 111 = .ok (.iload_n 3, 1) := by decide +kernel
theorem dX8_fillAll_112 : decode cX8_fillAll 112 = .ok (.aload_n 0, 1) := by decide +kernel
theorem dX8_fillAll_113 : decode cX8_fillAll 113 = .ok (.getfield 7, 3) := by decide +kernel
theorem dX8_fillAll_116 : decode cX8_fillAll 116 = .ok (.if_icmp .ne 9, 3) := by decide +kernel
theorem dX8_fillAll_119 : decode cX8_fillAll 119 = .ok (.iinc 2 (-1), 3) := by decide +kernel
theorem dX8_fillAll_122 : decode cX8_fillAll 122 = .ok (.goto (-81), 3) := by decide +kernel
theorem dX8_fillAll_125 : decode cX8_fillAll 125 = .ok (.aload_n 0, 1) := by decide +kernel
theorem dX8_fillAll_126 : decode cX8_fillAll 126 = .ok (.getfield 125, 3) := by decide +kernel
theorem dX8_fillAll_129 : decode cX8_fillAll 129 = .ok (.iload_n 2, 1) := by decide +kernel
theorem dX8_fillAll_130 : decode cX8_fillAll 130 = .ok (.iload_n 3, 1) := by decide +kernel
theorem dX8_fillAll_131 : decode cX8_fillAll 131 = .ok (.iconst 1, 1) := by decide +kernel
end
section
theorem dX8_fillAll_132 : decode cX8_fillAll 132 = .ok (.iadd, 1) := by decide +kernel
theorem dX8_fillAll_133 : decode cX8_fillAll 133 = .ok (.iastore, 1) := by decide +kernel
theorem dX8_fillAll_134 : decode cX8_fillAll 134 = .ok (.aload_n 0, 1) := by decide +kernel
theorem dX8_fillAll_135 : decode cX8_fillAll 135 = .ok (.getfield 13, 3) := by decide +kernel
theorem dX8_fillAll_138 : decode cX8_fillAll 138 = .ok (.iload_n 3, 1) := by decide +kernel
theorem dX8_fillAll_139 : decode cX8_fillAll 139 = .ok (.iaload, 1) := by decide +kernel
theorem dX8_fillAll_140 : decode cX8_fillAll 140 = .ok (.aload_n 0, 1) := by decide +kernel
theorem dX8_fillAll_141 : decode cX8_fillAll 141 = .ok (.getfield 122, 3) := by decide +kernel
theorem dX8_fillAll_144 : decode cX8_fillAll 144 = .ok (.iload_n 2, 1) := by decide +kernel
theorem dX8_fillAll_145 : decode cX8_fillAll 145 = .ok (.iaload, 1) := by decide +kernel
theorem dX8_fillAll_146 : decode cX8_fillAll 146 = .ok (.if_icmp .ne (-105), 3) := by decide +kernel
theorem dX8_fillAll_149 : decode cX8_fillAll 149 = .ok (.aload_n 0, 1) := by decide +kernel
theorem dX8_fillAll_150 : decode cX8_fillAll 150 = .ok (.aload_n 0, 1) := by decide +kernel
theorem dX8_fillAll_151 : decode cX8_fillAll 151 = .ok (.getfield 128, 3) := by decide +kernel
theorem dX8_fillAll_154 : decode cX8_fillAll 154 = .ok (.iload_n 2, 1) := by decide +kernel
theorem dX8_fillAll_155 : decode cX8_fillAll 155 = .ok (.iaload, 1) := by decide +kernel
theorem dX8_fillAll_156 : decode cX8_fillAll 156 = .ok (.iload_n 3, 1) := by decide +kernel
theorem dX8_fillAll_157 : decode cX8_fillAll 157 = .ok (.invokevirtual 275, 3) := by decide +kernel
theorem dX8_fillAll_160 : decode cX8_fillAll 160 = .ok (.ifCond .eq 6, 3) := by decide +kernel
theorem dX8_fillAll_163 : decode cX8_fillAll 163 = .ok (.goto (-122), 3) := by decide +kernel
theorem dX8_fillAll_166 : decode cX8_fillAll 166 = .ok (.aload_n 0, 1) := by decide +kernel
theorem dX8_fillAll_167 : decode cX8_fillAll 167 = .ok (.getfield 128, 3) := by decide +kernel
theorem dX8_fillAll_170 : decode cX8_fillAll 170 = .ok (.iload_n 2, 1) := by decide +kernel
theorem dX8_fillAll_171 : decode cX8_fillAll 171 = .ok (.iconst 1, 1) := by decide +kernel
theorem dX8_fillAll_172 : decode cX8_fillAll 172 = .ok (.iadd, 1) := by decide +kernel
theorem dX8_fillAll_173 : decode cX8_fillAll 173 = .ok (.aload_n 0, 1) := by decide +kernel
theorem dX8_fillAll_174 : decode cX8_fillAll 174 = .ok (.getfield 128, 3) := by decide +kernel
theorem dX8_fillAll_177 : decode cX8_fillAll 177 = .ok (.iload_n 2, 1) := by decide +kernel
theorem dX8_fillAll_178 : decode cX8_fillAll 178 = .ok (.iaload, 1) := by decide +kernel
theorem dX8_fillAll_179 : decode cX8_fillAll 179 = .ok (.iconst 1, 1) := by decide +kernel
theorem dX8_fillAll_180 : decode cX8_fillAll 180 = .ok (.iload_n 3, 1) := by decide +kernel
theorem dX8_fillAll_181 : decode cX8_fillAll 181 = .ok (.ishl, 1) := by decide +kernel
theorem dX8_fillAll_182 : decode cX8_fillAll 182 = .ok (.ior, 1) := by decide +kernel
theorem dX8_fillAll_183 : decode cX8_fillAll 183 = .ok (.iastore, 1) := by decide +kernel
theorem dX8_fillAll_184 : decode cX8_fillAll 184 = .ok (.iinc 2 1, 3) := by decide +kernel
theorem dX8_fillAll_187 : decode cX8_fillAll 187 = .ok (.aload_n 0, 1) := by decide +kernel
theorem dX8_fillAll_188 : decode cX8_fillAll 188 = .ok (.getfield 125, 3) := by decide +kernel
theorem dX8_fillAll_191 : decode cX8_fillAll 191 = .ok (.iload_n 2, 1) := by decide +kernel
theorem dX8_fillAll_192 : decode cX8_fillAll 192 = .ok (.iconst 0, 1) := by decide +kernel
theorem dX8_fillAll_193 : decode cX8_fillAll 193 = .ok (.iastore, 1) := by decide +kernel
theorem dX8_fillAll_194 : decode cX8_fillAll 194 = .ok (.goto (-153), 3) := by decide +kernel
theorem dX8_fillAll_197 : decode cX8_fillAll 197 = .ok (.iload_n 1, 1) := by decide +kernel
theorem dX8_fillAll_198 : decode cX8_fillAll 198 = .ok (.ireturn, 1) := by decide +kernel
theorem dX8_fills_0 : decode cX8_fills 0 = .ok (.aload_n 0, 1) := by decide +kernel
theorem dX8_fills_1 : decode cX8_fills 1 = .ok (.iload_n 1, 1) := by decide +kernel
theorem dX8_fills_2 : decode cX8_fills 2 = .ok (.iconst (-1), 1) := by decide +kernel
theorem dX8_fills_3 : decode cX8_fills 3 = .ok (.aload_n 0, 1) := by decide +kernel
theorem dX8_fills_4 : decode cX8_fills 4 = .ok (.getfield 119, 3) := by decide +kernel
theorem dX8_fills_7 : decode cX8_fills 7 = .ok (.iconst 1, 1) := by decide +kernel
theorem dX8_fills_8 : decode cX8_fills 8 = .ok (.isub, 1) := by decide +kernel
theorem dX8_fills_9 : decode cX8_fills 9 = .ok (.invokevirtual 189, 3) := by decide +kernel
theorem dX8_fills_12 : decode cX8_fills 12 = .ok (.ifCond .ne 5, 3) := by decide +kernel
theorem dX8_fills_15 : decode cX8_fills 15 = .ok (.iconst (-1), 1) := by decide +kernel
theorem dX8_fills_16 : decode cX8_fills 16 = .ok (.ireturn, 1) := by decide +kernel
theorem dX8_fills_17 : decode cX8_fills 17 = .ok (.iload_n 1, 1) := by decide +kernel
theorem dX8_fills_18 : decode cX8_fills 18 = .ok (.ifCond .ge 8, 3) := by decide +kernel
theorem dX8_fills_21 : decode cX8_fills 21 = .ok (.aload_n 0, 1) := by decide +kernel
theorem dX8_fills_22 : decode cX8_fills 22 = .ok (.invokevirtual 330, 3) := by decide +kernel
theorem dX8_fills_25 : decode cX8_fills 25 = .ok (.ireturn, 1) := by decide +kernel
theorem dX8_fills_26 : decode cX8_fills 26 = .ok (.iconst 0, 1) := by decide +kernel
theorem dX8_fills_27 : decode cX8_fills 27 = .ok (.istore_n 2, 1) := by decide +kernel
theorem dX8_fills_28 : decode cX8_fills 28 = .ok (.iconst 0, 1) := by decide +kernel
theorem dX8_fills_29 : decode cX8_fills 29 = .ok (.istore_n 3, 1) := by decide +kernel
theorem dX8_fills_30 : decode cX8_fills 30 = .ok (.iload_n 3, 1) := by decide +kernel
theorem dX8_fills_31 : decode cX8_fills 31 = .ok (.aload_n 0, 1) := by decide +kernel
theorem dX8_fills_32 : decode cX8_fills 32 = .ok (.getfield 7, 3) := by decide +kernel
theorem dX8_fills_35 : decode cX8_fills 35 = .ok (.if_icmp .ge 34, 3) := by decide +kernel
theorem dX8_fills_38 : decode cX8_fills 38 = .ok (.iload_n 2, 1) := by decide +kernel
theorem dX8_fills_39 : decode cX8_fills 39 = .ok (.aload_n 0, 1) := by decide +kernel
theorem dX8_fills_40 : decode cX8_fills 40 = .ok (.getfield 13, 3) := by decide +kernel
theorem dX8_fills_43 : decode cX8_fills 43 = .ok (.iload_n 3, 1) := by decide +kernel
theorem dX8_fills_44 : decode cX8_fills 44 = .ok (.iaload, 1) := by decide +kernel
theorem dX8_fills_45 : decode cX8_fills 45 = .ok (.aload_n 0, 1) := by decide +kernel
theorem dX8_fills_46 : decode cX8_fills 46 = .ok (.getfield 122, 3) := by decide +kernel
theorem dX8_fills_49 : decode cX8_fills 49 = .ok (.iload_n 1, 1) := by decide +kernel
theorem dX8_fills_50 : decode cX8_fills 50 = .ok (.iaload, 1) := by decide +kernel
theorem dX8_fills_51 : decode cX8_fills 51 = .ok (.if_icmp .ne 9, 3) := by decide +kernel
theorem dX8_fills_54 : decode cX8_fills 54 = .ok (.iconst 1, 1) := by decide +kernel
theorem dX8_fills_55 : decode cX8_fills 55 = .ok (.iload_n 3, 1) := by decide +kernel
theorem dX8_fills_56 : decode cX8_fills 56 = .ok (.ishl, 1) := by decide +kernel
theorem dX8_fills_57 : decode cX8_fills 57 = .ok (.goto 4, 3) := by decide +kernel
theorem dX8_fills_60 : decode cX8_fills 60 = .ok (.iconst 0, 1) := by decide +kernel
theorem dX8_fills_61 : decode cX8_fills 61 = .ok (.ior, 1) := by decide +kernel
theorem dX8_fills_62 : decode cX8_fills 62 = .ok (.istore_n 2, 1) := by decide +kernel
theorem dX8_fills_63 : decode cX8_fills 63 = .ok (.iinc 3 1, 3) := by decide +kernel
theorem dX8_fills_66 : decode cX8_fills 66 = .ok (.goto (-36), 3) := by decide +kernel
theorem dX8_fills_69 : decode cX8_fills 69 = .ok (.iload_n 2, 1) := by decide +kernel
theorem dX8_fills_70 : decode cX8_fills 70 = .ok (.ireturn, 1) := by decide +kernel
theorem dX8_filled_0 : decode cX8_filled 0 = .ok (.aload_n 0, 1) := by decide +kernel
theorem dX8_filled_1 : decode cX8_filled 1 = .ok (.iload_n 1, 1) := by decide +kernel
theorem dX8_filled_2 : decode cX8_filled 2 = .ok (.iconst 0, 1) := by decide +kernel
theorem dX8_filled_3 : decode cX8_filled 3 = .ok (.aload_n 0, 1) := by decide +kernel
theorem dX8_filled_4 : decode cX8_filled 4 = .ok (.getfield 119, 3) := by decide +kernel
theorem dX8_filled_7 : decode cX8_filled 7 = .ok (.iconst 1, 1) := by decide +kernel
theorem dX8_filled_8 : decode cX8_filled 8 = .ok (.isub, 1) := by decide +kernel
theorem dX8_filled_9 : decode cX8_filled 9 = .ok (.invokevirtual 189, 3) := by decide +kernel
theorem dX8_filled_12 : decode cX8_filled 12 = .ok (.ifCond .ne 5, 3) := by decide +kernel
theorem dX8_filled_15 : decode cX8_filled 15 = .ok (.iconst (-1), 1) := by decide +kernel
theorem dX8_filled_16 : decode cX8_filled 16 = .ok (.ireturn, 1) := by decide +kernel
theorem dX8_filled_17 : decode cX8_filled 17 = .ok (.aload_n 0, 1) := by decide +kernel
theorem dX8_filled_18 : decode cX8_filled 18 = .ok (.invokevirtual 330, 3) := by decide +kernel
theorem dX8_filled_21 : decode cX8_filled 21 = .ok (.ifCond .ne 6, 3) := by decide +kernel
theorem dX8_filled_24 : decode cX8_filled 24 = .ok (.bipush (-5), 2) := by decide +kernel
theorem dX8_filled_26 : decode cX8_filled 26 = .ok (.ireturn, 1) := by decide +kernel
theorem dX8_filled_27 : decode cX8_filled 27 = .ok (.iconst 0, 1) := by decide +kernel
theorem dX8_filled_28 : decode cX8_filled 28 = .ok (.istore_n 2, 1) := by decide +kernel
theorem dX8_filled_29 : decode cX8_filled 29 = .ok (.iload_n 2, 1) := by decide +kernel
theorem dX8_filled_30 : decode cX8_filled 30 = .ok (.aload_n 0, 1) := by decide +kernel
theorem dX8_filled_31 : decode cX8_filled 31 = .ok (.getfield 7, 3) := by decide +kernel
theorem dX8_filled_34 : decode cX8_filled 34 = .ok (.if_icmp .ge 25, 3) := by decide +kernel
theorem dX8_filled_37 : decode cX8_filled 37 = .ok (.aload_n 0, 1) := by decide +kernel
theorem dX8_filled_38 : decode cX8_filled 38 = .ok (.aload_n 0, 1) := by decide +kernel
theorem dX8_filled_39 : decode cX8_filled 39 = .ok (.getfield 131, 3) := by decide +kernel
theorem dX8_filled_42 : decode cX8_filled 42 = .ok (.iload_n 1, 1) := by decide +kernel
theorem dX8_filled_43 : decode cX8_filled 43 = .ok (.iaload, 1) := by decide +kernel
theorem dX8_filled_44 : decode cX8_filled 44 = .ok (.iload_n 2, 1) := by decide +kernel
theorem dX8_filled_45 : decode cX8_filled 45 = .ok (.invokevirtual 275, 3) := by decide +kernel
theorem dX8_filled_48 : decode cX8_filled 48 = .ok (.ifCond .eq 5, 3) := by decide +kernel
theorem dX8_filled_51 : decode cX8_filled 51 = .ok (.iload_n 2, 1) := by decide +kernel
theorem dX8_filled_52 : decode cX8_filled 52 = .ok (.ireturn, 1) := by decide +kernel
theorem dX8_filled_53 : decode cX8_filled 53 = .ok (.iinc 2 1, 3) := by decide +kernel
theorem dX8_filled_56 : decode cX8_filled 56 = .ok (.goto (-27), 3) := by decide +kernel
theorem dX8_filled_59 : decode cX8_filled 59 = .ok (.bipush (-5), 2) := by decide +kernel
theorem dX8_filled_61 : decode cX8_filled 61 = .ok (.ireturn, 1) := by decide +kernel
theorem dX8_judge_0 : decode cX8_judge 0 = .ok (.aload_n 0, 1) := by decide +kernel
theorem dX8_judge_1 : decode cX8_judge 1 = .ok (.iload_n 1, 1) := by decide +kernel
theorem dX8_judge_2 : decode cX8_judge 2 = .ok (.invokevirtual 333, 3) := by decide +kernel
theorem dX8_judge_5 : decode cX8_judge 5 = .ok (.ifCond .eq 11, 3) := by decide +kernel
theorem dX8_judge_8 : decode cX8_judge 8 = .ok (.aload_n 0, 1) := by decide +kernel
theorem dX8_judge_9 : decode cX8_judge 9 = .ok (.iload_n 3, 1) := by decide +kernel
theorem dX8_judge_10 : decode cX8_judge 10 = .ok (.invokevirtual 193, 3) := by decide +kernel
theorem dX8_judge_13 : decode cX8_judge 13 = .ok (.ifCond .ne 5, 3) := by decide +kernel
theorem dX8_judge_16 : decode cX8_judge 16 = .ok (.iconst (-1), 1) := by decide +kernel
theorem dX8_judge_17 : decode cX8_judge 17 = .ok (.ireturn, 1) := by decide +kernel
theorem dX8_judge_18 : decode cX8_judge 18 = .ok (.aload_n 0, 1) := by decide +kernel
theorem dX8_judge_19 : decode cX8_judge 19 = .ok (.getfield 177, 3) := by decide +kernel
theorem dX8_judge_22 : decode cX8_judge 22 = .ok (.iload_n 1, 1) := by decide +kernel
theorem dX8_judge_23 : decode cX8_judge 23 = .ok (.iaload, 1) := by decide +kernel
theorem dX8_judge_24 : decode cX8_judge 24 = .ok (.ifCond .le 6, 3) := by decide +kernel
theorem dX8_judge_27 : decode cX8_judge 27 = .ok (.bipush (-12), 2) := by decide +kernel
theorem dX8_judge_29 : decode cX8_judge 29 = .ok (.ireturn, 1) := by decide +kernel
theorem dX8_judge_30 : decode cX8_judge 30 = .ok (.aload_n 0, 1) := by decide +kernel
theorem dX8_judge_31 : decode cX8_judge 31 = .ok (.invokevirtual 278, 3) := by decide +kernel
theorem dX8_judge_34 : decode cX8_judge 34 = .ok (.iconst (-1), 1) := by decide +kernel
theorem dX8_judge_35 : decode cX8_judge 35 = .ok (.istore 4, 2) := by decide +kernel
theorem dX8_judge_37 : decode cX8_judge 37 = .ok (.iconst 0, 1) := by decide +kernel
theorem dX8_judge_38 : decode cX8_judge 38 = .ok (.istore 5, 2) := by decide +kernel
theorem dX8_judge_40 : decode cX8_judge 40 = .ok (.iconst 0, 1) := by decide +kernel
theorem dX8_judge_41 : decode cX8_judge 41 = .ok (.istore 6, 2) := by decide +kernel
theorem dX8_judge_43 : decode cX8_judge 43 = .ok (.aload_n 0, 1) := by decide +kernel
theorem dX8_judge_44 : decode cX8_judge 44 = .ok (.getfield 177, 3) := by decide +kernel
theorem dX8_judge_47 : decode cX8_judge 47 = .ok (.iload_n 1, 1) := by decide +kernel
theorem dX8_judge_48 : decode cX8_judge 48 = .ok (.iaload, 1) := by decide +kernel
theorem dX8_judge_49 : decode cX8_judge 49 = .ok (.ifCond .lt 22, 3) := by decide +kernel
theorem dX8_judge_52 : decode cX8_judge 52 = .ok (.iload_n 2, 1) := by decide +kernel
theorem dX8_judge_53 : decode cX8_judge 53 = .ok (.ifCond .lt 18, 3) := by decide +kernel
theorem dX8_judge_56 : decode cX8_judge 56 = .ok (.iload_n 2, 1) := by decide +kernel
theorem dX8_judge_57 : decode cX8_judge 57 = .ok (.aload_n 0, 1) := by decide +kernel
theorem dX8_judge_58 : decode cX8_judge 58 = .ok (.getfield 180, 3) := by decide +kernel
theorem dX8_judge_61 : decode cX8_judge 61 = .ok (.iload_n 1, 1) := by decide +kernel
theorem dX8_judge_62 : decode cX8_judge 62 = .ok (.iaload, 1) := by decide +kernel
theorem dX8_judge_63 : decode cX8_judge 63 = .ok (.iload 6, 2) := by decide +kernel
theorem dX8_judge_65 : decode cX8_judge 65 = .ok (.isub, 1) := by decide +kernel
theorem dX8_judge_66 : decode cX8_judge 66 = .ok (.iconst 1, 1) := by decide +kernel
theorem dX8_judge_67 : decode cX8_judge 67 = .ok (.isub, 1) := by decide +kernel
theorem dX8_judge_68 : decode cX8_judge 68 = .ok (.if_icmp .le 10, 3) := by decide +kernel
theorem dX8_judge_71 : decode cX8_judge 71 = .ok (.sipush 1000, 3) := by decide +kernel
theorem dX8_judge_74 : decode cX8_judge 74 = .ok (.iload 6, 2) := by decide +kernel
theorem dX8_judge_76 : decode cX8_judge 76 = .ok (.iadd, 1) := by decide +kernel
theorem dX8_judge_77 : decode cX8_judge 77 = .ok (.ireturn, 1) := by decide +kernel
theorem dX8_judge_78 : decode cX8_judge 78 = .ok (.aload_n 0, 1) := by decide +kernel
theorem dX8_judge_79 : decode cX8_judge 79 = .ok (.getfield 183, 3) := by decide +kernel
theorem dX8_judge_82 : decode cX8_judge 82 = .ok (.bipush 60, 2) := by decide +kernel
theorem dX8_judge_84 : decode cX8_judge 84 = .ok (.iload_n 1, 1) := by decide +kernel
theorem dX8_judge_85 : decode cX8_judge 85 = .ok (.imul, 1) := by decide +kernel
theorem dX8_judge_86 : decode cX8_judge 86 = .ok (.iload_n 2, 1) := by decide +kernel
theorem dX8_judge_87 : decode cX8_judge 87 = .ok (.iadd, 1) := by decide +kernel
theorem dX8_judge_88 : decode cX8_judge 88 = .ok (.iload 6, 2) := by decide +kernel
theorem dX8_judge_90 : decode cX8_judge 90 = .ok (.iadd, 1) := by decide +kernel
theorem dX8_judge_91 : decode cX8_judge 91 = .ok (.laload, 1) := by decide +kernel
theorem dX8_judge_92 : decode cX8_judge 92 = .ok (.l2i, 1) := by decide +kernel
theorem dX8_judge_93 : decode cX8_judge 93 = .ok (.istore 7, 2) := by decide +kernel
theorem dX8_judge_95 : decode cX8_judge 95 = .ok (.aload_n 0, 1) := by decide +kernel
theorem dX8_judge_96 : decode cX8_judge 96 = .ok (.iload 7, 2) := by decide +kernel
theorem dX8_judge_98 : decode cX8_judge 98 = .ok (.invokevirtual 193, 3) := by decide +kernel
theorem dX8_judge_101 : decode cX8_judge 101 = .ok (.ifCond .ne 9, 3) := by decide +kernel
theorem dX8_judge_104 : decode cX8_judge 104 = .ok (.bipush (-10), 2) := by decide +kernel
theorem dX8_judge_106 : decode cX8_judge 106 = .ok (.iload 6, 2) := by decide +kernel
theorem dX8_judge_108 : decode cX8_judge 108 = .ok (.isub, 1) := by decide +kernel
theorem dX8_judge_109 : decode cX8_judge 109 = .ok (.ireturn, 1) := by decide +kernel
theorem dX8_judge_110 : decode cX8_judge 110 = .ok (.iload 6, 2) := by decide +kernel
theorem dX8_judge_112 : decode cX8_judge 112 = .ok (.ifCond .ne 16, 3) := by decide +kernel
theorem dX8_judge_115 : decode cX8_judge 115 = .ok (.aload_n 0, 1) := by decide +kernel
theorem dX8_judge_116 : decode cX8_judge 116 = .ok (.getfield 20, 3) := by decide +kernel
theorem dX8_judge_119 : decode cX8_judge 119 = .ok (.iload 7, 2) := by decide +kernel
theorem dX8_judge_121 : decode cX8_judge 121 = .ok (.iaload, 1) := by decide +kernel
theorem dX8_judge_122 : decode cX8_judge 122 = .ok (.ifCond .ge 6, 3) := by decide +kernel
theorem dX8_judge_125 : decode cX8_judge 125 = .ok (.bipush (-5), 2) := by decide +kernel
theorem dX8_judge_127 : decode cX8_judge 127 = .ok (.ireturn, 1) := by decide +kernel
theorem dX8_judge_128 : decode cX8_judge 128 = .ok (.iload 6, 2) := by decide +kernel
theorem dX8_judge_130 : decode cX8_judge 130 = .ok (.ifCond .le 34, 3) := by decide +kernel
theorem dX8_judge_133 : decode cX8_judge 133 = .ok (.iload 6, 2) := by decide +kernel
theorem dX8_judge_135 : decode cX8_judge 135 = .ok (.aload_n 0, 1) := by decide +kernel
theorem dX8_judge_136 : decode cX8_judge 136 = .ok (.getfield 87, 3) := by decide +kernel
theorem dX8_judge_139 : decode cX8_judge 139 = .ok (.if_icmp .gt 19, 3) := by decide +kernel
theorem dX8_judge_142 : decode cX8_judge 142 = .ok (.aload_n 0, 1) := by decide +kernel
theorem dX8_judge_143 : decode cX8_judge 143 = .ok (.getfield 78, 3) := by decide +kernel
theorem dX8_judge_146 : decode cX8_judge 146 = .ok (.bipush 8, 2) := by decide +kernel
theorem dX8_judge_148 : decode cX8_judge 148 = .ok (.iload 4, 2) := by decide +kernel
theorem dX8_judge_150 : decode cX8_judge 150 = .ok (.imul, 1) := by decide +kernel
theorem dX8_judge_151 : decode cX8_judge 151 = .ok (.iload 7, 2) := by decide +kernel
theorem dX8_judge_153 : decode cX8_judge 153 = .ok (.iadd, 1) := by decide +kernel
theorem dX8_judge_154 : decode cX8_judge 154 = .ok (.iaload, 1) := by decide +kernel
theorem dX8_judge_155 : decode cX8_judge 155 = .ok (.ifCond .ge 9, 3) := by decide +kernel
theorem dX8_judge_158 : decode cX8_judge 158 = .ok (.bipush (-10), 2) := by decide +kernel
theorem dX8_judge_160 : decode cX8_judge 160 = .ok (.iload 6, 2) := by decide +kernel
theorem dX8_judge_162 : decode cX8_judge 162 = .ok (.isub, 1) := by decide +kernel
theorem dX8_judge_163 : decode cX8_judge 163 = .ok (.ireturn, 1) := by decide +kernel
theorem dX8_judge_164 : decode cX8_judge 164 = .ok (.iload 5, 2) := by decide +kernel
theorem dX8_judge_166 : decode cX8_judge 166 = .ok (.iload 6, 2) := by decide +kernel
theorem dX8_judge_168 : decode cX8_judge 168 = .ok (.ifCond .ne 13, 3) := by decide +kernel
theorem dX8_judge_171 : decode cX8_judge 171 = .ok (.aload_n 0, 1) := by decide +kernel
theorem dX8_judge_172 : decode cX8_judge 172 = .ok (.getfield 20, 3) := by decide +kernel
theorem dX8_judge_175 : decode cX8_judge 175 = .ok (.iload 7, 2) := by decide +kernel
theorem dX8_judge_177 : decode cX8_judge 177 = .ok (.iaload, 1) := by decide +kernel
theorem dX8_judge_178 : decode cX8_judge 178 = .ok (.goto 16, 3) := by decide +kernel
theorem dX8_judge_181 : decode cX8_judge 181 = .ok (.aload_n 0, 1) := by decide +kernel
theorem dX8_judge_182 : decode cX8_judge 182 = .ok (.getfield 78, 3) := by decide +kernel
theorem dX8_judge_185 : decode cX8_judge 185 = .ok (.bipush 8, 2) := by decide +kernel
theorem dX8_judge_187 : decode cX8_judge 187 = .ok (.iload 4, 2) := by decide +kernel
theorem dX8_judge_189 : decode cX8_judge 189 = .ok (.imul, 1) := by decide +kernel
theorem dX8_judge_190 : decode cX8_judge 190 = .ok (.iload 7, 2) := by decide +kernel
theorem dX8_judge_192 : decode cX8_judge 192 = .ok (.iadd, 1) := by decide +kernel
theorem dX8_judge_193 : decode cX8_judge 193 = .ok (.iaload, 1) := by decide +kernel
theorem dX8_judge_194 : decode cX8_judge 194 = .ok (.iadd, 1) := by decide +kernel
theorem dX8_judge_195 : decode cX8_judge 195 = .ok (.istore 5, 2) := by decide +kernel
theorem dX8_judge_197 : decode cX8_judge 197 = .ok (.iload 7, 2) := by decide +kernel
theorem dX8_judge_199 : decode cX8_judge 199 = .ok (.iload_n 3, 1) := by decide +kernel
theorem dX8_judge_200 : decode cX8_judge 200 = .ok (.if_icmp .ne 6, 3) := by decide +kernel
theorem dX8_judge_203 : decode cX8_judge 203 = .ok (.iload 5, 2) := by decide +kernel
theorem dX8_judge_205 : decode cX8_judge 205 = .ok (.ireturn, 1) := by decide +kernel
theorem dX8_judge_206 : decode cX8_judge 206 = .ok (.iload 7, 2) := by decide +kernel
theorem dX8_judge_208 : decode cX8_judge 208 = .ok (.istore 4, 2) := by decide +kernel
theorem dX8_judge_210 : decode cX8_judge 210 = .ok (.iinc 6 1, 3) := by decide +kernel
theorem dX8_judge_213 : decode cX8_judge 213 = .ok (.goto (-170), 3) := by decide +kernel
theorem dX8_copy_0 : decode cX8_copy 0 = .ok (.iconst 0, 1) := by decide +kernel
theorem dX8_copy_1 : decode cX8_copy 1 = .ok (.istore_n 3, 1) := by decide +kernel
theorem dX8_copy_2 : decode cX8_copy 2 = .ok (.iload_n 3, 1) := by decide +kernel
theorem dX8_copy_3 : decode cX8_copy 3 = .ok (.aload_n 2, 1) := by decide +kernel
theorem dX8_copy_4 : decode cX8_copy 4 = .ok (.arraylength, 1) := by decide +kernel
theorem dX8_copy_5 : decode cX8_copy 5 = .ok (.if_icmp .ge 15, 3) := by decide +kernel
theorem dX8_copy_8 : decode cX8_copy 8 = .ok (.aload_n 2, 1) := by decide +kernel
theorem dX8_copy_9 : decode cX8_copy 9 = .ok (.iload_n 3, 1) := by decide +kernel
theorem dX8_copy_10 : decode cX8_copy 10 = .ok (.aload_n 1, 1) := by decide +kernel
theorem dX8_copy_11 : decode cX8_copy 11 = .ok (.iload_n 3, 1) := by decide +kernel
theorem dX8_copy_12 : decode cX8_copy 12 = .ok (.iaload, 1) := by decide +kernel
theorem dX8_copy_13 : decode cX8_copy 13 = .ok (.iastore, 1) := by decide +kernel
theorem dX8_copy_14 : decode cX8_copy 14 = .ok (.iinc 3 1, 3) := by decide +kernel
theorem dX8_copy_17 : decode cX8_copy 17 = .ok (.goto (-15), 3) := by decide +kernel
theorem dX8_copy_20 : decode cX8_copy 20 = .ok (.return_, 1) := by decide +kernel
theorem dX8_image_0 : decode cX8_image 0 = .ok (.aload_n 0, 1) := by decide +kernel
theorem dX8_image_1 : decode cX8_image 1 = .ok (.iconst 1, 1) := by decide +kernel
theorem dX8_image_2 : decode cX8_image 2 = .ok (.putfield 134, 3) := by decide +kernel
theorem dX8_image_5 : decode cX8_image 5 = .ok (.aload_n 0, 1) := by decide +kernel
theorem dX8_image_6 : decode cX8_image 6 = .ok (.aload_n 0, 1) := by decide +kernel
theorem dX8_image_7 : decode cX8_image 7 = .ok (.getfield 26, 3) := by decide +kernel
theorem dX8_image_10 : decode cX8_image 10 = .ok (.putfield 138, 3) := by decide +kernel
theorem dX8_image_13 : decode cX8_image 13 = .ok (.aload_n 0, 1) := by decide +kernel
theorem dX8_image_14 : decode cX8_image 14 = .ok (.aload_n 0, 1) := by decide +kernel
theorem dX8_image_15 : decode cX8_image 15 = .ok (.getfield 93, 3) := by decide +kernel
theorem dX8_image_18 : decode cX8_image 18 = .ok (.putfield 141, 3) := by decide +kernel
theorem dX8_image_21 : decode cX8_image 21 = .ok (.aload_n 0, 1) := by decide +kernel
theorem dX8_image_22 : decode cX8_image 22 = .ok (.aload_n 0, 1) := by decide +kernel
theorem dX8_image_23 : decode cX8_image 23 = .ok (.getfield 119, 3) := by decide +kernel
theorem dX8_image_26 : decode cX8_image 26 = .ok (.putfield 144, 3) := by decide +kernel
theorem dX8_image_29 : decode cX8_image 29 = .ok (.aload_n 0, 1) := by decide +kernel
theorem dX8_image_30 : decode cX8_image 30 = .ok (.aload_n 0, 1) := by decide +kernel
theorem dX8_image_31 : decode cX8_image 31 = .ok (.getfield 17, 3) := by decide +kernel
theorem dX8_image_34 : decode cX8_image 34 = .ok (.aload_n 0, 1) := by decide +kernel
theorem dX8_image_35 : decode cX8_image 35 = .ok (.getfield 147, 3) := by decide +kernel
theorem dX8_image_38 : decode cX8_image 38 = .ok (.invokevirtual 336, 3) := by decide +kernel
theorem dX8_image_41 : decode cX8_image 41 = .ok (.aload_n 0, 1) := by decide +kernel
theorem dX8_image_42 : decode cX8_image 42 = .ok (.aload_n 0, 1) := by decide +kernel
theorem dX8_image_43 : decode cX8_image 43 = .ok (.getfield 20, 3) := by decide +kernel
theorem dX8_image_46 : decode cX8_image 46 = .ok (.aload_n 0, 1) := by decide +kernel
theorem dX8_image_47 : decode cX8_image 47 = .ok (.getfield 150, 3) := by decide +kernel
theorem dX8_image_50 : decode cX8_image 50 = .ok (.invokevirtual 336, 3) := by decide +kernel
theorem dX8_image_53 : decode cX8_image 53 = .ok (.aload_n 0, 1) := by decide +kernel
theorem dX8_image_54 : decode cX8_image 54 = .ok (.aload_n 0, 1) := by decide +kernel
theorem dX8_image_55 : decode cX8_image 55 = .ok (.getfield 96, 3) := by decide +kernel
theorem dX8_image_58 : decode cX8_image 58 = .ok (.aload_n 0, 1) := by decide +kernel
theorem dX8_image_59 : decode cX8_image 59 = .ok (.getfield 153, 3) := by decide +kernel
theorem dX8_image_62 : decode cX8_image 62 = .ok (.invokevirtual 336, 3) := by decide +kernel
theorem dX8_image_65 : decode cX8_image 65 = .ok (.aload_n 0, 1) := by decide +kernel
theorem dX8_image_66 : decode cX8_image 66 = .ok (.aload_n 0, 1) := by decide +kernel
theorem dX8_image_67 : decode cX8_image 67 = .ok (.getfield 99, 3) := by decide +kernel
theorem dX8_image_70 : decode cX8_image 70 = .ok (.aload_n 0, 1) := by decide +kernel
theorem dX8_image_71 : decode cX8_image 71 = .ok (.getfield 156, 3) := by decide +kernel
theorem dX8_image_74 : decode cX8_image 74 = .ok (.invokevirtual 336, 3) := by decide +kernel
theorem dX8_image_77 : decode cX8_image 77 = .ok (.aload_n 0, 1) := by decide +kernel
theorem dX8_image_78 : decode cX8_image 78 = .ok (.aload_n 0, 1) := by decide +kernel
theorem dX8_image_79 : decode cX8_image 79 = .ok (.getfield 102, 3) := by decide +kernel
theorem dX8_image_82 : decode cX8_image 82 = .ok (.aload_n 0, 1) := by decide +kernel
theorem dX8_image_83 : decode cX8_image 83 = .ok (.getfield 159, 3) := by decide +kernel
theorem dX8_image_86 : decode cX8_image 86 = .ok (.invokevirtual 336, 3) := by decide +kernel
theorem dX8_image_89 : decode cX8_image 89 = .ok (.aload_n 0, 1) := by decide +kernel
theorem dX8_image_90 : decode cX8_image 90 = .ok (.aload_n 0, 1) := by decide +kernel
theorem dX8_image_91 : decode cX8_image 91 = .ok (.getfield 105, 3) := by decide +kernel
theorem dX8_image_94 : decode cX8_image 94 = .ok (.aload_n 0, 1) := by decide +kernel
theorem dX8_image_95 : decode cX8_image 95 = .ok (.getfield 162, 3) := by decide +kernel
theorem dX8_image_98 : decode cX8_image 98 = .ok (.invokevirtual 336, 3) := by decide +kernel
theorem dX8_image_101 : decode cX8_image 101 = .ok (.aload_n 0, 1) := by decide +kernel
theorem dX8_image_102 : decode cX8_image 102 = .ok (.aload_n 0, 1) := by decide +kernel
theorem dX8_image_103 : decode cX8_image 103 = .ok (.getfield 108, 3) := by decide +kernel
theorem dX8_image_106 : decode cX8_image 106 = .ok (.aload_n 0, 1) := by decide +kernel
theorem dX8_image_107 : decode cX8_image 107 = .ok (.getfield 165, 3) := by decide +kernel
theorem dX8_image_110 : decode cX8_image 110 = .ok (.invokevirtual 336, 3) := by decide +kernel
theorem dX8_image_113 : decode cX8_image 113 = .ok (.aload_n 0, 1) := by decide +kernel
theorem dX8_image_114 : decode cX8_image 114 = .ok (.aload_n 0, 1) := by decide +kernel
theorem dX8_image_115 : decode cX8_image 115 = .ok (.getfield 122, 3) := by decide +kernel
theorem dX8_image_118 : decode cX8_image 118 = .ok (.aload_n 0, 1) := by decide +kernel
theorem dX8_image_119 : decode cX8_image 119 = .ok (.getfield 168, 3) := by decide +kernel
theorem dX8_image_122 : decode cX8_image 122 = .ok (.invokevirtual 336, 3) := by decide +kernel
theorem dX8_image_125 : decode cX8_image 125 = .ok (.aload_n 0, 1) := by decide +kernel
theorem dX8_image_126 : decode cX8_image 126 = .ok (.getfield 93, 3) := by decide +kernel
theorem dX8_image_129 : decode cX8_image 129 = .ok (.ireturn, 1) := by decide +kernel
theorem dX8_undo_0 : decode cX8_undo 0 = .ok (.aload_n 0, 1) := by decide +kernel
theorem dX8_undo_1 : decode cX8_undo 1 = .ok (.getfield 134, 3) := by decide +kernel
theorem dX8_undo_4 : decode cX8_undo 4 = .ok (.ifCond .ne 6, 3) := by decide +kernel
theorem dX8_undo_7 : decode cX8_undo 7 = .ok (.bipush (-3), 2) := by decide +kernel
theorem dX8_undo_9 : decode cX8_undo 9 = .ok (.ireturn, 1) := by decide +kernel
theorem dX8_undo_10 : decode cX8_undo 10 = .ok (.aload_n 0, 1) := by decide +kernel
theorem dX8_undo_11 : decode cX8_undo 11 = .ok (.aload_n 0, 1) := by decide +kernel
theorem dX8_undo_12 : decode cX8_undo 12 = .ok (.getfield 138, 3) := by decide +kernel
theorem dX8_undo_15 : decode cX8_undo 15 = .ok (.putfield 26, 3) := by decide +kernel
theorem dX8_undo_18 : decode cX8_undo 18 = .ok (.aload_n 0, 1) := by decide +kernel
theorem dX8_undo_19 : decode cX8_undo 19 = .ok (.aload_n 0, 1) := by decide +kernel
theorem dX8_undo_20 : decode cX8_undo 20 = .ok (.getfield 141, 3) := by decide +kernel
theorem dX8_undo_23 : decode cX8_undo 23 = .ok (.putfield 93, 3) := by decide +kernel
theorem dX8_undo_26 : decode cX8_undo 26 = .ok (.aload_n 0, 1) := by decide +kernel
theorem dX8_undo_27 : decode cX8_undo 27 = .ok (.aload_n 0, 1) := by decide +kernel
theorem dX8_undo_28 : decode cX8_undo 28 = .ok (.getfield 144, 3) := by decide +kernel
theorem dX8_undo_31 : decode cX8_undo 31 = .ok (.putfield 119, 3) := by decide +kernel
theorem dX8_undo_34 : decode cX8_undo 34 = .ok (.aload_n 0, 1) := by decide +kernel
theorem dX8_undo_35 : decode cX8_undo 35 = .ok (.aload_n 0, 1) := by decide +kernel
theorem dX8_undo_36 : decode cX8_undo 36 = .ok (.getfield 147, 3) := by decide +kernel
theorem dX8_undo_39 : decode cX8_undo 39 = .ok (.aload_n 0, 1) := by decide +kernel
theorem dX8_undo_40 : decode cX8_undo 40 = .ok (.getfield 17, 3) := by decide +kernel
theorem dX8_undo_43 : decode cX8_undo 43 = .ok (.invokevirtual 336, 3) := by decide +kernel
theorem dX8_undo_46 : decode cX8_undo 46 = .ok (.aload_n 0, 1) := by decide +kernel
theorem dX8_undo_47 : decode cX8_undo 47 = .ok (.aload_n 0, 1) := by decide +kernel
theorem dX8_undo_48 : decode cX8_undo 48 = .ok (.getfield 150, 3) := by decide +kernel
theorem dX8_undo_51 : decode cX8_undo 51 = .ok (.aload_n 0, 1) := by decide +kernel
theorem dX8_undo_52 : decode cX8_undo 52 = .ok (.getfield 20, 3) := by decide +kernel
theorem dX8_undo_55 : decode cX8_undo 55 = .ok (.invokevirtual 336, 3) := by decide +kernel
theorem dX8_undo_58 : decode cX8_undo 58 = .ok (.aload_n 0, 1) := by decide +kernel
theorem dX8_undo_59 : decode cX8_undo 59 = .ok (.aload_n 0, 1) := by decide +kernel
theorem dX8_undo_60 : decode cX8_undo 60 = .ok (.getfield 153, 3) := by decide +kernel
theorem dX8_undo_63 : decode cX8_undo 63 = .ok (.aload_n 0, 1) := by decide +kernel
theorem dX8_undo_64 : decode cX8_undo 64 = .ok (.getfield 96, 3) := by decide +kernel
theorem dX8_undo_67 : decode cX8_undo 67 = .ok (.invokevirtual 336, 3) := by decide +kernel
theorem dX8_undo_70 : decode cX8_undo 70 = .ok (.aload_n 0, 1) := by decide +kernel
theorem dX8_undo_71 : decode cX8_undo 71 = .ok (.aload_n 0, 1) := by decide +kernel
theorem dX8_undo_72 : decode cX8_undo 72 = .ok (.getfield 156, 3) := by decide +kernel
theorem dX8_undo_75 : decode cX8_undo 75 = .ok (.aload_n 0, 1) := by decide +kernel
theorem dX8_undo_76 : decode cX8_undo 76 = .ok (.getfield 99, 3) := by decide +kernel
theorem dX8_undo_79 : decode cX8_undo 79 = .ok (.invokevirtual 336, 3) := by decide +kernel
theorem dX8_undo_82 : decode cX8_undo 82 = .ok (.aload_n 0, 1) := by decide +kernel
theorem dX8_undo_83 : decode cX8_undo 83 = .ok (.aload_n 0, 1) := by decide +kernel
theorem dX8_undo_84 : decode cX8_undo 84 = .ok (.getfield 159, 3) := by decide +kernel
theorem dX8_undo_87 : decode cX8_undo 87 = .ok (.aload_n 0, 1) := by decide +kernel
theorem dX8_undo_88 : decode cX8_undo 88 = .ok (.getfield 102, 3) := by decide +kernel
theorem dX8_undo_91 : decode cX8_undo 91 = .ok (.invokevirtual 336, 3) := by decide +kernel
theorem dX8_undo_94 : decode cX8_undo 94 = .ok (.aload_n 0, 1) := by decide +kernel
theorem dX8_undo_95 : decode cX8_undo 95 = .ok (.aload_n 0, 1) := by decide +kernel
theorem dX8_undo_96 : decode cX8_undo 96 = .ok (.getfield 162, 3) := by decide +kernel
theorem dX8_undo_99 : decode cX8_undo 99 = .ok (.aload_n 0, 1) := by decide +kernel
theorem dX8_undo_100 : decode cX8_undo 100 = .ok (.getfield 105, 3) := by decide +kernel
theorem dX8_undo_103 : decode cX8_undo 103 = .ok (.invokevirtual 336, 3) := by decide +kernel
theorem dX8_undo_106 : decode cX8_undo 106 = .ok (.aload_n 0, 1) := by decide +kernel
theorem dX8_undo_107 : decode cX8_undo 107 = .ok (.aload_n 0, 1) := by decide +kernel
theorem dX8_undo_108 : decode cX8_undo 108 = .ok (.getfield 165, 3) := by decide +kernel
theorem dX8_undo_111 : decode cX8_undo 111 = .ok (.aload_n 0, 1) := by decide +kernel
theorem dX8_undo_112 : decode cX8_undo 112 = .ok (.getfield 108, 3) := by decide +kernel
theorem dX8_undo_115 : decode cX8_undo 115 = .ok (.invokevirtual 336, 3) := by decide +kernel
theorem dX8_undo_118 : decode cX8_undo 118 = .ok (.aload_n 0, 1) := by decide +kernel
theorem dX8_undo_119 : decode cX8_undo 119 = .ok (.aload_n 0, 1) := by decide +kernel
theorem dX8_undo_120 : decode cX8_undo 120 = .ok (.getfield 168, 3) := by decide +kernel
theorem dX8_undo_123 : decode cX8_undo 123 = .ok (.aload_n 0, 1) := by decide +kernel
theorem dX8_undo_124 : decode cX8_undo 124 = .ok (.getfield 122, 3) := by decide +kernel
theorem dX8_undo_127 : decode cX8_undo 127 = .ok (.invokevirtual 336, 3) := by decide +kernel
theorem dX8_undo_130 : decode cX8_undo 130 = .ok (.aload_n 0, 1) := by decide +kernel
theorem dX8_undo_131 : decode cX8_undo 131 = .ok (.getfield 93, 3) := by decide +kernel
theorem dX8_undo_134 : decode cX8_undo 134 = .ok (.ireturn, 1) := by decide +kernel
theorem dX8_body_0 : decode cX8_body 0 = .ok (.aload_n 0, 1) := by decide +kernel
theorem dX8_body_1 : decode cX8_body 1 = .ok (.getfield 171, 3) := by decide +kernel
theorem dX8_body_4 : decode cX8_body 4 = .ok (.bipush 20, 2) := by decide +kernel
theorem dX8_body_6 : decode cX8_body 6 = .ok (.if_icmp .ge 13, 3) := by decide +kernel
theorem dX8_body_9 : decode cX8_body 9 = .ok (.aload_n 0, 1) := by decide +kernel
theorem dX8_body_10 : decode cX8_body 10 = .ok (.getfield 174, 3) := by decide +kernel
theorem dX8_body_13 : decode cX8_body 13 = .ok (.aload_n 0, 1) := by decide +kernel
theorem dX8_body_14 : decode cX8_body 14 = .ok (.getfield 171, 3) := by decide +kernel
theorem dX8_body_17 : decode cX8_body 17 = .ok (.iload_n 1, 1) := by decide +kernel
theorem dX8_body_18 : decode cX8_body 18 = .ok (.iastore, 1) := by decide +kernel
theorem dX8_body_19 : decode cX8_body 19 = .ok (.aload_n 0, 1) := by decide +kernel
theorem dX8_body_20 : decode cX8_body 20 = .ok (.dup, 1) := by decide +kernel
theorem dX8_body_21 : decode cX8_body 21 = .ok (.getfield 171, 3) := by decide +kernel
theorem dX8_body_24 : decode cX8_body 24 = .ok (.iconst 1, 1) := by decide +kernel
theorem dX8_body_25 : decode cX8_body 25 = .ok (.iadd, 1) := by decide +kernel
theorem dX8_body_26 : decode cX8_body 26 = .ok (.putfield 171, 3) := by decide +kernel
theorem dX8_body_29 : decode cX8_body 29 = .ok (.return_, 1) := by decide +kernel
theorem dX8_plainBuys_0 : decode cX8_plainBuys 0 = .ok (.aload_n 0, 1) := by decide +kernel
theorem dX8_plainBuys_1 : decode cX8_plainBuys 1 = .ok (.bipush 10, 2) := by decide +kernel
theorem dX8_plainBuys_3 : decode cX8_plainBuys 3 = .ok (.invokevirtual 340, 3) := by decide +kernel
theorem dX8_plainBuys_6 : decode cX8_plainBuys 6 = .ok (.iload_n 2, 1) := by decide +kernel
theorem dX8_plainBuys_7 : decode cX8_plainBuys 7 = .ok (.iload_n 1, 1) := by decide +kernel
theorem dX8_plainBuys_8 : decode cX8_plainBuys 8 = .ok (.iadd, 1) := by decide +kernel
theorem dX8_plainBuys_9 : decode cX8_plainBuys 9 = .ok (.ireturn, 1) := by decide +kernel
theorem dX8_buys_0 : decode cX8_buys 0 = .ok (.aload_n 0, 1) := by decide +kernel
theorem dX8_buys_1 : decode cX8_buys 1 = .ok (.getfield 96, 3) := by decide +kernel
theorem dX8_buys_4 : decode cX8_buys 4 = .ok (.iload_n 1, 1) := by decide +kernel
theorem dX8_buys_5 : decode cX8_buys 5 = .ok (.iaload, 1) := by decide +kernel
theorem dX8_buys_6 : decode cX8_buys 6 = .ok (.tableswitch 83 2 6 #[34, 83, 49, 83, 63], 34) := by decide +kernel
theorem dX8_buys_40 : decode cX8_buys 40 = .ok (.aload_n 0, 1) := by decide +kernel
theorem dX8_buys_41 : decode cX8_buys 41 = .ok (.bipush 30, 2) := by decide +kernel
theorem dX8_buys_43 : decode cX8_buys 43 = .ok (.invokevirtual 340, 3) := by decide +kernel
theorem dX8_buys_46 : decode cX8_buys 46 = .ok (.aload_n 0, 1) := by decide +kernel
theorem dX8_buys_47 : decode cX8_buys 47 = .ok (.iload_n 1, 1) := by decide +kernel
theorem dX8_buys_48 : decode cX8_buys 48 = .ok (.iload_n 2, 1) := by decide +kernel
theorem dX8_buys_49 : decode cX8_buys 49 = .ok (.iconst 3, 1) := by decide +kernel
theorem dX8_buys_50 : decode cX8_buys 50 = .ok (.imul, 1) := by decide +kernel
theorem dX8_buys_51 : decode cX8_buys 51 = .ok (.invokevirtual 343, 3) := by decide +kernel
theorem dX8_buys_54 : decode cX8_buys 54 = .ok (.ireturn, 1) := by decide +kernel
theorem dX8_buys_55 : decode cX8_buys 55 = .ok (.aload_n 0, 1) := by decide +kernel
theorem dX8_buys_56 : decode cX8_buys 56 = .ok (.bipush 50, 2) := by decide +kernel
theorem dX8_buys_58 : decode cX8_buys 58 = .ok (.invokevirtual 340, 3) := by decide +kernel
theorem dX8_buys_61 : decode cX8_buys 61 = .ok (.aload_n 0, 1) := by decide +kernel
theorem dX8_buys_62 : decode cX8_buys 62 = .ok (.iload_n 1, 1) := by decide +kernel
theorem dX8_buys_63 : decode cX8_buys 63 = .ok (.iload_n 2, 1) := by decide +kernel
theorem dX8_buys_64 : decode cX8_buys 64 = .ok (.invokevirtual 343, 3) := by decide +kernel
theorem dX8_buys_67 : decode cX8_buys 67 = .ok (.ineg, 1) := by decide +kernel
theorem dX8_buys_68 : decode cX8_buys 68 = .ok (.ireturn, 1) := by decide +kernel
theorem dX8_buys_69 : decode cX8_buys 69 = .ok (.aload_n 0, 1) := by decide +kernel
theorem dX8_buys_70 : decode cX8_buys 70 = .ok (.bipush 71, 2) := by decide +kernel
theorem dX8_buys_72 : decode cX8_buys 72 = .ok (.invokevirtual 340, 3) := by decide +kernel
theorem dX8_buys_75 : decode cX8_buys 75 = .ok (.aload_n 0, 1) := by decide +kernel
theorem dX8_buys_76 : decode cX8_buys 76 = .ok (.iload_n 1, 1) := by decide +kernel
theorem dX8_buys_77 : decode cX8_buys 77 = .ok (.iload_n 2, 1) := by decide +kernel
theorem dX8_buys_78 : decode cX8_buys 78 = .ok (.invokevirtual 343, 3) := by decide +kernel
theorem dX8_buys_81 : decode cX8_buys 81 = .ok (.aload_n 0, 1) := by decide +kernel
theorem dX8_buys_82 : decode cX8_buys 82 = .ok (.getfield 108, 3) := by decide +kernel
theorem dX8_buys_85 : decode cX8_buys 85 = .ok (.iload_n 1, 1) := by decide +kernel
theorem dX8_buys_86 : decode cX8_buys 86 = .ok (.iaload, 1) := by decide +kernel
theorem dX8_buys_87 : decode cX8_buys 87 = .ok (.ixor, 1) := by decide +kernel
theorem dX8_buys_88 : decode cX8_buys 88 = .ok (.ireturn, 1) := by decide +kernel
theorem dX8_buys_89 : decode cX8_buys 89 = .ok (.aload_n 0, 1) := by decide +kernel
theorem dX8_buys_90 : decode cX8_buys 90 = .ok (.iload_n 1, 1) := by decide +kernel
theorem dX8_buys_91 : decode cX8_buys 91 = .ok (.iload_n 2, 1) := by decide +kernel
theorem dX8_buys_92 : decode cX8_buys 92 = .ok (.invokevirtual 343, 3) := by decide +kernel
theorem dX8_buys_95 : decode cX8_buys 95 = .ok (.ireturn, 1) := by decide +kernel
theorem dX8_plainKnows_0 : decode cX8_plainKnows 0 = .ok (.aload_n 0, 1) := by decide +kernel
theorem dX8_plainKnows_1 : decode cX8_plainKnows 1 = .ok (.bipush 11, 2) := by decide +kernel
theorem dX8_plainKnows_3 : decode cX8_plainKnows 3 = .ok (.invokevirtual 340, 3) := by decide +kernel
theorem dX8_plainKnows_6 : decode cX8_plainKnows 6 = .ok (.aload_n 0, 1) := by decide +kernel
theorem dX8_plainKnows_7 : decode cX8_plainKnows 7 = .ok (.iload_n 1, 1) := by decide +kernel
theorem dX8_plainKnows_8 : decode cX8_plainKnows 8 = .ok (.iload_n 2, 1) := by decide +kernel
theorem dX8_plainKnows_9 : decode cX8_plainKnows 9 = .ok (.invokevirtual 346, 3) := by decide +kernel
theorem dX8_plainKnows_12 : decode cX8_plainKnows 12 = .ok (.aload_n 0, 1) := by decide +kernel
theorem dX8_plainKnows_13 : decode cX8_plainKnows 13 = .ok (.getfield 108, 3) := by decide +kernel
theorem dX8_plainKnows_16 : decode cX8_plainKnows 16 = .ok (.iload_n 1, 1) := by decide +kernel
theorem dX8_plainKnows_17 : decode cX8_plainKnows 17 = .ok (.iaload, 1) := by decide +kernel
theorem dX8_plainKnows_18 : decode cX8_plainKnows 18 = .ok (.isub, 1) := by decide +kernel
theorem dX8_plainKnows_19 : decode cX8_plainKnows 19 = .ok (.ireturn, 1) := by decide +kernel
theorem dX8_usualKnows_0 : decode cX8_usualKnows 0 = .ok (.aload_n 0, 1) := by decide +kernel
theorem dX8_usualKnows_1 : decode cX8_usualKnows 1 = .ok (.bipush 20, 2) := by decide +kernel
theorem dX8_usualKnows_3 : decode cX8_usualKnows 3 = .ok (.invokevirtual 340, 3) := by decide +kernel
theorem dX8_usualKnows_6 : decode cX8_usualKnows 6 = .ok (.aload_n 0, 1) := by decide +kernel
theorem dX8_usualKnows_7 : decode cX8_usualKnows 7 = .ok (.iload_n 1, 1) := by decide +kernel
theorem dX8_usualKnows_8 : decode cX8_usualKnows 8 = .ok (.iload_n 2, 1) := by decide +kernel
theorem dX8_usualKnows_9 : decode cX8_usualKnows 9 = .ok (.invokevirtual 349, 3) := by decide +kernel
theorem dX8_usualKnows_12 : decode cX8_usualKnows 12 = .ok (.bipush 6, 2) := by decide +kernel
theorem dX8_usualKnows_14 : decode cX8_usualKnows 14 = .ok (.ixor, 1) := by decide +kernel
theorem dX8_usualKnows_15 : decode cX8_usualKnows 15 = .ok (.ireturn, 1) := by decide +kernel
theorem dX8_knowsAct_0 : decode cX8_knowsAct 0 = .ok (.aload_n 0, 1) := by decide +kernel
theorem dX8_knowsAct_1 : decode cX8_knowsAct 1 = .ok (.getfield 96, 3) := by decide +kernel
theorem dX8_knowsAct_4 : decode cX8_knowsAct 4 = .ok (.iload_n 1, 1) := by decide +kernel
theorem dX8_knowsAct_5 : decode cX8_knowsAct 5 = .ok (.iaload, 1) := by decide +kernel
theorem dX8_knowsAct_6 : decode cX8_knowsAct 6 = .ok (.lookupswitch 78 #[(1, 34), (4, 41), (6, 56)], 34) := by decide +kernel
theorem dX8_knowsAct_40 : decode cX8_knowsAct 40 = .ok (.aload_n 0, 1) := by decide +kernel
theorem dX8_knowsAct_41 : decode cX8_knowsAct 41 = .ok (.iload_n 1, 1) := by decide +kernel
theorem dX8_knowsAct_42 : decode cX8_knowsAct 42 = .ok (.iload_n 2, 1) := by decide +kernel
theorem dX8_knowsAct_43 : decode cX8_knowsAct 43 = .ok (.invokevirtual 352, 3) := by decide +kernel
theorem dX8_knowsAct_46 : decode cX8_knowsAct 46 = .ok (.ireturn, 1) := by decide +kernel
theorem dX8_knowsAct_47 : decode cX8_knowsAct 47 = .ok (.aload_n 0, 1) := by decide +kernel
theorem dX8_knowsAct_48 : decode cX8_knowsAct 48 = .ok (.bipush 51, 2) := by decide +kernel
theorem dX8_knowsAct_50 : decode cX8_knowsAct 50 = .ok (.invokevirtual 340, 3) := by decide +kernel
theorem dX8_knowsAct_53 : decode cX8_knowsAct 53 = .ok (.aload_n 0, 1) := by decide +kernel
theorem dX8_knowsAct_54 : decode cX8_knowsAct 54 = .ok (.iload_n 1, 1) := by decide +kernel
theorem dX8_knowsAct_55 : decode cX8_knowsAct 55 = .ok (.iload_n 2, 1) := by decide +kernel
theorem dX8_knowsAct_56 : decode cX8_knowsAct 56 = .ok (.iconst 1, 1) := by decide +kernel
theorem dX8_knowsAct_57 : decode cX8_knowsAct 57 = .ok (.iadd, 1) := by decide +kernel
theorem dX8_knowsAct_58 : decode cX8_knowsAct 58 = .ok (.invokevirtual 352, 3) := by decide +kernel
theorem dX8_knowsAct_61 : decode cX8_knowsAct 61 = .ok (.ireturn, 1) := by decide +kernel
theorem dX8_knowsAct_62 : decode cX8_knowsAct 62 = .ok (.aload_n 0, 1) := by decide +kernel
theorem dX8_knowsAct_63 : decode cX8_knowsAct 63 = .ok (.bipush 70, 2) := by decide +kernel
theorem dX8_knowsAct_65 : decode cX8_knowsAct 65 = .ok (.invokevirtual 340, 3) := by decide +kernel
theorem dX8_knowsAct_68 : decode cX8_knowsAct 68 = .ok (.aload_n 0, 1) := by decide +kernel
theorem dX8_knowsAct_69 : decode cX8_knowsAct 69 = .ok (.iload_n 1, 1) := by decide +kernel
theorem dX8_knowsAct_70 : decode cX8_knowsAct 70 = .ok (.iload_n 2, 1) := by decide +kernel
theorem dX8_knowsAct_71 : decode cX8_knowsAct 71 = .ok (.invokevirtual 349, 3) := by decide +kernel
theorem dX8_knowsAct_74 : decode cX8_knowsAct 74 = .ok (.istore_n 3, 1) := by decide +kernel
theorem dX8_knowsAct_75 : decode cX8_knowsAct 75 = .ok (.iload_n 3, 1) := by decide +kernel
theorem dX8_knowsAct_76 : decode cX8_knowsAct 76 = .ok (.aload_n 0, 1) := by decide +kernel
theorem dX8_knowsAct_77 : decode cX8_knowsAct 77 = .ok (.iload_n 1, 1) := by decide +kernel
theorem dX8_knowsAct_78 : decode cX8_knowsAct 78 = .ok (.iconst 2, 1) := by decide +kernel
theorem dX8_knowsAct_79 : decode cX8_knowsAct 79 = .ok (.invokevirtual 343, 3) := by decide +kernel
theorem dX8_knowsAct_82 : decode cX8_knowsAct 82 = .ok (.iadd, 1) := by decide +kernel
theorem dX8_knowsAct_83 : decode cX8_knowsAct 83 = .ok (.ireturn, 1) := by decide +kernel
theorem dX8_knowsAct_84 : decode cX8_knowsAct 84 = .ok (.aload_n 0, 1) := by decide +kernel
theorem dX8_knowsAct_85 : decode cX8_knowsAct 85 = .ok (.iload_n 1, 1) := by decide +kernel
theorem dX8_knowsAct_86 : decode cX8_knowsAct 86 = .ok (.iload_n 2, 1) := by decide +kernel
theorem dX8_knowsAct_87 : decode cX8_knowsAct 87 = .ok (.invokevirtual 349, 3) := by decide +kernel
theorem dX8_knowsAct_90 : decode cX8_knowsAct 90 = .ok (.ireturn, 1) := by decide +kernel
theorem dX8_plainTells_0 : decode cX8_plainTells 0 = .ok (.aload_n 0, 1) := by decide +kernel
theorem dX8_plainTells_1 : decode cX8_plainTells 1 = .ok (.bipush 12, 2) := by decide +kernel
theorem dX8_plainTells_3 : decode cX8_plainTells 3 = .ok (.invokevirtual 340, 3) := by decide +kernel
theorem dX8_plainTells_6 : decode cX8_plainTells 6 = .ok (.aload_n 0, 1) := by decide +kernel
theorem dX8_plainTells_7 : decode cX8_plainTells 7 = .ok (.iload_n 1, 1) := by decide +kernel
theorem dX8_plainTells_8 : decode cX8_plainTells 8 = .ok (.iload_n 2, 1) := by decide +kernel
theorem dX8_plainTells_9 : decode cX8_plainTells 9 = .ok (.invokevirtual 355, 3) := by decide +kernel
theorem dX8_plainTells_12 : decode cX8_plainTells 12 = .ok (.iconst 2, 1) := by decide +kernel
theorem dX8_plainTells_13 : decode cX8_plainTells 13 = .ok (.imul, 1) := by decide +kernel
theorem dX8_plainTells_14 : decode cX8_plainTells 14 = .ok (.ireturn, 1) := by decide +kernel
theorem dX8_knownTells_0 : decode cX8_knownTells 0 = .ok (.aload_n 0, 1) := by decide +kernel
theorem dX8_knownTells_1 : decode cX8_knownTells 1 = .ok (.bipush 40, 2) := by decide +kernel
theorem dX8_knownTells_3 : decode cX8_knownTells 3 = .ok (.invokevirtual 340, 3) := by decide +kernel
theorem dX8_knownTells_6 : decode cX8_knownTells 6 = .ok (.aload_n 0, 1) := by decide +kernel
theorem dX8_knownTells_7 : decode cX8_knownTells 7 = .ok (.iload_n 1, 1) := by decide +kernel
theorem dX8_knownTells_8 : decode cX8_knownTells 8 = .ok (.iload_n 2, 1) := by decide +kernel
theorem dX8_knownTells_9 : decode cX8_knownTells 9 = .ok (.invokevirtual 358, 3) := by decide +kernel
theorem dX8_knownTells_12 : decode cX8_knownTells 12 = .ok (.istore_n 3, 1) := by decide +kernel
theorem dX8_knownTells_13 : decode cX8_knownTells 13 = .ok (.iload_n 3, 1) := by decide +kernel
theorem dX8_knownTells_14 : decode cX8_knownTells 14 = .ok (.aload_n 0, 1) := by decide +kernel
theorem dX8_knownTells_15 : decode cX8_knownTells 15 = .ok (.iload_n 1, 1) := by decide +kernel
theorem dX8_knownTells_16 : decode cX8_knownTells 16 = .ok (.iconst 1, 1) := by decide +kernel
theorem dX8_knownTells_17 : decode cX8_knownTells 17 = .ok (.invokevirtual 355, 3) := by decide +kernel
theorem dX8_knownTells_20 : decode cX8_knownTells 20 = .ok (.iadd, 1) := by decide +kernel
theorem dX8_knownTells_21 : decode cX8_knownTells 21 = .ok (.ireturn, 1) := by decide +kernel
theorem dX8_tells_0 : decode cX8_tells 0 = .ok (.aload_n 0, 1) := by decide +kernel
theorem dX8_tells_1 : decode cX8_tells 1 = .ok (.getfield 96, 3) := by decide +kernel
theorem dX8_tells_4 : decode cX8_tells 4 = .ok (.iload_n 1, 1) := by decide +kernel
theorem dX8_tells_5 : decode cX8_tells 5 = .ok (.iaload, 1) := by decide +kernel
theorem dX8_tells_6 : decode cX8_tells 6 = .ok (.tableswitch 52 3 6 #[30, 52, 37, 30], 30) := by decide +kernel
theorem dX8_tells_36 : decode cX8_tells 36 = .ok (.aload_n 0, 1) := by decide +kernel
theorem dX8_tells_37 : decode cX8_tells 37 = .ok (.iload_n 1, 1) := by decide +kernel
theorem dX8_tells_38 : decode cX8_tells 38 = .ok (.iload_n 2, 1) := by decide +kernel
theorem dX8_tells_39 : decode cX8_tells 39 = .ok (.invokevirtual 361, 3) := by decide +kernel
theorem dX8_tells_42 : decode cX8_tells 42 = .ok (.ireturn, 1) := by decide +kernel
theorem dX8_tells_43 : decode cX8_tells 43 = .ok (.aload_n 0, 1) := by decide +kernel
theorem dX8_tells_44 : decode cX8_tells 44 = .ok (.bipush 60, 2) := by decide +kernel
theorem dX8_tells_46 : decode cX8_tells 46 = .ok (.invokevirtual 340, 3) := by decide +kernel
theorem dX8_tells_49 : decode cX8_tells 49 = .ok (.aload_n 0, 1) := by decide +kernel
theorem dX8_tells_50 : decode cX8_tells 50 = .ok (.iload_n 1, 1) := by decide +kernel
theorem dX8_tells_51 : decode cX8_tells 51 = .ok (.iload_n 2, 1) := by decide +kernel
theorem dX8_tells_52 : decode cX8_tells 52 = .ok (.iload_n 1, 1) := by decide +kernel
theorem dX8_tells_53 : decode cX8_tells 53 = .ok (.isub, 1) := by decide +kernel
theorem dX8_tells_54 : decode cX8_tells 54 = .ok (.invokevirtual 361, 3) := by decide +kernel
theorem dX8_tells_57 : decode cX8_tells 57 = .ok (.ireturn, 1) := by decide +kernel
theorem dX8_tells_58 : decode cX8_tells 58 = .ok (.aload_n 0, 1) := by decide +kernel
theorem dX8_tells_59 : decode cX8_tells 59 = .ok (.iload_n 1, 1) := by decide +kernel
theorem dX8_tells_60 : decode cX8_tells 60 = .ok (.iload_n 2, 1) := by decide +kernel
theorem dX8_tells_61 : decode cX8_tells 61 = .ok (.invokevirtual 358, 3) := by decide +kernel
theorem dX8_tells_64 : decode cX8_tells 64 = .ok (.ireturn, 1) := by decide +kernel
theorem dX8_act_0 : decode cX8_act 0 = .ok (.aload_n 0, 1) := by decide +kernel
theorem dX8_act_1 : decode cX8_act 1 = .ok (.iconst 0, 1) := by decide +kernel
theorem dX8_act_2 : decode cX8_act 2 = .ok (.putfield 171, 3) := by decide +kernel
theorem dX8_act_5 : decode cX8_act 5 = .ok (.aload_n 0, 1) := by decide +kernel
theorem dX8_act_6 : decode cX8_act 6 = .ok (.iload_n 1, 1) := by decide +kernel
theorem dX8_act_7 : decode cX8_act 7 = .ok (.invokevirtual 302, 3) := by decide +kernel
theorem dX8_act_10 : decode cX8_act 10 = .ok (.ifCond .eq 13, 3) := by decide +kernel
theorem dX8_act_13 : decode cX8_act 13 = .ok (.aload_n 0, 1) := by decide +kernel
theorem dX8_act_14 : decode cX8_act 14 = .ok (.iload_n 2, 1) := by decide +kernel
theorem dX8_act_15 : decode cX8_act 15 = .ok (.iconst 0, 1) := by decide +kernel
theorem dX8_act_16 : decode cX8_act 16 = .ok (.iconst 2, 1) := by decide +kernel
theorem dX8_act_17 : decode cX8_act 17 = .ok (.invokevirtual 189, 3) := by decide +kernel
theorem dX8_act_20 : decode cX8_act 20 = .ok (.ifCond .ne 5, 3) := by decide +kernel
theorem dX8_act_23 : decode cX8_act 23 = .ok (.iconst 0, 1) := by decide +kernel
theorem dX8_act_24 : decode cX8_act 24 = .ok (.ireturn, 1) := by decide +kernel
theorem dX8_act_25 : decode cX8_act 25 = .ok (.iload_n 2, 1) := by decide +kernel
theorem dX8_act_26 : decode cX8_act 26 = .ok (.ifCond .ne 12, 3) := by decide +kernel
theorem dX8_act_29 : decode cX8_act 29 = .ok (.aload_n 0, 1) := by decide +kernel
theorem dX8_act_30 : decode cX8_act 30 = .ok (.iload_n 1, 1) := by decide +kernel
theorem dX8_act_31 : decode cX8_act 31 = .ok (.iload_n 3, 1) := by decide +kernel
theorem dX8_act_32 : decode cX8_act 32 = .ok (.invokevirtual 346, 3) := by decide +kernel
theorem dX8_act_35 : decode cX8_act 35 = .ok (.goto 23, 3) := by decide +kernel
theorem dX8_act_38 : decode cX8_act 38 = .ok (.iload_n 2, 1) := by decide +kernel
theorem dX8_act_39 : decode cX8_act 39 = .ok (.iconst 1, 1) := by decide +kernel
theorem dX8_act_40 : decode cX8_act 40 = .ok (.if_icmp .ne 12, 3) := by decide +kernel
theorem dX8_act_43 : decode cX8_act 43 = .ok (.aload_n 0, 1) := by decide +kernel
theorem dX8_act_44 : decode cX8_act 44 = .ok (.iload_n 1, 1) := by decide +kernel
theorem dX8_act_45 : decode cX8_act 45 = .ok (.iload_n 3, 1) := by decide +kernel
theorem dX8_act_46 : decode cX8_act 46 = .ok (.invokevirtual 355, 3) := by decide +kernel
theorem dX8_act_49 : decode cX8_act 49 = .ok (.goto 9, 3) := by decide +kernel
theorem dX8_act_52 : decode cX8_act 52 = .ok (.aload_n 0, 1) := by decide +kernel
theorem dX8_act_53 : decode cX8_act 53 = .ok (.iload_n 1, 1) := by decide +kernel
theorem dX8_act_54 : decode cX8_act 54 = .ok (.iload_n 3, 1) := by decide +kernel
theorem dX8_act_55 : decode cX8_act 55 = .ok (.invokevirtual 364, 3) := by decide +kernel
theorem dX8_act_58 : decode cX8_act 58 = .ok (.ireturn, 1) := by decide +kernel
theorem dX8_trace_0 : decode cX8_trace 0 = .ok (.aload_n 0, 1) := by decide +kernel
theorem dX8_trace_1 : decode cX8_trace 1 = .ok (.iload_n 1, 1) := by decide +kernel
theorem dX8_trace_2 : decode cX8_trace 2 = .ok (.iconst 0, 1) := by decide +kernel
theorem dX8_trace_3 : decode cX8_trace 3 = .ok (.bipush 19, 2) := by decide +kernel
theorem dX8_trace_5 : decode cX8_trace 5 = .ok (.invokevirtual 189, 3) := by decide +kernel
theorem dX8_trace_8 : decode cX8_trace 8 = .ok (.ifCond .eq 20, 3) := by decide +kernel
theorem dX8_trace_11 : decode cX8_trace 11 = .ok (.iload_n 1, 1) := by decide +kernel
theorem dX8_trace_12 : decode cX8_trace 12 = .ok (.aload_n 0, 1) := by decide +kernel
theorem dX8_trace_13 : decode cX8_trace 13 = .ok (.getfield 171, 3) := by decide +kernel
theorem dX8_trace_16 : decode cX8_trace 16 = .ok (.if_icmp .ge 12, 3) := by decide +kernel
theorem dX8_trace_19 : decode cX8_trace 19 = .ok (.aload_n 0, 1) := by decide +kernel
theorem dX8_trace_20 : decode cX8_trace 20 = .ok (.getfield 174, 3) := by decide +kernel
theorem dX8_trace_23 : decode cX8_trace 23 = .ok (.iload_n 1, 1) := by decide +kernel
theorem dX8_trace_24 : decode cX8_trace 24 = .ok (.iaload, 1) := by decide +kernel
theorem dX8_trace_25 : decode cX8_trace 25 = .ok (.goto 4, 3) := by decide +kernel
theorem dX8_trace_28 : decode cX8_trace 28 = .ok (.iconst (-1), 1) := by decide +kernel
theorem dX8_trace_29 : decode cX8_trace 29 = .ok (.ireturn, 1) := by decide +kernel
theorem dX8_taken_0 : decode cX8_taken 0 = .ok (.aload_n 0, 1) := by decide +kernel
theorem dX8_taken_1 : decode cX8_taken 1 = .ok (.iload_n 2, 1) := by decide +kernel
theorem dX8_taken_2 : decode cX8_taken 2 = .ok (.iconst 0, 1) := by decide +kernel
theorem dX8_taken_3 : decode cX8_taken 3 = .ok (.bipush 6, 2) := by decide +kernel
theorem dX8_taken_5 : decode cX8_taken 5 = .ok (.invokevirtual 189, 3) := by decide +kernel
theorem dX8_taken_8 : decode cX8_taken 8 = .ok (.ifCond .ne 6, 3) := by decide +kernel
theorem dX8_taken_11 : decode cX8_taken 11 = .ok (.bipush (-2), 2) := by decide +kernel
theorem dX8_taken_13 : decode cX8_taken 13 = .ok (.ireturn, 1) := by decide +kernel
theorem dX8_taken_14 : decode cX8_taken 14 = .ok (.aload_n 0, 1) := by decide +kernel
theorem dX8_taken_15 : decode cX8_taken 15 = .ok (.iload_n 1, 1) := by decide +kernel
theorem dX8_taken_16 : decode cX8_taken 16 = .ok (.invokevirtual 302, 3) := by decide +kernel
theorem dX8_taken_19 : decode cX8_taken 19 = .ok (.ifCond .ne 6, 3) := by decide +kernel
theorem dX8_taken_22 : decode cX8_taken 22 = .ok (.bipush (-11), 2) := by decide +kernel
theorem dX8_taken_24 : decode cX8_taken 24 = .ok (.ireturn, 1) := by decide +kernel
theorem dX8_taken_25 : decode cX8_taken 25 = .ok (.aload_n 0, 1) := by decide +kernel
theorem dX8_taken_26 : decode cX8_taken 26 = .ok (.getfield 96, 3) := by decide +kernel
theorem dX8_taken_29 : decode cX8_taken 29 = .ok (.iload_n 1, 1) := by decide +kernel
theorem dX8_taken_30 : decode cX8_taken 30 = .ok (.iaload, 1) := by decide +kernel
theorem dX8_taken_31 : decode cX8_taken 31 = .ok (.istore_n 3, 1) := by decide +kernel
theorem dX8_taken_32 : decode cX8_taken 32 = .ok (.iload_n 2, 1) := by decide +kernel
theorem dX8_taken_33 : decode cX8_taken 33 = .ok (.ifCond .eq 28, 3) := by decide +kernel
theorem dX8_taken_36 : decode cX8_taken 36 = .ok (.iload_n 3, 1) := by decide +kernel
theorem dX8_taken_37 : decode cX8_taken 37 = .ok (.iload_n 2, 1) := by decide +kernel
theorem dX8_taken_38 : decode cX8_taken 38 = .ok (.if_icmp .eq 23, 3) := by decide +kernel
theorem dX8_taken_41 : decode cX8_taken 41 = .ok (.iload_n 2, 1) := by decide +kernel
theorem dX8_taken_42 : decode cX8_taken 42 = .ok (.iconst 1, 1) := by decide +kernel
theorem dX8_taken_43 : decode cX8_taken 43 = .ok (.if_icmp .ne 8, 3) := by decide +kernel
theorem dX8_taken_46 : decode cX8_taken 46 = .ok (.iload_n 3, 1) := by decide +kernel
theorem dX8_taken_47 : decode cX8_taken 47 = .ok (.iconst 4, 1) := by decide +kernel
theorem dX8_taken_48 : decode cX8_taken 48 = .ok (.if_icmp .eq 13, 3) := by decide +kernel
theorem dX8_taken_51 : decode cX8_taken 51 = .ok (.iload_n 2, 1) := by decide +kernel
theorem dX8_taken_52 : decode cX8_taken 52 = .ok (.iconst 3, 1) := by decide +kernel
theorem dX8_taken_53 : decode cX8_taken 53 = .ok (.if_icmp .ne 12, 3) := by decide +kernel
theorem dX8_taken_56 : decode cX8_taken 56 = .ok (.iload_n 3, 1) := by decide +kernel
theorem dX8_taken_57 : decode cX8_taken 57 = .ok (.iconst 5, 1) := by decide +kernel
theorem dX8_taken_58 : decode cX8_taken 58 = .ok (.if_icmp .lt 7, 3) := by decide +kernel
theorem dX8_taken_61 : decode cX8_taken 61 = .ok (.iload_n 3, 1) := by decide +kernel
theorem dX8_taken_62 : decode cX8_taken 62 = .ok (.goto 5, 3) := by decide +kernel
theorem dX8_taken_65 : decode cX8_taken 65 = .ok (.bipush (-12), 2) := by decide +kernel
theorem dX8_taken_67 : decode cX8_taken 67 = .ok (.ireturn, 1) := by decide +kernel
theorem dX8_count_0 : decode cX8_count 0 = .ok (.iload_n 1, 1) := by decide +kernel
theorem dX8_count_1 : decode cX8_count 1 = .ok (.tableswitch 69 0 5 #[39, 44, 49, 54, 59, 64], 39) := by decide +kernel
theorem dX8_count_40 : decode cX8_count 40 = .ok (.aload_n 0, 1) := by decide +kernel
theorem dX8_count_41 : decode cX8_count 41 = .ok (.getfield 7, 3) := by decide +kernel
theorem dX8_count_44 : decode cX8_count 44 = .ok (.ireturn, 1) := by decide +kernel
theorem dX8_count_45 : decode cX8_count 45 = .ok (.aload_n 0, 1) := by decide +kernel
theorem dX8_count_46 : decode cX8_count 46 = .ok (.getfield 93, 3) := by decide +kernel
theorem dX8_count_49 : decode cX8_count 49 = .ok (.ireturn, 1) := by decide +kernel
theorem dX8_count_50 : decode cX8_count 50 = .ok (.aload_n 0, 1) := by decide +kernel
theorem dX8_count_51 : decode cX8_count 51 = .ok (.getfield 23, 3) := by decide +kernel
theorem dX8_count_54 : decode cX8_count 54 = .ok (.ireturn, 1) := by decide +kernel
theorem dX8_count_55 : decode cX8_count 55 = .ok (.aload_n 0, 1) := by decide +kernel
theorem dX8_count_56 : decode cX8_count 56 = .ok (.getfield 119, 3) := by decide +kernel
theorem dX8_count_59 : decode cX8_count 59 = .ok (.ireturn, 1) := by decide +kernel
theorem dX8_count_60 : decode cX8_count 60 = .ok (.aload_n 0, 1) := by decide +kernel
theorem dX8_count_61 : decode cX8_count 61 = .ok (.getfield 29, 3) := by decide +kernel
theorem dX8_count_64 : decode cX8_count 64 = .ok (.ireturn, 1) := by decide +kernel
theorem dX8_count_65 : decode cX8_count 65 = .ok (.aload_n 0, 1) := by decide +kernel
theorem dX8_count_66 : decode cX8_count 66 = .ok (.getfield 171, 3) := by decide +kernel
theorem dX8_count_69 : decode cX8_count 69 = .ok (.ireturn, 1) := by decide +kernel
theorem dX8_count_70 : decode cX8_count 70 = .ok (.bipush (-2), 2) := by decide +kernel
theorem dX8_count_72 : decode cX8_count 72 = .ok (.ireturn, 1) := by decide +kernel
theorem dX8_isTape_0 : decode cX8_isTape 0 = .ok (.aload_n 0, 1) := by decide +kernel
theorem dX8_isTape_1 : decode cX8_isTape 1 = .ok (.iload_n 1, 1) := by decide +kernel
theorem dX8_isTape_2 : decode cX8_isTape 2 = .ok (.iconst 0, 1) := by decide +kernel
theorem dX8_isTape_3 : decode cX8_isTape 3 = .ok (.iconst 5, 1) := by decide +kernel
theorem dX8_isTape_4 : decode cX8_isTape 4 = .ok (.invokevirtual 189, 3) := by decide +kernel
theorem dX8_isTape_7 : decode cX8_isTape 7 = .ok (.ireturn, 1) := by decide +kernel
theorem dX8_tape_0 : decode cX8_tape 0 = .ok (.aload_n 0, 1) := by decide +kernel
theorem dX8_tape_1 : decode cX8_tape 1 = .ok (.iload_n 1, 1) := by decide +kernel
theorem dX8_tape_2 : decode cX8_tape 2 = .ok (.invokevirtual 333, 3) := by decide +kernel
theorem dX8_tape_5 : decode cX8_tape 5 = .ok (.ifCond .ne 5, 3) := by decide +kernel
theorem dX8_tape_8 : decode cX8_tape 8 = .ok (.iconst (-1), 1) := by decide +kernel
theorem dX8_tape_9 : decode cX8_tape 9 = .ok (.ireturn, 1) := by decide +kernel
theorem dX8_tape_10 : decode cX8_tape 10 = .ok (.aload_n 0, 1) := by decide +kernel
theorem dX8_tape_11 : decode cX8_tape 11 = .ok (.iload_n 2, 1) := by decide +kernel
theorem dX8_tape_12 : decode cX8_tape 12 = .ok (.iconst (-1), 1) := by decide +kernel
theorem dX8_tape_13 : decode cX8_tape 13 = .ok (.iconst 4, 1) := by decide +kernel
theorem dX8_tape_14 : decode cX8_tape 14 = .ok (.invokevirtual 189, 3) := by decide +kernel
theorem dX8_tape_17 : decode cX8_tape 17 = .ok (.ifCond .eq 13, 3) := by decide +kernel
theorem dX8_tape_20 : decode cX8_tape 20 = .ok (.iload_n 2, 1) := by decide +kernel
theorem dX8_tape_21 : decode cX8_tape 21 = .ok (.ifCond .lt 12, 3) := by decide +kernel
theorem dX8_tape_24 : decode cX8_tape 24 = .ok (.iload_n 3, 1) := by decide +kernel
theorem dX8_tape_25 : decode cX8_tape 25 = .ok (.bipush 60, 2) := by decide +kernel
theorem dX8_tape_27 : decode cX8_tape 27 = .ok (.if_icmp .le 6, 3) := by decide +kernel
theorem dX8_tape_30 : decode cX8_tape 30 = .ok (.bipush (-2), 2) := by decide +kernel
theorem dX8_tape_32 : decode cX8_tape 32 = .ok (.ireturn, 1) := by decide +kernel
theorem dX8_tape_33 : decode cX8_tape 33 = .ok (.iload_n 2, 1) := by decide +kernel
theorem dX8_tape_34 : decode cX8_tape 34 = .ok (.ifCond .lt 10, 3) := by decide +kernel
theorem dX8_tape_37 : decode cX8_tape 37 = .ok (.iload_n 3, 1) := by decide +kernel
theorem dX8_tape_38 : decode cX8_tape 38 = .ok (.ifCond .ge 6, 3) := by decide +kernel
theorem dX8_tape_41 : decode cX8_tape 41 = .ok (.bipush (-14), 2) := by decide +kernel
theorem dX8_tape_43 : decode cX8_tape 43 = .ok (.ireturn, 1) := by decide +kernel
theorem dX8_tape_44 : decode cX8_tape 44 = .ok (.aload_n 0, 1) := by decide +kernel
theorem dX8_tape_45 : decode cX8_tape 45 = .ok (.getfield 177, 3) := by decide +kernel
theorem dX8_tape_48 : decode cX8_tape 48 = .ok (.iload_n 1, 1) := by decide +kernel
theorem dX8_tape_49 : decode cX8_tape 49 = .ok (.iload_n 2, 1) := by decide +kernel
theorem dX8_tape_50 : decode cX8_tape 50 = .ok (.iastore, 1) := by decide +kernel
theorem dX8_tape_51 : decode cX8_tape 51 = .ok (.aload_n 0, 1) := by decide +kernel
theorem dX8_tape_52 : decode cX8_tape 52 = .ok (.getfield 180, 3) := by decide +kernel
theorem dX8_tape_55 : decode cX8_tape 55 = .ok (.iload_n 1, 1) := by decide +kernel
theorem dX8_tape_56 : decode cX8_tape 56 = .ok (.iload_n 2, 1) := by decide +kernel
theorem dX8_tape_57 : decode cX8_tape 57 = .ok (.ifCond .ge 7, 3) := by decide +kernel
theorem dX8_tape_60 : decode cX8_tape 60 = .ok (.iconst 0, 1) := by decide +kernel
theorem dX8_tape_61 : decode cX8_tape 61 = .ok (.goto 4, 3) := by decide +kernel
theorem dX8_tape_64 : decode cX8_tape 64 = .ok (.iload_n 3, 1) := by decide +kernel
theorem dX8_tape_65 : decode cX8_tape 65 = .ok (.iastore, 1) := by decide +kernel
theorem dX8_tape_66 : decode cX8_tape 66 = .ok (.iconst 0, 1) := by decide +kernel
theorem dX8_tape_67 : decode cX8_tape 67 = .ok (.istore 4, 2) := by decide +kernel
theorem dX8_tape_69 : decode cX8_tape 69 = .ok (.iload 4, 2) := by decide +kernel
theorem dX8_tape_71 : decode cX8_tape 71 = .ok (.bipush 60, 2) := by decide +kernel
theorem dX8_tape_73 : decode cX8_tape 73 = .ok (.if_icmp .ge 22, 3) := by decide +kernel
theorem dX8_tape_76 : decode cX8_tape 76 = .ok (.aload_n 0, 1) := by decide +kernel
theorem dX8_tape_77 : decode cX8_tape 77 = .ok (.getfield 183, 3) := by decide +kernel
theorem dX8_tape_80 : decode cX8_tape 80 = .ok (.bipush 60, 2) := by decide +kernel
theorem dX8_tape_82 : decode cX8_tape 82 = .ok (.iload_n 1, 1) := by decide +kernel
theorem dX8_tape_83 : decode cX8_tape 83 = .ok (.imul, 1) := by decide +kernel
theorem dX8_tape_84 : decode cX8_tape 84 = .ok (.iload 4, 2) := by decide +kernel
theorem dX8_tape_86 : decode cX8_tape 86 = .ok (.iadd, 1) := by decide +kernel
theorem dX8_tape_87 : decode cX8_tape 87 = .ok (.lconst 0, 1) := by decide +kernel
theorem dX8_tape_88 : decode cX8_tape 88 = .ok (.lastore, 1) := by decide +kernel
theorem dX8_tape_89 : decode cX8_tape 89 = .ok (.iinc 4 1, 3) := by decide +kernel
theorem dX8_tape_92 : decode cX8_tape 92 = .ok (.goto (-23), 3) := by decide +kernel
theorem dX8_tape_95 : decode cX8_tape 95 = .ok (.iconst 1, 1) := by decide +kernel
theorem dX8_tape_96 : decode cX8_tape 96 = .ok (.ireturn, 1) := by decide +kernel
theorem dX8_narrow_0 : decode cX8_narrow 0 = .ok (.iload_n 1, 1) := by decide +kernel
theorem dX8_narrow_1 : decode cX8_narrow 1 = .ok (.ifCond .ne 10, 3) := by decide +kernel
theorem dX8_narrow_4 : decode cX8_narrow 4 = .ok (.lload_n 2, 1) := by decide +kernel
theorem dX8_narrow_5 : decode cX8_narrow 5 = .ok (.l2i, 1) := by decide +kernel
theorem dX8_narrow_6 : decode cX8_narrow 6 = .ok (.i2b, 1) := by decide +kernel
theorem dX8_narrow_7 : decode cX8_narrow 7 = .ok (.i2l, 1) := by decide +kernel
theorem dX8_narrow_8 : decode cX8_narrow 8 = .ok (.goto 46, 3) := by decide +kernel
theorem dX8_narrow_11 : decode cX8_narrow 11 = .ok (.iload_n 1, 1) := by decide +kernel
theorem dX8_narrow_12 : decode cX8_narrow 12 = .ok (.iconst 1, 1) := by decide +kernel
theorem dX8_narrow_13 : decode cX8_narrow 13 = .ok (.if_icmp .ne 10, 3) := by decide +kernel
theorem dX8_narrow_16 : decode cX8_narrow 16 = .ok (.lload_n 2, 1) := by decide +kernel
theorem dX8_narrow_17 : decode cX8_narrow 17 = .ok (.l2i, 1) := by decide +kernel
theorem dX8_narrow_18 : decode cX8_narrow 18 = .ok (.i2s, 1) := by decide +kernel
theorem dX8_narrow_19 : decode cX8_narrow 19 = .ok (.i2l, 1) := by decide +kernel
theorem dX8_narrow_20 : decode cX8_narrow 20 = .ok (.goto 34, 3) := by decide +kernel
theorem dX8_narrow_23 : decode cX8_narrow 23 = .ok (.iload_n 1, 1) := by decide +kernel
theorem dX8_narrow_24 : decode cX8_narrow 24 = .ok (.iconst 2, 1) := by decide +kernel
theorem dX8_narrow_25 : decode cX8_narrow 25 = .ok (.if_icmp .ne 9, 3) := by decide +kernel
theorem dX8_narrow_28 : decode cX8_narrow 28 = .ok (.lload_n 2, 1) := by decide +kernel
theorem dX8_narrow_29 : decode cX8_narrow 29 = .ok (.l2i, 1) := by decide +kernel
theorem dX8_narrow_30 : decode cX8_narrow 30 = .ok (.i2l, 1) := by decide +kernel
theorem dX8_narrow_31 : decode cX8_narrow 31 = .ok (.goto 23, 3) := by decide +kernel
theorem dX8_narrow_34 : decode cX8_narrow 34 = .ok (.iload_n 1, 1) := by decide +kernel
theorem dX8_narrow_35 : decode cX8_narrow 35 = .ok (.iconst 4, 1) := by decide +kernel
theorem dX8_narrow_36 : decode cX8_narrow 36 = .ok (.if_icmp .ne 17, 3) := by decide +kernel
theorem dX8_narrow_39 : decode cX8_narrow 39 = .ok (.lload_n 2, 1) := by decide +kernel
theorem dX8_narrow_40 : decode cX8_narrow 40 = .ok (.lconst 0, 1) := by decide +kernel
theorem dX8_narrow_41 : decode cX8_narrow 41 = .ok (.lcmp, 1) := by decide +kernel
theorem dX8_narrow_42 : decode cX8_narrow 42 = .ok (.ifCond .eq 7, 3) := by decide +kernel
theorem dX8_narrow_45 : decode cX8_narrow 45 = .ok (.lconst 1, 1) := by decide +kernel
theorem dX8_narrow_46 : decode cX8_narrow 46 = .ok (.goto 8, 3) := by decide +kernel
theorem dX8_narrow_49 : decode cX8_narrow 49 = .ok (.lconst 0, 1) := by decide +kernel
theorem dX8_narrow_50 : decode cX8_narrow 50 = .ok (.goto 4, 3) := by decide +kernel
theorem dX8_narrow_53 : decode cX8_narrow 53 = .ok (.lload_n 2, 1) := by decide +kernel
theorem dX8_narrow_54 : decode cX8_narrow 54 = .ok (.lreturn, 1) := by decide +kernel
theorem dX8_item_0 : decode cX8_item 0 = .ok (.aload_n 0, 1) := by decide +kernel
theorem dX8_item_1 : decode cX8_item 1 = .ok (.iload_n 1, 1) := by decide +kernel
theorem dX8_item_2 : decode cX8_item 2 = .ok (.invokevirtual 333, 3) := by decide +kernel
theorem dX8_item_5 : decode cX8_item 5 = .ok (.ifCond .ne 5, 3) := by decide +kernel
theorem dX8_item_8 : decode cX8_item 8 = .ok (.iconst (-1), 1) := by decide +kernel
theorem dX8_item_9 : decode cX8_item 9 = .ok (.ireturn, 1) := by decide +kernel
theorem dX8_item_10 : decode cX8_item 10 = .ok (.aload_n 0, 1) := by decide +kernel
theorem dX8_item_11 : decode cX8_item 11 = .ok (.getfield 177, 3) := by decide +kernel
theorem dX8_item_14 : decode cX8_item 14 = .ok (.iload_n 1, 1) := by decide +kernel
theorem dX8_item_15 : decode cX8_item 15 = .ok (.iaload, 1) := by decide +kernel
theorem dX8_item_16 : decode cX8_item 16 = .ok (.ifCond .ge 6, 3) := by decide +kernel
theorem dX8_item_19 : decode cX8_item 19 = .ok (.bipush (-11), 2) := by decide +kernel
theorem dX8_item_21 : decode cX8_item 21 = .ok (.ireturn, 1) := by decide +kernel
theorem dX8_item_22 : decode cX8_item 22 = .ok (.aload_n 0, 1) := by decide +kernel
theorem dX8_item_23 : decode cX8_item 23 = .ok (.iload_n 2, 1) := by decide +kernel
theorem dX8_item_24 : decode cX8_item 24 = .ok (.iconst 0, 1) := by decide +kernel
theorem dX8_item_25 : decode cX8_item 25 = .ok (.aload_n 0, 1) := by decide +kernel
theorem dX8_item_26 : decode cX8_item 26 = .ok (.getfield 180, 3) := by decide +kernel
theorem dX8_item_29 : decode cX8_item 29 = .ok (.iload_n 1, 1) := by decide +kernel
theorem dX8_item_30 : decode cX8_item 30 = .ok (.iaload, 1) := by decide +kernel
theorem dX8_item_31 : decode cX8_item 31 = .ok (.iconst 1, 1) := by decide +kernel
theorem dX8_item_32 : decode cX8_item 32 = .ok (.isub, 1) := by decide +kernel
theorem dX8_item_33 : decode cX8_item 33 = .ok (.invokevirtual 189, 3) := by decide +kernel
theorem dX8_item_36 : decode cX8_item 36 = .ok (.ifCond .ne 6, 3) := by decide +kernel
theorem dX8_item_39 : decode cX8_item 39 = .ok (.bipush (-13), 2) := by decide +kernel
theorem dX8_item_41 : decode cX8_item 41 = .ok (.ireturn, 1) := by decide +kernel
theorem dX8_item_42 : decode cX8_item 42 = .ok (.aload_n 0, 1) := by decide +kernel
theorem dX8_item_43 : decode cX8_item 43 = .ok (.getfield 183, 3) := by decide +kernel
theorem dX8_item_46 : decode cX8_item 46 = .ok (.bipush 60, 2) := by decide +kernel
theorem dX8_item_48 : decode cX8_item 48 = .ok (.iload_n 1, 1) := by decide +kernel
theorem dX8_item_49 : decode cX8_item 49 = .ok (.imul, 1) := by decide +kernel
theorem dX8_item_50 : decode cX8_item 50 = .ok (.iload_n 2, 1) := by decide +kernel
theorem dX8_item_51 : decode cX8_item 51 = .ok (.iadd, 1) := by decide +kernel
theorem dX8_item_52 : decode cX8_item 52 = .ok (.aload_n 0, 1) := by decide +kernel
theorem dX8_item_53 : decode cX8_item 53 = .ok (.aload_n 0, 1) := by decide +kernel
theorem dX8_item_54 : decode cX8_item 54 = .ok (.getfield 177, 3) := by decide +kernel
theorem dX8_item_57 : decode cX8_item 57 = .ok (.iload_n 1, 1) := by decide +kernel
theorem dX8_item_58 : decode cX8_item 58 = .ok (.iaload, 1) := by decide +kernel
theorem dX8_item_59 : decode cX8_item 59 = .ok (.lload_n 3, 1) := by decide +kernel
theorem dX8_item_60 : decode cX8_item 60 = .ok (.invokevirtual 367, 3) := by decide +kernel
theorem dX8_item_63 : decode cX8_item 63 = .ok (.lastore, 1) := by decide +kernel
theorem dX8_item_64 : decode cX8_item 64 = .ok (.iconst 1, 1) := by decide +kernel
theorem dX8_item_65 : decode cX8_item 65 = .ok (.ireturn, 1) := by decide +kernel
theorem dX8_read_0 : decode cX8_read 0 = .ok (.aload_n 0, 1) := by decide +kernel
theorem dX8_read_1 : decode cX8_read 1 = .ok (.iload_n 1, 1) := by decide +kernel
theorem dX8_read_2 : decode cX8_read 2 = .ok (.invokevirtual 333, 3) := by decide +kernel
theorem dX8_read_5 : decode cX8_read 5 = .ok (.ifCond .eq 29, 3) := by decide +kernel
theorem dX8_read_8 : decode cX8_read 8 = .ok (.aload_n 0, 1) := by decide +kernel
theorem dX8_read_9 : decode cX8_read 9 = .ok (.getfield 177, 3) := by decide +kernel
theorem dX8_read_12 : decode cX8_read 12 = .ok (.iload_n 1, 1) := by decide +kernel
theorem dX8_read_13 : decode cX8_read 13 = .ok (.iaload, 1) := by decide +kernel
theorem dX8_read_14 : decode cX8_read 14 = .ok (.ifCond .lt 20, 3) := by decide +kernel
theorem dX8_read_17 : decode cX8_read 17 = .ok (.aload_n 0, 1) := by decide +kernel
theorem dX8_read_18 : decode cX8_read 18 = .ok (.iload_n 2, 1) := by decide +kernel
theorem dX8_read_19 : decode cX8_read 19 = .ok (.iconst 0, 1) := by decide +kernel
theorem dX8_read_20 : decode cX8_read 20 = .ok (.aload_n 0, 1) := by decide +kernel
theorem dX8_read_21 : decode cX8_read 21 = .ok (.getfield 180, 3) := by decide +kernel
theorem dX8_read_24 : decode cX8_read 24 = .ok (.iload_n 1, 1) := by decide +kernel
theorem dX8_read_25 : decode cX8_read 25 = .ok (.iaload, 1) := by decide +kernel
theorem dX8_read_26 : decode cX8_read 26 = .ok (.iconst 1, 1) := by decide +kernel
theorem dX8_read_27 : decode cX8_read 27 = .ok (.isub, 1) := by decide +kernel
theorem dX8_read_28 : decode cX8_read 28 = .ok (.invokevirtual 189, 3) := by decide +kernel
theorem dX8_read_31 : decode cX8_read 31 = .ok (.ifCond .ne 9, 3) := by decide +kernel
theorem dX8_read_34 : decode cX8_read 34 = .ok (.ldc2_w 313, 3) := by decide +kernel
theorem dX8_read_37 : decode cX8_read 37 = .ok (.goto 14, 3) := by decide +kernel
theorem dX8_read_40 : decode cX8_read 40 = .ok (.aload_n 0, 1) := by decide +kernel
theorem dX8_read_41 : decode cX8_read 41 = .ok (.getfield 183, 3) := by decide +kernel
theorem dX8_read_44 : decode cX8_read 44 = .ok (.bipush 60, 2) := by decide +kernel
theorem dX8_read_46 : decode cX8_read 46 = .ok (.iload_n 1, 1) := by decide +kernel
theorem dX8_read_47 : decode cX8_read 47 = .ok (.imul, 1) := by decide +kernel
theorem dX8_read_48 : decode cX8_read 48 = .ok (.iload_n 2, 1) := by decide +kernel
theorem dX8_read_49 : decode cX8_read 49 = .ok (.iadd, 1) := by decide +kernel
theorem dX8_read_50 : decode cX8_read 50 = .ok (.laload, 1) := by decide +kernel
theorem dX8_read_51 : decode cX8_read 51 = .ok (.lreturn, 1) := by decide +kernel
theorem dX8_shift_0 : decode cX8_shift 0 = .ok (.aload_n 0, 1) := by decide +kernel
theorem dX8_shift_1 : decode cX8_shift 1 = .ok (.iload_n 1, 1) := by decide +kernel
theorem dX8_shift_2 : decode cX8_shift 2 = .ok (.invokevirtual 333, 3) := by decide +kernel
theorem dX8_shift_5 : decode cX8_shift 5 = .ok (.ifCond .eq 11, 3) := by decide +kernel
theorem dX8_shift_8 : decode cX8_shift 8 = .ok (.aload_n 0, 1) := by decide +kernel
theorem dX8_shift_9 : decode cX8_shift 9 = .ok (.iload_n 3, 1) := by decide +kernel
theorem dX8_shift_10 : decode cX8_shift 10 = .ok (.invokevirtual 333, 3) := by decide +kernel
theorem dX8_shift_13 : decode cX8_shift 13 = .ok (.ifCond .ne 5, 3) := by decide +kernel
theorem dX8_shift_16 : decode cX8_shift 16 = .ok (.iconst (-1), 1) := by decide +kernel
theorem dX8_shift_17 : decode cX8_shift 17 = .ok (.ireturn, 1) := by decide +kernel
theorem dX8_shift_18 : decode cX8_shift 18 = .ok (.aload_n 0, 1) := by decide +kernel
theorem dX8_shift_19 : decode cX8_shift 19 = .ok (.getfield 177, 3) := by decide +kernel
theorem dX8_shift_22 : decode cX8_shift 22 = .ok (.iload_n 1, 1) := by decide +kernel
theorem dX8_shift_23 : decode cX8_shift 23 = .ok (.iaload, 1) := by decide +kernel
theorem dX8_shift_24 : decode cX8_shift 24 = .ok (.ifCond .lt 12, 3) := by decide +kernel
theorem dX8_shift_27 : decode cX8_shift 27 = .ok (.aload_n 0, 1) := by decide +kernel
theorem dX8_shift_28 : decode cX8_shift 28 = .ok (.getfield 177, 3) := by decide +kernel
theorem dX8_shift_31 : decode cX8_shift 31 = .ok (.iload_n 3, 1) := by decide +kernel
theorem dX8_shift_32 : decode cX8_shift 32 = .ok (.iaload, 1) := by decide +kernel
theorem dX8_shift_33 : decode cX8_shift 33 = .ok (.ifCond .ge 6, 3) := by decide +kernel
theorem dX8_shift_36 : decode cX8_shift 36 = .ok (.bipush (-11), 2) := by decide +kernel
theorem dX8_shift_38 : decode cX8_shift 38 = .ok (.ireturn, 1) := by decide +kernel
theorem dX8_shift_39 : decode cX8_shift 39 = .ok (.aload_n 0, 1) := by decide +kernel
theorem dX8_shift_40 : decode cX8_shift 40 = .ok (.getfield 177, 3) := by decide +kernel
theorem dX8_shift_43 : decode cX8_shift 43 = .ok (.iload_n 1, 1) := by decide +kernel
theorem dX8_shift_44 : decode cX8_shift 44 = .ok (.iaload, 1) := by decide +kernel
theorem dX8_shift_45 : decode cX8_shift 45 = .ok (.aload_n 0, 1) := by decide +kernel
theorem dX8_shift_46 : decode cX8_shift 46 = .ok (.getfield 177, 3) := by decide +kernel
theorem dX8_shift_49 : decode cX8_shift 49 = .ok (.iload_n 3, 1) := by decide +kernel
theorem dX8_shift_50 : decode cX8_shift 50 = .ok (.iaload, 1) := by decide +kernel
theorem dX8_shift_51 : decode cX8_shift 51 = .ok (.if_icmp .eq 6, 3) := by decide +kernel
theorem dX8_shift_54 : decode cX8_shift 54 = .ok (.bipush (-12), 2) := by decide +kernel
theorem dX8_shift_56 : decode cX8_shift 56 = .ok (.ireturn, 1) := by decide +kernel
theorem dX8_shift_57 : decode cX8_shift 57 = .ok (.iload 5, 2) := by decide +kernel
theorem dX8_shift_59 : decode cX8_shift 59 = .ok (.ifCond .lt 39, 3) := by decide +kernel
theorem dX8_shift_62 : decode cX8_shift 62 = .ok (.iload_n 2, 1) := by decide +kernel
theorem dX8_shift_63 : decode cX8_shift 63 = .ok (.ifCond .lt 35, 3) := by decide +kernel
theorem dX8_shift_66 : decode cX8_shift 66 = .ok (.iload 4, 2) := by decide +kernel
theorem dX8_shift_68 : decode cX8_shift 68 = .ok (.ifCond .lt 30, 3) := by decide +kernel
theorem dX8_shift_71 : decode cX8_shift 71 = .ok (.iload_n 2, 1) := by decide +kernel
theorem dX8_shift_72 : decode cX8_shift 72 = .ok (.aload_n 0, 1) := by decide +kernel
theorem dX8_shift_73 : decode cX8_shift 73 = .ok (.getfield 180, 3) := by decide +kernel
theorem dX8_shift_76 : decode cX8_shift 76 = .ok (.iload_n 1, 1) := by decide +kernel
theorem dX8_shift_77 : decode cX8_shift 77 = .ok (.iaload, 1) := by decide +kernel
theorem dX8_shift_78 : decode cX8_shift 78 = .ok (.iload 5, 2) := by decide +kernel
theorem dX8_shift_80 : decode cX8_shift 80 = .ok (.isub, 1) := by decide +kernel
theorem dX8_shift_81 : decode cX8_shift 81 = .ok (.if_icmp .gt 17, 3) := by decide +kernel
theorem dX8_shift_84 : decode cX8_shift 84 = .ok (.iload 4, 2) := by decide +kernel
theorem dX8_shift_86 : decode cX8_shift 86 = .ok (.aload_n 0, 1) := by decide +kernel
theorem dX8_shift_87 : decode cX8_shift 87 = .ok (.getfield 180, 3) := by decide +kernel
theorem dX8_shift_90 : decode cX8_shift 90 = .ok (.iload_n 3, 1) := by decide +kernel
theorem dX8_shift_91 : decode cX8_shift 91 = .ok (.iaload, 1) := by decide +kernel
theorem dX8_shift_92 : decode cX8_shift 92 = .ok (.iload 5, 2) := by decide +kernel
theorem dX8_shift_94 : decode cX8_shift 94 = .ok (.isub, 1) := by decide +kernel
theorem dX8_shift_95 : decode cX8_shift 95 = .ok (.if_icmp .le 6, 3) := by decide +kernel
theorem dX8_shift_98 : decode cX8_shift 98 = .ok (.bipush (-13), 2) := by decide +kernel
theorem dX8_shift_100 : decode cX8_shift 100 = .ok (.ireturn, 1) := by decide +kernel
theorem dX8_shift_101 : decode cX8_shift 101 = .ok (.iconst 0, 1) := by decide +kernel
theorem dX8_shift_102 : decode cX8_shift 102 = .ok (.istore 6, 2) := by decide +kernel
theorem dX8_shift_104 : decode cX8_shift 104 = .ok (.iload 6, 2) := by decide +kernel
theorem dX8_shift_106 : decode cX8_shift 106 = .ok (.iload 5, 2) := by decide +kernel
theorem dX8_shift_108 : decode cX8_shift 108 = .ok (.if_icmp .ge 30, 3) := by decide +kernel
theorem dX8_shift_111 : decode cX8_shift 111 = .ok (.aload_n 0, 1) := by decide +kernel
theorem dX8_shift_112 : decode cX8_shift 112 = .ok (.getfield 186, 3) := by decide +kernel
theorem dX8_shift_115 : decode cX8_shift 115 = .ok (.iload 6, 2) := by decide +kernel
theorem dX8_shift_117 : decode cX8_shift 117 = .ok (.aload_n 0, 1) := by decide +kernel
theorem dX8_shift_118 : decode cX8_shift 118 = .ok (.getfield 183, 3) := by decide +kernel
theorem dX8_shift_121 : decode cX8_shift 121 = .ok (.bipush 60, 2) := by decide +kernel
theorem dX8_shift_123 : decode cX8_shift 123 = .ok (.iload_n 1, 1) := by decide +kernel
theorem dX8_shift_124 : decode cX8_shift 124 = .ok (.imul, 1) := by decide +kernel
theorem dX8_shift_125 : decode cX8_shift 125 = .ok (.iload_n 2, 1) := by decide +kernel
theorem dX8_shift_126 : decode cX8_shift 126 = .ok (.iadd, 1) := by decide +kernel
theorem dX8_shift_127 : decode cX8_shift 127 = .ok (.iload 6, 2) := by decide +kernel
theorem dX8_shift_129 : decode cX8_shift 129 = .ok (.iadd, 1) := by decide +kernel
theorem dX8_shift_130 : decode cX8_shift 130 = .ok (.laload, 1) := by decide +kernel
theorem dX8_shift_131 : decode cX8_shift 131 = .ok (.lastore, 1) := by decide +kernel
theorem dX8_shift_132 : decode cX8_shift 132 = .ok (.iinc 6 1, 3) := by decide +kernel
theorem dX8_shift_135 : decode cX8_shift 135 = .ok (.goto (-31), 3) := by decide +kernel
theorem dX8_shift_138 : decode cX8_shift 138 = .ok (.iconst 0, 1) := by decide +kernel
theorem dX8_shift_139 : decode cX8_shift 139 = .ok (.istore 6, 2) := by decide +kernel
theorem dX8_shift_141 : decode cX8_shift 141 = .ok (.iload 6, 2) := by decide +kernel
theorem dX8_shift_143 : decode cX8_shift 143 = .ok (.iload 5, 2) := by decide +kernel
theorem dX8_shift_145 : decode cX8_shift 145 = .ok (.if_icmp .ge 31, 3) := by decide +kernel
theorem dX8_shift_148 : decode cX8_shift 148 = .ok (.aload_n 0, 1) := by decide +kernel
theorem dX8_shift_149 : decode cX8_shift 149 = .ok (.getfield 183, 3) := by decide +kernel
theorem dX8_shift_152 : decode cX8_shift 152 = .ok (.bipush 60, 2) := by decide +kernel
theorem dX8_shift_154 : decode cX8_shift 154 = .ok (.iload_n 3, 1) := by decide +kernel
theorem dX8_shift_155 : decode cX8_shift 155 = .ok (.imul, 1) := by decide +kernel
theorem dX8_shift_156 : decode cX8_shift 156 = .ok (.iload 4, 2) := by decide +kernel
theorem dX8_shift_158 : decode cX8_shift 158 = .ok (.iadd, 1) := by decide +kernel
theorem dX8_shift_159 : decode cX8_shift 159 = .ok (.iload 6, 2) := by decide +kernel
theorem dX8_shift_161 : decode cX8_shift 161 = .ok (.iadd, 1) := by decide +kernel
theorem dX8_shift_162 : decode cX8_shift 162 = .ok (.aload_n 0, 1) := by decide +kernel
theorem dX8_shift_163 : decode cX8_shift 163 = .ok (.getfield 186, 3) := by decide +kernel
theorem dX8_shift_166 : decode cX8_shift 166 = .ok (.iload 6, 2) := by decide +kernel
theorem dX8_shift_168 : decode cX8_shift 168 = .ok (.laload, 1) := by decide +kernel
theorem dX8_shift_169 : decode cX8_shift 169 = .ok (.lastore, 1) := by decide +kernel
theorem dX8_shift_170 : decode cX8_shift 170 = .ok (.iinc 6 1, 3) := by decide +kernel
theorem dX8_shift_173 : decode cX8_shift 173 = .ok (.goto (-32), 3) := by decide +kernel
theorem dX8_shift_176 : decode cX8_shift 176 = .ok (.iload 5, 2) := by decide +kernel
theorem dX8_shift_178 : decode cX8_shift 178 = .ok (.ireturn, 1) := by decide +kernel
theorem dJ6_bitCount_0f7a4_0 : decode cJ6_bitCount_0f7a4 0 = .ok (.iload_n 0, 1) := by decide +kernel
theorem dJ6_bitCount_0f7a4_1 : decode cJ6_bitCount_0f7a4 1 = .ok (.iload_n 0, 1) := by decide +kernel
theorem dJ6_bitCount_0f7a4_2 : decode cJ6_bitCount_0f7a4 2 = .ok (.iconst 1, 1) := by decide +kernel
theorem dJ6_bitCount_0f7a4_3 : decode cJ6_bitCount_0f7a4 3 = .ok (.iushr, 1) := by decide +kernel
theorem dJ6_bitCount_0f7a4_4 : decode cJ6_bitCount_0f7a4 4 = .ok (.ldc_w 265, 3) := by decide +kernel
theorem dJ6_bitCount_0f7a4_7 : decode cJ6_bitCount_0f7a4 7 = .ok (.iand, 1) := by decide +kernel
theorem dJ6_bitCount_0f7a4_8 : decode cJ6_bitCount_0f7a4 8 = .ok (.isub, 1) := by decide +kernel
theorem dJ6_bitCount_0f7a4_9 : decode cJ6_bitCount_0f7a4 9 = .ok (.istore_n 0, 1) := by decide +kernel
theorem dJ6_bitCount_0f7a4_10 : decode cJ6_bitCount_0f7a4 10 = .ok (.iload_n 0, 1) := by decide +kernel
theorem dJ6_bitCount_0f7a4_11 : decode cJ6_bitCount_0f7a4 11 = .ok (.ldc_w 266, 3) := by decide +kernel
theorem dJ6_bitCount_0f7a4_14 : decode cJ6_bitCount_0f7a4 14 = .ok (.iand, 1) := by decide +kernel
theorem dJ6_bitCount_0f7a4_15 : decode cJ6_bitCount_0f7a4 15 = .ok (.iload_n 0, 1) := by decide +kernel
theorem dJ6_bitCount_0f7a4_16 : decode cJ6_bitCount_0f7a4 16 = .ok (.iconst 2, 1) := by decide +kernel
theorem dJ6_bitCount_0f7a4_17 : decode cJ6_bitCount_0f7a4 17 = .ok (.iushr, 1) := by decide +kernel
theorem dJ6_bitCount_0f7a4_18 : decode cJ6_bitCount_0f7a4 18 = .ok (.ldc_w 266, 3) := by decide +kernel
theorem dJ6_bitCount_0f7a4_21 : decode cJ6_bitCount_0f7a4 21 = .ok (.iand, 1) := by decide +kernel
theorem dJ6_bitCount_0f7a4_22 : decode cJ6_bitCount_0f7a4 22 = .ok (.iadd, 1) := by decide +kernel
theorem dJ6_bitCount_0f7a4_23 : decode cJ6_bitCount_0f7a4 23 = .ok (.istore_n 0, 1) := by decide +kernel
theorem dJ6_bitCount_0f7a4_24 : decode cJ6_bitCount_0f7a4 24 = .ok (.iload_n 0, 1) := by decide +kernel
theorem dJ6_bitCount_0f7a4_25 : decode cJ6_bitCount_0f7a4 25 = .ok (.iload_n 0, 1) := by decide +kernel
theorem dJ6_bitCount_0f7a4_26 : decode cJ6_bitCount_0f7a4 26 = .ok (.iconst 4, 1) := by decide +kernel
theorem dJ6_bitCount_0f7a4_27 : decode cJ6_bitCount_0f7a4 27 = .ok (.iushr, 1) := by decide +kernel
theorem dJ6_bitCount_0f7a4_28 : decode cJ6_bitCount_0f7a4 28 = .ok (.iadd, 1) := by decide +kernel
theorem dJ6_bitCount_0f7a4_29 : decode cJ6_bitCount_0f7a4 29 = .ok (.ldc_w 267, 3) := by decide +kernel
theorem dJ6_bitCount_0f7a4_32 : decode cJ6_bitCount_0f7a4 32 = .ok (.iand, 1) := by decide +kernel
theorem dJ6_bitCount_0f7a4_33 : decode cJ6_bitCount_0f7a4 33 = .ok (.istore_n 0, 1) := by decide +kernel
theorem dJ6_bitCount_0f7a4_34 : decode cJ6_bitCount_0f7a4 34 = .ok (.iload_n 0, 1) := by decide +kernel
theorem dJ6_bitCount_0f7a4_35 : decode cJ6_bitCount_0f7a4 35 = .ok (.iload_n 0, 1) := by decide +kernel
theorem dJ6_bitCount_0f7a4_36 : decode cJ6_bitCount_0f7a4 36 = .ok (.bipush 8, 2) := by decide +kernel
theorem dJ6_bitCount_0f7a4_38 : decode cJ6_bitCount_0f7a4 38 = .ok (.iushr, 1) := by decide +kernel
theorem dJ6_bitCount_0f7a4_39 : decode cJ6_bitCount_0f7a4 39 = .ok (.iadd, 1) := by decide +kernel
theorem dJ6_bitCount_0f7a4_40 : decode cJ6_bitCount_0f7a4 40 = .ok (.istore_n 0, 1) := by decide +kernel
theorem dJ6_bitCount_0f7a4_41 : decode cJ6_bitCount_0f7a4 41 = .ok (.iload_n 0, 1) := by decide +kernel
theorem dJ6_bitCount_0f7a4_42 : decode cJ6_bitCount_0f7a4 42 = .ok (.iload_n 0, 1) := by decide +kernel
theorem dJ6_bitCount_0f7a4_43 : decode cJ6_bitCount_0f7a4 43 = .ok (.bipush 16, 2) := by decide +kernel
theorem dJ6_bitCount_0f7a4_45 : decode cJ6_bitCount_0f7a4 45 = .ok (.iushr, 1) := by decide +kernel
theorem dJ6_bitCount_0f7a4_46 : decode cJ6_bitCount_0f7a4 46 = .ok (.iadd, 1) := by decide +kernel
theorem dJ6_bitCount_0f7a4_47 : decode cJ6_bitCount_0f7a4 47 = .ok (.istore_n 0, 1) := by decide +kernel
theorem dJ6_bitCount_0f7a4_48 : decode cJ6_bitCount_0f7a4 48 = .ok (.iload_n 0, 1) := by decide +kernel
theorem dJ6_bitCount_0f7a4_49 : decode cJ6_bitCount_0f7a4 49 = .ok (.bipush 63, 2) := by decide +kernel
theorem dJ6_bitCount_0f7a4_51 : decode cJ6_bitCount_0f7a4 51 = .ok (.iand, 1) := by decide +kernel
theorem dJ6_bitCount_0f7a4_52 : decode cJ6_bitCount_0f7a4 52 = .ok (.ireturn, 1) := by decide +kernel
theorem dJ9_max_7cf53_0 : decode cJ9_max_7cf53 0 = .ok (.iload_n 0, 1) := by decide +kernel
theorem dJ9_max_7cf53_1 : decode cJ9_max_7cf53 1 = .ok (.iload_n 1, 1) := by decide +kernel
theorem dJ9_max_7cf53_2 : decode cJ9_max_7cf53 2 = .ok (.if_icmp .lt 7, 3) := by decide +kernel
theorem dJ9_max_7cf53_5 : decode cJ9_max_7cf53 5 = .ok (.iload_n 0, 1) := by decide +kernel
theorem dJ9_max_7cf53_6 : decode cJ9_max_7cf53 6 = .ok (.goto 4, 3) := by decide +kernel
theorem dJ9_max_7cf53_9 : decode cJ9_max_7cf53 9 = .ok (.iload_n 1, 1) := by decide +kernel
theorem dJ9_max_7cf53_10 : decode cJ9_max_7cf53 10 = .ok (.ireturn, 1) := by decide +kernel
theorem dJ9_min_7cf53_0 : decode cJ9_min_7cf53 0 = .ok (.iload_n 0, 1) := by decide +kernel
theorem dJ9_min_7cf53_1 : decode cJ9_min_7cf53 1 = .ok (.iload_n 1, 1) := by decide +kernel
theorem dJ9_min_7cf53_2 : decode cJ9_min_7cf53 2 = .ok (.if_icmp .gt 7, 3) := by decide +kernel
theorem dJ9_min_7cf53_5 : decode cJ9_min_7cf53 5 = .ok (.iload_n 0, 1) := by decide +kernel
theorem dJ9_min_7cf53_6 : decode cJ9_min_7cf53 6 = .ok (.goto 4, 3) := by decide +kernel
theorem dJ9_min_7cf53_9 : decode cJ9_min_7cf53 9 = .ok (.iload_n 1, 1) := by decide +kernel
theorem dJ9_min_7cf53_10 : decode cJ9_min_7cf53 10 = .ok (.ireturn, 1) := by decide +kernel
theorem dJ9_min_f86c9_0 : decode cJ9_min_f86c9 0 = .ok (.lload_n 0, 1) := by decide +kernel
theorem dJ9_min_f86c9_1 : decode cJ9_min_f86c9 1 = .ok (.lload_n 2, 1) := by decide +kernel
theorem dJ9_min_f86c9_2 : decode cJ9_min_f86c9 2 = .ok (.lcmp, 1) := by decide +kernel
theorem dJ9_min_f86c9_3 : decode cJ9_min_f86c9 3 = .ok (.ifCond .gt 7, 3) := by decide +kernel
theorem dJ9_min_f86c9_6 : decode cJ9_min_f86c9 6 = .ok (.lload_n 0, 1) := by decide +kernel
theorem dJ9_min_f86c9_7 : decode cJ9_min_f86c9 7 = .ok (.goto 4, 3) := by decide +kernel
theorem dJ9_min_f86c9_10 : decode cJ9_min_f86c9 10 = .ok (.lload_n 2, 1) := by decide +kernel
theorem dJ9_min_f86c9_11 : decode cJ9_min_f86c9 11 = .ok (.lreturn, 1) := by decide +kernel
theorem dJ0_length_8abf5_0 : decode cJ0_length_8abf5 0 = .ok (.aload_n 0, 1) := by decide +kernel
theorem dJ0_length_8abf5_1 : decode cJ0_length_8abf5 1 = .ok (.getfield 9, 3) := by decide +kernel
theorem dJ0_length_8abf5_4 : decode cJ0_length_8abf5 4 = .ok (.arraylength, 1) := by decide +kernel
theorem dJ0_length_8abf5_5 : decode cJ0_length_8abf5 5 = .ok (.aload_n 0, 1) := by decide +kernel
theorem dJ0_length_8abf5_6 : decode cJ0_length_8abf5 6 = .ok (.invokevirtual 335, 3) := by decide +kernel
theorem dJ0_length_8abf5_9 : decode cJ0_length_8abf5 9 = .ok (.ishr, 1) := by decide +kernel
theorem dJ0_length_8abf5_10 : decode cJ0_length_8abf5 10 = .ok (.ireturn, 1) := by decide +kernel
theorem dJ0_charAt_5068e_0 : decode cJ0_charAt_5068e 0 = .ok (.aload_n 0, 1) := by decide +kernel
theorem dJ0_charAt_5068e_1 : decode cJ0_charAt_5068e 1 = .ok (.invokevirtual 492, 3) := by decide +kernel
theorem dJ0_charAt_5068e_4 : decode cJ0_charAt_5068e 4 = .ok (.ifCond .eq 12, 3) := by decide +kernel
theorem dJ0_charAt_5068e_7 : decode cJ0_charAt_5068e 7 = .ok (.aload_n 0, 1) := by decide +kernel
theorem dJ0_charAt_5068e_8 : decode cJ0_charAt_5068e 8 = .ok (.getfield 9, 3) := by decide +kernel
theorem dJ0_charAt_5068e_11 : decode cJ0_charAt_5068e 11 = .ok (.iload_n 1, 1) := by decide +kernel
theorem dJ0_charAt_5068e_12 : decode cJ0_charAt_5068e 12 = .ok (.invokestatic 495, 3) := by decide +kernel
theorem dJ0_charAt_5068e_15 : decode cJ0_charAt_5068e 15 = .ok (.ireturn, 1) := by decide +kernel
theorem dJ0_charAt_5068e_16 : decode cJ0_charAt_5068e 16 = .ok (.aload_n 0, 1) := by decide +kernel
theorem dJ0_charAt_5068e_17 : decode cJ0_charAt_5068e 17 = .ok (.getfield 9, 3) := by decide +kernel
theorem dJ0_charAt_5068e_20 : decode cJ0_charAt_5068e 20 = .ok (.iload_n 1, 1) := by decide +kernel
theorem dJ0_charAt_5068e_21 : decode cJ0_charAt_5068e 21 = .ok (.invokestatic 498, 3) := by decide +kernel
theorem dJ0_charAt_5068e_24 : decode cJ0_charAt_5068e 24 = .ok (.ireturn, 1) := by decide +kernel
theorem dJ0_coder_7d493_0 : decode cJ0_coder_7d493 0 = .ok (.getstatic 38, 3) := by decide +kernel
theorem dJ0_coder_7d493_3 : decode cJ0_coder_7d493 3 = .ok (.ifCond .eq 10, 3) := by decide +kernel
theorem dJ0_coder_7d493_6 : decode cJ0_coder_7d493 6 = .ok (.aload_n 0, 1) := by decide +kernel
theorem dJ0_coder_7d493_7 : decode cJ0_coder_7d493 7 = .ok (.getfield 15, 3) := by decide +kernel
theorem dJ0_coder_7d493_10 : decode cJ0_coder_7d493 10 = .ok (.goto 4, 3) := by decide +kernel
theorem dJ0_coder_7d493_13 : decode cJ0_coder_7d493 13 = .ok (.iconst 1, 1) := by decide +kernel
theorem dJ0_coder_7d493_14 : decode cJ0_coder_7d493 14 = .ok (.ireturn, 1) := by decide +kernel
theorem dJ0_isLatin1_aae02_0 : decode cJ0_isLatin1_aae02 0 = .ok (.getstatic 38, 3) := by decide +kernel
theorem dJ0_isLatin1_aae02_3 : decode cJ0_isLatin1_aae02 3 = .ok (.ifCond .eq 14, 3) := by decide +kernel
theorem dJ0_isLatin1_aae02_6 : decode cJ0_isLatin1_aae02 6 = .ok (.aload_n 0, 1) := by decide +kernel
theorem dJ0_isLatin1_aae02_7 : decode cJ0_isLatin1_aae02 7 = .ok (.getfield 15, 3) := by decide +kernel
theorem dJ0_isLatin1_aae02_10 : decode cJ0_isLatin1_aae02 10 = .ok (.ifCond .ne 7, 3) := by decide +kernel
theorem dJ0_isLatin1_aae02_13 : decode cJ0_isLatin1_aae02 13 = .ok (.iconst 1, 1) := by decide +kernel
theorem dJ0_isLatin1_aae02_14 : decode cJ0_isLatin1_aae02 14 = .ok (.goto 4, 3) := by decide +kernel
theorem dJ0_isLatin1_aae02_17 : decode cJ0_isLatin1_aae02 17 = .ok (.iconst 0, 1) := by decide +kernel
theorem dJ0_isLatin1_aae02_18 : decode cJ0_isLatin1_aae02 18 = .ok (.ireturn, 1) := by decide +kernel
theorem dJ0_checkIndex_df160_0 : decode cJ0_checkIndex_df160 0 = .ok (.iload_n 0, 1) := by decide +kernel
theorem dJ0_checkIndex_df160_1 : decode cJ0_checkIndex_df160 1 = .ok (.iload_n 1, 1) := by decide +kernel
theorem dJ0_checkIndex_df160_2 : decode cJ0_checkIndex_df160 2 = .ok (.getstatic 1053, 3) := by decide +kernel
theorem dJ0_checkIndex_df160_5 : decode cJ0_checkIndex_df160 5 = .ok (.invokestatic 1059, 3) := by decide +kernel
theorem dJ0_checkIndex_df160_8 : decode cJ0_checkIndex_df160 8 = .ok (.pop, 1) := by decide +kernel
theorem dJ0_checkIndex_df160_9 : decode cJ0_checkIndex_df160 9 = .ok (.return_, 1) := by decide +kernel
theorem dJ1_charAt_3b067_0 : decode cJ1_charAt_3b067 0 = .ok (.iload_n 1, 1) := by decide +kernel
theorem dJ1_charAt_3b067_1 : decode cJ1_charAt_3b067 1 = .ok (.aload_n 0, 1) := by decide +kernel
theorem dJ1_charAt_3b067_2 : decode cJ1_charAt_3b067 2 = .ok (.arraylength, 1) := by decide +kernel
theorem dJ1_charAt_3b067_3 : decode cJ1_charAt_3b067 3 = .ok (.invokestatic 9, 3) := by decide +kernel
theorem dJ1_charAt_3b067_6 : decode cJ1_charAt_3b067 6 = .ok (.aload_n 0, 1) := by decide +kernel
theorem dJ1_charAt_3b067_7 : decode cJ1_charAt_3b067 7 = .ok (.iload_n 1, 1) := by decide +kernel
theorem dJ1_charAt_3b067_8 : decode cJ1_charAt_3b067 8 = .ok (.baload, 1) := by decide +kernel
theorem dJ1_charAt_3b067_9 : decode cJ1_charAt_3b067 9 = .ok (.sipush 255, 3) := by decide +kernel
theorem dJ1_charAt_3b067_12 : decode cJ1_charAt_3b067 12 = .ok (.iand, 1) := by decide +kernel
theorem dJ1_charAt_3b067_13 : decode cJ1_charAt_3b067 13 = .ok (.i2c, 1) := by decide +kernel
theorem dJ1_charAt_3b067_14 : decode cJ1_charAt_3b067 14 = .ok (.ireturn, 1) := by decide +kernel
theorem dJ2_getChar_3b067_0 : decode cJ2_getChar_3b067 0 = .ok (.getstatic 44, 3) := by decide +kernel
theorem dJ2_getChar_3b067_3 : decode cJ2_getChar_3b067 3 = .ok (.ifCond .ne 25, 3) := by decide +kernel
theorem dJ2_getChar_3b067_6 : decode cJ2_getChar_3b067 6 = .ok (.iload_n 1, 1) := by decide +kernel
theorem dJ2_getChar_3b067_7 : decode cJ2_getChar_3b067 7 = .ok (.ifCond .lt 11, 3) := by decide +kernel
theorem dJ2_getChar_3b067_10 : decode cJ2_getChar_3b067 10 = .ok (.iload_n 1, 1) := by decide +kernel
theorem dJ2_getChar_3b067_11 : decode cJ2_getChar_3b067 11 = .ok (.aload_n 0, 1) := by decide +kernel
theorem dJ2_getChar_3b067_12 : decode cJ2_getChar_3b067 12 = .ok (.invokestatic 48, 3) := by decide +kernel
theorem dJ2_getChar_3b067_15 : decode cJ2_getChar_3b067 15 = .ok (.if_icmp .lt 13, 3) := by decide +kernel
theorem dJ2_getChar_3b067_18 : decode cJ2_getChar_3b067 18 = .ok (.new 52, 3) := by decide +kernel
theorem dJ2_getChar_3b067_21 : decode cJ2_getChar_3b067 21 = .ok (.dup, 1) := by decide +kernel
theorem dJ2_getChar_3b067_22 : decode cJ2_getChar_3b067 22 = .ok (.ldc 54, 2) := by decide +kernel
theorem dJ2_getChar_3b067_24 : decode cJ2_getChar_3b067 24 = .ok (.invokespecial 56, 3) := by decide +kernel
theorem dJ2_getChar_3b067_27 : decode cJ2_getChar_3b067 27 = .ok (.athrow, 1) := by decide +kernel
theorem dJ2_getChar_3b067_28 : decode cJ2_getChar_3b067 28 = .ok (.iload_n 1, 1) := by decide +kernel
theorem dJ2_getChar_3b067_29 : decode cJ2_getChar_3b067 29 = .ok (.iconst 1, 1) := by decide +kernel
theorem dJ2_getChar_3b067_30 : decode cJ2_getChar_3b067 30 = .ok (.ishl, 1) := by decide +kernel
theorem dJ2_getChar_3b067_31 : decode cJ2_getChar_3b067 31 = .ok (.istore_n 1, 1) := by decide +kernel
theorem dJ2_getChar_3b067_32 : decode cJ2_getChar_3b067 32 = .ok (.aload_n 0, 1) := by decide +kernel
theorem dJ2_getChar_3b067_33 : decode cJ2_getChar_3b067 33 = .ok (.iload_n 1, 1) := by decide +kernel
theorem dJ2_getChar_3b067_34 : decode cJ2_getChar_3b067 34 = .ok (.iinc 1 1, 3) := by decide +kernel
theorem dJ2_getChar_3b067_37 : decode cJ2_getChar_3b067 37 = .ok (.baload, 1) := by decide +kernel
theorem dJ2_getChar_3b067_38 : decode cJ2_getChar_3b067 38 = .ok (.sipush 255, 3) := by decide +kernel
theorem dJ2_getChar_3b067_41 : decode cJ2_getChar_3b067 41 = .ok (.iand, 1) := by decide +kernel
theorem dJ2_getChar_3b067_42 : decode cJ2_getChar_3b067 42 = .ok (.getstatic 59, 3) := by decide +kernel
theorem dJ2_getChar_3b067_45 : decode cJ2_getChar_3b067 45 = .ok (.ishl, 1) := by decide +kernel
theorem dJ2_getChar_3b067_46 : decode cJ2_getChar_3b067 46 = .ok (.aload_n 0, 1) := by decide +kernel
theorem dJ2_getChar_3b067_47 : decode cJ2_getChar_3b067 47 = .ok (.iload_n 1, 1) := by decide +kernel
theorem dJ2_getChar_3b067_48 : decode cJ2_getChar_3b067 48 = .ok (.baload, 1) := by decide +kernel
theorem dJ2_getChar_3b067_49 : decode cJ2_getChar_3b067 49 = .ok (.sipush 255, 3) := by decide +kernel
theorem dJ2_getChar_3b067_52 : decode cJ2_getChar_3b067 52 = .ok (.iand, 1) := by decide +kernel
theorem dJ2_getChar_3b067_53 : decode cJ2_getChar_3b067 53 = .ok (.getstatic 63, 3) := by decide +kernel
theorem dJ2_getChar_3b067_56 : decode cJ2_getChar_3b067 56 = .ok (.ishl, 1) := by decide +kernel
theorem dJ2_getChar_3b067_57 : decode cJ2_getChar_3b067 57 = .ok (.ior, 1) := by decide +kernel
theorem dJ2_getChar_3b067_58 : decode cJ2_getChar_3b067 58 = .ok (.i2c, 1) := by decide +kernel
theorem dJ2_getChar_3b067_59 : decode cJ2_getChar_3b067 59 = .ok (.ireturn, 1) := by decide +kernel
theorem dJ2_length_9d52b_0 : decode cJ2_length_9d52b 0 = .ok (.aload_n 0, 1) := by decide +kernel
theorem dJ2_length_9d52b_1 : decode cJ2_length_9d52b 1 = .ok (.arraylength, 1) := by decide +kernel
theorem dJ2_length_9d52b_2 : decode cJ2_length_9d52b 2 = .ok (.iconst 1, 1) := by decide +kernel
theorem dJ2_length_9d52b_3 : decode cJ2_length_9d52b 3 = .ok (.ishr, 1) := by decide +kernel
theorem dJ2_length_9d52b_4 : decode cJ2_length_9d52b 4 = .ok (.ireturn, 1) := by decide +kernel
theorem dJ2_charAt_3b067_0 : decode cJ2_charAt_3b067 0 = .ok (.iload_n 1, 1) := by decide +kernel
theorem dJ2_charAt_3b067_1 : decode cJ2_charAt_3b067 1 = .ok (.aload_n 0, 1) := by decide +kernel
theorem dJ2_charAt_3b067_2 : decode cJ2_charAt_3b067 2 = .ok (.invokestatic 67, 3) := by decide +kernel
theorem dJ2_charAt_3b067_5 : decode cJ2_charAt_3b067 5 = .ok (.aload_n 0, 1) := by decide +kernel
theorem dJ2_charAt_3b067_6 : decode cJ2_charAt_3b067 6 = .ok (.iload_n 1, 1) := by decide +kernel
theorem dJ2_charAt_3b067_7 : decode cJ2_charAt_3b067 7 = .ok (.invokestatic 71, 3) := by decide +kernel
theorem dJ2_charAt_3b067_10 : decode cJ2_charAt_3b067 10 = .ok (.ireturn, 1) := by decide +kernel
theorem dJ2_checkIndex_2214a_0 : decode cJ2_checkIndex_2214a 0 = .ok (.iload_n 0, 1) := by decide +kernel
theorem dJ2_checkIndex_2214a_1 : decode cJ2_checkIndex_2214a 1 = .ok (.aload_n 1, 1) := by decide +kernel
theorem dJ2_checkIndex_2214a_2 : decode cJ2_checkIndex_2214a 2 = .ok (.invokestatic 48, 3) := by decide +kernel
theorem dJ2_checkIndex_2214a_5 : decode cJ2_checkIndex_2214a 5 = .ok (.invokestatic 414, 3) := by decide +kernel
theorem dJ2_checkIndex_2214a_8 : decode cJ2_checkIndex_2214a 8 = .ok (.return_, 1) := by decide +kernel
theorem dJ7_fill_d0a16_0 : decode cJ7_fill_d0a16 0 = .ok (.iconst 0, 1) := by decide +kernel
theorem dJ7_fill_d0a16_1 : decode cJ7_fill_d0a16 1 = .ok (.istore_n 3, 1) := by decide +kernel
theorem dJ7_fill_d0a16_2 : decode cJ7_fill_d0a16 2 = .ok (.aload_n 0, 1) := by decide +kernel
theorem dJ7_fill_d0a16_3 : decode cJ7_fill_d0a16 3 = .ok (.arraylength, 1) := by decide +kernel
theorem dJ7_fill_d0a16_4 : decode cJ7_fill_d0a16 4 = .ok (.istore 4, 2) := by decide +kernel
theorem dJ7_fill_d0a16_6 : decode cJ7_fill_d0a16 6 = .ok (.iload_n 3, 1) := by decide +kernel
theorem dJ7_fill_d0a16_7 : decode cJ7_fill_d0a16 7 = .ok (.iload 4, 2) := by decide +kernel
theorem dJ7_fill_d0a16_9 : decode cJ7_fill_d0a16 9 = .ok (.if_icmp .ge 13, 3) := by decide +kernel
theorem dJ7_fill_d0a16_12 : decode cJ7_fill_d0a16 12 = .ok (.aload_n 0, 1) := by decide +kernel
theorem dJ7_fill_d0a16_13 : decode cJ7_fill_d0a16 13 = .ok (.iload_n 3, 1) := by decide +kernel
theorem dJ7_fill_d0a16_14 : decode cJ7_fill_d0a16 14 = .ok (.lload_n 1, 1) := by decide +kernel
theorem dJ7_fill_d0a16_15 : decode cJ7_fill_d0a16 15 = .ok (.lastore, 1) := by decide +kernel
theorem dJ7_fill_d0a16_16 : decode cJ7_fill_d0a16 16 = .ok (.iinc 3 1, 3) := by decide +kernel
theorem dJ7_fill_d0a16_19 : decode cJ7_fill_d0a16 19 = .ok (.goto (-13), 3) := by decide +kernel
theorem dJ7_fill_d0a16_22 : decode cJ7_fill_d0a16 22 = .ok (.return_, 1) := by decide +kernel
theorem dJ7_fill_53178_0 : decode cJ7_fill_53178 0 = .ok (.iconst 0, 1) := by decide +kernel
theorem dJ7_fill_53178_1 : decode cJ7_fill_53178 1 = .ok (.istore_n 2, 1) := by decide +kernel
theorem dJ7_fill_53178_2 : decode cJ7_fill_53178 2 = .ok (.aload_n 0, 1) := by decide +kernel
theorem dJ7_fill_53178_3 : decode cJ7_fill_53178 3 = .ok (.arraylength, 1) := by decide +kernel
theorem dJ7_fill_53178_4 : decode cJ7_fill_53178 4 = .ok (.istore_n 3, 1) := by decide +kernel
theorem dJ7_fill_53178_5 : decode cJ7_fill_53178 5 = .ok (.iload_n 2, 1) := by decide +kernel
theorem dJ7_fill_53178_6 : decode cJ7_fill_53178 6 = .ok (.iload_n 3, 1) := by decide +kernel
theorem dJ7_fill_53178_7 : decode cJ7_fill_53178 7 = .ok (.if_icmp .ge 13, 3) := by decide +kernel
theorem dJ7_fill_53178_10 : decode cJ7_fill_53178 10 = .ok (.aload_n 0, 1) := by decide +kernel
theorem dJ7_fill_53178_11 : decode cJ7_fill_53178 11 = .ok (.iload_n 2, 1) := by decide +kernel
theorem dJ7_fill_53178_12 : decode cJ7_fill_53178 12 = .ok (.iload_n 1, 1) := by decide +kernel
theorem dJ7_fill_53178_13 : decode cJ7_fill_53178 13 = .ok (.iastore, 1) := by decide +kernel
theorem dJ7_fill_53178_14 : decode cJ7_fill_53178 14 = .ok (.iinc 2 1, 3) := by decide +kernel
theorem dJ7_fill_53178_17 : decode cJ7_fill_53178 17 = .ok (.goto (-12), 3) := by decide +kernel
theorem dJ7_fill_53178_20 : decode cJ7_fill_53178 20 = .ok (.return_, 1) := by decide +kernel
theorem dJ3_checkIndex_8e157_0 : decode cJ3_checkIndex_8e157 0 = .ok (.iload_n 0, 1) := by decide +kernel
theorem dJ3_checkIndex_8e157_1 : decode cJ3_checkIndex_8e157 1 = .ok (.ifCond .lt 8, 3) := by decide +kernel
theorem dJ3_checkIndex_8e157_4 : decode cJ3_checkIndex_8e157 4 = .ok (.iload_n 0, 1) := by decide +kernel
theorem dJ3_checkIndex_8e157_5 : decode cJ3_checkIndex_8e157 5 = .ok (.iload_n 1, 1) := by decide +kernel
theorem dJ3_checkIndex_8e157_6 : decode cJ3_checkIndex_8e157 6 = .ok (.if_icmp .lt 10, 3) := by decide +kernel
theorem dJ3_checkIndex_8e157_9 : decode cJ3_checkIndex_8e157 9 = .ok (.aload_n 2, 1) := by decide +kernel
theorem dJ3_checkIndex_8e157_10 : decode cJ3_checkIndex_8e157 10 = .ok (.iload_n 0, 1) := by decide +kernel
theorem dJ3_checkIndex_8e157_11 : decode cJ3_checkIndex_8e157 11 = .ok (.iload_n 1, 1) := by decide +kernel
theorem dJ3_checkIndex_8e157_12 : decode cJ3_checkIndex_8e157 12 = .ok (.invokestatic 95, 3) := by decide +kernel
theorem dJ3_checkIndex_8e157_15 : decode cJ3_checkIndex_8e157 15 = .ok (.athrow, 1) := by decide +kernel
theorem dJ3_checkIndex_8e157_16 : decode cJ3_checkIndex_8e157 16 = .ok (.iload_n 0, 1) := by decide +kernel
theorem dJ3_checkIndex_8e157_17 : decode cJ3_checkIndex_8e157 17 = .ok (.ireturn, 1) := by decide +kernel
theorem dL_law_0 : decode cL_law 0 = .ok (.new 7, 3) := by decide +kernel
theorem dL_law_3 : decode cL_law 3 = .ok (.dup, 1) := by decide +kernel
theorem dL_law_4 : decode cL_law 4 = .ok (.invokespecial 9, 3) := by decide +kernel
theorem dL_law_7 : decode cL_law 7 = .ok (.astore_n 1, 1) := by decide +kernel
theorem dL_law_8 : decode cL_law 8 = .ok (.new 10, 3) := by decide +kernel
theorem dL_law_11 : decode cL_law 11 = .ok (.dup, 1) := by decide +kernel
theorem dL_law_12 : decode cL_law 12 = .ok (.invokespecial 12, 3) := by decide +kernel
theorem dL_law_15 : decode cL_law 15 = .ok (.astore_n 2, 1) := by decide +kernel
theorem dL_law_16 : decode cL_law 16 = .ok (.iconst 0, 1) := by decide +kernel
theorem dL_law_17 : decode cL_law 17 = .ok (.istore_n 3, 1) := by decide +kernel
theorem dL_law_18 : decode cL_law 18 = .ok (.iload_n 3, 1) := by decide +kernel
theorem dL_law_19 : decode cL_law 19 = .ok (.aload_n 0, 1) := by decide +kernel
theorem dL_law_20 : decode cL_law 20 = .ok (.arraylength, 1) := by decide +kernel
theorem dL_law_21 : decode cL_law 21 = .ok (.bipush 6, 2) := by decide +kernel
theorem dL_law_23 : decode cL_law 23 = .ok (.isub, 1) := by decide +kernel
theorem dL_law_24 : decode cL_law 24 = .ok (.if_icmp .gt 1280, 3) := by decide +kernel
theorem dL_law_27 : decode cL_law 27 = .ok (.aload_n 0, 1) := by decide +kernel
theorem dL_law_28 : decode cL_law 28 = .ok (.iload_n 3, 1) := by decide +kernel
theorem dL_law_29 : decode cL_law 29 = .ok (.iaload, 1) := by decide +kernel
theorem dL_law_30 : decode cL_law 30 = .ok (.bipush 63, 2) := by decide +kernel
theorem dL_law_32 : decode cL_law 32 = .ok (.iand, 1) := by decide +kernel
theorem dL_law_33 : decode cL_law 33 = .ok (.tableswitch 1265 0 33 #[151, 174, 217, 250, 283, 296, 329, 362, 385, 418, 451, 514, 547, 570, 593, 647, 670, 693, 726, 769, 792, 815, 838, 861, 904, 917, 930, 973, 996, 1029, 1052, 1095, 1168, 1202], 151) := by decide +kernel
theorem dL_law_184 : decode cL_law 184 = .ok (.aload_n 1, 1) := by decide +kernel
theorem dL_law_185 : decode cL_law 185 = .ok (.aload_n 0, 1) := by decide +kernel
theorem dL_law_186 : decode cL_law 186 = .ok (.iload_n 3, 1) := by decide +kernel
theorem dL_law_187 : decode cL_law 187 = .ok (.iconst 1, 1) := by decide +kernel
theorem dL_law_188 : decode cL_law 188 = .ok (.iadd, 1) := by decide +kernel
theorem dL_law_189 : decode cL_law 189 = .ok (.iaload, 1) := by decide +kernel
theorem dL_law_190 : decode cL_law 190 = .ok (.invokevirtual 13, 3) := by decide +kernel
theorem dL_law_193 : decode cL_law 193 = .ok (.aload_n 2, 1) := by decide +kernel
theorem dL_law_194 : decode cL_law 194 = .ok (.aload_n 0, 1) := by decide +kernel
theorem dL_law_195 : decode cL_law 195 = .ok (.iload_n 3, 1) := by decide +kernel
theorem dL_law_196 : decode cL_law 196 = .ok (.iconst 1, 1) := by decide +kernel
theorem dL_law_197 : decode cL_law 197 = .ok (.iadd, 1) := by decide +kernel
theorem dL_law_198 : decode cL_law 198 = .ok (.iaload, 1) := by decide +kernel
theorem dL_law_199 : decode cL_law 199 = .ok (.invokevirtual 17, 3) := by decide +kernel
theorem dL_law_202 : decode cL_law 202 = .ok (.if_icmp .eq 1096, 3) := by decide +kernel
theorem dL_law_205 : decode cL_law 205 = .ok (.iconst 0, 1) := by decide +kernel
theorem dL_law_206 : decode cL_law 206 = .ok (.ireturn, 1) := by decide +kernel
theorem dL_law_207 : decode cL_law 207 = .ok (.aload_n 1, 1) := by decide +kernel
theorem dL_law_208 : decode cL_law 208 = .ok (.aload_n 0, 1) := by decide +kernel
theorem dL_law_209 : decode cL_law 209 = .ok (.iload_n 3, 1) := by decide +kernel
theorem dL_law_210 : decode cL_law 210 = .ok (.iconst 1, 1) := by decide +kernel
theorem dL_law_211 : decode cL_law 211 = .ok (.iadd, 1) := by decide +kernel
theorem dL_law_212 : decode cL_law 212 = .ok (.iaload, 1) := by decide +kernel
theorem dL_law_213 : decode cL_law 213 = .ok (.aload_n 0, 1) := by decide +kernel
theorem dL_law_214 : decode cL_law 214 = .ok (.iload_n 3, 1) := by decide +kernel
theorem dL_law_215 : decode cL_law 215 = .ok (.iconst 2, 1) := by decide +kernel
theorem dL_law_216 : decode cL_law 216 = .ok (.iadd, 1) := by decide +kernel
theorem dL_law_217 : decode cL_law 217 = .ok (.iaload, 1) := by decide +kernel
theorem dL_law_218 : decode cL_law 218 = .ok (.aload_n 0, 1) := by decide +kernel
theorem dL_law_219 : decode cL_law 219 = .ok (.iload_n 3, 1) := by decide +kernel
theorem dL_law_220 : decode cL_law 220 = .ok (.iconst 3, 1) := by decide +kernel
theorem dL_law_221 : decode cL_law 221 = .ok (.iadd, 1) := by decide +kernel
theorem dL_law_222 : decode cL_law 222 = .ok (.iaload, 1) := by decide +kernel
theorem dL_law_223 : decode cL_law 223 = .ok (.invokevirtual 18, 3) := by decide +kernel
theorem dL_law_226 : decode cL_law 226 = .ok (.aload_n 2, 1) := by decide +kernel
theorem dL_law_227 : decode cL_law 227 = .ok (.aload_n 0, 1) := by decide +kernel
theorem dL_law_228 : decode cL_law 228 = .ok (.iload_n 3, 1) := by decide +kernel
theorem dL_law_229 : decode cL_law 229 = .ok (.iconst 1, 1) := by decide +kernel
theorem dL_law_230 : decode cL_law 230 = .ok (.iadd, 1) := by decide +kernel
theorem dL_law_231 : decode cL_law 231 = .ok (.iaload, 1) := by decide +kernel
theorem dL_law_232 : decode cL_law 232 = .ok (.aload_n 0, 1) := by decide +kernel
theorem dL_law_233 : decode cL_law 233 = .ok (.iload_n 3, 1) := by decide +kernel
theorem dL_law_234 : decode cL_law 234 = .ok (.iconst 2, 1) := by decide +kernel
theorem dL_law_235 : decode cL_law 235 = .ok (.iadd, 1) := by decide +kernel
theorem dL_law_236 : decode cL_law 236 = .ok (.iaload, 1) := by decide +kernel
theorem dL_law_237 : decode cL_law 237 = .ok (.aload_n 0, 1) := by decide +kernel
theorem dL_law_238 : decode cL_law 238 = .ok (.iload_n 3, 1) := by decide +kernel
theorem dL_law_239 : decode cL_law 239 = .ok (.iconst 3, 1) := by decide +kernel
theorem dL_law_240 : decode cL_law 240 = .ok (.iadd, 1) := by decide +kernel
theorem dL_law_241 : decode cL_law 241 = .ok (.iaload, 1) := by decide +kernel
theorem dL_law_242 : decode cL_law 242 = .ok (.invokevirtual 22, 3) := by decide +kernel
theorem dL_law_245 : decode cL_law 245 = .ok (.if_icmp .eq 1053, 3) := by decide +kernel
theorem dL_law_248 : decode cL_law 248 = .ok (.iconst 0, 1) := by decide +kernel
theorem dL_law_249 : decode cL_law 249 = .ok (.ireturn, 1) := by decide +kernel
theorem dL_law_250 : decode cL_law 250 = .ok (.aload_n 1, 1) := by decide +kernel
theorem dL_law_251 : decode cL_law 251 = .ok (.aload_n 0, 1) := by decide +kernel
theorem dL_law_252 : decode cL_law 252 = .ok (.iload_n 3, 1) := by decide +kernel
theorem dL_law_253 : decode cL_law 253 = .ok (.iconst 1, 1) := by decide +kernel
theorem dL_law_254 : decode cL_law 254 = .ok (.iadd, 1) := by decide +kernel
theorem dL_law_255 : decode cL_law 255 = .ok (.iaload, 1) := by decide +kernel
theorem dL_law_256 : decode cL_law 256 = .ok (.aload_n 0, 1) := by decide +kernel
theorem dL_law_257 : decode cL_law 257 = .ok (.iload_n 3, 1) := by decide +kernel
theorem dL_law_258 : decode cL_law 258 = .ok (.iconst 2, 1) := by decide +kernel
theorem dL_law_259 : decode cL_law 259 = .ok (.iadd, 1) := by decide +kernel
theorem dL_law_260 : decode cL_law 260 = .ok (.iaload, 1) := by decide +kernel
theorem dL_law_261 : decode cL_law 261 = .ok (.invokevirtual 23, 3) := by decide +kernel
theorem dL_law_264 : decode cL_law 264 = .ok (.aload_n 2, 1) := by decide +kernel
theorem dL_law_265 : decode cL_law 265 = .ok (.aload_n 0, 1) := by decide +kernel
theorem dL_law_266 : decode cL_law 266 = .ok (.iload_n 3, 1) := by decide +kernel
theorem dL_law_267 : decode cL_law 267 = .ok (.iconst 1, 1) := by decide +kernel
theorem dL_law_268 : decode cL_law 268 = .ok (.iadd, 1) := by decide +kernel
theorem dL_law_269 : decode cL_law 269 = .ok (.iaload, 1) := by decide +kernel
theorem dL_law_270 : decode cL_law 270 = .ok (.aload_n 0, 1) := by decide +kernel
theorem dL_law_271 : decode cL_law 271 = .ok (.iload_n 3, 1) := by decide +kernel
theorem dL_law_272 : decode cL_law 272 = .ok (.iconst 2, 1) := by decide +kernel
theorem dL_law_273 : decode cL_law 273 = .ok (.iadd, 1) := by decide +kernel
theorem dL_law_274 : decode cL_law 274 = .ok (.iaload, 1) := by decide +kernel
theorem dL_law_275 : decode cL_law 275 = .ok (.invokevirtual 27, 3) := by decide +kernel
theorem dL_law_278 : decode cL_law 278 = .ok (.if_icmp .eq 1020, 3) := by decide +kernel
theorem dL_law_281 : decode cL_law 281 = .ok (.iconst 0, 1) := by decide +kernel
theorem dL_law_282 : decode cL_law 282 = .ok (.ireturn, 1) := by decide +kernel
theorem dL_law_283 : decode cL_law 283 = .ok (.aload_n 1, 1) := by decide +kernel
theorem dL_law_284 : decode cL_law 284 = .ok (.aload_n 0, 1) := by decide +kernel
theorem dL_law_285 : decode cL_law 285 = .ok (.iload_n 3, 1) := by decide +kernel
theorem dL_law_286 : decode cL_law 286 = .ok (.iconst 1, 1) := by decide +kernel
theorem dL_law_287 : decode cL_law 287 = .ok (.iadd, 1) := by decide +kernel
theorem dL_law_288 : decode cL_law 288 = .ok (.iaload, 1) := by decide +kernel
theorem dL_law_289 : decode cL_law 289 = .ok (.aload_n 0, 1) := by decide +kernel
theorem dL_law_290 : decode cL_law 290 = .ok (.iload_n 3, 1) := by decide +kernel
theorem dL_law_291 : decode cL_law 291 = .ok (.iconst 2, 1) := by decide +kernel
theorem dL_law_292 : decode cL_law 292 = .ok (.iadd, 1) := by decide +kernel
theorem dL_law_293 : decode cL_law 293 = .ok (.iaload, 1) := by decide +kernel
theorem dL_law_294 : decode cL_law 294 = .ok (.invokevirtual 28, 3) := by decide +kernel
theorem dL_law_297 : decode cL_law 297 = .ok (.aload_n 2, 1) := by decide +kernel
theorem dL_law_298 : decode cL_law 298 = .ok (.aload_n 0, 1) := by decide +kernel
theorem dL_law_299 : decode cL_law 299 = .ok (.iload_n 3, 1) := by decide +kernel
theorem dL_law_300 : decode cL_law 300 = .ok (.iconst 1, 1) := by decide +kernel
theorem dL_law_301 : decode cL_law 301 = .ok (.iadd, 1) := by decide +kernel
theorem dL_law_302 : decode cL_law 302 = .ok (.iaload, 1) := by decide +kernel
theorem dL_law_303 : decode cL_law 303 = .ok (.aload_n 0, 1) := by decide +kernel
theorem dL_law_304 : decode cL_law 304 = .ok (.iload_n 3, 1) := by decide +kernel
theorem dL_law_305 : decode cL_law 305 = .ok (.iconst 2, 1) := by decide +kernel
theorem dL_law_306 : decode cL_law 306 = .ok (.iadd, 1) := by decide +kernel
theorem dL_law_307 : decode cL_law 307 = .ok (.iaload, 1) := by decide +kernel
theorem dL_law_308 : decode cL_law 308 = .ok (.invokevirtual 31, 3) := by decide +kernel
theorem dL_law_311 : decode cL_law 311 = .ok (.if_icmp .eq 987, 3) := by decide +kernel
theorem dL_law_314 : decode cL_law 314 = .ok (.iconst 0, 1) := by decide +kernel
theorem dL_law_315 : decode cL_law 315 = .ok (.ireturn, 1) := by decide +kernel
theorem dL_law_316 : decode cL_law 316 = .ok (.aload_n 1, 1) := by decide +kernel
theorem dL_law_317 : decode cL_law 317 = .ok (.invokevirtual 32, 3) := by decide +kernel
theorem dL_law_320 : decode cL_law 320 = .ok (.aload_n 2, 1) := by decide +kernel
theorem dL_law_321 : decode cL_law 321 = .ok (.invokevirtual 36, 3) := by decide +kernel
theorem dL_law_324 : decode cL_law 324 = .ok (.if_icmp .eq 974, 3) := by decide +kernel
theorem dL_law_327 : decode cL_law 327 = .ok (.iconst 0, 1) := by decide +kernel
theorem dL_law_328 : decode cL_law 328 = .ok (.ireturn, 1) := by decide +kernel
theorem dL_law_329 : decode cL_law 329 = .ok (.aload_n 1, 1) := by decide +kernel
theorem dL_law_330 : decode cL_law 330 = .ok (.aload_n 0, 1) := by decide +kernel
theorem dL_law_331 : decode cL_law 331 = .ok (.iload_n 3, 1) := by decide +kernel
theorem dL_law_332 : decode cL_law 332 = .ok (.iconst 1, 1) := by decide +kernel
theorem dL_law_333 : decode cL_law 333 = .ok (.iadd, 1) := by decide +kernel
theorem dL_law_334 : decode cL_law 334 = .ok (.iaload, 1) := by decide +kernel
theorem dL_law_335 : decode cL_law 335 = .ok (.aload_n 0, 1) := by decide +kernel
theorem dL_law_336 : decode cL_law 336 = .ok (.iload_n 3, 1) := by decide +kernel
theorem dL_law_337 : decode cL_law 337 = .ok (.iconst 2, 1) := by decide +kernel
theorem dL_law_338 : decode cL_law 338 = .ok (.iadd, 1) := by decide +kernel
theorem dL_law_339 : decode cL_law 339 = .ok (.iaload, 1) := by decide +kernel
theorem dL_law_340 : decode cL_law 340 = .ok (.invokevirtual 37, 3) := by decide +kernel
theorem dL_law_343 : decode cL_law 343 = .ok (.aload_n 2, 1) := by decide +kernel
theorem dL_law_344 : decode cL_law 344 = .ok (.aload_n 0, 1) := by decide +kernel
theorem dL_law_345 : decode cL_law 345 = .ok (.iload_n 3, 1) := by decide +kernel
theorem dL_law_346 : decode cL_law 346 = .ok (.iconst 1, 1) := by decide +kernel
theorem dL_law_347 : decode cL_law 347 = .ok (.iadd, 1) := by decide +kernel
theorem dL_law_348 : decode cL_law 348 = .ok (.iaload, 1) := by decide +kernel
theorem dL_law_349 : decode cL_law 349 = .ok (.aload_n 0, 1) := by decide +kernel
theorem dL_law_350 : decode cL_law 350 = .ok (.iload_n 3, 1) := by decide +kernel
theorem dL_law_351 : decode cL_law 351 = .ok (.iconst 2, 1) := by decide +kernel
theorem dL_law_352 : decode cL_law 352 = .ok (.iadd, 1) := by decide +kernel
theorem dL_law_353 : decode cL_law 353 = .ok (.iaload, 1) := by decide +kernel
theorem dL_law_354 : decode cL_law 354 = .ok (.invokevirtual 40, 3) := by decide +kernel
theorem dL_law_357 : decode cL_law 357 = .ok (.if_icmp .eq 941, 3) := by decide +kernel
theorem dL_law_360 : decode cL_law 360 = .ok (.iconst 0, 1) := by decide +kernel
theorem dL_law_361 : decode cL_law 361 = .ok (.ireturn, 1) := by decide +kernel
theorem dL_law_362 : decode cL_law 362 = .ok (.aload_n 1, 1) := by decide +kernel
theorem dL_law_363 : decode cL_law 363 = .ok (.aload_n 0, 1) := by decide +kernel
theorem dL_law_364 : decode cL_law 364 = .ok (.iload_n 3, 1) := by decide +kernel
theorem dL_law_365 : decode cL_law 365 = .ok (.iconst 1, 1) := by decide +kernel
theorem dL_law_366 : decode cL_law 366 = .ok (.iadd, 1) := by decide +kernel
theorem dL_law_367 : decode cL_law 367 = .ok (.iaload, 1) := by decide +kernel
theorem dL_law_368 : decode cL_law 368 = .ok (.aload_n 0, 1) := by decide +kernel
theorem dL_law_369 : decode cL_law 369 = .ok (.iload_n 3, 1) := by decide +kernel
theorem dL_law_370 : decode cL_law 370 = .ok (.iconst 2, 1) := by decide +kernel
theorem dL_law_371 : decode cL_law 371 = .ok (.iadd, 1) := by decide +kernel
theorem dL_law_372 : decode cL_law 372 = .ok (.iaload, 1) := by decide +kernel
theorem dL_law_373 : decode cL_law 373 = .ok (.invokevirtual 41, 3) := by decide +kernel
theorem dL_law_376 : decode cL_law 376 = .ok (.aload_n 2, 1) := by decide +kernel
theorem dL_law_377 : decode cL_law 377 = .ok (.aload_n 0, 1) := by decide +kernel
theorem dL_law_378 : decode cL_law 378 = .ok (.iload_n 3, 1) := by decide +kernel
theorem dL_law_379 : decode cL_law 379 = .ok (.iconst 1, 1) := by decide +kernel
theorem dL_law_380 : decode cL_law 380 = .ok (.iadd, 1) := by decide +kernel
theorem dL_law_381 : decode cL_law 381 = .ok (.iaload, 1) := by decide +kernel
theorem dL_law_382 : decode cL_law 382 = .ok (.aload_n 0, 1) := by decide +kernel
theorem dL_law_383 : decode cL_law 383 = .ok (.iload_n 3, 1) := by decide +kernel
theorem dL_law_384 : decode cL_law 384 = .ok (.iconst 2, 1) := by decide +kernel
theorem dL_law_385 : decode cL_law 385 = .ok (.iadd, 1) := by decide +kernel
theorem dL_law_386 : decode cL_law 386 = .ok (.iaload, 1) := by decide +kernel
theorem dL_law_387 : decode cL_law 387 = .ok (.invokevirtual 44, 3) := by decide +kernel
theorem dL_law_390 : decode cL_law 390 = .ok (.if_icmp .eq 908, 3) := by decide +kernel
theorem dL_law_393 : decode cL_law 393 = .ok (.iconst 0, 1) := by decide +kernel
theorem dL_law_394 : decode cL_law 394 = .ok (.ireturn, 1) := by decide +kernel
theorem dL_law_395 : decode cL_law 395 = .ok (.aload_n 1, 1) := by decide +kernel
theorem dL_law_396 : decode cL_law 396 = .ok (.aload_n 0, 1) := by decide +kernel
theorem dL_law_397 : decode cL_law 397 = .ok (.iload_n 3, 1) := by decide +kernel
theorem dL_law_398 : decode cL_law 398 = .ok (.iconst 1, 1) := by decide +kernel
theorem dL_law_399 : decode cL_law 399 = .ok (.iadd, 1) := by decide +kernel
theorem dL_law_400 : decode cL_law 400 = .ok (.iaload, 1) := by decide +kernel
theorem dL_law_401 : decode cL_law 401 = .ok (.invokevirtual 45, 3) := by decide +kernel
theorem dL_law_404 : decode cL_law 404 = .ok (.aload_n 2, 1) := by decide +kernel
theorem dL_law_405 : decode cL_law 405 = .ok (.aload_n 0, 1) := by decide +kernel
theorem dL_law_406 : decode cL_law 406 = .ok (.iload_n 3, 1) := by decide +kernel
theorem dL_law_407 : decode cL_law 407 = .ok (.iconst 1, 1) := by decide +kernel
theorem dL_law_408 : decode cL_law 408 = .ok (.iadd, 1) := by decide +kernel
theorem dL_law_409 : decode cL_law 409 = .ok (.iaload, 1) := by decide +kernel
theorem dL_law_410 : decode cL_law 410 = .ok (.invokevirtual 48, 3) := by decide +kernel
theorem dL_law_413 : decode cL_law 413 = .ok (.if_icmp .eq 885, 3) := by decide +kernel
theorem dL_law_416 : decode cL_law 416 = .ok (.iconst 0, 1) := by decide +kernel
theorem dL_law_417 : decode cL_law 417 = .ok (.ireturn, 1) := by decide +kernel
theorem dL_law_418 : decode cL_law 418 = .ok (.aload_n 1, 1) := by decide +kernel
theorem dL_law_419 : decode cL_law 419 = .ok (.aload_n 0, 1) := by decide +kernel
theorem dL_law_420 : decode cL_law 420 = .ok (.iload_n 3, 1) := by decide +kernel
theorem dL_law_421 : decode cL_law 421 = .ok (.iconst 1, 1) := by decide +kernel
theorem dL_law_422 : decode cL_law 422 = .ok (.iadd, 1) := by decide +kernel
theorem dL_law_423 : decode cL_law 423 = .ok (.iaload, 1) := by decide +kernel
theorem dL_law_424 : decode cL_law 424 = .ok (.aload_n 0, 1) := by decide +kernel
theorem dL_law_425 : decode cL_law 425 = .ok (.iload_n 3, 1) := by decide +kernel
theorem dL_law_426 : decode cL_law 426 = .ok (.iconst 2, 1) := by decide +kernel
theorem dL_law_427 : decode cL_law 427 = .ok (.iadd, 1) := by decide +kernel
theorem dL_law_428 : decode cL_law 428 = .ok (.iaload, 1) := by decide +kernel
theorem dL_law_429 : decode cL_law 429 = .ok (.invokevirtual 49, 3) := by decide +kernel
theorem dL_law_432 : decode cL_law 432 = .ok (.aload_n 2, 1) := by decide +kernel
theorem dL_law_433 : decode cL_law 433 = .ok (.aload_n 0, 1) := by decide +kernel
theorem dL_law_434 : decode cL_law 434 = .ok (.iload_n 3, 1) := by decide +kernel
theorem dL_law_435 : decode cL_law 435 = .ok (.iconst 1, 1) := by decide +kernel
theorem dL_law_436 : decode cL_law 436 = .ok (.iadd, 1) := by decide +kernel
theorem dL_law_437 : decode cL_law 437 = .ok (.iaload, 1) := by decide +kernel
theorem dL_law_438 : decode cL_law 438 = .ok (.aload_n 0, 1) := by decide +kernel
theorem dL_law_439 : decode cL_law 439 = .ok (.iload_n 3, 1) := by decide +kernel
theorem dL_law_440 : decode cL_law 440 = .ok (.iconst 2, 1) := by decide +kernel
theorem dL_law_441 : decode cL_law 441 = .ok (.iadd, 1) := by decide +kernel
theorem dL_law_442 : decode cL_law 442 = .ok (.iaload, 1) := by decide +kernel
theorem dL_law_443 : decode cL_law 443 = .ok (.invokevirtual 52, 3) := by decide +kernel
theorem dL_law_446 : decode cL_law 446 = .ok (.if_icmp .eq 852, 3) := by decide +kernel
theorem dL_law_449 : decode cL_law 449 = .ok (.iconst 0, 1) := by decide +kernel
theorem dL_law_450 : decode cL_law 450 = .ok (.ireturn, 1) := by decide +kernel
theorem dL_law_451 : decode cL_law 451 = .ok (.aload_n 1, 1) := by decide +kernel
theorem dL_law_452 : decode cL_law 452 = .ok (.aload_n 0, 1) := by decide +kernel
theorem dL_law_453 : decode cL_law 453 = .ok (.iload_n 3, 1) := by decide +kernel
theorem dL_law_454 : decode cL_law 454 = .ok (.iconst 1, 1) := by decide +kernel
theorem dL_law_455 : decode cL_law 455 = .ok (.iadd, 1) := by decide +kernel
theorem dL_law_456 : decode cL_law 456 = .ok (.iaload, 1) := by decide +kernel
theorem dL_law_457 : decode cL_law 457 = .ok (.aload_n 0, 1) := by decide +kernel
theorem dL_law_458 : decode cL_law 458 = .ok (.iload_n 3, 1) := by decide +kernel
theorem dL_law_459 : decode cL_law 459 = .ok (.iconst 2, 1) := by decide +kernel
theorem dL_law_460 : decode cL_law 460 = .ok (.iadd, 1) := by decide +kernel
theorem dL_law_461 : decode cL_law 461 = .ok (.iaload, 1) := by decide +kernel
theorem dL_law_462 : decode cL_law 462 = .ok (.invokevirtual 53, 3) := by decide +kernel
theorem dL_law_465 : decode cL_law 465 = .ok (.aload_n 2, 1) := by decide +kernel
theorem dL_law_466 : decode cL_law 466 = .ok (.aload_n 0, 1) := by decide +kernel
theorem dL_law_467 : decode cL_law 467 = .ok (.iload_n 3, 1) := by decide +kernel
theorem dL_law_468 : decode cL_law 468 = .ok (.iconst 1, 1) := by decide +kernel
theorem dL_law_469 : decode cL_law 469 = .ok (.iadd, 1) := by decide +kernel
theorem dL_law_470 : decode cL_law 470 = .ok (.iaload, 1) := by decide +kernel
theorem dL_law_471 : decode cL_law 471 = .ok (.aload_n 0, 1) := by decide +kernel
theorem dL_law_472 : decode cL_law 472 = .ok (.iload_n 3, 1) := by decide +kernel
theorem dL_law_473 : decode cL_law 473 = .ok (.iconst 2, 1) := by decide +kernel
theorem dL_law_474 : decode cL_law 474 = .ok (.iadd, 1) := by decide +kernel
theorem dL_law_475 : decode cL_law 475 = .ok (.iaload, 1) := by decide +kernel
theorem dL_law_476 : decode cL_law 476 = .ok (.invokevirtual 56, 3) := by decide +kernel
theorem dL_law_479 : decode cL_law 479 = .ok (.if_icmp .eq 819, 3) := by decide +kernel
theorem dL_law_482 : decode cL_law 482 = .ok (.iconst 0, 1) := by decide +kernel
theorem dL_law_483 : decode cL_law 483 = .ok (.ireturn, 1) := by decide +kernel
theorem dL_law_484 : decode cL_law 484 = .ok (.aload_n 1, 1) := by decide +kernel
theorem dL_law_485 : decode cL_law 485 = .ok (.aload_n 0, 1) := by decide +kernel
theorem dL_law_486 : decode cL_law 486 = .ok (.iload_n 3, 1) := by decide +kernel
theorem dL_law_487 : decode cL_law 487 = .ok (.iconst 1, 1) := by decide +kernel
theorem dL_law_488 : decode cL_law 488 = .ok (.iadd, 1) := by decide +kernel
theorem dL_law_489 : decode cL_law 489 = .ok (.iaload, 1) := by decide +kernel
theorem dL_law_490 : decode cL_law 490 = .ok (.aload_n 0, 1) := by decide +kernel
theorem dL_law_491 : decode cL_law 491 = .ok (.iload_n 3, 1) := by decide +kernel
theorem dL_law_492 : decode cL_law 492 = .ok (.iconst 2, 1) := by decide +kernel
theorem dL_law_493 : decode cL_law 493 = .ok (.iadd, 1) := by decide +kernel
theorem dL_law_494 : decode cL_law 494 = .ok (.iaload, 1) := by decide +kernel
theorem dL_law_495 : decode cL_law 495 = .ok (.aload_n 0, 1) := by decide +kernel
theorem dL_law_496 : decode cL_law 496 = .ok (.iload_n 3, 1) := by decide +kernel
theorem dL_law_497 : decode cL_law 497 = .ok (.iconst 3, 1) := by decide +kernel
theorem dL_law_498 : decode cL_law 498 = .ok (.iadd, 1) := by decide +kernel
theorem dL_law_499 : decode cL_law 499 = .ok (.iaload, 1) := by decide +kernel
theorem dL_law_500 : decode cL_law 500 = .ok (.aload_n 0, 1) := by decide +kernel
theorem dL_law_501 : decode cL_law 501 = .ok (.iload_n 3, 1) := by decide +kernel
theorem dL_law_502 : decode cL_law 502 = .ok (.iconst 4, 1) := by decide +kernel
theorem dL_law_503 : decode cL_law 503 = .ok (.iadd, 1) := by decide +kernel
theorem dL_law_504 : decode cL_law 504 = .ok (.iaload, 1) := by decide +kernel
theorem dL_law_505 : decode cL_law 505 = .ok (.aload_n 0, 1) := by decide +kernel
theorem dL_law_506 : decode cL_law 506 = .ok (.iload_n 3, 1) := by decide +kernel
theorem dL_law_507 : decode cL_law 507 = .ok (.iconst 5, 1) := by decide +kernel
theorem dL_law_508 : decode cL_law 508 = .ok (.iadd, 1) := by decide +kernel
theorem dL_law_509 : decode cL_law 509 = .ok (.iaload, 1) := by decide +kernel
theorem dL_law_510 : decode cL_law 510 = .ok (.invokevirtual 57, 3) := by decide +kernel
theorem dL_law_513 : decode cL_law 513 = .ok (.aload_n 2, 1) := by decide +kernel
theorem dL_law_514 : decode cL_law 514 = .ok (.aload_n 0, 1) := by decide +kernel
theorem dL_law_515 : decode cL_law 515 = .ok (.iload_n 3, 1) := by decide +kernel
theorem dL_law_516 : decode cL_law 516 = .ok (.iconst 1, 1) := by decide +kernel
theorem dL_law_517 : decode cL_law 517 = .ok (.iadd, 1) := by decide +kernel
theorem dL_law_518 : decode cL_law 518 = .ok (.iaload, 1) := by decide +kernel
theorem dL_law_519 : decode cL_law 519 = .ok (.aload_n 0, 1) := by decide +kernel
theorem dL_law_520 : decode cL_law 520 = .ok (.iload_n 3, 1) := by decide +kernel
theorem dL_law_521 : decode cL_law 521 = .ok (.iconst 2, 1) := by decide +kernel
theorem dL_law_522 : decode cL_law 522 = .ok (.iadd, 1) := by decide +kernel
theorem dL_law_523 : decode cL_law 523 = .ok (.iaload, 1) := by decide +kernel
theorem dL_law_524 : decode cL_law 524 = .ok (.aload_n 0, 1) := by decide +kernel
theorem dL_law_525 : decode cL_law 525 = .ok (.iload_n 3, 1) := by decide +kernel
theorem dL_law_526 : decode cL_law 526 = .ok (.iconst 3, 1) := by decide +kernel
theorem dL_law_527 : decode cL_law 527 = .ok (.iadd, 1) := by decide +kernel
theorem dL_law_528 : decode cL_law 528 = .ok (.iaload, 1) := by decide +kernel
theorem dL_law_529 : decode cL_law 529 = .ok (.aload_n 0, 1) := by decide +kernel
theorem dL_law_530 : decode cL_law 530 = .ok (.iload_n 3, 1) := by decide +kernel
theorem dL_law_531 : decode cL_law 531 = .ok (.iconst 4, 1) := by decide +kernel
theorem dL_law_532 : decode cL_law 532 = .ok (.iadd, 1) := by decide +kernel
theorem dL_law_533 : decode cL_law 533 = .ok (.iaload, 1) := by decide +kernel
theorem dL_law_534 : decode cL_law 534 = .ok (.aload_n 0, 1) := by decide +kernel
theorem dL_law_535 : decode cL_law 535 = .ok (.iload_n 3, 1) := by decide +kernel
theorem dL_law_536 : decode cL_law 536 = .ok (.iconst 5, 1) := by decide +kernel
theorem dL_law_537 : decode cL_law 537 = .ok (.iadd, 1) := by decide +kernel
theorem dL_law_538 : decode cL_law 538 = .ok (.iaload, 1) := by decide +kernel
theorem dL_law_539 : decode cL_law 539 = .ok (.invokevirtual 61, 3) := by decide +kernel
theorem dL_law_542 : decode cL_law 542 = .ok (.if_icmp .eq 756, 3) := by decide +kernel
theorem dL_law_545 : decode cL_law 545 = .ok (.iconst 0, 1) := by decide +kernel
theorem dL_law_546 : decode cL_law 546 = .ok (.ireturn, 1) := by decide +kernel
theorem dL_law_547 : decode cL_law 547 = .ok (.aload_n 1, 1) := by decide +kernel
theorem dL_law_548 : decode cL_law 548 = .ok (.aload_n 0, 1) := by decide +kernel
theorem dL_law_549 : decode cL_law 549 = .ok (.iload_n 3, 1) := by decide +kernel
theorem dL_law_550 : decode cL_law 550 = .ok (.iconst 1, 1) := by decide +kernel
theorem dL_law_551 : decode cL_law 551 = .ok (.iadd, 1) := by decide +kernel
theorem dL_law_552 : decode cL_law 552 = .ok (.iaload, 1) := by decide +kernel
theorem dL_law_553 : decode cL_law 553 = .ok (.aload_n 0, 1) := by decide +kernel
theorem dL_law_554 : decode cL_law 554 = .ok (.iload_n 3, 1) := by decide +kernel
theorem dL_law_555 : decode cL_law 555 = .ok (.iconst 2, 1) := by decide +kernel
theorem dL_law_556 : decode cL_law 556 = .ok (.iadd, 1) := by decide +kernel
theorem dL_law_557 : decode cL_law 557 = .ok (.iaload, 1) := by decide +kernel
theorem dL_law_558 : decode cL_law 558 = .ok (.invokevirtual 62, 3) := by decide +kernel
theorem dL_law_561 : decode cL_law 561 = .ok (.aload_n 2, 1) := by decide +kernel
theorem dL_law_562 : decode cL_law 562 = .ok (.aload_n 0, 1) := by decide +kernel
theorem dL_law_563 : decode cL_law 563 = .ok (.iload_n 3, 1) := by decide +kernel
theorem dL_law_564 : decode cL_law 564 = .ok (.iconst 1, 1) := by decide +kernel
theorem dL_law_565 : decode cL_law 565 = .ok (.iadd, 1) := by decide +kernel
theorem dL_law_566 : decode cL_law 566 = .ok (.iaload, 1) := by decide +kernel
theorem dL_law_567 : decode cL_law 567 = .ok (.aload_n 0, 1) := by decide +kernel
theorem dL_law_568 : decode cL_law 568 = .ok (.iload_n 3, 1) := by decide +kernel
theorem dL_law_569 : decode cL_law 569 = .ok (.iconst 2, 1) := by decide +kernel
theorem dL_law_570 : decode cL_law 570 = .ok (.iadd, 1) := by decide +kernel
theorem dL_law_571 : decode cL_law 571 = .ok (.iaload, 1) := by decide +kernel
theorem dL_law_572 : decode cL_law 572 = .ok (.invokevirtual 65, 3) := by decide +kernel
theorem dL_law_575 : decode cL_law 575 = .ok (.if_icmp .eq 723, 3) := by decide +kernel
theorem dL_law_578 : decode cL_law 578 = .ok (.iconst 0, 1) := by decide +kernel
theorem dL_law_579 : decode cL_law 579 = .ok (.ireturn, 1) := by decide +kernel
theorem dL_law_580 : decode cL_law 580 = .ok (.aload_n 1, 1) := by decide +kernel
theorem dL_law_581 : decode cL_law 581 = .ok (.aload_n 0, 1) := by decide +kernel
theorem dL_law_582 : decode cL_law 582 = .ok (.iload_n 3, 1) := by decide +kernel
theorem dL_law_583 : decode cL_law 583 = .ok (.iconst 1, 1) := by decide +kernel
theorem dL_law_584 : decode cL_law 584 = .ok (.iadd, 1) := by decide +kernel
theorem dL_law_585 : decode cL_law 585 = .ok (.iaload, 1) := by decide +kernel
theorem dL_law_586 : decode cL_law 586 = .ok (.invokevirtual 66, 3) := by decide +kernel
theorem dL_law_589 : decode cL_law 589 = .ok (.aload_n 2, 1) := by decide +kernel
theorem dL_law_590 : decode cL_law 590 = .ok (.aload_n 0, 1) := by decide +kernel
theorem dL_law_591 : decode cL_law 591 = .ok (.iload_n 3, 1) := by decide +kernel
theorem dL_law_592 : decode cL_law 592 = .ok (.iconst 1, 1) := by decide +kernel
theorem dL_law_593 : decode cL_law 593 = .ok (.iadd, 1) := by decide +kernel
theorem dL_law_594 : decode cL_law 594 = .ok (.iaload, 1) := by decide +kernel
theorem dL_law_595 : decode cL_law 595 = .ok (.invokevirtual 69, 3) := by decide +kernel
theorem dL_law_598 : decode cL_law 598 = .ok (.if_icmp .eq 700, 3) := by decide +kernel
theorem dL_law_601 : decode cL_law 601 = .ok (.iconst 0, 1) := by decide +kernel
theorem dL_law_602 : decode cL_law 602 = .ok (.ireturn, 1) := by decide +kernel
theorem dL_law_603 : decode cL_law 603 = .ok (.aload_n 1, 1) := by decide +kernel
theorem dL_law_604 : decode cL_law 604 = .ok (.aload_n 0, 1) := by decide +kernel
theorem dL_law_605 : decode cL_law 605 = .ok (.iload_n 3, 1) := by decide +kernel
theorem dL_law_606 : decode cL_law 606 = .ok (.iconst 1, 1) := by decide +kernel
theorem dL_law_607 : decode cL_law 607 = .ok (.iadd, 1) := by decide +kernel
theorem dL_law_608 : decode cL_law 608 = .ok (.iaload, 1) := by decide +kernel
theorem dL_law_609 : decode cL_law 609 = .ok (.invokevirtual 70, 3) := by decide +kernel
theorem dL_law_612 : decode cL_law 612 = .ok (.aload_n 2, 1) := by decide +kernel
theorem dL_law_613 : decode cL_law 613 = .ok (.aload_n 0, 1) := by decide +kernel
theorem dL_law_614 : decode cL_law 614 = .ok (.iload_n 3, 1) := by decide +kernel
theorem dL_law_615 : decode cL_law 615 = .ok (.iconst 1, 1) := by decide +kernel
theorem dL_law_616 : decode cL_law 616 = .ok (.iadd, 1) := by decide +kernel
theorem dL_law_617 : decode cL_law 617 = .ok (.iaload, 1) := by decide +kernel
theorem dL_law_618 : decode cL_law 618 = .ok (.invokevirtual 73, 3) := by decide +kernel
theorem dL_law_621 : decode cL_law 621 = .ok (.if_icmp .eq 677, 3) := by decide +kernel
theorem dL_law_624 : decode cL_law 624 = .ok (.iconst 0, 1) := by decide +kernel
theorem dL_law_625 : decode cL_law 625 = .ok (.ireturn, 1) := by decide +kernel
theorem dL_law_626 : decode cL_law 626 = .ok (.aload_n 1, 1) := by decide +kernel
theorem dL_law_627 : decode cL_law 627 = .ok (.aload_n 0, 1) := by decide +kernel
theorem dL_law_628 : decode cL_law 628 = .ok (.iload_n 3, 1) := by decide +kernel
theorem dL_law_629 : decode cL_law 629 = .ok (.iconst 1, 1) := by decide +kernel
theorem dL_law_630 : decode cL_law 630 = .ok (.iadd, 1) := by decide +kernel
theorem dL_law_631 : decode cL_law 631 = .ok (.iaload, 1) := by decide +kernel
theorem dL_law_632 : decode cL_law 632 = .ok (.aload_n 0, 1) := by decide +kernel
theorem dL_law_633 : decode cL_law 633 = .ok (.iload_n 3, 1) := by decide +kernel
theorem dL_law_634 : decode cL_law 634 = .ok (.iconst 2, 1) := by decide +kernel
theorem dL_law_635 : decode cL_law 635 = .ok (.iadd, 1) := by decide +kernel
theorem dL_law_636 : decode cL_law 636 = .ok (.iaload, 1) := by decide +kernel
theorem dL_law_637 : decode cL_law 637 = .ok (.aload_n 0, 1) := by decide +kernel
theorem dL_law_638 : decode cL_law 638 = .ok (.iload_n 3, 1) := by decide +kernel
theorem dL_law_639 : decode cL_law 639 = .ok (.iconst 3, 1) := by decide +kernel
theorem dL_law_640 : decode cL_law 640 = .ok (.iadd, 1) := by decide +kernel
theorem dL_law_641 : decode cL_law 641 = .ok (.iaload, 1) := by decide +kernel
theorem dL_law_642 : decode cL_law 642 = .ok (.aload_n 0, 1) := by decide +kernel
theorem dL_law_643 : decode cL_law 643 = .ok (.iload_n 3, 1) := by decide +kernel
theorem dL_law_644 : decode cL_law 644 = .ok (.iconst 4, 1) := by decide +kernel
theorem dL_law_645 : decode cL_law 645 = .ok (.iadd, 1) := by decide +kernel
theorem dL_law_646 : decode cL_law 646 = .ok (.iaload, 1) := by decide +kernel
theorem dL_law_647 : decode cL_law 647 = .ok (.invokevirtual 74, 3) := by decide +kernel
theorem dL_law_650 : decode cL_law 650 = .ok (.aload_n 2, 1) := by decide +kernel
theorem dL_law_651 : decode cL_law 651 = .ok (.aload_n 0, 1) := by decide +kernel
theorem dL_law_652 : decode cL_law 652 = .ok (.iload_n 3, 1) := by decide +kernel
theorem dL_law_653 : decode cL_law 653 = .ok (.iconst 1, 1) := by decide +kernel
theorem dL_law_654 : decode cL_law 654 = .ok (.iadd, 1) := by decide +kernel
theorem dL_law_655 : decode cL_law 655 = .ok (.iaload, 1) := by decide +kernel
theorem dL_law_656 : decode cL_law 656 = .ok (.aload_n 0, 1) := by decide +kernel
theorem dL_law_657 : decode cL_law 657 = .ok (.iload_n 3, 1) := by decide +kernel
theorem dL_law_658 : decode cL_law 658 = .ok (.iconst 2, 1) := by decide +kernel
theorem dL_law_659 : decode cL_law 659 = .ok (.iadd, 1) := by decide +kernel
theorem dL_law_660 : decode cL_law 660 = .ok (.iaload, 1) := by decide +kernel
theorem dL_law_661 : decode cL_law 661 = .ok (.aload_n 0, 1) := by decide +kernel
theorem dL_law_662 : decode cL_law 662 = .ok (.iload_n 3, 1) := by decide +kernel
theorem dL_law_663 : decode cL_law 663 = .ok (.iconst 3, 1) := by decide +kernel
theorem dL_law_664 : decode cL_law 664 = .ok (.iadd, 1) := by decide +kernel
theorem dL_law_665 : decode cL_law 665 = .ok (.iaload, 1) := by decide +kernel
theorem dL_law_666 : decode cL_law 666 = .ok (.aload_n 0, 1) := by decide +kernel
theorem dL_law_667 : decode cL_law 667 = .ok (.iload_n 3, 1) := by decide +kernel
theorem dL_law_668 : decode cL_law 668 = .ok (.iconst 4, 1) := by decide +kernel
theorem dL_law_669 : decode cL_law 669 = .ok (.iadd, 1) := by decide +kernel
theorem dL_law_670 : decode cL_law 670 = .ok (.iaload, 1) := by decide +kernel
theorem dL_law_671 : decode cL_law 671 = .ok (.invokevirtual 78, 3) := by decide +kernel
theorem dL_law_674 : decode cL_law 674 = .ok (.lcmp, 1) := by decide +kernel
theorem dL_law_675 : decode cL_law 675 = .ok (.ifCond .eq 623, 3) := by decide +kernel
theorem dL_law_678 : decode cL_law 678 = .ok (.iconst 0, 1) := by decide +kernel
theorem dL_law_679 : decode cL_law 679 = .ok (.ireturn, 1) := by decide +kernel
theorem dL_law_680 : decode cL_law 680 = .ok (.aload_n 1, 1) := by decide +kernel
theorem dL_law_681 : decode cL_law 681 = .ok (.aload_n 0, 1) := by decide +kernel
theorem dL_law_682 : decode cL_law 682 = .ok (.iload_n 3, 1) := by decide +kernel
theorem dL_law_683 : decode cL_law 683 = .ok (.iconst 1, 1) := by decide +kernel
theorem dL_law_684 : decode cL_law 684 = .ok (.iadd, 1) := by decide +kernel
theorem dL_law_685 : decode cL_law 685 = .ok (.iaload, 1) := by decide +kernel
theorem dL_law_686 : decode cL_law 686 = .ok (.invokevirtual 79, 3) := by decide +kernel
theorem dL_law_689 : decode cL_law 689 = .ok (.aload_n 2, 1) := by decide +kernel
theorem dL_law_690 : decode cL_law 690 = .ok (.aload_n 0, 1) := by decide +kernel
theorem dL_law_691 : decode cL_law 691 = .ok (.iload_n 3, 1) := by decide +kernel
theorem dL_law_692 : decode cL_law 692 = .ok (.iconst 1, 1) := by decide +kernel
theorem dL_law_693 : decode cL_law 693 = .ok (.iadd, 1) := by decide +kernel
theorem dL_law_694 : decode cL_law 694 = .ok (.iaload, 1) := by decide +kernel
theorem dL_law_695 : decode cL_law 695 = .ok (.invokevirtual 82, 3) := by decide +kernel
theorem dL_law_698 : decode cL_law 698 = .ok (.if_icmp .eq 600, 3) := by decide +kernel
theorem dL_law_701 : decode cL_law 701 = .ok (.iconst 0, 1) := by decide +kernel
theorem dL_law_702 : decode cL_law 702 = .ok (.ireturn, 1) := by decide +kernel
theorem dL_law_703 : decode cL_law 703 = .ok (.aload_n 1, 1) := by decide +kernel
theorem dL_law_704 : decode cL_law 704 = .ok (.aload_n 0, 1) := by decide +kernel
theorem dL_law_705 : decode cL_law 705 = .ok (.iload_n 3, 1) := by decide +kernel
theorem dL_law_706 : decode cL_law 706 = .ok (.iconst 1, 1) := by decide +kernel
theorem dL_law_707 : decode cL_law 707 = .ok (.iadd, 1) := by decide +kernel
theorem dL_law_708 : decode cL_law 708 = .ok (.iaload, 1) := by decide +kernel
theorem dL_law_709 : decode cL_law 709 = .ok (.invokevirtual 83, 3) := by decide +kernel
theorem dL_law_712 : decode cL_law 712 = .ok (.aload_n 2, 1) := by decide +kernel
theorem dL_law_713 : decode cL_law 713 = .ok (.aload_n 0, 1) := by decide +kernel
theorem dL_law_714 : decode cL_law 714 = .ok (.iload_n 3, 1) := by decide +kernel
theorem dL_law_715 : decode cL_law 715 = .ok (.iconst 1, 1) := by decide +kernel
theorem dL_law_716 : decode cL_law 716 = .ok (.iadd, 1) := by decide +kernel
theorem dL_law_717 : decode cL_law 717 = .ok (.iaload, 1) := by decide +kernel
theorem dL_law_718 : decode cL_law 718 = .ok (.invokevirtual 86, 3) := by decide +kernel
theorem dL_law_721 : decode cL_law 721 = .ok (.if_icmp .eq 577, 3) := by decide +kernel
theorem dL_law_724 : decode cL_law 724 = .ok (.iconst 0, 1) := by decide +kernel
theorem dL_law_725 : decode cL_law 725 = .ok (.ireturn, 1) := by decide +kernel
theorem dL_law_726 : decode cL_law 726 = .ok (.aload_n 1, 1) := by decide +kernel
theorem dL_law_727 : decode cL_law 727 = .ok (.aload_n 0, 1) := by decide +kernel
theorem dL_law_728 : decode cL_law 728 = .ok (.iload_n 3, 1) := by decide +kernel
theorem dL_law_729 : decode cL_law 729 = .ok (.iconst 1, 1) := by decide +kernel
theorem dL_law_730 : decode cL_law 730 = .ok (.iadd, 1) := by decide +kernel
theorem dL_law_731 : decode cL_law 731 = .ok (.iaload, 1) := by decide +kernel
theorem dL_law_732 : decode cL_law 732 = .ok (.aload_n 0, 1) := by decide +kernel
theorem dL_law_733 : decode cL_law 733 = .ok (.iload_n 3, 1) := by decide +kernel
theorem dL_law_734 : decode cL_law 734 = .ok (.iconst 2, 1) := by decide +kernel
theorem dL_law_735 : decode cL_law 735 = .ok (.iadd, 1) := by decide +kernel
theorem dL_law_736 : decode cL_law 736 = .ok (.iaload, 1) := by decide +kernel
theorem dL_law_737 : decode cL_law 737 = .ok (.invokevirtual 87, 3) := by decide +kernel
theorem dL_law_740 : decode cL_law 740 = .ok (.aload_n 2, 1) := by decide +kernel
theorem dL_law_741 : decode cL_law 741 = .ok (.aload_n 0, 1) := by decide +kernel
theorem dL_law_742 : decode cL_law 742 = .ok (.iload_n 3, 1) := by decide +kernel
theorem dL_law_743 : decode cL_law 743 = .ok (.iconst 1, 1) := by decide +kernel
theorem dL_law_744 : decode cL_law 744 = .ok (.iadd, 1) := by decide +kernel
theorem dL_law_745 : decode cL_law 745 = .ok (.iaload, 1) := by decide +kernel
theorem dL_law_746 : decode cL_law 746 = .ok (.aload_n 0, 1) := by decide +kernel
theorem dL_law_747 : decode cL_law 747 = .ok (.iload_n 3, 1) := by decide +kernel
theorem dL_law_748 : decode cL_law 748 = .ok (.iconst 2, 1) := by decide +kernel
theorem dL_law_749 : decode cL_law 749 = .ok (.iadd, 1) := by decide +kernel
theorem dL_law_750 : decode cL_law 750 = .ok (.iaload, 1) := by decide +kernel
theorem dL_law_751 : decode cL_law 751 = .ok (.invokevirtual 90, 3) := by decide +kernel
theorem dL_law_754 : decode cL_law 754 = .ok (.if_icmp .eq 544, 3) := by decide +kernel
theorem dL_law_757 : decode cL_law 757 = .ok (.iconst 0, 1) := by decide +kernel
theorem dL_law_758 : decode cL_law 758 = .ok (.ireturn, 1) := by decide +kernel
theorem dL_law_759 : decode cL_law 759 = .ok (.aload_n 1, 1) := by decide +kernel
theorem dL_law_760 : decode cL_law 760 = .ok (.aload_n 0, 1) := by decide +kernel
theorem dL_law_761 : decode cL_law 761 = .ok (.iload_n 3, 1) := by decide +kernel
theorem dL_law_762 : decode cL_law 762 = .ok (.iconst 1, 1) := by decide +kernel
theorem dL_law_763 : decode cL_law 763 = .ok (.iadd, 1) := by decide +kernel
theorem dL_law_764 : decode cL_law 764 = .ok (.iaload, 1) := by decide +kernel
theorem dL_law_765 : decode cL_law 765 = .ok (.aload_n 0, 1) := by decide +kernel
theorem dL_law_766 : decode cL_law 766 = .ok (.iload_n 3, 1) := by decide +kernel
theorem dL_law_767 : decode cL_law 767 = .ok (.iconst 2, 1) := by decide +kernel
theorem dL_law_768 : decode cL_law 768 = .ok (.iadd, 1) := by decide +kernel
theorem dL_law_769 : decode cL_law 769 = .ok (.iaload, 1) := by decide +kernel
theorem dL_law_770 : decode cL_law 770 = .ok (.aload_n 0, 1) := by decide +kernel
theorem dL_law_771 : decode cL_law 771 = .ok (.iload_n 3, 1) := by decide +kernel
theorem dL_law_772 : decode cL_law 772 = .ok (.iconst 3, 1) := by decide +kernel
theorem dL_law_773 : decode cL_law 773 = .ok (.iadd, 1) := by decide +kernel
theorem dL_law_774 : decode cL_law 774 = .ok (.iaload, 1) := by decide +kernel
theorem dL_law_775 : decode cL_law 775 = .ok (.invokevirtual 91, 3) := by decide +kernel
theorem dL_law_778 : decode cL_law 778 = .ok (.aload_n 2, 1) := by decide +kernel
theorem dL_law_779 : decode cL_law 779 = .ok (.aload_n 0, 1) := by decide +kernel
theorem dL_law_780 : decode cL_law 780 = .ok (.iload_n 3, 1) := by decide +kernel
theorem dL_law_781 : decode cL_law 781 = .ok (.iconst 1, 1) := by decide +kernel
theorem dL_law_782 : decode cL_law 782 = .ok (.iadd, 1) := by decide +kernel
theorem dL_law_783 : decode cL_law 783 = .ok (.iaload, 1) := by decide +kernel
theorem dL_law_784 : decode cL_law 784 = .ok (.aload_n 0, 1) := by decide +kernel
theorem dL_law_785 : decode cL_law 785 = .ok (.iload_n 3, 1) := by decide +kernel
theorem dL_law_786 : decode cL_law 786 = .ok (.iconst 2, 1) := by decide +kernel
theorem dL_law_787 : decode cL_law 787 = .ok (.iadd, 1) := by decide +kernel
theorem dL_law_788 : decode cL_law 788 = .ok (.iaload, 1) := by decide +kernel
theorem dL_law_789 : decode cL_law 789 = .ok (.aload_n 0, 1) := by decide +kernel
theorem dL_law_790 : decode cL_law 790 = .ok (.iload_n 3, 1) := by decide +kernel
theorem dL_law_791 : decode cL_law 791 = .ok (.iconst 3, 1) := by decide +kernel
theorem dL_law_792 : decode cL_law 792 = .ok (.iadd, 1) := by decide +kernel
theorem dL_law_793 : decode cL_law 793 = .ok (.iaload, 1) := by decide +kernel
theorem dL_law_794 : decode cL_law 794 = .ok (.invokevirtual 94, 3) := by decide +kernel
theorem dL_law_797 : decode cL_law 797 = .ok (.if_icmp .eq 501, 3) := by decide +kernel
theorem dL_law_800 : decode cL_law 800 = .ok (.iconst 0, 1) := by decide +kernel
theorem dL_law_801 : decode cL_law 801 = .ok (.ireturn, 1) := by decide +kernel
theorem dL_law_802 : decode cL_law 802 = .ok (.aload_n 1, 1) := by decide +kernel
theorem dL_law_803 : decode cL_law 803 = .ok (.aload_n 0, 1) := by decide +kernel
theorem dL_law_804 : decode cL_law 804 = .ok (.iload_n 3, 1) := by decide +kernel
theorem dL_law_805 : decode cL_law 805 = .ok (.iconst 1, 1) := by decide +kernel
theorem dL_law_806 : decode cL_law 806 = .ok (.iadd, 1) := by decide +kernel
theorem dL_law_807 : decode cL_law 807 = .ok (.iaload, 1) := by decide +kernel
theorem dL_law_808 : decode cL_law 808 = .ok (.invokevirtual 95, 3) := by decide +kernel
theorem dL_law_811 : decode cL_law 811 = .ok (.aload_n 2, 1) := by decide +kernel
theorem dL_law_812 : decode cL_law 812 = .ok (.aload_n 0, 1) := by decide +kernel
theorem dL_law_813 : decode cL_law 813 = .ok (.iload_n 3, 1) := by decide +kernel
theorem dL_law_814 : decode cL_law 814 = .ok (.iconst 1, 1) := by decide +kernel
theorem dL_law_815 : decode cL_law 815 = .ok (.iadd, 1) := by decide +kernel
theorem dL_law_816 : decode cL_law 816 = .ok (.iaload, 1) := by decide +kernel
theorem dL_law_817 : decode cL_law 817 = .ok (.invokevirtual 98, 3) := by decide +kernel
theorem dL_law_820 : decode cL_law 820 = .ok (.if_icmp .eq 478, 3) := by decide +kernel
theorem dL_law_823 : decode cL_law 823 = .ok (.iconst 0, 1) := by decide +kernel
theorem dL_law_824 : decode cL_law 824 = .ok (.ireturn, 1) := by decide +kernel
theorem dL_law_825 : decode cL_law 825 = .ok (.aload_n 1, 1) := by decide +kernel
theorem dL_law_826 : decode cL_law 826 = .ok (.aload_n 0, 1) := by decide +kernel
theorem dL_law_827 : decode cL_law 827 = .ok (.iload_n 3, 1) := by decide +kernel
theorem dL_law_828 : decode cL_law 828 = .ok (.iconst 1, 1) := by decide +kernel
theorem dL_law_829 : decode cL_law 829 = .ok (.iadd, 1) := by decide +kernel
theorem dL_law_830 : decode cL_law 830 = .ok (.iaload, 1) := by decide +kernel
theorem dL_law_831 : decode cL_law 831 = .ok (.invokevirtual 99, 3) := by decide +kernel
theorem dL_law_834 : decode cL_law 834 = .ok (.aload_n 2, 1) := by decide +kernel
theorem dL_law_835 : decode cL_law 835 = .ok (.aload_n 0, 1) := by decide +kernel
theorem dL_law_836 : decode cL_law 836 = .ok (.iload_n 3, 1) := by decide +kernel
theorem dL_law_837 : decode cL_law 837 = .ok (.iconst 1, 1) := by decide +kernel
theorem dL_law_838 : decode cL_law 838 = .ok (.iadd, 1) := by decide +kernel
theorem dL_law_839 : decode cL_law 839 = .ok (.iaload, 1) := by decide +kernel
theorem dL_law_840 : decode cL_law 840 = .ok (.invokevirtual 102, 3) := by decide +kernel
theorem dL_law_843 : decode cL_law 843 = .ok (.if_icmp .eq 455, 3) := by decide +kernel
theorem dL_law_846 : decode cL_law 846 = .ok (.iconst 0, 1) := by decide +kernel
theorem dL_law_847 : decode cL_law 847 = .ok (.ireturn, 1) := by decide +kernel
theorem dL_law_848 : decode cL_law 848 = .ok (.aload_n 1, 1) := by decide +kernel
theorem dL_law_849 : decode cL_law 849 = .ok (.aload_n 0, 1) := by decide +kernel
theorem dL_law_850 : decode cL_law 850 = .ok (.iload_n 3, 1) := by decide +kernel
theorem dL_law_851 : decode cL_law 851 = .ok (.iconst 1, 1) := by decide +kernel
theorem dL_law_852 : decode cL_law 852 = .ok (.iadd, 1) := by decide +kernel
theorem dL_law_853 : decode cL_law 853 = .ok (.iaload, 1) := by decide +kernel
theorem dL_law_854 : decode cL_law 854 = .ok (.invokevirtual 103, 3) := by decide +kernel
theorem dL_law_857 : decode cL_law 857 = .ok (.aload_n 2, 1) := by decide +kernel
theorem dL_law_858 : decode cL_law 858 = .ok (.aload_n 0, 1) := by decide +kernel
theorem dL_law_859 : decode cL_law 859 = .ok (.iload_n 3, 1) := by decide +kernel
theorem dL_law_860 : decode cL_law 860 = .ok (.iconst 1, 1) := by decide +kernel
theorem dL_law_861 : decode cL_law 861 = .ok (.iadd, 1) := by decide +kernel
theorem dL_law_862 : decode cL_law 862 = .ok (.iaload, 1) := by decide +kernel
theorem dL_law_863 : decode cL_law 863 = .ok (.invokevirtual 106, 3) := by decide +kernel
theorem dL_law_866 : decode cL_law 866 = .ok (.if_icmp .eq 432, 3) := by decide +kernel
theorem dL_law_869 : decode cL_law 869 = .ok (.iconst 0, 1) := by decide +kernel
theorem dL_law_870 : decode cL_law 870 = .ok (.ireturn, 1) := by decide +kernel
theorem dL_law_871 : decode cL_law 871 = .ok (.aload_n 1, 1) := by decide +kernel
theorem dL_law_872 : decode cL_law 872 = .ok (.aload_n 0, 1) := by decide +kernel
theorem dL_law_873 : decode cL_law 873 = .ok (.iload_n 3, 1) := by decide +kernel
theorem dL_law_874 : decode cL_law 874 = .ok (.iconst 1, 1) := by decide +kernel
theorem dL_law_875 : decode cL_law 875 = .ok (.iadd, 1) := by decide +kernel
theorem dL_law_876 : decode cL_law 876 = .ok (.iaload, 1) := by decide +kernel
theorem dL_law_877 : decode cL_law 877 = .ok (.invokevirtual 107, 3) := by decide +kernel
theorem dL_law_880 : decode cL_law 880 = .ok (.aload_n 2, 1) := by decide +kernel
theorem dL_law_881 : decode cL_law 881 = .ok (.aload_n 0, 1) := by decide +kernel
theorem dL_law_882 : decode cL_law 882 = .ok (.iload_n 3, 1) := by decide +kernel
theorem dL_law_883 : decode cL_law 883 = .ok (.iconst 1, 1) := by decide +kernel
theorem dL_law_884 : decode cL_law 884 = .ok (.iadd, 1) := by decide +kernel
theorem dL_law_885 : decode cL_law 885 = .ok (.iaload, 1) := by decide +kernel
theorem dL_law_886 : decode cL_law 886 = .ok (.invokevirtual 110, 3) := by decide +kernel
theorem dL_law_889 : decode cL_law 889 = .ok (.if_icmp .eq 409, 3) := by decide +kernel
theorem dL_law_892 : decode cL_law 892 = .ok (.iconst 0, 1) := by decide +kernel
theorem dL_law_893 : decode cL_law 893 = .ok (.ireturn, 1) := by decide +kernel
theorem dL_law_894 : decode cL_law 894 = .ok (.aload_n 1, 1) := by decide +kernel
theorem dL_law_895 : decode cL_law 895 = .ok (.aload_n 0, 1) := by decide +kernel
theorem dL_law_896 : decode cL_law 896 = .ok (.iload_n 3, 1) := by decide +kernel
theorem dL_law_897 : decode cL_law 897 = .ok (.iconst 1, 1) := by decide +kernel
theorem dL_law_898 : decode cL_law 898 = .ok (.iadd, 1) := by decide +kernel
theorem dL_law_899 : decode cL_law 899 = .ok (.iaload, 1) := by decide +kernel
theorem dL_law_900 : decode cL_law 900 = .ok (.aload_n 0, 1) := by decide +kernel
theorem dL_law_901 : decode cL_law 901 = .ok (.iload_n 3, 1) := by decide +kernel
theorem dL_law_902 : decode cL_law 902 = .ok (.iconst 2, 1) := by decide +kernel
theorem dL_law_903 : decode cL_law 903 = .ok (.iadd, 1) := by decide +kernel
theorem dL_law_904 : decode cL_law 904 = .ok (.iaload, 1) := by decide +kernel
theorem dL_law_905 : decode cL_law 905 = .ok (.aload_n 0, 1) := by decide +kernel
theorem dL_law_906 : decode cL_law 906 = .ok (.iload_n 3, 1) := by decide +kernel
theorem dL_law_907 : decode cL_law 907 = .ok (.iconst 3, 1) := by decide +kernel
theorem dL_law_908 : decode cL_law 908 = .ok (.iadd, 1) := by decide +kernel
theorem dL_law_909 : decode cL_law 909 = .ok (.iaload, 1) := by decide +kernel
theorem dL_law_910 : decode cL_law 910 = .ok (.invokevirtual 111, 3) := by decide +kernel
theorem dL_law_913 : decode cL_law 913 = .ok (.aload_n 2, 1) := by decide +kernel
theorem dL_law_914 : decode cL_law 914 = .ok (.aload_n 0, 1) := by decide +kernel
theorem dL_law_915 : decode cL_law 915 = .ok (.iload_n 3, 1) := by decide +kernel
theorem dL_law_916 : decode cL_law 916 = .ok (.iconst 1, 1) := by decide +kernel
theorem dL_law_917 : decode cL_law 917 = .ok (.iadd, 1) := by decide +kernel
theorem dL_law_918 : decode cL_law 918 = .ok (.iaload, 1) := by decide +kernel
theorem dL_law_919 : decode cL_law 919 = .ok (.aload_n 0, 1) := by decide +kernel
theorem dL_law_920 : decode cL_law 920 = .ok (.iload_n 3, 1) := by decide +kernel
theorem dL_law_921 : decode cL_law 921 = .ok (.iconst 2, 1) := by decide +kernel
theorem dL_law_922 : decode cL_law 922 = .ok (.iadd, 1) := by decide +kernel
theorem dL_law_923 : decode cL_law 923 = .ok (.iaload, 1) := by decide +kernel
theorem dL_law_924 : decode cL_law 924 = .ok (.aload_n 0, 1) := by decide +kernel
theorem dL_law_925 : decode cL_law 925 = .ok (.iload_n 3, 1) := by decide +kernel
theorem dL_law_926 : decode cL_law 926 = .ok (.iconst 3, 1) := by decide +kernel
theorem dL_law_927 : decode cL_law 927 = .ok (.iadd, 1) := by decide +kernel
theorem dL_law_928 : decode cL_law 928 = .ok (.iaload, 1) := by decide +kernel
theorem dL_law_929 : decode cL_law 929 = .ok (.invokevirtual 114, 3) := by decide +kernel
theorem dL_law_932 : decode cL_law 932 = .ok (.if_icmp .eq 366, 3) := by decide +kernel
theorem dL_law_935 : decode cL_law 935 = .ok (.iconst 0, 1) := by decide +kernel
theorem dL_law_936 : decode cL_law 936 = .ok (.ireturn, 1) := by decide +kernel
theorem dL_law_937 : decode cL_law 937 = .ok (.aload_n 1, 1) := by decide +kernel
theorem dL_law_938 : decode cL_law 938 = .ok (.invokevirtual 115, 3) := by decide +kernel
theorem dL_law_941 : decode cL_law 941 = .ok (.aload_n 2, 1) := by decide +kernel
theorem dL_law_942 : decode cL_law 942 = .ok (.invokevirtual 118, 3) := by decide +kernel
theorem dL_law_945 : decode cL_law 945 = .ok (.if_icmp .eq 353, 3) := by decide +kernel
theorem dL_law_948 : decode cL_law 948 = .ok (.iconst 0, 1) := by decide +kernel
theorem dL_law_949 : decode cL_law 949 = .ok (.ireturn, 1) := by decide +kernel
theorem dL_law_950 : decode cL_law 950 = .ok (.aload_n 1, 1) := by decide +kernel
theorem dL_law_951 : decode cL_law 951 = .ok (.invokevirtual 119, 3) := by decide +kernel
theorem dL_law_954 : decode cL_law 954 = .ok (.aload_n 2, 1) := by decide +kernel
theorem dL_law_955 : decode cL_law 955 = .ok (.invokevirtual 122, 3) := by decide +kernel
theorem dL_law_958 : decode cL_law 958 = .ok (.if_icmp .eq 340, 3) := by decide +kernel
theorem dL_law_961 : decode cL_law 961 = .ok (.iconst 0, 1) := by decide +kernel
theorem dL_law_962 : decode cL_law 962 = .ok (.ireturn, 1) := by decide +kernel
theorem dL_law_963 : decode cL_law 963 = .ok (.aload_n 1, 1) := by decide +kernel
theorem dL_law_964 : decode cL_law 964 = .ok (.aload_n 0, 1) := by decide +kernel
theorem dL_law_965 : decode cL_law 965 = .ok (.iload_n 3, 1) := by decide +kernel
theorem dL_law_966 : decode cL_law 966 = .ok (.iconst 1, 1) := by decide +kernel
theorem dL_law_967 : decode cL_law 967 = .ok (.iadd, 1) := by decide +kernel
theorem dL_law_968 : decode cL_law 968 = .ok (.iaload, 1) := by decide +kernel
theorem dL_law_969 : decode cL_law 969 = .ok (.aload_n 0, 1) := by decide +kernel
theorem dL_law_970 : decode cL_law 970 = .ok (.iload_n 3, 1) := by decide +kernel
theorem dL_law_971 : decode cL_law 971 = .ok (.iconst 2, 1) := by decide +kernel
theorem dL_law_972 : decode cL_law 972 = .ok (.iadd, 1) := by decide +kernel
theorem dL_law_973 : decode cL_law 973 = .ok (.iaload, 1) := by decide +kernel
theorem dL_law_974 : decode cL_law 974 = .ok (.aload_n 0, 1) := by decide +kernel
theorem dL_law_975 : decode cL_law 975 = .ok (.iload_n 3, 1) := by decide +kernel
theorem dL_law_976 : decode cL_law 976 = .ok (.iconst 3, 1) := by decide +kernel
theorem dL_law_977 : decode cL_law 977 = .ok (.iadd, 1) := by decide +kernel
theorem dL_law_978 : decode cL_law 978 = .ok (.iaload, 1) := by decide +kernel
theorem dL_law_979 : decode cL_law 979 = .ok (.invokevirtual 123, 3) := by decide +kernel
theorem dL_law_982 : decode cL_law 982 = .ok (.aload_n 2, 1) := by decide +kernel
theorem dL_law_983 : decode cL_law 983 = .ok (.aload_n 0, 1) := by decide +kernel
theorem dL_law_984 : decode cL_law 984 = .ok (.iload_n 3, 1) := by decide +kernel
theorem dL_law_985 : decode cL_law 985 = .ok (.iconst 1, 1) := by decide +kernel
theorem dL_law_986 : decode cL_law 986 = .ok (.iadd, 1) := by decide +kernel
theorem dL_law_987 : decode cL_law 987 = .ok (.iaload, 1) := by decide +kernel
theorem dL_law_988 : decode cL_law 988 = .ok (.aload_n 0, 1) := by decide +kernel
theorem dL_law_989 : decode cL_law 989 = .ok (.iload_n 3, 1) := by decide +kernel
theorem dL_law_990 : decode cL_law 990 = .ok (.iconst 2, 1) := by decide +kernel
theorem dL_law_991 : decode cL_law 991 = .ok (.iadd, 1) := by decide +kernel
theorem dL_law_992 : decode cL_law 992 = .ok (.iaload, 1) := by decide +kernel
theorem dL_law_993 : decode cL_law 993 = .ok (.aload_n 0, 1) := by decide +kernel
theorem dL_law_994 : decode cL_law 994 = .ok (.iload_n 3, 1) := by decide +kernel
theorem dL_law_995 : decode cL_law 995 = .ok (.iconst 3, 1) := by decide +kernel
theorem dL_law_996 : decode cL_law 996 = .ok (.iadd, 1) := by decide +kernel
theorem dL_law_997 : decode cL_law 997 = .ok (.iaload, 1) := by decide +kernel
theorem dL_law_998 : decode cL_law 998 = .ok (.invokevirtual 126, 3) := by decide +kernel
theorem dL_law_1001 : decode cL_law 1001 = .ok (.if_icmp .eq 297, 3) := by decide +kernel
theorem dL_law_1004 : decode cL_law 1004 = .ok (.iconst 0, 1) := by decide +kernel
theorem dL_law_1005 : decode cL_law 1005 = .ok (.ireturn, 1) := by decide +kernel
theorem dL_law_1006 : decode cL_law 1006 = .ok (.aload_n 1, 1) := by decide +kernel
theorem dL_law_1007 : decode cL_law 1007 = .ok (.aload_n 0, 1) := by decide +kernel
theorem dL_law_1008 : decode cL_law 1008 = .ok (.iload_n 3, 1) := by decide +kernel
theorem dL_law_1009 : decode cL_law 1009 = .ok (.iconst 1, 1) := by decide +kernel
theorem dL_law_1010 : decode cL_law 1010 = .ok (.iadd, 1) := by decide +kernel
theorem dL_law_1011 : decode cL_law 1011 = .ok (.iaload, 1) := by decide +kernel
theorem dL_law_1012 : decode cL_law 1012 = .ok (.invokevirtual 127, 3) := by decide +kernel
theorem dL_law_1015 : decode cL_law 1015 = .ok (.aload_n 2, 1) := by decide +kernel
theorem dL_law_1016 : decode cL_law 1016 = .ok (.aload_n 0, 1) := by decide +kernel
theorem dL_law_1017 : decode cL_law 1017 = .ok (.iload_n 3, 1) := by decide +kernel
theorem dL_law_1018 : decode cL_law 1018 = .ok (.iconst 1, 1) := by decide +kernel
theorem dL_law_1019 : decode cL_law 1019 = .ok (.iadd, 1) := by decide +kernel
theorem dL_law_1020 : decode cL_law 1020 = .ok (.iaload, 1) := by decide +kernel
theorem dL_law_1021 : decode cL_law 1021 = .ok (.invokevirtual 130, 3) := by decide +kernel
theorem dL_law_1024 : decode cL_law 1024 = .ok (.if_icmp .eq 274, 3) := by decide +kernel
theorem dL_law_1027 : decode cL_law 1027 = .ok (.iconst 0, 1) := by decide +kernel
theorem dL_law_1028 : decode cL_law 1028 = .ok (.ireturn, 1) := by decide +kernel
theorem dL_law_1029 : decode cL_law 1029 = .ok (.aload_n 1, 1) := by decide +kernel
theorem dL_law_1030 : decode cL_law 1030 = .ok (.aload_n 0, 1) := by decide +kernel
theorem dL_law_1031 : decode cL_law 1031 = .ok (.iload_n 3, 1) := by decide +kernel
theorem dL_law_1032 : decode cL_law 1032 = .ok (.iconst 1, 1) := by decide +kernel
theorem dL_law_1033 : decode cL_law 1033 = .ok (.iadd, 1) := by decide +kernel
theorem dL_law_1034 : decode cL_law 1034 = .ok (.iaload, 1) := by decide +kernel
theorem dL_law_1035 : decode cL_law 1035 = .ok (.aload_n 0, 1) := by decide +kernel
theorem dL_law_1036 : decode cL_law 1036 = .ok (.iload_n 3, 1) := by decide +kernel
theorem dL_law_1037 : decode cL_law 1037 = .ok (.iconst 2, 1) := by decide +kernel
theorem dL_law_1038 : decode cL_law 1038 = .ok (.iadd, 1) := by decide +kernel
theorem dL_law_1039 : decode cL_law 1039 = .ok (.iaload, 1) := by decide +kernel
theorem dL_law_1040 : decode cL_law 1040 = .ok (.invokevirtual 131, 3) := by decide +kernel
theorem dL_law_1043 : decode cL_law 1043 = .ok (.aload_n 2, 1) := by decide +kernel
theorem dL_law_1044 : decode cL_law 1044 = .ok (.aload_n 0, 1) := by decide +kernel
theorem dL_law_1045 : decode cL_law 1045 = .ok (.iload_n 3, 1) := by decide +kernel
theorem dL_law_1046 : decode cL_law 1046 = .ok (.iconst 1, 1) := by decide +kernel
theorem dL_law_1047 : decode cL_law 1047 = .ok (.iadd, 1) := by decide +kernel
theorem dL_law_1048 : decode cL_law 1048 = .ok (.iaload, 1) := by decide +kernel
theorem dL_law_1049 : decode cL_law 1049 = .ok (.aload_n 0, 1) := by decide +kernel
theorem dL_law_1050 : decode cL_law 1050 = .ok (.iload_n 3, 1) := by decide +kernel
theorem dL_law_1051 : decode cL_law 1051 = .ok (.iconst 2, 1) := by decide +kernel
theorem dL_law_1052 : decode cL_law 1052 = .ok (.iadd, 1) := by decide +kernel
theorem dL_law_1053 : decode cL_law 1053 = .ok (.iaload, 1) := by decide +kernel
theorem dL_law_1054 : decode cL_law 1054 = .ok (.invokevirtual 134, 3) := by decide +kernel
theorem dL_law_1057 : decode cL_law 1057 = .ok (.if_icmp .eq 241, 3) := by decide +kernel
theorem dL_law_1060 : decode cL_law 1060 = .ok (.iconst 0, 1) := by decide +kernel
theorem dL_law_1061 : decode cL_law 1061 = .ok (.ireturn, 1) := by decide +kernel
theorem dL_law_1062 : decode cL_law 1062 = .ok (.aload_n 1, 1) := by decide +kernel
theorem dL_law_1063 : decode cL_law 1063 = .ok (.aload_n 0, 1) := by decide +kernel
theorem dL_law_1064 : decode cL_law 1064 = .ok (.iload_n 3, 1) := by decide +kernel
theorem dL_law_1065 : decode cL_law 1065 = .ok (.iconst 1, 1) := by decide +kernel
theorem dL_law_1066 : decode cL_law 1066 = .ok (.iadd, 1) := by decide +kernel
theorem dL_law_1067 : decode cL_law 1067 = .ok (.iaload, 1) := by decide +kernel
theorem dL_law_1068 : decode cL_law 1068 = .ok (.invokevirtual 135, 3) := by decide +kernel
theorem dL_law_1071 : decode cL_law 1071 = .ok (.aload_n 2, 1) := by decide +kernel
theorem dL_law_1072 : decode cL_law 1072 = .ok (.aload_n 0, 1) := by decide +kernel
theorem dL_law_1073 : decode cL_law 1073 = .ok (.iload_n 3, 1) := by decide +kernel
theorem dL_law_1074 : decode cL_law 1074 = .ok (.iconst 1, 1) := by decide +kernel
theorem dL_law_1075 : decode cL_law 1075 = .ok (.iadd, 1) := by decide +kernel
theorem dL_law_1076 : decode cL_law 1076 = .ok (.iaload, 1) := by decide +kernel
theorem dL_law_1077 : decode cL_law 1077 = .ok (.invokevirtual 138, 3) := by decide +kernel
theorem dL_law_1080 : decode cL_law 1080 = .ok (.if_icmp .eq 218, 3) := by decide +kernel
theorem dL_law_1083 : decode cL_law 1083 = .ok (.iconst 0, 1) := by decide +kernel
theorem dL_law_1084 : decode cL_law 1084 = .ok (.ireturn, 1) := by decide +kernel
theorem dL_law_1085 : decode cL_law 1085 = .ok (.aload_n 1, 1) := by decide +kernel
theorem dL_law_1086 : decode cL_law 1086 = .ok (.aload_n 0, 1) := by decide +kernel
theorem dL_law_1087 : decode cL_law 1087 = .ok (.iload_n 3, 1) := by decide +kernel
theorem dL_law_1088 : decode cL_law 1088 = .ok (.iconst 1, 1) := by decide +kernel
theorem dL_law_1089 : decode cL_law 1089 = .ok (.iadd, 1) := by decide +kernel
theorem dL_law_1090 : decode cL_law 1090 = .ok (.iaload, 1) := by decide +kernel
theorem dL_law_1091 : decode cL_law 1091 = .ok (.aload_n 0, 1) := by decide +kernel
theorem dL_law_1092 : decode cL_law 1092 = .ok (.iload_n 3, 1) := by decide +kernel
theorem dL_law_1093 : decode cL_law 1093 = .ok (.iconst 2, 1) := by decide +kernel
theorem dL_law_1094 : decode cL_law 1094 = .ok (.iadd, 1) := by decide +kernel
theorem dL_law_1095 : decode cL_law 1095 = .ok (.iaload, 1) := by decide +kernel
theorem dL_law_1096 : decode cL_law 1096 = .ok (.aload_n 0, 1) := by decide +kernel
theorem dL_law_1097 : decode cL_law 1097 = .ok (.iload_n 3, 1) := by decide +kernel
theorem dL_law_1098 : decode cL_law 1098 = .ok (.iconst 3, 1) := by decide +kernel
theorem dL_law_1099 : decode cL_law 1099 = .ok (.iadd, 1) := by decide +kernel
theorem dL_law_1100 : decode cL_law 1100 = .ok (.iaload, 1) := by decide +kernel
theorem dL_law_1101 : decode cL_law 1101 = .ok (.invokevirtual 139, 3) := by decide +kernel
theorem dL_law_1104 : decode cL_law 1104 = .ok (.aload_n 2, 1) := by decide +kernel
theorem dL_law_1105 : decode cL_law 1105 = .ok (.aload_n 0, 1) := by decide +kernel
theorem dL_law_1106 : decode cL_law 1106 = .ok (.iload_n 3, 1) := by decide +kernel
theorem dL_law_1107 : decode cL_law 1107 = .ok (.iconst 1, 1) := by decide +kernel
theorem dL_law_1108 : decode cL_law 1108 = .ok (.iadd, 1) := by decide +kernel
theorem dL_law_1109 : decode cL_law 1109 = .ok (.iaload, 1) := by decide +kernel
theorem dL_law_1110 : decode cL_law 1110 = .ok (.aload_n 0, 1) := by decide +kernel
theorem dL_law_1111 : decode cL_law 1111 = .ok (.iload_n 3, 1) := by decide +kernel
theorem dL_law_1112 : decode cL_law 1112 = .ok (.iconst 2, 1) := by decide +kernel
theorem dL_law_1113 : decode cL_law 1113 = .ok (.iadd, 1) := by decide +kernel
theorem dL_law_1114 : decode cL_law 1114 = .ok (.iaload, 1) := by decide +kernel
theorem dL_law_1115 : decode cL_law 1115 = .ok (.aload_n 0, 1) := by decide +kernel
theorem dL_law_1116 : decode cL_law 1116 = .ok (.iload_n 3, 1) := by decide +kernel
theorem dL_law_1117 : decode cL_law 1117 = .ok (.iconst 3, 1) := by decide +kernel
theorem dL_law_1118 : decode cL_law 1118 = .ok (.iadd, 1) := by decide +kernel
theorem dL_law_1119 : decode cL_law 1119 = .ok (.iaload, 1) := by decide +kernel
theorem dL_law_1120 : decode cL_law 1120 = .ok (.invokevirtual 142, 3) := by decide +kernel
theorem dL_law_1123 : decode cL_law 1123 = .ok (.if_icmp .eq 175, 3) := by decide +kernel
theorem dL_law_1126 : decode cL_law 1126 = .ok (.iconst 0, 1) := by decide +kernel
theorem dL_law_1127 : decode cL_law 1127 = .ok (.ireturn, 1) := by decide +kernel
theorem dL_law_1128 : decode cL_law 1128 = .ok (.aload_n 1, 1) := by decide +kernel
theorem dL_law_1129 : decode cL_law 1129 = .ok (.aload_n 0, 1) := by decide +kernel
theorem dL_law_1130 : decode cL_law 1130 = .ok (.iload_n 3, 1) := by decide +kernel
theorem dL_law_1131 : decode cL_law 1131 = .ok (.iconst 1, 1) := by decide +kernel
theorem dL_law_1132 : decode cL_law 1132 = .ok (.iadd, 1) := by decide +kernel
theorem dL_law_1133 : decode cL_law 1133 = .ok (.iaload, 1) := by decide +kernel
theorem dL_law_1134 : decode cL_law 1134 = .ok (.aload_n 0, 1) := by decide +kernel
theorem dL_law_1135 : decode cL_law 1135 = .ok (.iload_n 3, 1) := by decide +kernel
theorem dL_law_1136 : decode cL_law 1136 = .ok (.iconst 2, 1) := by decide +kernel
theorem dL_law_1137 : decode cL_law 1137 = .ok (.iadd, 1) := by decide +kernel
theorem dL_law_1138 : decode cL_law 1138 = .ok (.iaload, 1) := by decide +kernel
theorem dL_law_1139 : decode cL_law 1139 = .ok (.aload_n 0, 1) := by decide +kernel
theorem dL_law_1140 : decode cL_law 1140 = .ok (.iload_n 3, 1) := by decide +kernel
theorem dL_law_1141 : decode cL_law 1141 = .ok (.iconst 3, 1) := by decide +kernel
theorem dL_law_1142 : decode cL_law 1142 = .ok (.iadd, 1) := by decide +kernel
theorem dL_law_1143 : decode cL_law 1143 = .ok (.iaload, 1) := by decide +kernel
theorem dL_law_1144 : decode cL_law 1144 = .ok (.i2l, 1) := by decide +kernel
theorem dL_law_1145 : decode cL_law 1145 = .ok (.bipush 32, 2) := by decide +kernel
theorem dL_law_1147 : decode cL_law 1147 = .ok (.lshl, 1) := by decide +kernel
theorem dL_law_1148 : decode cL_law 1148 = .ok (.aload_n 0, 1) := by decide +kernel
theorem dL_law_1149 : decode cL_law 1149 = .ok (.iload_n 3, 1) := by decide +kernel
theorem dL_law_1150 : decode cL_law 1150 = .ok (.iconst 4, 1) := by decide +kernel
theorem dL_law_1151 : decode cL_law 1151 = .ok (.iadd, 1) := by decide +kernel
theorem dL_law_1152 : decode cL_law 1152 = .ok (.iaload, 1) := by decide +kernel
theorem dL_law_1153 : decode cL_law 1153 = .ok (.i2l, 1) := by decide +kernel
theorem dL_law_1154 : decode cL_law 1154 = .ok (.ldc2_w 143, 3) := by decide +kernel
theorem dL_law_1157 : decode cL_law 1157 = .ok (.land, 1) := by decide +kernel
theorem dL_law_1158 : decode cL_law 1158 = .ok (.lor, 1) := by decide +kernel
theorem dL_law_1159 : decode cL_law 1159 = .ok (.invokevirtual 145, 3) := by decide +kernel
theorem dL_law_1162 : decode cL_law 1162 = .ok (.aload_n 2, 1) := by decide +kernel
theorem dL_law_1163 : decode cL_law 1163 = .ok (.aload_n 0, 1) := by decide +kernel
theorem dL_law_1164 : decode cL_law 1164 = .ok (.iload_n 3, 1) := by decide +kernel
theorem dL_law_1165 : decode cL_law 1165 = .ok (.iconst 1, 1) := by decide +kernel
theorem dL_law_1166 : decode cL_law 1166 = .ok (.iadd, 1) := by decide +kernel
theorem dL_law_1167 : decode cL_law 1167 = .ok (.iaload, 1) := by decide +kernel
theorem dL_law_1168 : decode cL_law 1168 = .ok (.aload_n 0, 1) := by decide +kernel
theorem dL_law_1169 : decode cL_law 1169 = .ok (.iload_n 3, 1) := by decide +kernel
theorem dL_law_1170 : decode cL_law 1170 = .ok (.iconst 2, 1) := by decide +kernel
theorem dL_law_1171 : decode cL_law 1171 = .ok (.iadd, 1) := by decide +kernel
theorem dL_law_1172 : decode cL_law 1172 = .ok (.iaload, 1) := by decide +kernel
theorem dL_law_1173 : decode cL_law 1173 = .ok (.aload_n 0, 1) := by decide +kernel
theorem dL_law_1174 : decode cL_law 1174 = .ok (.iload_n 3, 1) := by decide +kernel
theorem dL_law_1175 : decode cL_law 1175 = .ok (.iconst 3, 1) := by decide +kernel
theorem dL_law_1176 : decode cL_law 1176 = .ok (.iadd, 1) := by decide +kernel
theorem dL_law_1177 : decode cL_law 1177 = .ok (.iaload, 1) := by decide +kernel
theorem dL_law_1178 : decode cL_law 1178 = .ok (.i2l, 1) := by decide +kernel
theorem dL_law_1179 : decode cL_law 1179 = .ok (.bipush 32, 2) := by decide +kernel
theorem dL_law_1181 : decode cL_law 1181 = .ok (.lshl, 1) := by decide +kernel
theorem dL_law_1182 : decode cL_law 1182 = .ok (.aload_n 0, 1) := by decide +kernel
theorem dL_law_1183 : decode cL_law 1183 = .ok (.iload_n 3, 1) := by decide +kernel
theorem dL_law_1184 : decode cL_law 1184 = .ok (.iconst 4, 1) := by decide +kernel
theorem dL_law_1185 : decode cL_law 1185 = .ok (.iadd, 1) := by decide +kernel
theorem dL_law_1186 : decode cL_law 1186 = .ok (.iaload, 1) := by decide +kernel
theorem dL_law_1187 : decode cL_law 1187 = .ok (.i2l, 1) := by decide +kernel
theorem dL_law_1188 : decode cL_law 1188 = .ok (.ldc2_w 143, 3) := by decide +kernel
theorem dL_law_1191 : decode cL_law 1191 = .ok (.land, 1) := by decide +kernel
theorem dL_law_1192 : decode cL_law 1192 = .ok (.lor, 1) := by decide +kernel
theorem dL_law_1193 : decode cL_law 1193 = .ok (.invokevirtual 149, 3) := by decide +kernel
theorem dL_law_1196 : decode cL_law 1196 = .ok (.if_icmp .eq 102, 3) := by decide +kernel
theorem dL_law_1199 : decode cL_law 1199 = .ok (.iconst 0, 1) := by decide +kernel
theorem dL_law_1200 : decode cL_law 1200 = .ok (.ireturn, 1) := by decide +kernel
theorem dL_law_1201 : decode cL_law 1201 = .ok (.aload_n 1, 1) := by decide +kernel
theorem dL_law_1202 : decode cL_law 1202 = .ok (.aload_n 0, 1) := by decide +kernel
theorem dL_law_1203 : decode cL_law 1203 = .ok (.iload_n 3, 1) := by decide +kernel
theorem dL_law_1204 : decode cL_law 1204 = .ok (.iconst 1, 1) := by decide +kernel
theorem dL_law_1205 : decode cL_law 1205 = .ok (.iadd, 1) := by decide +kernel
theorem dL_law_1206 : decode cL_law 1206 = .ok (.iaload, 1) := by decide +kernel
theorem dL_law_1207 : decode cL_law 1207 = .ok (.aload_n 0, 1) := by decide +kernel
theorem dL_law_1208 : decode cL_law 1208 = .ok (.iload_n 3, 1) := by decide +kernel
theorem dL_law_1209 : decode cL_law 1209 = .ok (.iconst 2, 1) := by decide +kernel
theorem dL_law_1210 : decode cL_law 1210 = .ok (.iadd, 1) := by decide +kernel
theorem dL_law_1211 : decode cL_law 1211 = .ok (.iaload, 1) := by decide +kernel
theorem dL_law_1212 : decode cL_law 1212 = .ok (.invokevirtual 150, 3) := by decide +kernel
theorem dL_law_1215 : decode cL_law 1215 = .ok (.aload_n 2, 1) := by decide +kernel
theorem dL_law_1216 : decode cL_law 1216 = .ok (.aload_n 0, 1) := by decide +kernel
theorem dL_law_1217 : decode cL_law 1217 = .ok (.iload_n 3, 1) := by decide +kernel
theorem dL_law_1218 : decode cL_law 1218 = .ok (.iconst 1, 1) := by decide +kernel
theorem dL_law_1219 : decode cL_law 1219 = .ok (.iadd, 1) := by decide +kernel
theorem dL_law_1220 : decode cL_law 1220 = .ok (.iaload, 1) := by decide +kernel
theorem dL_law_1221 : decode cL_law 1221 = .ok (.aload_n 0, 1) := by decide +kernel
theorem dL_law_1222 : decode cL_law 1222 = .ok (.iload_n 3, 1) := by decide +kernel
theorem dL_law_1223 : decode cL_law 1223 = .ok (.iconst 2, 1) := by decide +kernel
theorem dL_law_1224 : decode cL_law 1224 = .ok (.iadd, 1) := by decide +kernel
theorem dL_law_1225 : decode cL_law 1225 = .ok (.iaload, 1) := by decide +kernel
theorem dL_law_1226 : decode cL_law 1226 = .ok (.invokevirtual 154, 3) := by decide +kernel
theorem dL_law_1229 : decode cL_law 1229 = .ok (.lcmp, 1) := by decide +kernel
theorem dL_law_1230 : decode cL_law 1230 = .ok (.ifCond .eq 68, 3) := by decide +kernel
theorem dL_law_1233 : decode cL_law 1233 = .ok (.iconst 0, 1) := by decide +kernel
theorem dL_law_1234 : decode cL_law 1234 = .ok (.ireturn, 1) := by decide +kernel
theorem dL_law_1235 : decode cL_law 1235 = .ok (.aload_n 1, 1) := by decide +kernel
theorem dL_law_1236 : decode cL_law 1236 = .ok (.aload_n 0, 1) := by decide +kernel
theorem dL_law_1237 : decode cL_law 1237 = .ok (.iload_n 3, 1) := by decide +kernel
theorem dL_law_1238 : decode cL_law 1238 = .ok (.iconst 1, 1) := by decide +kernel
theorem dL_law_1239 : decode cL_law 1239 = .ok (.iadd, 1) := by decide +kernel
theorem dL_law_1240 : decode cL_law 1240 = .ok (.iaload, 1) := by decide +kernel
theorem dL_law_1241 : decode cL_law 1241 = .ok (.aload_n 0, 1) := by decide +kernel
theorem dL_law_1242 : decode cL_law 1242 = .ok (.iload_n 3, 1) := by decide +kernel
theorem dL_law_1243 : decode cL_law 1243 = .ok (.iconst 2, 1) := by decide +kernel
theorem dL_law_1244 : decode cL_law 1244 = .ok (.iadd, 1) := by decide +kernel
theorem dL_law_1245 : decode cL_law 1245 = .ok (.iaload, 1) := by decide +kernel
theorem dL_law_1246 : decode cL_law 1246 = .ok (.aload_n 0, 1) := by decide +kernel
theorem dL_law_1247 : decode cL_law 1247 = .ok (.iload_n 3, 1) := by decide +kernel
theorem dL_law_1248 : decode cL_law 1248 = .ok (.iconst 3, 1) := by decide +kernel
theorem dL_law_1249 : decode cL_law 1249 = .ok (.iadd, 1) := by decide +kernel
theorem dL_law_1250 : decode cL_law 1250 = .ok (.iaload, 1) := by decide +kernel
theorem dL_law_1251 : decode cL_law 1251 = .ok (.aload_n 0, 1) := by decide +kernel
theorem dL_law_1252 : decode cL_law 1252 = .ok (.iload_n 3, 1) := by decide +kernel
theorem dL_law_1253 : decode cL_law 1253 = .ok (.iconst 4, 1) := by decide +kernel
theorem dL_law_1254 : decode cL_law 1254 = .ok (.iadd, 1) := by decide +kernel
theorem dL_law_1255 : decode cL_law 1255 = .ok (.iaload, 1) := by decide +kernel
theorem dL_law_1256 : decode cL_law 1256 = .ok (.aload_n 0, 1) := by decide +kernel
theorem dL_law_1257 : decode cL_law 1257 = .ok (.iload_n 3, 1) := by decide +kernel
theorem dL_law_1258 : decode cL_law 1258 = .ok (.iconst 5, 1) := by decide +kernel
theorem dL_law_1259 : decode cL_law 1259 = .ok (.iadd, 1) := by decide +kernel
theorem dL_law_1260 : decode cL_law 1260 = .ok (.iaload, 1) := by decide +kernel
theorem dL_law_1261 : decode cL_law 1261 = .ok (.invokevirtual 155, 3) := by decide +kernel
theorem dL_law_1264 : decode cL_law 1264 = .ok (.aload_n 2, 1) := by decide +kernel
theorem dL_law_1265 : decode cL_law 1265 = .ok (.aload_n 0, 1) := by decide +kernel
theorem dL_law_1266 : decode cL_law 1266 = .ok (.iload_n 3, 1) := by decide +kernel
theorem dL_law_1267 : decode cL_law 1267 = .ok (.iconst 1, 1) := by decide +kernel
theorem dL_law_1268 : decode cL_law 1268 = .ok (.iadd, 1) := by decide +kernel
theorem dL_law_1269 : decode cL_law 1269 = .ok (.iaload, 1) := by decide +kernel
theorem dL_law_1270 : decode cL_law 1270 = .ok (.aload_n 0, 1) := by decide +kernel
theorem dL_law_1271 : decode cL_law 1271 = .ok (.iload_n 3, 1) := by decide +kernel
theorem dL_law_1272 : decode cL_law 1272 = .ok (.iconst 2, 1) := by decide +kernel
theorem dL_law_1273 : decode cL_law 1273 = .ok (.iadd, 1) := by decide +kernel
theorem dL_law_1274 : decode cL_law 1274 = .ok (.iaload, 1) := by decide +kernel
theorem dL_law_1275 : decode cL_law 1275 = .ok (.aload_n 0, 1) := by decide +kernel
theorem dL_law_1276 : decode cL_law 1276 = .ok (.iload_n 3, 1) := by decide +kernel
theorem dL_law_1277 : decode cL_law 1277 = .ok (.iconst 3, 1) := by decide +kernel
theorem dL_law_1278 : decode cL_law 1278 = .ok (.iadd, 1) := by decide +kernel
theorem dL_law_1279 : decode cL_law 1279 = .ok (.iaload, 1) := by decide +kernel
theorem dL_law_1280 : decode cL_law 1280 = .ok (.aload_n 0, 1) := by decide +kernel
theorem dL_law_1281 : decode cL_law 1281 = .ok (.iload_n 3, 1) := by decide +kernel
theorem dL_law_1282 : decode cL_law 1282 = .ok (.iconst 4, 1) := by decide +kernel
theorem dL_law_1283 : decode cL_law 1283 = .ok (.iadd, 1) := by decide +kernel
theorem dL_law_1284 : decode cL_law 1284 = .ok (.iaload, 1) := by decide +kernel
theorem dL_law_1285 : decode cL_law 1285 = .ok (.aload_n 0, 1) := by decide +kernel
theorem dL_law_1286 : decode cL_law 1286 = .ok (.iload_n 3, 1) := by decide +kernel
theorem dL_law_1287 : decode cL_law 1287 = .ok (.iconst 5, 1) := by decide +kernel
theorem dL_law_1288 : decode cL_law 1288 = .ok (.iadd, 1) := by decide +kernel
theorem dL_law_1289 : decode cL_law 1289 = .ok (.iaload, 1) := by decide +kernel
theorem dL_law_1290 : decode cL_law 1290 = .ok (.invokevirtual 158, 3) := by decide +kernel
theorem dL_law_1293 : decode cL_law 1293 = .ok (.if_icmp .eq 5, 3) := by decide +kernel
theorem dL_law_1296 : decode cL_law 1296 = .ok (.iconst 0, 1) := by decide +kernel
theorem dL_law_1297 : decode cL_law 1297 = .ok (.ireturn, 1) := by decide +kernel
theorem dL_law_1298 : decode cL_law 1298 = .ok (.iinc 3 6, 3) := by decide +kernel
theorem dL_law_1301 : decode cL_law 1301 = .ok (.goto (-1283), 3) := by decide +kernel
theorem dL_law_1304 : decode cL_law 1304 = .ok (.iconst 1, 1) := by decide +kernel
theorem dL_law_1305 : decode cL_law 1305 = .ok (.ireturn, 1) := by decide +kernel
end
section
/-! THE LAYER: a state of the whole world is two tables of numbers over places: I (ints) and J (longs); what a place is, is fixed (zsh). -/
abbrev zI : Type := Nat → Nat → Int32
abbrev zJ : Type := Nat → Nat → Int64
abbrev zS : Type := (Nat × Nat × Nat × (Nat → Option Nat)) ⊕ (Nat × List (Nat × Nat))
abbrev zA : Type := Nat × Nat × Nat × Nat
/-- w: the kinds and their slots; the array kinds; the places' addresses; the texts' addresses and their rows'; two tables that nobody writes -/
abbrev zW : Type := va_G × (Nat → ClassId) × (Nat → Nat) × (Nat → Nat) × (Nat → Nat) × (Nat → Nat)
def zad (w : zW) (k : Nat) : Nat := w.2.2.1 k
def zup (I : zI) (a : Nat) (g : Nat → Int32) : zI := fun k => if k = a then g else I k
def zupJ (J : zJ) (a : Nat) (g : Nat → Int64) : zJ := fun k => if k = a then g else J k
theorem zup_s {I : zI} {a : Nat} {g : Nat → Int32} : zup I a g a = g := if_pos rfl
theorem zup_n {I : zI} {a k : Nat} {g : Nat → Int32} (h : k ≠ a) : zup I a g k = I k := if_neg h
theorem zupJ_s {J : zJ} {a : Nat} {g : Nat → Int64} : zupJ J a g a = g := if_pos rfl
theorem zupJ_n {J : zJ} {a k : Nat} {g : Nat → Int64} (h : k ≠ a) : zupJ J a g k = J k := if_neg h
theorem zup_up {I : zI} {a : Nat} {g h : Nat → Int32} : zup (zup I a g) a h = zup I a h := by
  funext k; by_cases q : k = a
  · subst q; rw [zup_s, zup_s]
  · rw [zup_n q, zup_n q, zup_n q]
theorem zupJ_up {J : zJ} {a : Nat} {g h : Nat → Int64} : zupJ (zupJ J a g) a h = zupJ J a h := by
  funext k; by_cases q : k = a
  · subst q; rw [zupJ_s, zupJ_s]
  · rw [zupJ_n q, zupJ_n q, zupJ_n q]
theorem zup_id {I : zI} {a : Nat} : zup I a (I a) = I := by
  funext k; by_cases q : k = a
  · subst q; rw [zup_s]
  · rw [zup_n q]
theorem zupJ_id {J : zJ} {a : Nat} : zupJ J a (J a) = J := by
  funext k; by_cases q : k = a
  · subst q; rw [zupJ_s]
  · rw [zupJ_n q]
theorem zup_comm {I : zI} {a b : Nat} {g h : Nat → Int32} (n : a ≠ b) : zup (zup I a g) b h = zup (zup I b h) a g := by
  funext k; by_cases q : k = a
  · subst q; rw [zup_n n, zup_s, zup_s]
  · by_cases r : k = b
    · subst r; rw [zup_s, zup_n q, zup_s]
    · rw [zup_n r, zup_n q, zup_n q, zup_n r]
/-- a law's place by its number -/
def zhd (v : Int32) : Nat := 47 + 5 * v.toNatClampNeg
def zfv (w : zW) (I : zI) (J : zJ) (a j : Nat) (f : Nat × Nat) : Value := match f.1 with
  | 0 => .int (I a j)
  | 1 => .long (J a j)
  | 2 => .ref (zad w f.2)
  | _ => .ref (zad w (zhd (I a j)))
def zfs (w : zW) (I : zI) (J : zJ) (a : Nat) : Nat → List (Nat × Nat) → List Value
  | _, [] => []
  | j, f :: l => zfv w I J a j f :: zfs w I J a (j + 1) l
def zcont (w : zW) (I : zI) (J : zJ) (a k : Nat) (r : Nat → Option Nat) : (Nat → Int32) ⊕ (Nat → Int64) ⊕ (Nat → UInt32) ⊕ (Nat → UInt64) ⊕ (Nat → Option Nat) := match k with
  | 0 => .inl (I a)
  | 1 => .inr (.inl (J a))
  | _ => .inr (.inr (.inr (.inr (fun i => (r i).map (zad w)))))
def zE (w : zW) (I : zI) (J : zJ) (a : Nat) (S : zS) : va_E := match S with
  | .inl (t, n, k, r) => .inl (w.2.1 t, n, zcont w I J a k r)
  | .inr (ci, fs) => .inr (ci, zfs w I J a 0 fs)
theorem zfs_at {w : zW} {I : zI} {J : zJ} {a : Nat} : ∀ (fs : List (Nat × Nat)) (j0 j : Nat) {f : Nat × Nat}, fs[j]? = some f → (zfs w I J a j0 fs)[j]? = some (zfv w I J a (j0 + j) f)
  | [], _, _, _, h => by simp at h
  | g :: l, j0, 0, f, h => by
    simp only [List.getElem?_cons_zero, Option.some.injEq] at h
    subst h
    simp [zfs]
  | g :: l, j0, j + 1, f, h => by
    have h' : l[j]? = some f := by simpa using h
    have := zfs_at (w := w) (I := I) (J := J) (a := a) l (j0 + 1) j h'
    simp only [zfs, List.getElem?_cons_succ]
    rw [this]; congr 2; omega
theorem zfs_len {w : zW} {I : zI} {J : zJ} {a : Nat} : ∀ (fs : List (Nat × Nat)) (j0 : Nat), (zfs w I J a j0 fs).length = fs.length
  | [], _ => rfl
  | _ :: l, j0 => by simp [zfs, zfs_len l (j0 + 1)]
theorem zfs_congr {w : zW} {I I' : zI} {J J' : zJ} {a : Nat} : ∀ (fs : List (Nat × Nat)) (j0 : Nat), (∀ j f, fs[j]? = some f → zfv w I' J' a (j0 + j) f = zfv w I J a (j0 + j) f) → zfs w I' J' a j0 fs = zfs w I J a j0 fs
  | [], _, _ => rfl
  | g :: l, j0, h => by
    simp only [zfs]
    rw [zfs_congr (I := I) (I' := I') (J := J) (J' := J') l (j0 + 1) (fun j f hf => by have := h (j + 1) f (by simpa using hf); rw [show j0 + (j + 1) = j0 + 1 + j by omega] at this; exact this)]
    have := h 0 g rfl
    rw [Nat.add_zero] at this
    rw [this]
theorem zfs_set {w : zW} {I I' : zI} {J J' : zJ} {a : Nat} {v : Value} : ∀ (fs : List (Nat × Nat)) (j0 j : Nat) {f : Nat × Nat}, fs[j]? = some f → zfv w I' J' a (j0 + j) f = v → (∀ i g, i ≠ j → fs[i]? = some g → zfv w I' J' a (j0 + i) g = zfv w I J a (j0 + i) g) → zfs w I' J' a j0 fs = (zfs w I J a j0 fs).set j v
  | [], _, _, _, h, _, _ => by simp at h
  | g :: l, j0, 0, f, h, hv, ho => by
    simp only [List.getElem?_cons_zero, Option.some.injEq] at h
    subst h
    simp only [zfs, List.set_cons_zero]
    rw [Nat.add_zero] at hv
    rw [hv, zfs_congr (I := I) (I' := I') (J := J) (J' := J') l (j0 + 1) (fun i g hg => by have := ho (i + 1) g (by omega) (by simpa using hg); rw [show j0 + (i + 1) = j0 + 1 + i by omega] at this; exact this)]
  | g :: l, j0, j + 1, f, h, hv, ho => by
    have h' : l[j]? = some f := by simpa using h
    simp only [zfs, List.set_cons_succ]
    rw [zfs_set (I := I) (I' := I') (J := J) (J' := J') (v := v) l (j0 + 1) j h' (by rw [← hv, show j0 + 1 + j = j0 + (j + 1) by omega]) (fun i g hi hg => by have := ho (i + 1) g (by omega) (by simpa using hg); rw [show j0 + (i + 1) = j0 + 1 + i by omega] at this; exact this)]
    have := ho 0 g (by omega) rfl
    rw [Nat.add_zero] at this
    rw [this]
theorem zE_congr {w : zW} {I I' : zI} {J J' : zJ} {k : Nat} {S : zS} (h1 : I' k = I k) (h2 : J' k = J k) : zE w I' J' k S = zE w I J k S := by
  rcases S with ⟨t, n, kd, r⟩ | ⟨ci, fs⟩
  · simp only [zE, zcont, h1, h2]
  · simp only [zE]
    rw [zfs_congr (I := I) (I' := I') (J := J) (J' := J') fs 0 (fun j f _ => by simp only [zfv, h1, h2])]
def zN : Nat := 123
/-- the places: 0..81 the component, 82.. the reference -/
def zshC : Nat → zS
  | 0 => .inr (7, [(2, 1), (0, 0), (2, 2), (2, 4), (0, 0), (2, 5), (2, 14), (0, 0), (2, 23), (2, 30), (2, 32), (2, 34)])
  | 1 => .inl (0, 8, 0, fun _ => none)
  | 2 => .inr (5, [(2, 3), (0, 0), (0, 0)])
  | 3 => .inl (0, 100, 0, fun _ => none)
  | 4 => .inl (3, 7, 2, fun i => some (47 + 5 * i))
  | 5 => .inr (6, [(2, 6), (2, 7), (3, 0), (2, 8), (2, 9), (2, 10), (2, 11), (2, 12), (0, 0), (2, 13), (0, 0)])
  | 6 => .inl (0, 64, 0, fun _ => none)
  | 7 => .inl (0, 8, 0, fun _ => none)
  | 8 => .inl (0, 16, 0, fun _ => none)
  | 9 => .inl (0, 16, 0, fun _ => none)
  | 10 => .inl (0, 16, 0, fun _ => none)
  | 11 => .inl (0, 16, 0, fun _ => none)
  | 12 => .inl (0, 16, 0, fun _ => none)
  | 13 => .inl (0, 6, 0, fun _ => none)
  | 14 => .inr (6, [(2, 15), (2, 16), (3, 0), (2, 17), (2, 18), (2, 19), (2, 20), (2, 21), (0, 0), (2, 22), (0, 0)])
  | 15 => .inl (0, 64, 0, fun _ => none)
  | 16 => .inl (0, 8, 0, fun _ => none)
  | 17 => .inl (0, 16, 0, fun _ => none)
  | 18 => .inl (0, 16, 0, fun _ => none)
  | 19 => .inl (0, 16, 0, fun _ => none)
  | 20 => .inl (0, 16, 0, fun _ => none)
  | 21 => .inl (0, 16, 0, fun _ => none)
  | 22 => .inl (0, 6, 0, fun _ => none)
  | 23 => .inr (3, [(2, 24), (2, 25), (2, 26), (2, 27), (2, 28), (2, 29), (0, 0), (0, 0)])
  | 24 => .inl (0, 64, 0, fun _ => none)
  | 25 => .inl (0, 8, 0, fun _ => none)
  | 26 => .inl (0, 8, 0, fun _ => none)
  | 27 => .inl (0, 8, 0, fun _ => none)
  | 28 => .inl (0, 80, 0, fun _ => none)
  | 29 => .inl (0, 10, 0, fun _ => none)
  | 30 => .inr (2, [(2, 31), (0, 0), (1, 0), (1, 0)])
  | 31 => .inl (1, 10, 1, fun _ => none)
  | 32 => .inr (0, [(2, 33), (0, 0), (0, 0), (0, 0), (0, 0)])
  | 33 => .inl (0, 20, 0, fun _ => none)
  | 34 => .inl (4, 6, 2, fun i => some (35 + 2 * i))
  | _ => .inl (0, 0, 0, fun _ => none)
/-- the reference: its own object at 82, its rows behind it -/
def zshM : Nat → zS
  | 82 => .inr (8, [(0, 0), (2, 83), (2, 84), (2, 85), (0, 0), (0, 0), (0, 0), (0, 0), (0, 0), (2, 86), (2, 87), (2, 88), (2, 89), (2, 90), (2, 91), (2, 92), (2, 93), (0, 0), (0, 0), (0, 0), (2, 94), (2, 95), (2, 96), (2, 97), (2, 98), (0, 0), (2, 99), (0, 0), (2, 100), (2, 101), (2, 102), (2, 103), (2, 104), (2, 105), (1, 0), (0, 0), (2, 106), (2, 107), (2, 108), (2, 109), (0, 0), (0, 0), (0, 0), (0, 0), (2, 110), (2, 111), (2, 112), (2, 113), (2, 114), (2, 115), (2, 116), (2, 117), (0, 0), (2, 118), (2, 119), (2, 120), (2, 121), (2, 122)])
  | 83 => .inl (0, 8, 0, fun _ => none)
  | 84 => .inl (0, 64, 0, fun _ => none)
  | 85 => .inl (0, 8, 0, fun _ => none)
  | 86 => .inl (0, 100, 0, fun _ => none)
  | 87 => .inl (0, 6, 0, fun _ => none)
  | 88 => .inl (0, 60, 0, fun _ => none)
  | 89 => .inl (0, 60, 0, fun _ => none)
  | 90 => .inl (0, 60, 0, fun _ => none)
  | 91 => .inl (0, 60, 0, fun _ => none)
  | 92 => .inl (0, 600, 0, fun _ => none)
  | 93 => .inl (0, 101, 0, fun _ => none)
  | 94 => .inl (0, 5, 0, fun _ => none)
  | 95 => .inl (2, 100, 0, fun _ => none)
  | 96 => .inl (0, 64, 0, fun _ => none)
  | 97 => .inl (0, 80, 0, fun _ => none)
  | 98 => .inl (0, 80, 0, fun _ => none)
  | 99 => .inl (0, 10, 0, fun _ => none)
  | 100 => .inl (0, 16, 0, fun _ => none)
  | 101 => .inl (0, 16, 0, fun _ => none)
  | 102 => .inl (0, 16, 0, fun _ => none)
  | 103 => .inl (0, 16, 0, fun _ => none)
  | 104 => .inl (0, 16, 0, fun _ => none)
  | 105 => .inl (1, 10, 1, fun _ => none)
  | 106 => .inl (0, 6, 0, fun _ => none)
  | 107 => .inl (0, 7, 0, fun _ => none)
  | 108 => .inl (0, 7, 0, fun _ => none)
  | 109 => .inl (0, 6, 0, fun _ => none)
  | 110 => .inl (0, 64, 0, fun _ => none)
  | 111 => .inl (0, 8, 0, fun _ => none)
  | 112 => .inl (0, 16, 0, fun _ => none)
  | 113 => .inl (0, 16, 0, fun _ => none)
  | 114 => .inl (0, 16, 0, fun _ => none)
  | 115 => .inl (0, 16, 0, fun _ => none)
  | 116 => .inl (0, 16, 0, fun _ => none)
  | 117 => .inl (0, 6, 0, fun _ => none)
  | 118 => .inl (0, 20, 0, fun _ => none)
  | 119 => .inl (0, 6, 0, fun _ => none)
  | 120 => .inl (0, 6, 0, fun _ => none)
  | 121 => .inl (1, 360, 1, fun _ => none)
  | 122 => .inl (1, 60, 1, fun _ => none)
  | _ => .inl (0, 0, 0, fun _ => none)
def zshT (k : Nat) : zS := if (k - 35) % 2 = 0 then .inr (4, [(0, 0), (0, 0), (2, k + 1)]) else .inl (1, 60, 1, fun _ => none)
def zshL (k : Nat) : zS := match (k - 47) % 5 with
  | 0 => .inr (1, [(2, k + 1), (2, k + 2), (2, k + 3), (0, 0), (2, k + 4), (0, 0)])
  | 4 => .inl (0, 100, 0, fun _ => none)
  | _ => .inl (0, 10, 0, fun _ => none)
def zsh (k : Nat) : zS := if k < 35 then zshC k else if k < 47 then zshT k else if k < 82 then zshL k else zshM k
def zws (w : zW) (I : zI) (J : zJ) : va_W := (List.range zN).map (fun a => (zad w a, zE w I J a (zsh a)))
theorem zws_at {w : zW} {I : zI} {J : zJ} {a : Nat} (h : a < zN) : (zws w I J)[a]? = some (zad w a, zE w I J a (zsh a)) := by
  simp [zws, List.getElem?_map, List.getElem?_range h]
theorem zws_of {w : zW} {I : zI} {J : zJ} {a : Nat} {q : Nat × va_E} (h : (zws w I J)[a]? = some q) : a < zN ∧ q = (zad w a, zE w I J a (zsh a)) := by
  have hl : a < (zws w I J).length := (List.getElem?_eq_some_iff.mp h).1
  have ha : a < zN := by simpa [zws] using hl
  rw [zws_at ha] at h
  exact ⟨ha, (Option.some.inj h).symm⟩
theorem zws_set {w : zW} {I I' : zI} {J J' : zJ} {a : Nat} {e : va_E} (ha : a < zN) (he : zE w I' J' a (zsh a) = e) (ho : ∀ k, k ≠ a → I' k = I k ∧ J' k = J k) : (zws w I J).set a (zad w a, e) = zws w I' J' := by
  apply List.ext_getElem?
  intro k
  by_cases hk : k = a
  · subst hk
    rw [zws_at ha, List.getElem?_set_self (by simpa [zws] using ha), he]
  · rw [List.getElem?_set_ne (Ne.symm hk)]
    by_cases hN : k < zN
    · rw [zws_at hN, zws_at hN, zE_congr (ho k hk).1 (ho k hk).2]
    · rw [List.getElem?_eq_none (by simpa [zws] using hN), List.getElem?_eq_none (by simpa [zws] using hN)]
def ztys (w : zW) : List (ClassId × FieldType) := [(w.2.1 0, .int), (w.2.1 1, .long), (w.2.1 2, .boolean), (w.2.1 3, .object "TuesdayKnew$Law"), (w.2.1 4, .object "TuesdayKnew$Tape")]
abbrev zT : List Cond := wsL_law
theorem zT_gw : wsL_law.all goodWord = true := by decide +kernel
theorem zT_self : GoodIn zT zT := fun t h => ⟨h, good_of_word (List.all_eq_true.mp zT_gw t h)⟩
def zInj (w : zW) : Prop := ∀ i j, i < zN → j < zN → zad w i = zad w j → i = j
def zFree (w : zW) : Nat → Prop := fun q => ∃ k, k < zN ∧ zad w k = q
def zst (w : zW) (k : Nat) : Nat := w.2.2.2.2.2 k
def zAbove (j : Nat) : Int32 := [-1, 0, 0, 0, 1, 3, 3].getD j 0
def zBodies (j : Nat) : Int32 := [10, 11, 12, 0, 20, 0, 30, 0, 0, 0, 0, 40, 50, 51, 0, 0, 0, 60, 71, 70, 0].getD j 0
def zTx : List String := ["way", "habit", "paper", "watch", "steps", "abslf", "<=>"]
def zTk : List Nat := [51, 53, 55, 57, 59, 92, 98]
def zLen : List Nat := [3, 5, 5, 5, 5, 5, 3]
def zByt : List (List Int32) := [[119, 97, 121], [104, 97, 98, 105, 116], [112, 97, 112, 101, 114], [119, 97, 116, 99, 104], [115, 116, 101, 112, 115], [97, 98, 115, 108, 102], [60, 61, 62]]
/-- what nobody writes: two tables, the texts, three links between mates -/
def zGG (w : zW) (A : Nat → Prop) (U : State) (H : Heap) : Prop :=
  va_Z "TuesdayKnew" "ABOVE" "[I" (.ref (zst w 0)) A U H ∧ va_T .int (zst w 0) 7 (fun j => .int (zAbove j)) A U H ∧
  va_Z "TuesdayKnew$Actor" "BODIES" "[I" (.ref (zst w 1)) A U H ∧ va_T .int (zst w 1) 21 (fun j => .int (zBodies j)) A U H ∧
  va_Nw (.fieldLinkNest "TuesdayKnew$Actor" 36 "TuesdayKnew" "ABOVE" "[I" "TuesdayKnew") U ∧
  vk_S 7 zLen zByt w.2.2.2.1 w.2.2.2.2.1 A U H ∧ (∀ i, i < 7 → vk_R "TuesdayKnew$Text" (zTk.getD i 0) (zTx.getD i "") (w.2.2.2.1 i) U) ∧
  va_Z "java/lang/String" "COMPACT_STRINGS" "Z" (.int 1) A U H ∧ va_Zq "jdk/internal/util/Preconditions" "SIOOBE_FORMATTER" "Ljava/util/function/BiFunction;" A U H
theorem zGG.kept {w : zW} {A B : Nat → Prop} {s U : State} {H : Heap} (h : zGG w A s s.heap) (hW : s.WarmedH U.vm) (hq : ∀ a : Nat, a < s.heap.size → ¬ A a → H[a]? = s.heap[a]?) (hAB : ∀ q, B q → A q) : zGG w B U H := by
  obtain ⟨h1, h2, h3, h4, h5, h6, h7, h8, h9⟩ := h
  have hv := hW.alike
  exact ⟨((h1.kept hq).narrow hAB).moved hv, ((h2.kept hq).narrow hAB).moved hv, ((h3.kept hq).narrow hAB).moved hv, ((h4.kept hq).narrow hAB).moved hv, va_Nw.warmF hW h5, ((h6.kept hq).narrow hAB).moved hv, fun i hi => (h7 i hi).warm hW, ((h8.kept hq).narrow hAB).moved hv, ((h9.kept hq).narrow hAB).moved hv⟩
theorem zGG.same {w : zW} {A : Nat → Prop} {U V : State} (h : zGG w A U U.heap) (hv : V.vm = U.vm) (hh : V.heap = U.heap) : zGG w A V V.heap := by
  obtain ⟨h1, h2, h3, h4, h5, h6, h7, h8, h9⟩ := h
  have ha : U.vm.Alike V.vm := by rw [hv]; exact Vm.Alike.refl _
  rw [hh]
  exact ⟨h1.moved ha, h2.moved ha, h3.moved ha, h4.moved ha, va_Nw.same rfl hv.symm h5, h6.moved ha, fun i hi => (h7 i hi).same hv, h8.moved ha, h9.moved ha⟩
/-- a method's start: the world, the tables -/
def zB (w : zW) (I : zI) (J : zJ) (U : State) : Prop := va_P w.1 vwCl (zws w I J) U.heap ∧ va_K w.1 vwCl (ztys w) U ∧ zGG w (zFree w) U U.heap ∧ zInj w
/-- its end: the answer, the new world -/
def zQ (w : zW) (post : Option Value → zI → zJ → Prop) (_ : Array Value) (st : State) (oc : Outcome) (t : State) : Prop := (∃ (r : Option Value) (I : zI) (J : zJ), oc = .returned r ∧ post r I J ∧ va_P w.1 vwCl (zws w I J) t.heap) ∧ va_F (zFree w) st t
def zMet (y : MethodName) (cc : ByteArray) (maxL : Nat) (ret : Option FieldType) (rm : Room) (w : zW) (As : List Value) (I : zI) (J : zJ) (post : Option Value → zI → zJ → Prop) : Prop :=
  ∀ l : Launch, Met l y (.code y cc maxL ret :: zT) rm (va_Pc As (zB w I J)) (zQ w post) 0 0 (zFree w)
abbrev zX : Type := Program × Launch × Env × Room × State × MethodId × Array Value × List Frame × Method × Code × (Nat × Nat) × (State → Prop) × (Nat → Prop)
def Z (X : zX) (w : zW) (I : zI) (J : zJ) (pc : Nat) (lv : List (Nat × Value)) (st : List Value) : Prop := match X with
  | (p, l, e, R, s, m, args, below, meth, c, (cells, slots), Q, A) => ∀ (H : Heap) (locs : List Loc) (ls : Array Slot), va_P w.1 vwCl (zws w I J) H → va_S A s.heap H locs → lv_has ls c.maxLocals lv → W p l e R s m args below meth c H locs cells slots Q (F0 m pc ls st)
def zOk (X : zX) (w : zW) (cc : ByteArray) (own : String) (rm : Room) : Prop := match X with
  | (p, _, _, R, s, m, args, _, meth, c, (cells, slots), _, A) => p.tables.exec = Jvm.exec ∧ c.code = cc ∧ (∀ t ∈ zT, t.before args s = true) ∧ s.vm.findClass own = some m.cls ∧ va_K w.1 vwCl (ztys w) s ∧ zGG w A s s.heap ∧ (∀ k, k < zN → A (zad w k)) ∧ zInj w ∧ meth.locks = false ∧ R = rm ∧ cells ≤ rm.cells ∧ slots ≤ rm.slots
def zML (X : zX) (n : Nat) : Prop := X.2.2.2.2.2.2.2.2.2.1.maxLocals = n
def zRet (X : zX) (w : zW) (ret : Option FieldType) (post : Option Value → zI → zJ → Prop) : Prop := match X with
  | (_, _, _, _, s, _, args, below, meth, _, (cells, slots), Q, A) => Q = MQ below (zQ w post) args s 0 0 (zFree w) ∧ meth.sig.returnType = ret ∧ A = zFree w ∧ cells = 0 ∧ slots = 0
theorem zD_of {w : zW} {A : Nat → Prop} {I : zI} {J : zJ} (hA : ∀ k, k < zN → A (zad w k)) (hj : zInj w) : va_D A (zws w I J) := by
  refine ⟨fun i j p q hi hk e => ?_, fun k q hk => ?_⟩
  · obtain ⟨a1, rfl⟩ := zws_of hi
    obtain ⟨a2, rfl⟩ := zws_of hk
    exact hj i j a1 a2 e
  · obtain ⟨a1, rfl⟩ := zws_of hk
    exact hA k a1
theorem zSet {w : zW} {A : Nat → Prop} {I I' : zI} {J J' : zJ} {a : Nat} {e : va_E} {H : Heap} (ha : a < zN) (he : zE w I' J' a (zsh a) = e) (ho : ∀ k, k ≠ a → I' k = I k ∧ J' k = J k) (h : va_P w.1 vwCl ((zws w I J).set a (zad w a, e)) H) : va_P w.1 vwCl (zws w I' J') H := by
  rw [zws_set ha he ho] at h; exact h
set_option maxHeartbeats 1000000 in
theorem zMet_of {y : MethodName} {cc : ByteArray} {maxL : Nat} {ret : Option FieldType} {rm : Room} {w : zW} {As : List Value} {I : zI} {J : zJ} {post : Option Value → zI → zJ → Prop} (hpl : plainName y.cls = true) (hAs : (lg_sl As).length ≤ maxL)
    (body : ∀ X : zX, zOk X w cc y.cls rm → zML X maxL → zRet X w ret post → Z X w I J 0 (lv_args 0 As) []) : zMet y cc maxL ret rm w As I J post := by
  intro l
  refine Met.ofW (cc := cc) (maxL := maxL) (ret := ret) hpl rfl ?_
  intro p e s m args below meth c s₁ B hml hv
  obtain ⟨rfl, hP, hK, hG, hj⟩ := hv
  have hts0 := atoms_spec (ws := .code y cc maxL ret :: zT) B.pre
  have hts : ∀ t ∈ zT, t.before As.toArray s = true := fun t h => hts0 t (List.mem_cons_of_mem _ h)
  have hl := lv_entry As (n := maxL) hAs
  rw [lg_entry_eq]
  rw [← hml] at hl ⊢
  exact body (p, l, e, (headSpec (.code y cc maxL ret :: zT) rm).room, s, m, As.toArray, below, meth, c, (0, 0), MQ below (zQ w post) As.toArray s 0 0 (zFree w), zFree w)
    ⟨B.exec, B.bytes, hts, findClass_of_methodNamed B.named, hK, hG, fun k hk => ⟨k, hk, rfl⟩, hj, B.notSynchronized, rfl, Nat.zero_le _, Nat.zero_le _⟩ hml ⟨rfl, B.returns, rfl, rfl, rfl⟩ s.heap [] _ hP va_S.rf hl
/-- a truth as a number -/
noncomputable def bI (p : Prop) : Int32 := @ite _ p (Classical.propDecidable p) 1 0
theorem bI_t {p : Prop} (h : p) : bI p = 1 := by unfold bI; rw [if_pos h]
theorem bI_f {p : Prop} (h : ¬ p) : bI p = 0 := by unfold bI; rw [if_neg h]
theorem bI_0 {p : Prop} : bI p = 0 ↔ ¬ p := ⟨fun h q => absurd (h.symm.trans (bI_t q)) (by decide), bI_f⟩
theorem bI_1 {p : Prop} : ¬ bI p = 0 ↔ p := ⟨fun h => Classical.not_not.mp (fun q => h (bI_f q)), fun h q => absurd (q.symm.trans (bI_t h)) (by decide)⟩
theorem bI_c {p q : Prop} (h : p ↔ q) : bI p = bI q := by rw [propext h]
theorem bI_b {p : Prop} : bI p = 0 ∨ bI p = 1 := (Classical.em p).elim (fun h => Or.inr (bI_t h)) (fun h => Or.inl (bI_f h))
def zpi (f : Int32 → zI → zJ → Prop) : Option Value → zI → zJ → Prop := fun r I J => ∃ v : Int32, r = some (.int v) ∧ f v I J
def zpl (f : Int64 → zI → zJ → Prop) : Option Value → zI → zJ → Prop := fun r I J => ∃ v : Int64, r = some (.long v) ∧ f v I J
def zpv (f : zI → zJ → Prop) : Option Value → zI → zJ → Prop := fun r I J => r = none ∧ f I J
def zpr (f : Value → zI → zJ → Prop) : Option Value → zI → zJ → Prop := fun r I J => ∃ v : Value, r = some v ∧ f v I J
section ZROWS
variable {X : zX} {w : zW} {cc : ByteArray} {own : String} {rm : Room} {I : zI} {J : zJ} {pc : Nat} {lv : List (Nat × Value)} {rest : List Value} {c0 : Nat}
/-- fewer listed values, in another order -/
theorem z_sub (ks : List Nat) {lv' : List (Nat × Value)} (h : lv_pick lv ks = lv') (k : Z X w I J pc lv' rest) : Z X w I J pc lv rest := by
  obtain ⟨p, l, e, R, s, m, args, below, meth, c, ⟨cells, slots⟩, Q, A⟩ := X
  intro H locs ls hP hS hl
  exact k H locs ls hP hS (lv_sub hl ks h)
theorem z_topi {x : Int32} (k : ∀ y : Int32, y = x → Z X w I J pc lv (.int y :: rest)) : Z X w I J pc lv (.int x :: rest) := k x rfl
theorem z_topl {x : Int64} (k : ∀ y : Int64, y = x → Z X w I J pc lv (.long y :: rest)) : Z X w I J pc lv (.long x :: rest) := k x rfl
theorem z_iconst (C : zOk X w cc own rm)  {n : Int} {v : Int32} (hdg : decode cc pc = .ok (.iconst n, 1)) (hv : Int32.ofInt n = v) (k : Z X w I J (pc + 1) lv (.int v :: rest)) : Z X w I J pc lv (rest) := by
  obtain ⟨p, l, e, R, s, m, args, below, meth, c, ⟨cells, slots⟩, Q, A⟩ := X
  obtain ⟨hx, hb, hts, hown, hK, hG, hA, hj, hlk, hR, hc1, hc2⟩ := C
  intro H locs ls hP hS hl
  exact lv_iconst hx hb hdg hv (k H locs ls hP hS hl)
theorem z_bipush (C : zOk X w cc own rm)  {n : Int} {v : Int32} (hdg : decode cc pc = .ok (.bipush n, 2)) (hv : (Int8.ofInt n).toInt32 = v) (k : Z X w I J (pc + 2) lv (.int v :: rest)) : Z X w I J pc lv (rest) := by
  obtain ⟨p, l, e, R, s, m, args, below, meth, c, ⟨cells, slots⟩, Q, A⟩ := X
  obtain ⟨hx, hb, hts, hown, hK, hG, hA, hj, hlk, hR, hc1, hc2⟩ := C
  intro H locs ls hP hS hl
  exact lv_bipush hx hb hdg hv (k H locs ls hP hS hl)
theorem z_sipush (C : zOk X w cc own rm)  {n : Int} {v : Int32} (hdg : decode cc pc = .ok (.sipush n, 3)) (hv : (Int16.ofInt n).toInt32 = v) (k : Z X w I J (pc + 3) lv (.int v :: rest)) : Z X w I J pc lv (rest) := by
  obtain ⟨p, l, e, R, s, m, args, below, meth, c, ⟨cells, slots⟩, Q, A⟩ := X
  obtain ⟨hx, hb, hts, hown, hK, hG, hA, hj, hlk, hR, hc1, hc2⟩ := C
  intro H locs ls hP hS hl
  exact lv_sipush hx hb hdg hv (k H locs ls hP hS hl)
theorem z_lconst (C : zOk X w cc own rm)  {n : Fin 2} {v : Int64} (hdg : decode cc pc = .ok (.lconst n, 1)) (hv : Int64.ofNat (n : Nat) = v) (k : Z X w I J (pc + 1) lv (.long v :: rest)) : Z X w I J pc lv (rest) := by
  obtain ⟨p, l, e, R, s, m, args, below, meth, c, ⟨cells, slots⟩, Q, A⟩ := X
  obtain ⟨hx, hb, hts, hown, hK, hG, hA, hj, hlk, hR, hc1, hc2⟩ := C
  intro H locs ls hP hS hl
  exact lv_lconst hx hb hdg hv (k H locs ls hP hS hl)
theorem z_iadd (C : zOk X w cc own rm)  {x y : Int32} (hdg : decode cc pc = .ok (.iadd, 1)) (k : Z X w I J (pc + 1) lv (.int (x + y) :: rest)) : Z X w I J pc lv (.int y :: .int x :: rest) := by
  obtain ⟨p, l, e, R, s, m, args, below, meth, c, ⟨cells, slots⟩, Q, A⟩ := X
  obtain ⟨hx, hb, hts, hown, hK, hG, hA, hj, hlk, hR, hc1, hc2⟩ := C
  intro H locs ls hP hS hl
  exact lv_iadd hx hb hdg (k H locs ls hP hS hl)
theorem z_isub (C : zOk X w cc own rm)  {x y : Int32} (hdg : decode cc pc = .ok (.isub, 1)) (k : Z X w I J (pc + 1) lv (.int (x - y) :: rest)) : Z X w I J pc lv (.int y :: .int x :: rest) := by
  obtain ⟨p, l, e, R, s, m, args, below, meth, c, ⟨cells, slots⟩, Q, A⟩ := X
  obtain ⟨hx, hb, hts, hown, hK, hG, hA, hj, hlk, hR, hc1, hc2⟩ := C
  intro H locs ls hP hS hl
  exact lv_isub hx hb hdg (k H locs ls hP hS hl)
theorem z_imul (C : zOk X w cc own rm)  {x y : Int32} (hdg : decode cc pc = .ok (.imul, 1)) (k : Z X w I J (pc + 1) lv (.int (x * y) :: rest)) : Z X w I J pc lv (.int y :: .int x :: rest) := by
  obtain ⟨p, l, e, R, s, m, args, below, meth, c, ⟨cells, slots⟩, Q, A⟩ := X
  obtain ⟨hx, hb, hts, hown, hK, hG, hA, hj, hlk, hR, hc1, hc2⟩ := C
  intro H locs ls hP hS hl
  exact lv_imul hx hb hdg (k H locs ls hP hS hl)
theorem z_iand (C : zOk X w cc own rm)  {x y : Int32} (hdg : decode cc pc = .ok (.iand, 1)) (k : Z X w I J (pc + 1) lv (.int (x &&& y) :: rest)) : Z X w I J pc lv (.int y :: .int x :: rest) := by
  obtain ⟨p, l, e, R, s, m, args, below, meth, c, ⟨cells, slots⟩, Q, A⟩ := X
  obtain ⟨hx, hb, hts, hown, hK, hG, hA, hj, hlk, hR, hc1, hc2⟩ := C
  intro H locs ls hP hS hl
  exact lv_iand hx hb hdg (k H locs ls hP hS hl)
theorem z_ior (C : zOk X w cc own rm)  {x y : Int32} (hdg : decode cc pc = .ok (.ior, 1)) (k : Z X w I J (pc + 1) lv (.int (x ||| y) :: rest)) : Z X w I J pc lv (.int y :: .int x :: rest) := by
  obtain ⟨p, l, e, R, s, m, args, below, meth, c, ⟨cells, slots⟩, Q, A⟩ := X
  obtain ⟨hx, hb, hts, hown, hK, hG, hA, hj, hlk, hR, hc1, hc2⟩ := C
  intro H locs ls hP hS hl
  exact lv_ior hx hb hdg (k H locs ls hP hS hl)
theorem z_ixor (C : zOk X w cc own rm)  {x y : Int32} (hdg : decode cc pc = .ok (.ixor, 1)) (k : Z X w I J (pc + 1) lv (.int (x ^^^ y) :: rest)) : Z X w I J pc lv (.int y :: .int x :: rest) := by
  obtain ⟨p, l, e, R, s, m, args, below, meth, c, ⟨cells, slots⟩, Q, A⟩ := X
  obtain ⟨hx, hb, hts, hown, hK, hG, hA, hj, hlk, hR, hc1, hc2⟩ := C
  intro H locs ls hP hS hl
  exact lv_ixor hx hb hdg (k H locs ls hP hS hl)
theorem z_idiv (C : zOk X w cc own rm)  {x y : Int32} (hdg : decode cc pc = .ok (.idiv, 1)) (hne : ¬ y = 0) (k : Z X w I J (pc + 1) lv (.int (x / y) :: rest)) : Z X w I J pc lv (.int y :: .int x :: rest) := by
  obtain ⟨p, l, e, R, s, m, args, below, meth, c, ⟨cells, slots⟩, Q, A⟩ := X
  obtain ⟨hx, hb, hts, hown, hK, hG, hA, hj, hlk, hR, hc1, hc2⟩ := C
  intro H locs ls hP hS hl
  exact lv_idiv hx hb hdg hne (k H locs ls hP hS hl)
theorem z_irem (C : zOk X w cc own rm)  {x y : Int32} (hdg : decode cc pc = .ok (.irem, 1)) (hne : ¬ y = 0) (k : Z X w I J (pc + 1) lv (.int (x - x / y * y) :: rest)) : Z X w I J pc lv (.int y :: .int x :: rest) := by
  obtain ⟨p, l, e, R, s, m, args, below, meth, c, ⟨cells, slots⟩, Q, A⟩ := X
  obtain ⟨hx, hb, hts, hown, hK, hG, hA, hj, hlk, hR, hc1, hc2⟩ := C
  intro H locs ls hP hS hl
  exact lv_irem hx hb hdg hne (k H locs ls hP hS hl)
theorem z_ineg (C : zOk X w cc own rm)  {x : Int32} (hdg : decode cc pc = .ok (.ineg, 1)) (k : Z X w I J (pc + 1) lv (.int (-x) :: rest)) : Z X w I J pc lv (.int x :: rest) := by
  obtain ⟨p, l, e, R, s, m, args, below, meth, c, ⟨cells, slots⟩, Q, A⟩ := X
  obtain ⟨hx, hb, hts, hown, hK, hG, hA, hj, hlk, hR, hc1, hc2⟩ := C
  intro H locs ls hP hS hl
  exact lv_ineg hx hb hdg (k H locs ls hP hS hl)
theorem z_ladd (C : zOk X w cc own rm)  {x y : Int64} (hdg : decode cc pc = .ok (.ladd, 1)) (k : Z X w I J (pc + 1) lv (.long (x + y) :: rest)) : Z X w I J pc lv (.long y :: .long x :: rest) := by
  obtain ⟨p, l, e, R, s, m, args, below, meth, c, ⟨cells, slots⟩, Q, A⟩ := X
  obtain ⟨hx, hb, hts, hown, hK, hG, hA, hj, hlk, hR, hc1, hc2⟩ := C
  intro H locs ls hP hS hl
  exact lv_ladd hx hb hdg (k H locs ls hP hS hl)
theorem z_lsub (C : zOk X w cc own rm)  {x y : Int64} (hdg : decode cc pc = .ok (.lsub, 1)) (k : Z X w I J (pc + 1) lv (.long (x - y) :: rest)) : Z X w I J pc lv (.long y :: .long x :: rest) := by
  obtain ⟨p, l, e, R, s, m, args, below, meth, c, ⟨cells, slots⟩, Q, A⟩ := X
  obtain ⟨hx, hb, hts, hown, hK, hG, hA, hj, hlk, hR, hc1, hc2⟩ := C
  intro H locs ls hP hS hl
  exact lv_lsub hx hb hdg (k H locs ls hP hS hl)
theorem z_lmul (C : zOk X w cc own rm)  {x y : Int64} (hdg : decode cc pc = .ok (.lmul, 1)) (k : Z X w I J (pc + 1) lv (.long (x * y) :: rest)) : Z X w I J pc lv (.long y :: .long x :: rest) := by
  obtain ⟨p, l, e, R, s, m, args, below, meth, c, ⟨cells, slots⟩, Q, A⟩ := X
  obtain ⟨hx, hb, hts, hown, hK, hG, hA, hj, hlk, hR, hc1, hc2⟩ := C
  intro H locs ls hP hS hl
  exact lv_lmul hx hb hdg (k H locs ls hP hS hl)
theorem z_land (C : zOk X w cc own rm)  {x y : Int64} (hdg : decode cc pc = .ok (.land, 1)) (k : Z X w I J (pc + 1) lv (.long (x &&& y) :: rest)) : Z X w I J pc lv (.long y :: .long x :: rest) := by
  obtain ⟨p, l, e, R, s, m, args, below, meth, c, ⟨cells, slots⟩, Q, A⟩ := X
  obtain ⟨hx, hb, hts, hown, hK, hG, hA, hj, hlk, hR, hc1, hc2⟩ := C
  intro H locs ls hP hS hl
  exact lv_land hx hb hdg (k H locs ls hP hS hl)
theorem z_lor (C : zOk X w cc own rm)  {x y : Int64} (hdg : decode cc pc = .ok (.lor, 1)) (k : Z X w I J (pc + 1) lv (.long (x ||| y) :: rest)) : Z X w I J pc lv (.long y :: .long x :: rest) := by
  obtain ⟨p, l, e, R, s, m, args, below, meth, c, ⟨cells, slots⟩, Q, A⟩ := X
  obtain ⟨hx, hb, hts, hown, hK, hG, hA, hj, hlk, hR, hc1, hc2⟩ := C
  intro H locs ls hP hS hl
  exact lv_lor hx hb hdg (k H locs ls hP hS hl)
theorem z_lxor (C : zOk X w cc own rm)  {x y : Int64} (hdg : decode cc pc = .ok (.lxor, 1)) (k : Z X w I J (pc + 1) lv (.long (x ^^^ y) :: rest)) : Z X w I J pc lv (.long y :: .long x :: rest) := by
  obtain ⟨p, l, e, R, s, m, args, below, meth, c, ⟨cells, slots⟩, Q, A⟩ := X
  obtain ⟨hx, hb, hts, hown, hK, hG, hA, hj, hlk, hR, hc1, hc2⟩ := C
  intro H locs ls hP hS hl
  exact lv_lxor hx hb hdg (k H locs ls hP hS hl)
theorem z_ldiv (C : zOk X w cc own rm)  {x y : Int64} (hdg : decode cc pc = .ok (.ldiv, 1)) (hne : ¬ y = 0) (k : Z X w I J (pc + 1) lv (.long (x / y) :: rest)) : Z X w I J pc lv (.long y :: .long x :: rest) := by
  obtain ⟨p, l, e, R, s, m, args, below, meth, c, ⟨cells, slots⟩, Q, A⟩ := X
  obtain ⟨hx, hb, hts, hown, hK, hG, hA, hj, hlk, hR, hc1, hc2⟩ := C
  intro H locs ls hP hS hl
  exact lv_ldiv hx hb hdg hne (k H locs ls hP hS hl)
theorem z_lrem (C : zOk X w cc own rm)  {x y : Int64} (hdg : decode cc pc = .ok (.lrem, 1)) (hne : ¬ y = 0) (k : Z X w I J (pc + 1) lv (.long (x - x / y * y) :: rest)) : Z X w I J pc lv (.long y :: .long x :: rest) := by
  obtain ⟨p, l, e, R, s, m, args, below, meth, c, ⟨cells, slots⟩, Q, A⟩ := X
  obtain ⟨hx, hb, hts, hown, hK, hG, hA, hj, hlk, hR, hc1, hc2⟩ := C
  intro H locs ls hP hS hl
  exact lv_lrem hx hb hdg hne (k H locs ls hP hS hl)
theorem z_ishl (C : zOk X w cc own rm)  {x y : Int32} (hdg : decode cc pc = .ok (.ishl, 1)) (k : Z X w I J (pc + 1) lv (.int (x <<< (y &&& 31)) :: rest)) : Z X w I J pc lv (.int y :: .int x :: rest) := by
  obtain ⟨p, l, e, R, s, m, args, below, meth, c, ⟨cells, slots⟩, Q, A⟩ := X
  obtain ⟨hx, hb, hts, hown, hK, hG, hA, hj, hlk, hR, hc1, hc2⟩ := C
  intro H locs ls hP hS hl
  exact lv_ishl hx hb hdg (k H locs ls hP hS hl)
theorem z_ishr (C : zOk X w cc own rm)  {x y : Int32} (hdg : decode cc pc = .ok (.ishr, 1)) (k : Z X w I J (pc + 1) lv (.int (x >>> (y &&& 31)) :: rest)) : Z X w I J pc lv (.int y :: .int x :: rest) := by
  obtain ⟨p, l, e, R, s, m, args, below, meth, c, ⟨cells, slots⟩, Q, A⟩ := X
  obtain ⟨hx, hb, hts, hown, hK, hG, hA, hj, hlk, hR, hc1, hc2⟩ := C
  intro H locs ls hP hS hl
  exact lv_ishr hx hb hdg (k H locs ls hP hS hl)
theorem z_i2l (C : zOk X w cc own rm)  {x : Int32} {v : Int64} (hdg : decode cc pc = .ok (.i2l, 1)) (hv : x.toInt64 = v) (k : Z X w I J (pc + 1) lv (.long v :: rest)) : Z X w I J pc lv (.int x :: rest) := by
  obtain ⟨p, l, e, R, s, m, args, below, meth, c, ⟨cells, slots⟩, Q, A⟩ := X
  obtain ⟨hx, hb, hts, hown, hK, hG, hA, hj, hlk, hR, hc1, hc2⟩ := C
  intro H locs ls hP hS hl
  exact lv_i2l hx hb hdg hv (k H locs ls hP hS hl)
theorem z_l2i (C : zOk X w cc own rm)  {x : Int64} {v : Int32} (hdg : decode cc pc = .ok (.l2i, 1)) (hv : x.toInt32 = v) (k : Z X w I J (pc + 1) lv (.int v :: rest)) : Z X w I J pc lv (.long x :: rest) := by
  obtain ⟨p, l, e, R, s, m, args, below, meth, c, ⟨cells, slots⟩, Q, A⟩ := X
  obtain ⟨hx, hb, hts, hown, hK, hG, hA, hj, hlk, hR, hc1, hc2⟩ := C
  intro H locs ls hP hS hl
  exact lv_l2i hx hb hdg hv (k H locs ls hP hS hl)
theorem z_i2b (C : zOk X w cc own rm)  {x : Int32} {v : Int32} (hdg : decode cc pc = .ok (.i2b, 1)) (hv : x.toInt8.toInt32 = v) (k : Z X w I J (pc + 1) lv (.int v :: rest)) : Z X w I J pc lv (.int x :: rest) := by
  obtain ⟨p, l, e, R, s, m, args, below, meth, c, ⟨cells, slots⟩, Q, A⟩ := X
  obtain ⟨hx, hb, hts, hown, hK, hG, hA, hj, hlk, hR, hc1, hc2⟩ := C
  intro H locs ls hP hS hl
  exact lv_i2b hx hb hdg hv (k H locs ls hP hS hl)
theorem z_i2s (C : zOk X w cc own rm)  {x : Int32} {v : Int32} (hdg : decode cc pc = .ok (.i2s, 1)) (hv : x.toInt16.toInt32 = v) (k : Z X w I J (pc + 1) lv (.int v :: rest)) : Z X w I J pc lv (.int x :: rest) := by
  obtain ⟨p, l, e, R, s, m, args, below, meth, c, ⟨cells, slots⟩, Q, A⟩ := X
  obtain ⟨hx, hb, hts, hown, hK, hG, hA, hj, hlk, hR, hc1, hc2⟩ := C
  intro H locs ls hP hS hl
  exact lv_i2s hx hb hdg hv (k H locs ls hP hS hl)
theorem z_i2c (C : zOk X w cc own rm)  {x : Int32} {v : Int32} (hdg : decode cc pc = .ok (.i2c, 1)) (hv : (x.toUInt32 % 65536).toInt32 = v) (k : Z X w I J (pc + 1) lv (.int v :: rest)) : Z X w I J pc lv (.int x :: rest) := by
  obtain ⟨p, l, e, R, s, m, args, below, meth, c, ⟨cells, slots⟩, Q, A⟩ := X
  obtain ⟨hx, hb, hts, hown, hK, hG, hA, hj, hlk, hR, hc1, hc2⟩ := C
  intro H locs ls hP hS hl
  exact lv_i2c hx hb hdg hv (k H locs ls hP hS hl)
theorem z_iushr (C : zOk X w cc own rm)  {x y v : Int32} (hdg : decode cc pc = .ok (.iushr, 1)) (hv : (x.toUInt32 >>> (y.toUInt32 &&& Int32.toUInt32 31)).toInt32 = v) (k : Z X w I J (pc + 1) lv (.int v :: rest)) : Z X w I J pc lv (.int y :: .int x :: rest) := by
  obtain ⟨p, l, e, R, s, m, args, below, meth, c, ⟨cells, slots⟩, Q, A⟩ := X
  obtain ⟨hx, hb, hts, hown, hK, hG, hA, hj, hlk, hR, hc1, hc2⟩ := C
  intro H locs ls hP hS hl
  exact lv_iushr hx hb hdg hv (k H locs ls hP hS hl)
theorem z_lshl (C : zOk X w cc own rm)  {x v : Int64} {y : Int32} (hdg : decode cc pc = .ok (.lshl, 1)) (hv : x <<< (y.toInt64 &&& 63) = v) (k : Z X w I J (pc + 1) lv (.long v :: rest)) : Z X w I J pc lv (.int y :: .long x :: rest) := by
  obtain ⟨p, l, e, R, s, m, args, below, meth, c, ⟨cells, slots⟩, Q, A⟩ := X
  obtain ⟨hx, hb, hts, hown, hK, hG, hA, hj, hlk, hR, hc1, hc2⟩ := C
  intro H locs ls hP hS hl
  exact lv_lshl hx hb hdg hv (k H locs ls hP hS hl)
theorem z_dup (C : zOk X w cc own rm)  {va : Value} (hdg : decode cc pc = .ok (.dup, 1)) (hva : va.category = 1) (k : Z X w I J (pc + 1) lv (va :: va :: rest)) : Z X w I J pc lv (va :: rest) := by
  obtain ⟨p, l, e, R, s, m, args, below, meth, c, ⟨cells, slots⟩, Q, A⟩ := X
  obtain ⟨hx, hb, hts, hown, hK, hG, hA, hj, hlk, hR, hc1, hc2⟩ := C
  intro H locs ls hP hS hl
  exact lv_dup hx hb hdg hva (k H locs ls hP hS hl)
theorem z_pop (C : zOk X w cc own rm)  {va : Value} (hdg : decode cc pc = .ok (.pop, 1)) (hva : va.category = 1) (k : Z X w I J (pc + 1) lv (rest)) : Z X w I J pc lv (va :: rest) := by
  obtain ⟨p, l, e, R, s, m, args, below, meth, c, ⟨cells, slots⟩, Q, A⟩ := X
  obtain ⟨hx, hb, hts, hown, hK, hG, hA, hj, hlk, hR, hc1, hc2⟩ := C
  intro H locs ls hP hS hl
  exact lv_pop hx hb hdg hva (k H locs ls hP hS hl)
theorem z_dup2_11 (C : zOk X w cc own rm)  {va vb : Value} (hdg : decode cc pc = .ok (.dup2, 1)) (hva : va.category = 1) (hvb : vb.category = 1) (k : Z X w I J (pc + 1) lv (va :: vb :: va :: vb :: rest)) : Z X w I J pc lv (va :: vb :: rest) := by
  obtain ⟨p, l, e, R, s, m, args, below, meth, c, ⟨cells, slots⟩, Q, A⟩ := X
  obtain ⟨hx, hb, hts, hown, hK, hG, hA, hj, hlk, hR, hc1, hc2⟩ := C
  intro H locs ls hP hS hl
  exact lv_dup2_11 hx hb hdg hva hvb (k H locs ls hP hS hl)
theorem z_lookup (C : zOk X w cc own rm)  {dflt : Int} {ps : Array (Int × Int)} {len : Nat} {x : Int32} {off : Int} {tgt : Nat} (hdg : decode cc pc = .ok (.lookupswitch dflt ps, len)) (hp : (ps.toList.zip (ps.toList.drop 1)).all (fun (a, next) => a.1 < next.1) = true) (ho : Op.lookupswitch.offset ps.toList dflt x.toInt = off) (ht : (pc : Int) + off = (tgt : Int)) (k : Z X w I J tgt lv rest) : Z X w I J pc lv (.int x :: rest) := by
  obtain ⟨p, l, e, R, s, m, args, below, meth, c, ⟨cells, slots⟩, Q, A⟩ := X
  obtain ⟨hx, hb, hts, hown, hK, hG, hA, hj, hlk, hR, hc1, hc2⟩ := C
  intro H locs ls hP hS hl
  exact lv_lookup hx hb hdg hp ho ht (k H locs ls hP hS hl)
theorem z_tableOut (C : zOk X w cc own rm)  {dflt lo hi : Int} {offs : Array Int} {len : Nat} {x : Int32} {tgt : Nat} (hdg : decode cc pc = .ok (.tableswitch dflt lo hi offs, len)) (h : x.toInt < lo ∨ hi < x.toInt) (ht : (pc : Int) + dflt = (tgt : Int)) (k : Z X w I J tgt lv rest) : Z X w I J pc lv (.int x :: rest) := by
  obtain ⟨p, l, e, R, s, m, args, below, meth, c, ⟨cells, slots⟩, Q, A⟩ := X
  obtain ⟨hx, hb, hts, hown, hK, hG, hA, hj, hlk, hR, hc1, hc2⟩ := C
  intro H locs ls hP hS hl
  exact lv_tableOut hx hb hdg h ht (k H locs ls hP hS hl)
theorem z_tableIn (C : zOk X w cc own rm)  {dflt lo hi : Int} {offs : Array Int} {len : Nat} {x : Int32} {off : Int} {tgt : Nat} (hdg : decode cc pc = .ok (.tableswitch dflt lo hi offs, len)) (h1 : ¬ x.toInt < lo) (h2 : ¬ hi < x.toInt) (ho : offs[(x.toInt - lo).toNat]? = some off) (ht : (pc : Int) + off = (tgt : Int)) (k : Z X w I J tgt lv rest) : Z X w I J pc lv (.int x :: rest) := by
  obtain ⟨p, l, e, R, s, m, args, below, meth, c, ⟨cells, slots⟩, Q, A⟩ := X
  obtain ⟨hx, hb, hts, hown, hK, hG, hA, hj, hlk, hR, hc1, hc2⟩ := C
  intro H locs ls hP hS hl
  exact lv_tableIn hx hb hdg h1 h2 ho ht (k H locs ls hP hS hl)
theorem z_goto (C : zOk X w cc own rm)  {off : Int} {tgt : Nat} (hdg : decode cc pc = .ok (.goto off, 3)) (ht : (pc : Int) + off = (tgt : Int)) (k : Z X w I J tgt lv rest) : Z X w I J pc lv rest := by
  obtain ⟨p, l, e, R, s, m, args, below, meth, c, ⟨cells, slots⟩, Q, A⟩ := X
  obtain ⟨hx, hb, hts, hown, hK, hG, hA, hj, hlk, hR, hc1, hc2⟩ := C
  intro H locs ls hP hS hl
  exact lv_goto hx hb hdg ht (k H locs ls hP hS hl)
theorem z_null (C : zOk X w cc own rm)  (hdg : decode cc pc = .ok (.aconst_null, 1)) (k : Z X w I J (pc + 1) lv (.null :: rest)) : Z X w I J pc lv rest := by
  obtain ⟨p, l, e, R, s, m, args, below, meth, c, ⟨cells, slots⟩, Q, A⟩ := X
  obtain ⟨hx, hb, hts, hown, hK, hG, hA, hj, hlk, hR, hc1, hc2⟩ := C
  intro H locs ls hP hS hl
  exact lv_null hx hb hdg (k H locs ls hP hS hl)
theorem z_ifnull (C : zOk X w cc own rm)  {x : Nat} {off : Int} (hdg : decode cc pc = .ok (.ifnull off, 3)) (k : Z X w I J (pc + 3) lv rest) : Z X w I J pc lv (.ref x :: rest) := by
  obtain ⟨p, l, e, R, s, m, args, below, meth, c, ⟨cells, slots⟩, Q, A⟩ := X
  obtain ⟨hx, hb, hts, hown, hK, hG, hA, hj, hlk, hR, hc1, hc2⟩ := C
  intro H locs ls hP hS hl
  exact lv_ifnull hx hb hdg (k H locs ls hP hS hl)
theorem z_ifnonnull (C : zOk X w cc own rm)  {x : Nat} {off : Int} {tgt : Nat} (hdg : decode cc pc = .ok (.ifnonnull off, 3)) (ht : (pc : Int) + off = (tgt : Int)) (k : Z X w I J tgt lv rest) : Z X w I J pc lv (.ref x :: rest) := by
  obtain ⟨p, l, e, R, s, m, args, below, meth, c, ⟨cells, slots⟩, Q, A⟩ := X
  obtain ⟨hx, hb, hts, hown, hK, hG, hA, hj, hlk, hR, hc1, hc2⟩ := C
  intro H locs ls hP hS hl
  exact lv_ifnonnull hx hb hdg ht (k H locs ls hP hS hl)
theorem z_ifnullN (C : zOk X w cc own rm)  {off : Int} {tgt : Nat} (hdg : decode cc pc = .ok (.ifnull off, 3)) (ht : (pc : Int) + off = (tgt : Int)) (k : Z X w I J tgt lv rest) : Z X w I J pc lv (.null :: rest) := by
  obtain ⟨p, l, e, R, s, m, args, below, meth, c, ⟨cells, slots⟩, Q, A⟩ := X
  obtain ⟨hx, hb, hts, hown, hK, hG, hA, hj, hlk, hR, hc1, hc2⟩ := C
  intro H locs ls hP hS hl
  exact lv_ifnullN hx hb hdg ht (k H locs ls hP hS hl)
theorem z_ifnonnullN (C : zOk X w cc own rm)  {off : Int} (hdg : decode cc pc = .ok (.ifnonnull off, 3)) (k : Z X w I J (pc + 3) lv rest) : Z X w I J pc lv (.null :: rest) := by
  obtain ⟨p, l, e, R, s, m, args, below, meth, c, ⟨cells, slots⟩, Q, A⟩ := X
  obtain ⟨hx, hb, hts, hown, hK, hG, hA, hj, hlk, hR, hc1, hc2⟩ := C
  intro H locs ls hP hS hl
  exact lv_ifnonnullN hx hb hdg (k H locs ls hP hS hl)
theorem z_if_eq (C : zOk X w cc own rm)  {x : Int32} {off : Int} {tgt : Nat} (hdg : decode cc pc = .ok (.ifCond .eq off, 3)) (ht : (pc : Int) + off = (tgt : Int)) (kt : x = 0 → Z X w I J tgt lv rest) (kf : ¬ x = 0 → Z X w I J (pc + 3) lv rest) : Z X w I J pc lv (.int x :: rest) := by
  obtain ⟨p, l, e, R, s, m, args, below, meth, c, ⟨cells, slots⟩, Q, A⟩ := X
  obtain ⟨hx, hb, hts, hown, hK, hG, hA, hj, hlk, hR, hc1, hc2⟩ := C
  intro H locs ls hP hS hl
  exact lv_if_eq hx hb hdg ht (fun q => kt q H locs ls hP hS hl) (fun q => kf q H locs ls hP hS hl)
theorem z_icmp_eq (C : zOk X w cc own rm)  {x y : Int32} {off : Int} {tgt : Nat} (hdg : decode cc pc = .ok (.if_icmp .eq off, 3)) (ht : (pc : Int) + off = (tgt : Int)) (kt : x = y → Z X w I J tgt lv rest) (kf : ¬ x = y → Z X w I J (pc + 3) lv rest) : Z X w I J pc lv (.int y :: .int x :: rest) := by
  obtain ⟨p, l, e, R, s, m, args, below, meth, c, ⟨cells, slots⟩, Q, A⟩ := X
  obtain ⟨hx, hb, hts, hown, hK, hG, hA, hj, hlk, hR, hc1, hc2⟩ := C
  intro H locs ls hP hS hl
  exact lv_icmp_eq hx hb hdg ht (fun q => kt q H locs ls hP hS hl) (fun q => kf q H locs ls hP hS hl)
theorem z_if_ne (C : zOk X w cc own rm)  {x : Int32} {off : Int} {tgt : Nat} (hdg : decode cc pc = .ok (.ifCond .ne off, 3)) (ht : (pc : Int) + off = (tgt : Int)) (kt : ¬ x = 0 → Z X w I J tgt lv rest) (kf : x = 0 → Z X w I J (pc + 3) lv rest) : Z X w I J pc lv (.int x :: rest) := by
  obtain ⟨p, l, e, R, s, m, args, below, meth, c, ⟨cells, slots⟩, Q, A⟩ := X
  obtain ⟨hx, hb, hts, hown, hK, hG, hA, hj, hlk, hR, hc1, hc2⟩ := C
  intro H locs ls hP hS hl
  exact lv_if_ne hx hb hdg ht (fun q => kt q H locs ls hP hS hl) (fun q => kf q H locs ls hP hS hl)
theorem z_icmp_ne (C : zOk X w cc own rm)  {x y : Int32} {off : Int} {tgt : Nat} (hdg : decode cc pc = .ok (.if_icmp .ne off, 3)) (ht : (pc : Int) + off = (tgt : Int)) (kt : ¬ x = y → Z X w I J tgt lv rest) (kf : x = y → Z X w I J (pc + 3) lv rest) : Z X w I J pc lv (.int y :: .int x :: rest) := by
  obtain ⟨p, l, e, R, s, m, args, below, meth, c, ⟨cells, slots⟩, Q, A⟩ := X
  obtain ⟨hx, hb, hts, hown, hK, hG, hA, hj, hlk, hR, hc1, hc2⟩ := C
  intro H locs ls hP hS hl
  exact lv_icmp_ne hx hb hdg ht (fun q => kt q H locs ls hP hS hl) (fun q => kf q H locs ls hP hS hl)
theorem z_if_lt (C : zOk X w cc own rm)  {x : Int32} {off : Int} {tgt : Nat} (hdg : decode cc pc = .ok (.ifCond .lt off, 3)) (ht : (pc : Int) + off = (tgt : Int)) (kt : x < 0 → Z X w I J tgt lv rest) (kf : ¬ x < 0 → Z X w I J (pc + 3) lv rest) : Z X w I J pc lv (.int x :: rest) := by
  obtain ⟨p, l, e, R, s, m, args, below, meth, c, ⟨cells, slots⟩, Q, A⟩ := X
  obtain ⟨hx, hb, hts, hown, hK, hG, hA, hj, hlk, hR, hc1, hc2⟩ := C
  intro H locs ls hP hS hl
  exact lv_if_lt hx hb hdg ht (fun q => kt q H locs ls hP hS hl) (fun q => kf q H locs ls hP hS hl)
theorem z_icmp_lt (C : zOk X w cc own rm)  {x y : Int32} {off : Int} {tgt : Nat} (hdg : decode cc pc = .ok (.if_icmp .lt off, 3)) (ht : (pc : Int) + off = (tgt : Int)) (kt : x < y → Z X w I J tgt lv rest) (kf : ¬ x < y → Z X w I J (pc + 3) lv rest) : Z X w I J pc lv (.int y :: .int x :: rest) := by
  obtain ⟨p, l, e, R, s, m, args, below, meth, c, ⟨cells, slots⟩, Q, A⟩ := X
  obtain ⟨hx, hb, hts, hown, hK, hG, hA, hj, hlk, hR, hc1, hc2⟩ := C
  intro H locs ls hP hS hl
  exact lv_icmp_lt hx hb hdg ht (fun q => kt q H locs ls hP hS hl) (fun q => kf q H locs ls hP hS hl)
theorem z_if_ge (C : zOk X w cc own rm)  {x : Int32} {off : Int} {tgt : Nat} (hdg : decode cc pc = .ok (.ifCond .ge off, 3)) (ht : (pc : Int) + off = (tgt : Int)) (kt : 0 ≤ x → Z X w I J tgt lv rest) (kf : ¬ 0 ≤ x → Z X w I J (pc + 3) lv rest) : Z X w I J pc lv (.int x :: rest) := by
  obtain ⟨p, l, e, R, s, m, args, below, meth, c, ⟨cells, slots⟩, Q, A⟩ := X
  obtain ⟨hx, hb, hts, hown, hK, hG, hA, hj, hlk, hR, hc1, hc2⟩ := C
  intro H locs ls hP hS hl
  exact lv_if_ge hx hb hdg ht (fun q => kt q H locs ls hP hS hl) (fun q => kf q H locs ls hP hS hl)
theorem z_icmp_ge (C : zOk X w cc own rm)  {x y : Int32} {off : Int} {tgt : Nat} (hdg : decode cc pc = .ok (.if_icmp .ge off, 3)) (ht : (pc : Int) + off = (tgt : Int)) (kt : y ≤ x → Z X w I J tgt lv rest) (kf : ¬ y ≤ x → Z X w I J (pc + 3) lv rest) : Z X w I J pc lv (.int y :: .int x :: rest) := by
  obtain ⟨p, l, e, R, s, m, args, below, meth, c, ⟨cells, slots⟩, Q, A⟩ := X
  obtain ⟨hx, hb, hts, hown, hK, hG, hA, hj, hlk, hR, hc1, hc2⟩ := C
  intro H locs ls hP hS hl
  exact lv_icmp_ge hx hb hdg ht (fun q => kt q H locs ls hP hS hl) (fun q => kf q H locs ls hP hS hl)
theorem z_if_gt (C : zOk X w cc own rm)  {x : Int32} {off : Int} {tgt : Nat} (hdg : decode cc pc = .ok (.ifCond .gt off, 3)) (ht : (pc : Int) + off = (tgt : Int)) (kt : 0 < x → Z X w I J tgt lv rest) (kf : ¬ 0 < x → Z X w I J (pc + 3) lv rest) : Z X w I J pc lv (.int x :: rest) := by
  obtain ⟨p, l, e, R, s, m, args, below, meth, c, ⟨cells, slots⟩, Q, A⟩ := X
  obtain ⟨hx, hb, hts, hown, hK, hG, hA, hj, hlk, hR, hc1, hc2⟩ := C
  intro H locs ls hP hS hl
  exact lv_if_gt hx hb hdg ht (fun q => kt q H locs ls hP hS hl) (fun q => kf q H locs ls hP hS hl)
theorem z_icmp_gt (C : zOk X w cc own rm)  {x y : Int32} {off : Int} {tgt : Nat} (hdg : decode cc pc = .ok (.if_icmp .gt off, 3)) (ht : (pc : Int) + off = (tgt : Int)) (kt : y < x → Z X w I J tgt lv rest) (kf : ¬ y < x → Z X w I J (pc + 3) lv rest) : Z X w I J pc lv (.int y :: .int x :: rest) := by
  obtain ⟨p, l, e, R, s, m, args, below, meth, c, ⟨cells, slots⟩, Q, A⟩ := X
  obtain ⟨hx, hb, hts, hown, hK, hG, hA, hj, hlk, hR, hc1, hc2⟩ := C
  intro H locs ls hP hS hl
  exact lv_icmp_gt hx hb hdg ht (fun q => kt q H locs ls hP hS hl) (fun q => kf q H locs ls hP hS hl)
theorem z_if_le (C : zOk X w cc own rm)  {x : Int32} {off : Int} {tgt : Nat} (hdg : decode cc pc = .ok (.ifCond .le off, 3)) (ht : (pc : Int) + off = (tgt : Int)) (kt : x ≤ 0 → Z X w I J tgt lv rest) (kf : ¬ x ≤ 0 → Z X w I J (pc + 3) lv rest) : Z X w I J pc lv (.int x :: rest) := by
  obtain ⟨p, l, e, R, s, m, args, below, meth, c, ⟨cells, slots⟩, Q, A⟩ := X
  obtain ⟨hx, hb, hts, hown, hK, hG, hA, hj, hlk, hR, hc1, hc2⟩ := C
  intro H locs ls hP hS hl
  exact lv_if_le hx hb hdg ht (fun q => kt q H locs ls hP hS hl) (fun q => kf q H locs ls hP hS hl)
theorem z_icmp_le (C : zOk X w cc own rm)  {x y : Int32} {off : Int} {tgt : Nat} (hdg : decode cc pc = .ok (.if_icmp .le off, 3)) (ht : (pc : Int) + off = (tgt : Int)) (kt : x ≤ y → Z X w I J tgt lv rest) (kf : ¬ x ≤ y → Z X w I J (pc + 3) lv rest) : Z X w I J pc lv (.int y :: .int x :: rest) := by
  obtain ⟨p, l, e, R, s, m, args, below, meth, c, ⟨cells, slots⟩, Q, A⟩ := X
  obtain ⟨hx, hb, hts, hown, hK, hG, hA, hj, hlk, hR, hc1, hc2⟩ := C
  intro H locs ls hP hS hl
  exact lv_icmp_le hx hb hdg ht (fun q => kt q H locs ls hP hS hl) (fun q => kf q H locs ls hP hS hl)
theorem z_iload_n (C : zOk X w cc own rm) {k : Fin 4} {i : Nat} {x : Int32} (hdg : decode cc pc = .ok (.iload_n k, 1)) (hi : (k : Nat) = i) (q : Nat) (hl0 : lv[q]? = some (i, .int x)) (kk : Z X w I J (pc + 1) lv (.int x :: rest)) : Z X w I J pc lv rest := by
  obtain ⟨p, l, e, R, s, m, args, below, meth, c, ⟨cells, slots⟩, Q, A⟩ := X
  obtain ⟨hx, hb, hts, hown, hK, hG, hA, hj, hlk, hR, hc1, hc2⟩ := C
  intro H locs ls hP hS hl
  exact lv_iload_n hx hb hdg hi (lv_at hl q hl0) (kk H locs ls hP hS hl)
theorem z_iload (C : zOk X w cc own rm) {i : Nat} {x : Int32} (hdg : decode cc pc = .ok (.iload i, 2)) (q : Nat) (hl0 : lv[q]? = some (i, .int x)) (kk : Z X w I J (pc + 2) lv (.int x :: rest)) : Z X w I J pc lv rest := by
  obtain ⟨p, l, e, R, s, m, args, below, meth, c, ⟨cells, slots⟩, Q, A⟩ := X
  obtain ⟨hx, hb, hts, hown, hK, hG, hA, hj, hlk, hR, hc1, hc2⟩ := C
  intro H locs ls hP hS hl
  exact lv_iload hx hb hdg (lv_at hl q hl0) (kk H locs ls hP hS hl)
theorem z_lload_n (C : zOk X w cc own rm) {k : Fin 4} {i : Nat} {x : Int64} (hdg : decode cc pc = .ok (.lload_n k, 1)) (hi : (k : Nat) = i) (q : Nat) (hl0 : lv[q]? = some (i, .long x)) (kk : Z X w I J (pc + 1) lv (.long x :: rest)) : Z X w I J pc lv rest := by
  obtain ⟨p, l, e, R, s, m, args, below, meth, c, ⟨cells, slots⟩, Q, A⟩ := X
  obtain ⟨hx, hb, hts, hown, hK, hG, hA, hj, hlk, hR, hc1, hc2⟩ := C
  intro H locs ls hP hS hl
  exact lv_lload_n hx hb hdg hi (lv_at hl q hl0) (kk H locs ls hP hS hl)
theorem z_lload (C : zOk X w cc own rm) {i : Nat} {x : Int64} (hdg : decode cc pc = .ok (.lload i, 2)) (q : Nat) (hl0 : lv[q]? = some (i, .long x)) (kk : Z X w I J (pc + 2) lv (.long x :: rest)) : Z X w I J pc lv rest := by
  obtain ⟨p, l, e, R, s, m, args, below, meth, c, ⟨cells, slots⟩, Q, A⟩ := X
  obtain ⟨hx, hb, hts, hown, hK, hG, hA, hj, hlk, hR, hc1, hc2⟩ := C
  intro H locs ls hP hS hl
  exact lv_lload hx hb hdg (lv_at hl q hl0) (kk H locs ls hP hS hl)
theorem z_aload_n (C : zOk X w cc own rm) {k : Fin 4} {i : Nat} {x : Nat} (hdg : decode cc pc = .ok (.aload_n k, 1)) (hi : (k : Nat) = i) (q : Nat) (hl0 : lv[q]? = some (i, .ref x)) (kk : Z X w I J (pc + 1) lv (.ref x :: rest)) : Z X w I J pc lv rest := by
  obtain ⟨p, l, e, R, s, m, args, below, meth, c, ⟨cells, slots⟩, Q, A⟩ := X
  obtain ⟨hx, hb, hts, hown, hK, hG, hA, hj, hlk, hR, hc1, hc2⟩ := C
  intro H locs ls hP hS hl
  exact lv_aload_n hx hb hdg hi (lv_at hl q hl0) (kk H locs ls hP hS hl)
theorem z_aload (C : zOk X w cc own rm) {i : Nat} {x : Nat} (hdg : decode cc pc = .ok (.aload i, 2)) (q : Nat) (hl0 : lv[q]? = some (i, .ref x)) (kk : Z X w I J (pc + 2) lv (.ref x :: rest)) : Z X w I J pc lv rest := by
  obtain ⟨p, l, e, R, s, m, args, below, meth, c, ⟨cells, slots⟩, Q, A⟩ := X
  obtain ⟨hx, hb, hts, hown, hK, hG, hA, hj, hlk, hR, hc1, hc2⟩ := C
  intro H locs ls hP hS hl
  exact lv_aload hx hb hdg (lv_at hl q hl0) (kk H locs ls hP hS hl)
theorem z_aload_nN (C : zOk X w cc own rm) {k : Fin 4} {i : Nat} (hdg : decode cc pc = .ok (.aload_n k, 1)) (hi : (k : Nat) = i) (q : Nat) (hl0 : lv[q]? = some (i, .null)) (kk : Z X w I J (pc + 1) lv (.null :: rest)) : Z X w I J pc lv rest := by
  obtain ⟨p, l, e, R, s, m, args, below, meth, c, ⟨cells, slots⟩, Q, A⟩ := X
  obtain ⟨hx, hb, hts, hown, hK, hG, hA, hj, hlk, hR, hc1, hc2⟩ := C
  intro H locs ls hP hS hl
  exact lv_aload_nN hx hb hdg hi (lv_at hl q hl0) (kk H locs ls hP hS hl)
theorem z_aloadN (C : zOk X w cc own rm) {i : Nat} (hdg : decode cc pc = .ok (.aload i, 2)) (q : Nat) (hl0 : lv[q]? = some (i, .null)) (kk : Z X w I J (pc + 2) lv (.null :: rest)) : Z X w I J pc lv rest := by
  obtain ⟨p, l, e, R, s, m, args, below, meth, c, ⟨cells, slots⟩, Q, A⟩ := X
  obtain ⟨hx, hb, hts, hown, hK, hG, hA, hj, hlk, hR, hc1, hc2⟩ := C
  intro H locs ls hP hS hl
  exact lv_aloadN hx hb hdg (lv_at hl q hl0) (kk H locs ls hP hS hl)
theorem z_istore_n (C : zOk X w cc own rm) (hm : zML X c0) {k : Fin 4} {i : Nat} {x : Int32} {lv' : List (Nat × Value)} (hdg : decode cc pc = .ok (.istore_n k, 1)) (hi : (k : Nat) = i) (hn : i < c0) (hl0 : (i, Value.int x) :: lv.filter (fun q : Nat × Value => !(q.1 == i) && !(q.1 + 1 == i && q.2.category == 2)) = lv') (kk : Z X w I J (pc + 1) lv' rest) : Z X w I J pc lv (.int x :: rest) := by
  obtain ⟨p, l, e, R, s, m, args, below, meth, c, ⟨cells, slots⟩, Q, A⟩ := X
  obtain ⟨hx, hb, hts, hown, hK, hG, hA, hj, hlk, hR, hc1, hc2⟩ := C
  intro H locs ls hP hS hl
  exact lv_istore_n hx hb hdg hi hl (by rw [show c.maxLocals = c0 from hm]; exact hn) hl0 (fun ls' h' => kk H locs ls' hP hS h')
theorem z_istore (C : zOk X w cc own rm) (hm : zML X c0) {i : Nat} {x : Int32} {lv' : List (Nat × Value)} (hdg : decode cc pc = .ok (.istore i, 2)) (hn : i < c0) (hl0 : (i, Value.int x) :: lv.filter (fun q : Nat × Value => !(q.1 == i) && !(q.1 + 1 == i && q.2.category == 2)) = lv') (kk : Z X w I J (pc + 2) lv' rest) : Z X w I J pc lv (.int x :: rest) := by
  obtain ⟨p, l, e, R, s, m, args, below, meth, c, ⟨cells, slots⟩, Q, A⟩ := X
  obtain ⟨hx, hb, hts, hown, hK, hG, hA, hj, hlk, hR, hc1, hc2⟩ := C
  intro H locs ls hP hS hl
  exact lv_istore hx hb hdg hl (by rw [show c.maxLocals = c0 from hm]; exact hn) hl0 (fun ls' h' => kk H locs ls' hP hS h')
theorem z_astore_n (C : zOk X w cc own rm) (hm : zML X c0) {k : Fin 4} {i : Nat} {x : Nat} {lv' : List (Nat × Value)} (hdg : decode cc pc = .ok (.astore_n k, 1)) (hi : (k : Nat) = i) (hn : i < c0) (hl0 : (i, Value.ref x) :: lv.filter (fun q : Nat × Value => !(q.1 == i) && !(q.1 + 1 == i && q.2.category == 2)) = lv') (kk : Z X w I J (pc + 1) lv' rest) : Z X w I J pc lv (.ref x :: rest) := by
  obtain ⟨p, l, e, R, s, m, args, below, meth, c, ⟨cells, slots⟩, Q, A⟩ := X
  obtain ⟨hx, hb, hts, hown, hK, hG, hA, hj, hlk, hR, hc1, hc2⟩ := C
  intro H locs ls hP hS hl
  exact lv_astore_n hx hb hdg hi hl (by rw [show c.maxLocals = c0 from hm]; exact hn) hl0 (fun ls' h' => kk H locs ls' hP hS h')
theorem z_astore (C : zOk X w cc own rm) (hm : zML X c0) {i : Nat} {x : Nat} {lv' : List (Nat × Value)} (hdg : decode cc pc = .ok (.astore i, 2)) (hn : i < c0) (hl0 : (i, Value.ref x) :: lv.filter (fun q : Nat × Value => !(q.1 == i) && !(q.1 + 1 == i && q.2.category == 2)) = lv') (kk : Z X w I J (pc + 2) lv' rest) : Z X w I J pc lv (.ref x :: rest) := by
  obtain ⟨p, l, e, R, s, m, args, below, meth, c, ⟨cells, slots⟩, Q, A⟩ := X
  obtain ⟨hx, hb, hts, hown, hK, hG, hA, hj, hlk, hR, hc1, hc2⟩ := C
  intro H locs ls hP hS hl
  exact lv_astore hx hb hdg hl (by rw [show c.maxLocals = c0 from hm]; exact hn) hl0 (fun ls' h' => kk H locs ls' hP hS h')
theorem z_lstore_n (C : zOk X w cc own rm) (hm : zML X c0) {k : Fin 4} {i : Nat} {x : Int64} {lv' : List (Nat × Value)} (hdg : decode cc pc = .ok (.lstore_n k, 1)) (hi : (k : Nat) = i) (hn : i + 1 < c0) (hl0 : (i, Value.long x) :: lv.filter (fun q : Nat × Value => !(q.1 == i) && (!(q.1 == i + 1) && !(q.1 + 1 == i && q.2.category == 2))) = lv') (kk : Z X w I J (pc + 1) lv' rest) : Z X w I J pc lv (.long x :: rest) := by
  obtain ⟨p, l, e, R, s, m, args, below, meth, c, ⟨cells, slots⟩, Q, A⟩ := X
  obtain ⟨hx, hb, hts, hown, hK, hG, hA, hj, hlk, hR, hc1, hc2⟩ := C
  intro H locs ls hP hS hl
  exact lv_lstore_n hx hb hdg hi hl (by rw [show c.maxLocals = c0 from hm]; exact hn) hl0 (fun ls' h' => kk H locs ls' hP hS h')
theorem z_lstore (C : zOk X w cc own rm) (hm : zML X c0) {i : Nat} {x : Int64} {lv' : List (Nat × Value)} (hdg : decode cc pc = .ok (.lstore i, 2)) (hn : i + 1 < c0) (hl0 : (i, Value.long x) :: lv.filter (fun q : Nat × Value => !(q.1 == i) && (!(q.1 == i + 1) && !(q.1 + 1 == i && q.2.category == 2))) = lv') (kk : Z X w I J (pc + 2) lv' rest) : Z X w I J pc lv (.long x :: rest) := by
  obtain ⟨p, l, e, R, s, m, args, below, meth, c, ⟨cells, slots⟩, Q, A⟩ := X
  obtain ⟨hx, hb, hts, hown, hK, hG, hA, hj, hlk, hR, hc1, hc2⟩ := C
  intro H locs ls hP hS hl
  exact lv_lstore hx hb hdg hl (by rw [show c.maxLocals = c0 from hm]; exact hn) hl0 (fun ls' h' => kk H locs ls' hP hS h')
theorem z_astore_nN (C : zOk X w cc own rm) (hm : zML X c0) {k : Fin 4} {i : Nat} {lv' : List (Nat × Value)} (hdg : decode cc pc = .ok (.astore_n k, 1)) (hi : (k : Nat) = i) (hn : i < c0) (hl0 : (i, Value.null) :: lv.filter (fun q : Nat × Value => !(q.1 == i) && !(q.1 + 1 == i && q.2.category == 2)) = lv') (kk : Z X w I J (pc + 1) lv' rest) : Z X w I J pc lv (.null :: rest) := by
  obtain ⟨p, l, e, R, s, m, args, below, meth, c, ⟨cells, slots⟩, Q, A⟩ := X
  obtain ⟨hx, hb, hts, hown, hK, hG, hA, hj, hlk, hR, hc1, hc2⟩ := C
  intro H locs ls hP hS hl
  exact lv_astore_nN hx hb hdg hi hl (by rw [show c.maxLocals = c0 from hm]; exact hn) hl0 (fun ls' h' => kk H locs ls' hP hS h')
theorem z_astoreN (C : zOk X w cc own rm) (hm : zML X c0) {i : Nat} {lv' : List (Nat × Value)} (hdg : decode cc pc = .ok (.astore i, 2)) (hn : i < c0) (hl0 : (i, Value.null) :: lv.filter (fun q : Nat × Value => !(q.1 == i) && !(q.1 + 1 == i && q.2.category == 2)) = lv') (kk : Z X w I J (pc + 2) lv' rest) : Z X w I J pc lv (.null :: rest) := by
  obtain ⟨p, l, e, R, s, m, args, below, meth, c, ⟨cells, slots⟩, Q, A⟩ := X
  obtain ⟨hx, hb, hts, hown, hK, hG, hA, hj, hlk, hR, hc1, hc2⟩ := C
  intro H locs ls hP hS hl
  exact lv_astoreN hx hb hdg hl (by rw [show c.maxLocals = c0 from hm]; exact hn) hl0 (fun ls' h' => kk H locs ls' hP hS h')
theorem z_iinc (C : zOk X w cc own rm) (hm : zML X c0) {i : Nat} (k : Nat) {n : Int} {x v : Int32} {lv' : List (Nat × Value)} (hdg : decode cc pc = .ok (.iinc i n, 3)) (hk : lv[k]? = some (i, .int x)) (hv : x + Int32.ofInt n = v) (hn : i < c0) (hl0 : (i, Value.int v) :: lv.filter (fun q : Nat × Value => !(q.1 == i) && !(q.1 + 1 == i && q.2.category == 2)) = lv') (kk : Z X w I J (pc + 3) lv' rest) : Z X w I J pc lv rest := by
  obtain ⟨p, l, e, R, s, m, args, below, meth, c, ⟨cells, slots⟩, Q, A⟩ := X
  obtain ⟨hx, hb, hts, hown, hK, hG, hA, hj, hlk, hR, hc1, hc2⟩ := C
  intro H locs ls hP hS hl
  exact lv_iinc hx hb hdg hl hk hv (by rw [show c.maxLocals = c0 from hm]; exact hn) hl0 (fun ls' h' => kk H locs ls' hP hS h')
theorem z_lcmp (C : zOk X w cc own rm) {x y : Int64} (hdg : decode cc pc = .ok (.lcmp, 1)) (k : Z X w I J (pc + 1) lv (.int (lg_cmp x y) :: rest)) : Z X w I J pc lv (.long y :: .long x :: rest) := by
  obtain ⟨p, l, e, R, s, m, args, below, meth, c, ⟨cells, slots⟩, Q, A⟩ := X
  obtain ⟨hx, hb, hts, hown, hK, hG, hA, hj, hlk, hR, hc1, hc2⟩ := C
  intro H locs ls hP hS hl
  exact W.lcmp hx hb hdg (k H locs ls hP hS hl)
/-- a link to a field: own place, its number, the kind, which field, its type, whether final -/
def zFd (own : String) (index ci j : Nat) (ty : FieldType) (fin : Bool) : Prop := ∃ (Cn : String) (T : u_T) (Nf : Nat) (ty0 : Nat → FieldType), vwCl[ci]? = some (Cn, T, Nf) ∧ (∀ t ∈ u_ws Cn T Nf, t ∈ zT) ∧ j < Nf ∧ Cond.fieldLink own index (T j).1 (T j).2.1 (T j).2.2.1 ∈ zT ∧ (∀ k, k < Nf → parseFieldDescriptor (T k).2.2.1 = some (ty0 k)) ∧ (∀ a, a < Nf → ∀ b, b < Nf → a ≠ b → (T a).2.1 ≠ (T b).2.1) ∧ (T j).2.2.2 = fin ∧ ty0 j = ty
theorem z_get {index ci j : Nat} {ty : FieldType} {fin : Bool} (C : zOk X w cc own rm) (F : zFd own index ci j ty fin) (a : Nat) (ha : a < zN) {fs : List (Nat × Nat)} (hs : zsh a = .inr (ci, fs)) {f : Nat × Nat} (hf : fs[j]? = some f) {v : Value} (hv : zfv w I J a j f = v) (hd : decode cc pc = .ok (.getfield index, 3)) (kk : Z X w I J (pc + 3) lv (v :: rest)) : Z X w I J pc lv (.ref (zad w a) :: rest) := by
  obtain ⟨p, l, e, R, s, m, args, below, meth, c, ⟨cells, slots⟩, Q, A⟩ := X
  obtain ⟨hx, hb, hts, hown, hK, hG, hA, hj, hlk, hR, hc1, hc2⟩ := C
  obtain ⟨Cn, T, Nf, ty0, h1, h2, h3, h4, h5, h6, h7, h8⟩ := F
  intro H locs ls hP hS hl
  refine va_get hx hb (Ts := zT) hts h2 hown hK hP a (fs := zfs w I J a 0 fs) (by rw [zws_at ha, hs]; rfl) h1 j h3 (hts _ h4) (fun _ h => h) (v := v) ?_ hd (kk H locs ls hP hS hl)
  rw [zfs_at fs 0 j hf, Nat.zero_add, hv]
theorem z_puti {index ci j : Nat} {ty : FieldType} (C : zOk X w cc own rm) (F : zFd own index ci j ty false) (a : Nat) (ha : a < zN) {fs : List (Nat × Nat)} (hs : zsh a = .inr (ci, fs)) {n0 : Nat} (hf : fs[j]? = some (0, n0)) {x : Int32} (hn : narrow ty (.int x) = .int x) (hfit : fits ty (.int x) = true) (hd : decode cc pc = .ok (.putfield index, 3)) (kk : Z X w (zup I a (upd (I a) j x)) J (pc + 3) lv rest) : Z X w I J pc lv (.int x :: .ref (zad w a) :: rest) := by
  obtain ⟨p, l, e, R, s, m, args, below, meth, c, ⟨cells, slots⟩, Q, A⟩ := X
  obtain ⟨hx, hb, hts, hown, hK, hG, hA, hj, hlk, hR, hc1, hc2⟩ := C
  obtain ⟨Cn, T, Nf, ty0, h1, h2, h3, h4, h5, h6, h7, h8⟩ := F
  intro H locs ls hP hS hl
  refine va_put hx hb (Ts := zT) hts h2 ty0 h5 h6 hown hK hP (zD_of hA hj) hS a (fs := zfs w I J a 0 fs) (by rw [zws_at ha, hs]; rfl) h1 j h3 (hts _ h4) (fun _ h => h) h7 (ty := ty) (by rw [← h8]; exact h5 j h3) hn hfit (by rw [zfs_len]; exact (List.getElem?_eq_some_iff.mp hf).1) hd (fun H1 locs1 hP1 _ hS1 => kk H1 locs1 ls (zSet (A := A) ha ?_ (fun k hk => ⟨zup_n hk, rfl⟩) hP1) hS1 hl)
  rw [hs]
  simp only [zE]
  rw [zfs_set (I := I) (J := J) fs 0 j hf (v := .int x) (by simp [zfv, zup_s, upd]) (fun i g hi _ => by simp only [Nat.zero_add, zfv, zup_s]; rw [show upd (I a) j x i = I a i from if_neg hi])]
theorem z_putl {index ci j : Nat} {ty : FieldType} (C : zOk X w cc own rm) (F : zFd own index ci j ty false) (a : Nat) (ha : a < zN) {fs : List (Nat × Nat)} (hs : zsh a = .inr (ci, fs)) {n0 : Nat} (hf : fs[j]? = some (1, n0)) {x : Int64} (hn : narrow ty (.long x) = .long x) (hfit : fits ty (.long x) = true) (hd : decode cc pc = .ok (.putfield index, 3)) (kk : Z X w I (zupJ J a (vp_updL (J a) j x)) (pc + 3) lv rest) : Z X w I J pc lv (.long x :: .ref (zad w a) :: rest) := by
  obtain ⟨p, l, e, R, s, m, args, below, meth, c, ⟨cells, slots⟩, Q, A⟩ := X
  obtain ⟨hx, hb, hts, hown, hK, hG, hA, hj, hlk, hR, hc1, hc2⟩ := C
  obtain ⟨Cn, T, Nf, ty0, h1, h2, h3, h4, h5, h6, h7, h8⟩ := F
  intro H locs ls hP hS hl
  refine va_put hx hb (Ts := zT) hts h2 ty0 h5 h6 hown hK hP (zD_of hA hj) hS a (fs := zfs w I J a 0 fs) (by rw [zws_at ha, hs]; rfl) h1 j h3 (hts _ h4) (fun _ h => h) h7 (ty := ty) (by rw [← h8]; exact h5 j h3) hn hfit (by rw [zfs_len]; exact (List.getElem?_eq_some_iff.mp hf).1) hd (fun H1 locs1 hP1 _ hS1 => kk H1 locs1 ls (zSet (A := A) ha ?_ (fun k hk => ⟨rfl, zupJ_n hk⟩) hP1) hS1 hl)
  rw [hs]
  simp only [zE]
  rw [zfs_set (I := I) (J := J) fs 0 j hf (v := .long x) (by simp [zfv, zupJ_s, vp_updL]) (fun i g hi _ => by simp only [Nat.zero_add, zfv, zupJ_s]; rw [show vp_updL (J a) j x i = J a i from if_neg hi])]
/-- a law is put where one is held -/
theorem z_puth {index ci j : Nat} {ty : FieldType} (C : zOk X w cc own rm) (F : zFd own index ci j ty false) (a : Nat) (ha : a < zN) {fs : List (Nat × Nat)} (hs : zsh a = .inr (ci, fs)) {n0 : Nat} (hf : fs[j]? = some (3, n0)) {x : Int32} {q : Nat} (hq : zad w (zhd x) = q) (hn : narrow ty (.ref q) = .ref q) (hfit : fits ty (.ref q) = true) (hd : decode cc pc = .ok (.putfield index, 3)) (kk : Z X w (zup I a (upd (I a) j x)) J (pc + 3) lv rest) : Z X w I J pc lv (.ref q :: .ref (zad w a) :: rest) := by
  obtain ⟨p, l, e, R, s, m, args, below, meth, c, ⟨cells, slots⟩, Q, A⟩ := X
  obtain ⟨hx, hb, hts, hown, hK, hG, hA, hj, hlk, hR, hc1, hc2⟩ := C
  obtain ⟨Cn, T, Nf, ty0, h1, h2, h3, h4, h5, h6, h7, h8⟩ := F
  intro H locs ls hP hS hl
  refine va_put hx hb (Ts := zT) hts h2 ty0 h5 h6 hown hK hP (zD_of hA hj) hS a (fs := zfs w I J a 0 fs) (by rw [zws_at ha, hs]; rfl) h1 j h3 (hts _ h4) (fun _ h => h) h7 (ty := ty) (by rw [← h8]; exact h5 j h3) hn hfit (by rw [zfs_len]; exact (List.getElem?_eq_some_iff.mp hf).1) hd (fun H1 locs1 hP1 _ hS1 => kk H1 locs1 ls (zSet (A := A) ha ?_ (fun k hk => ⟨zup_n hk, rfl⟩) hP1) hS1 hl)
  rw [hs]
  simp only [zE]
  rw [zfs_set (I := I) (J := J) fs 0 j hf (v := .ref q) (by simp [zfv, zup_s, upd, hq]) (fun i g hi _ => by simp only [Nat.zero_add, zfv, zup_s]; rw [show upd (I a) j x i = I a i from if_neg hi])]
theorem z_iald (C : zOk X w cc own rm) (a : Nat) (ha : a < zN) {n : Nat} {r : Nat → Option Nat} (hs : zsh a = .inl (0, n, 0, r)) (k : Nat) (hk : k < n) (hn : n < 2 ^ 31) {i : Int32} (hi : i = nI k) (hd : decode cc pc = .ok (.iaload, 1)) (kk : Z X w I J (pc + 1) lv (.int (I a k) :: rest)) : Z X w I J pc lv (.int i :: .ref (zad w a) :: rest) := by
  obtain ⟨p, l, e, R, s, m, args, below, meth, c, ⟨cells, slots⟩, Q, A⟩ := X
  obtain ⟨hx, hb, hts, hown, hK, hG, hA, hj, hlk, hR, hc1, hc2⟩ := C
  intro H locs ls hP hS hl
  subst hi
  refine va_iald hx hb hK hP a 0 (cA := w.2.1 0) (n := n) (f := I a) (by rw [zws_at ha, hs]; rfl) rfl (vp_in_nI hk hn) hd ?_
  rw [nI_clamp (by omega)]
  exact kk H locs ls hP hS hl
theorem z_zald (C : zOk X w cc own rm) (a : Nat) (ha : a < zN) {n : Nat} {r : Nat → Option Nat} (hs : zsh a = .inl (2, n, 0, r)) (k : Nat) (hk : k < n) (hn : n < 2 ^ 31) {i : Int32} (hi : i = nI k) (hd : decode cc pc = .ok (.baload, 1)) (kk : Z X w I J (pc + 1) lv (.int (I a k) :: rest)) : Z X w I J pc lv (.int i :: .ref (zad w a) :: rest) := by
  obtain ⟨p, l, e, R, s, m, args, below, meth, c, ⟨cells, slots⟩, Q, A⟩ := X
  obtain ⟨hx, hb, hts, hown, hK, hG, hA, hj, hlk, hR, hc1, hc2⟩ := C
  intro H locs ls hP hS hl
  subst hi
  refine va_zald hx hb hK hP a 2 (cA := w.2.1 2) (n := n) (f := I a) (by rw [zws_at ha, hs]; rfl) rfl (vp_in_nI hk hn) hd ?_
  rw [nI_clamp (by omega)]
  exact kk H locs ls hP hS hl
theorem z_lald (C : zOk X w cc own rm) (a : Nat) (ha : a < zN) {n : Nat} {r : Nat → Option Nat} (hs : zsh a = .inl (1, n, 1, r)) (k : Nat) (hk : k < n) (hn : n < 2 ^ 31) {i : Int32} (hi : i = nI k) (hd : decode cc pc = .ok (.laload, 1)) (kk : Z X w I J (pc + 1) lv (.long (J a k) :: rest)) : Z X w I J pc lv (.int i :: .ref (zad w a) :: rest) := by
  obtain ⟨p, l, e, R, s, m, args, below, meth, c, ⟨cells, slots⟩, Q, A⟩ := X
  obtain ⟨hx, hb, hts, hown, hK, hG, hA, hj, hlk, hR, hc1, hc2⟩ := C
  intro H locs ls hP hS hl
  subst hi
  refine va_lald hx hb hK hP a 1 (cA := w.2.1 1) (n := n) (f := J a) (by rw [zws_at ha, hs]; rfl) rfl (vp_in_nI hk hn) hd ?_
  rw [nI_clamp (by omega)]
  exact kk H locs ls hP hS hl
theorem z_iast (C : zOk X w cc own rm) (a : Nat) (ha : a < zN) {n : Nat} {r : Nat → Option Nat} (hs : zsh a = .inl (0, n, 0, r)) (k : Nat) (hk : k < n) (hn : n < 2 ^ 31) {i x : Int32} (hi : i = nI k) (hd : decode cc pc = .ok (.iastore, 1)) (kk : Z X w (zup I a (upd (I a) k x)) J (pc + 1) lv rest) : Z X w I J pc lv (.int x :: .int i :: .ref (zad w a) :: rest) := by
  obtain ⟨p, l, e, R, s, m, args, below, meth, c, ⟨cells, slots⟩, Q, A⟩ := X
  obtain ⟨hx, hb, hts, hown, hK, hG, hA, hj, hlk, hR, hc1, hc2⟩ := C
  intro H locs ls hP hS hl
  subst hi
  refine va_iast hx hb hK hP (zD_of hA hj) hS a 0 (cA := w.2.1 0) (n := n) (f := I a) (by rw [zws_at ha, hs]; rfl) rfl (vp_in_nI hk hn) hd (fun H1 locs1 hP1 _ hS1 => kk H1 locs1 ls (zSet (A := A) ha ?_ (fun k hk => ⟨zup_n hk, rfl⟩) hP1) hS1 hl)
  rw [hs, nI_clamp (by omega)]
  simp only [zE, zcont, zup_s]
theorem z_zast (C : zOk X w cc own rm) (a : Nat) (ha : a < zN) {n : Nat} {r : Nat → Option Nat} (hs : zsh a = .inl (2, n, 0, r)) (k : Nat) (hk : k < n) (hn : n < 2 ^ 31) {i x : Int32} (hi : i = nI k) (hx0 : vp_nar .boolean x = x) (hd : decode cc pc = .ok (.bastore, 1)) (kk : Z X w (zup I a (upd (I a) k x)) J (pc + 1) lv rest) : Z X w I J pc lv (.int x :: .int i :: .ref (zad w a) :: rest) := by
  obtain ⟨p, l, e, R, s, m, args, below, meth, c, ⟨cells, slots⟩, Q, A⟩ := X
  obtain ⟨hx, hb, hts, hown, hK, hG, hA, hj, hlk, hR, hc1, hc2⟩ := C
  intro H locs ls hP hS hl
  subst hi
  refine va_zast hx hb hK hP (zD_of hA hj) hS a 2 (cA := w.2.1 2) (n := n) (f := I a) (by rw [zws_at ha, hs]; rfl) rfl (vp_in_nI hk hn) hd (fun H1 locs1 hP1 _ hS1 => kk H1 locs1 ls (zSet (A := A) ha ?_ (fun k hk => ⟨zup_n hk, rfl⟩) hP1) hS1 hl)
  rw [hs, nI_clamp (by omega), hx0]
  simp only [zE, zcont, zup_s]
theorem z_last (C : zOk X w cc own rm) (a : Nat) (ha : a < zN) {n : Nat} {r : Nat → Option Nat} (hs : zsh a = .inl (1, n, 1, r)) (k : Nat) (hk : k < n) (hn : n < 2 ^ 31) {i : Int32} {x : Int64} (hi : i = nI k) (hd : decode cc pc = .ok (.lastore, 1)) (kk : Z X w I (zupJ J a (vp_updL (J a) k x)) (pc + 1) lv rest) : Z X w I J pc lv (.long x :: .int i :: .ref (zad w a) :: rest) := by
  obtain ⟨p, l, e, R, s, m, args, below, meth, c, ⟨cells, slots⟩, Q, A⟩ := X
  obtain ⟨hx, hb, hts, hown, hK, hG, hA, hj, hlk, hR, hc1, hc2⟩ := C
  intro H locs ls hP hS hl
  subst hi
  refine va_last hx hb hK hP (zD_of hA hj) hS a 1 (cA := w.2.1 1) (n := n) (f := J a) (by rw [zws_at ha, hs]; rfl) rfl (vp_in_nI hk hn) hd (fun H1 locs1 hP1 _ hS1 => kk H1 locs1 ls (zSet (A := A) ha ?_ (fun k hk => ⟨rfl, zupJ_n hk⟩) hP1) hS1 hl)
  rw [hs, nI_clamp (by omega)]
  simp only [zE, zcont, zupJ_s]
theorem z_aald (C : zOk X w cc own rm) (a : Nat) (ha : a < zN) {n : Nat} {r : Nat → Option Nat} (t : Nat) (ht : t = 3 ∨ t = 4) (hs : zsh a = .inl (t, n, 2, r)) (k : Nat) (hk : k < n) (hn : n < 2 ^ 31) {i : Int32} (hi : i = nI k) {q : Nat} (hq : r k = some q) (hd : decode cc pc = .ok (.aaload, 1)) (kk : Z X w I J (pc + 1) lv (.ref (zad w q) :: rest)) : Z X w I J pc lv (.int i :: .ref (zad w a) :: rest) := by
  obtain ⟨p, l, e, R, s, m, args, below, meth, c, ⟨cells, slots⟩, Q, A⟩ := X
  obtain ⟨hx, hb, hts, hown, hK, hG, hA, hj, hlk, hR, hc1, hc2⟩ := C
  intro H locs ls hP hS hl
  subst hi
  have key : ∀ Cn, (ztys w)[t]? = some (w.2.1 t, .object Cn) → W p l e R s m args below meth c H locs cells slots Q (F0 m pc ls (.int (nI k) :: .ref (zad w a) :: rest)) := by
    intro Cn hC
    refine va_aldq hx hb hK hP a t (cA := w.2.1 t) (n := n) (f := fun i => (r i).map (zad w)) (by rw [zws_at ha, hs]; rfl) hC (vp_in_nI hk hn) hd ?_
    rw [nI_clamp (by omega), hq]
    exact kk H locs ls hP hS hl
  rcases ht with rfl | rfl
  · exact key _ rfl
  · exact key _ rfl
theorem z_alen (C : zOk X w cc own rm) (a : Nat) (ha : a < zN) {n t kd : Nat} {r : Nat → Option Nat} (hs : zsh a = .inl (t, n, kd, r)) (ht : t < 5) {v : Int32} (hv : Int32.ofNat n = v) (hd : decode cc pc = .ok (.arraylength, 1)) (kk : Z X w I J (pc + 1) lv (.int v :: rest)) : Z X w I J pc lv (.ref (zad w a) :: rest) := by
  obtain ⟨p, l, e, R, s, m, args, below, meth, c, ⟨cells, slots⟩, Q, A⟩ := X
  obtain ⟨hx, hb, hts, hown, hK, hG, hA, hj, hlk, hR, hc1, hc2⟩ := C
  intro H locs ls hP hS hl
  obtain ⟨ty, hty⟩ : ∃ ty, (ztys w)[t]? = some (w.2.1 t, ty) := by
    match t, ht with
    | 0, _ => exact ⟨_, rfl⟩
    | 1, _ => exact ⟨_, rfl⟩
    | 2, _ => exact ⟨_, rfl⟩
    | 3, _ => exact ⟨_, rfl⟩
    | 4, _ => exact ⟨_, rfl⟩
  exact va_alen (x := (n, zcont w I J a kd r)) hx hb hK hP a t (by rw [zws_at ha, hs]; rfl) hty hv hd (kk H locs ls hP hS hl)
theorem z_ldc {index : Nat} {v : Int32} (C : zOk X w cc own rm) (h : Cond.constant own index v ∈ zT) (hd : decode cc pc = .ok (.ldc index, 2)) (kk : Z X w I J (pc + 2) lv (.int v :: rest)) : Z X w I J pc lv rest := by
  obtain ⟨p, l, e, R, s, m, args, below, meth, c, ⟨cells, slots⟩, Q, A⟩ := X
  obtain ⟨hx, hb, hts, hown, hK, hG, hA, hj, hlk, hR, hc1, hc2⟩ := C
  intro H locs ls hP hS hl
  exact lv_ldc hx hb hown (hts _ h) hd (kk H locs ls hP hS hl)
theorem z_ldcw {index : Nat} {v : Int32} (C : zOk X w cc own rm) (h : Cond.constant own index v ∈ zT) (hd : decode cc pc = .ok (.ldc_w index, 3)) (kk : Z X w I J (pc + 3) lv (.int v :: rest)) : Z X w I J pc lv rest := by
  obtain ⟨p, l, e, R, s, m, args, below, meth, c, ⟨cells, slots⟩, Q, A⟩ := X
  obtain ⟨hx, hb, hts, hown, hK, hG, hA, hj, hlk, hR, hc1, hc2⟩ := C
  intro H locs ls hP hS hl
  exact lv_ldcw hx hb hown (hts _ h) hd (kk H locs ls hP hS hl)
theorem z_ldc2 {index : Nat} {v : Int64} (C : zOk X w cc own rm) (h : Cond.constantLong own index v ∈ zT) (hd : decode cc pc = .ok (.ldc2_w index, 3)) (kk : Z X w I J (pc + 3) lv (.long v :: rest)) : Z X w I J pc lv rest := by
  obtain ⟨p, l, e, R, s, m, args, below, meth, c, ⟨cells, slots⟩, Q, A⟩ := X
  obtain ⟨hx, hb, hts, hown, hK, hG, hA, hj, hlk, hR, hc1, hc2⟩ := C
  intro H locs ls hP hS hl
  exact lv_ldc2 hx hb hown (hts _ h) hd (kk H locs ls hP hS hl)
/-- getstatic of a table, by a plain link; its items -/
theorem z_tabs {Cn n : String} {index t : Nat} (C : zOk X w cc own rm) (hT : zGG w X.2.2.2.2.2.2.2.2.2.2.2.2 X.2.2.2.2.1 X.2.2.2.2.1.heap → va_Z Cn n "[I" (.ref (zst w t)) X.2.2.2.2.2.2.2.2.2.2.2.2 X.2.2.2.2.1 X.2.2.2.2.1.heap) (hlink : Cond.fieldLink own index Cn n "[I" ∈ zT) (hd : decode cc pc = .ok (.getstatic index, 3)) (kk : Z X w I J (pc + 3) lv (.ref (zst w t) :: rest)) : Z X w I J pc lv rest := by
  obtain ⟨p, l, e, R, s, m, args, below, meth, c, ⟨cells, slots⟩, Q, A⟩ := X
  obtain ⟨hx, hb, hts, hown, hK, hG, hA, hj, hlk, hR, hc1, hc2⟩ := C
  intro H locs ls hP hS hl
  exact va_gets hx hb (hT hG) hS hown (hts _ hlink) (fun _ h => h) hd (kk H locs ls hP hS hl)
theorem z_tabN {index : Nat} (C : zOk X w cc own rm) (hT : zGG w X.2.2.2.2.2.2.2.2.2.2.2.2 X.2.2.2.2.1 X.2.2.2.2.1.heap → va_Nw (.fieldLinkNest own index "TuesdayKnew" "ABOVE" "[I" "TuesdayKnew") X.2.2.2.2.1) (hd : decode cc pc = .ok (.getstatic index, 3)) (kk : Z X w I J (pc + 3) lv (.ref (zst w 0) :: rest)) : Z X w I J pc lv rest := by
  obtain ⟨p, l, e, R, s, m, args, below, meth, c, ⟨cells, slots⟩, Q, A⟩ := X
  obtain ⟨hx, hb, hts, hown, hK, hG, hA, hj, hlk, hR, hc1, hc2⟩ := C
  intro H locs ls hP hS hl
  exact va_getsN hx hb hG.1 hS hown (va_Nw.use rfl (hT hG)) (fun _ h => h) hd (kk H locs ls hP hS hl)
theorem z_tabi {t N : Nat} {f : Nat → Int32} (C : zOk X w cc own rm) (hT : zGG w X.2.2.2.2.2.2.2.2.2.2.2.2 X.2.2.2.2.1 X.2.2.2.2.1.heap → va_T .int (zst w t) N (fun j => .int (f j)) X.2.2.2.2.2.2.2.2.2.2.2.2 X.2.2.2.2.1 X.2.2.2.2.1.heap) (k : Nat) (hk : k < N) (hN : N < 2 ^ 31) {i : Int32} (hi : i = nI k) (hd : decode cc pc = .ok (.iaload, 1)) (kk : Z X w I J (pc + 1) lv (.int (f k) :: rest)) : Z X w I J pc lv (.int i :: .ref (zst w t) :: rest) := by
  obtain ⟨p, l, e, R, s, m, args, below, meth, c, ⟨cells, slots⟩, Q, A⟩ := X
  obtain ⟨hx, hb, hts, hown, hK, hG, hA, hj, hlk, hR, hc1, hc2⟩ := C
  intro H locs ls hP hS hl
  subst hi
  exact va_ti hx hb (hT hG) hS (vp_in_nI hk hN) (by show Value.int (f (nI k).toNatClampNeg) = _; rw [nI_clamp (by omega)]) hd (kk H locs ls hP hS hl)
/-- ends -/
theorem z_iret {ty : FieldType} {post : Option Value → zI → zJ → Prop} (C : zOk X w cc own rm) (hr : zRet X w (some ty) post) {x : Int32} (hn : narrow ty (.int x) = .int x) (hd : decode cc pc = .ok (.ireturn, 1)) (h : post (some (.int x)) I J) : Z X w I J pc lv [.int x] := by
  obtain ⟨p, l, e, R, s, m, args, below, meth, c, ⟨cells, slots⟩, Q, A⟩ := X
  obtain ⟨hx, hb, hts, hown, hK, hG, hA, hj, hlk, hR, hc1, hc2⟩ := C
  obtain ⟨rfl, hrt, rfl, rfl, rfl⟩ := hr
  intro H locs ls hP hS hl
  exact W.zret hx hb hrt hn (fun t ht hW => ⟨⟨_, I, J, rfl, h, by rw [ht]; exact hP⟩, hS.F ht⟩) hS.2.2 hd hlk
theorem z_lret {post : Option Value → zI → zJ → Prop} (C : zOk X w cc own rm) (hr : zRet X w (some .long) post) {x : Int64} (hd : decode cc pc = .ok (.lreturn, 1)) (h : post (some (.long x)) I J) : Z X w I J pc lv [.long x] := by
  obtain ⟨p, l, e, R, s, m, args, below, meth, c, ⟨cells, slots⟩, Q, A⟩ := X
  obtain ⟨hx, hb, hts, hown, hK, hG, hA, hj, hlk, hR, hc1, hc2⟩ := C
  obtain ⟨rfl, hrt, rfl, rfl, rfl⟩ := hr
  intro H locs ls hP hS hl
  exact W.lret hx hb hrt (fun t ht hW => ⟨⟨_, I, J, rfl, h, by rw [ht]; exact hP⟩, hS.F ht⟩) hS.2.2 hd hlk
theorem z_vret {post : Option Value → zI → zJ → Prop} (C : zOk X w cc own rm) (hr : zRet X w none post) (hd : decode cc pc = .ok (.return_, 1)) (h : post none I J) : Z X w I J pc lv [] := by
  obtain ⟨p, l, e, R, s, m, args, below, meth, c, ⟨cells, slots⟩, Q, A⟩ := X
  obtain ⟨hx, hb, hts, hown, hK, hG, hA, hj, hlk, hR, hc1, hc2⟩ := C
  obtain ⟨rfl, hrt, rfl, rfl, rfl⟩ := hr
  intro H locs ls hP hS hl
  exact W.vret hx hb hrt (fun t ht hW => ⟨⟨_, I, J, rfl, h, by rw [ht]; exact hP⟩, hS.F ht⟩) hS.2.2 hd hlk
theorem z_aret {n : String} {post : Option Value → zI → zJ → Prop} (C : zOk X w cc own rm) (hr : zRet X w (some (.object n)) post) {v : Value} (hv : v = .null ∨ ∃ a, v = .ref a) (hd : decode cc pc = .ok (.areturn, 1)) (h : post (some v) I J) : Z X w I J pc lv [v] := by
  obtain ⟨p, l, e, R, s, m, args, below, meth, c, ⟨cells, slots⟩, Q, A⟩ := X
  obtain ⟨hx, hb, hts, hown, hK, hG, hA, hj, hlk, hR, hc1, hc2⟩ := C
  obtain ⟨rfl, hrt, rfl, rfl, rfl⟩ := hr
  intro H locs ls hP hS hl
  exact W.aret hx hb hrt (Or.inl ⟨_, rfl⟩) hv (fun t ht hW => ⟨⟨_, I, J, rfl, h, by rw [ht]; exact hP⟩, hS.F ht⟩) hS.2.2 hd hlk
/-- calls -/
def zCl (own : String) (index : Nat) (y : MethodName) (cc : ByteArray) (maxL : Nat) (ret : Option FieldType) (n : Nat) : Prop := Cond.methodLink own index y ∈ zT ∧ Cond.initialized y.cls ∈ zT ∧ Cond.code y cc maxL ret ∈ zT ∧ (y.cls ≠ "java/lang/invoke/MethodHandle" ∧ y.cls ≠ "java/lang/invoke/VarHandle" ∧ (parseMethodDescriptor y.desc).map (fun d => d.parameters.length) = some n)
theorem zT_cons {y : MethodName} {bytes : ByteArray} {maxL : Nat} {ret : Option FieldType} (h : Cond.code y bytes maxL ret ∈ zT) : GoodIn zT (.code y bytes maxL ret :: zT) := fun t ht => (List.mem_cons.mp ht).elim (fun q => q ▸ zT_self _ h) (fun q => zT_self t q)
theorem zB_blind {As : List Value} {I0 : zI} {J0 : zJ} : FrameBlind (va_Pc As (zB w I0 J0)) := fun a U g mk q => by
  obtain ⟨q0, q1, q2, q3, q4⟩ := q
  exact ⟨q0, q1, va_K.moved (u := U) (U := U.calling g mk a) (Vm.Alike.refl U.vm) q2, q3.same rfl rfl, q4⟩
theorem zB_start {p : Program} {l : Launch} {e : Env} {R : Room} {s : State} {m : MethodId} {args : Array Value} {below : List Frame} {meth : Method} {c : Code} {cells slots : Nat} {Q : State → Prop} {A : Nat → Prop} (C : zOk (p, l, e, R, s, m, args, below, meth, c, (cells, slots), Q, A) w cc own rm) {H : Heap} {locs : List Loc} (hP : va_P w.1 vwCl (zws w I J) H) (hS : va_S A s.heap H locs) {U : State} (hU : U.heap = H) (hW : s.WarmedH U.vm) : zB w I J U := by
  obtain ⟨hx, hb, hts, hown, hK, hG, hA, hj, hlk, hR, hc1, hc2⟩ := C
  refine ⟨by rw [hU]; exact hP, va_K.moved hW.alike hK, ?_, hj⟩
  rw [hU]
  exact hG.kept hW hS.2.1 (fun q ⟨k, hk, e⟩ => e ▸ hA k hk)
theorem z_run {p : Program} {l : Launch} {e : Env} {R : Room} {s : State} {m : MethodId} {args : Array Value} {below : List Frame} {meth : Method} {c : Code} {H : Heap} {locs : List Loc} {cells slots : Nat} {Q : State → Prop} {A : Nat → Prop} {ls : Array Slot} {st : List Value} {a : Array Value} {post : Option Value → zI → zJ → Prop}
    (hr : va_Run p l e R s m args below meth c H locs cells slots 0 0 (F0 m pc ls st) rest (zQ w post a) (zFree w)) (hS : va_S A s.heap H locs) (hA : ∀ q, zFree w q → A q)
    (kk : ∀ r I' J' H1 locs1, post r I' J' → va_P w.1 vwCl (zws w I' J') H1 → va_S A s.heap H1 locs1 → W p l e R s m args below meth c H1 locs1 cells slots Q (F0 m (pc + 3) ls (r.toList ++ rest))) : W p l e R s m args below meth c H locs cells slots Q (F0 m pc ls st) := by
  intro T hT X
  obtain ⟨v, st₀, t, T', L, h0, X', hL, e1, e2, ⟨⟨r, I', J', hv, hp, hb⟩, hz, hk⟩, st⟩ := hr T hT X
  cases hv
  rw [h0] at hz hk
  obtain ⟨t2, a1, b1⟩ := kk v I' J' T'.heap (locs ++ L) hp (by rw [e1]; exact hb) ⟨Nat.le_trans hS.1 (by rw [e1]; exact hz), fun q h1 h2 => by rw [e1, hk q (Nat.lt_of_lt_of_le h1 hS.1) (fun z => h2 (hA q z))]; exact hS.2.1 q h1 h2, fun q hq => by
      rcases List.mem_append.mp hq with h | h
      · exact hS.2.2 q h
      · exact hA _ (hL q h)⟩ T' rfl X'
  exact ⟨t2, st t2 a1, b1⟩
theorem z_callV {index : Nat} {y : MethodName} {bytes : ByteArray} {maxL n : Nat} {ret : Option FieldType} {rmc : Room} {post : Option Value → zI → zJ → Prop} (C : zOk X w cc own rm) (hm : zML X c0) (hc : zCl own index y bytes maxL ret n) (hv : Cond.instanceMethod y ∈ zT ∧ Cond.selects y.cls y y ∈ zT) (a : Nat) (ha : a < zN) {ci : Nat} {fs : List (Nat × Nat)} (hs : zsh a = .inr (ci, fs)) (hcl : ∃ T N, vwCl[ci]? = some (y.cls, T, N)) (As : List Value) (hn : As.length = n) {st : List Value} (hst : st = As.reverse ++ .ref (zad w a) :: rest)
    (hM : zMet y bytes maxL ret rmc w (.ref (zad w a) :: As) I J post) (hrm : rmc.cells = 0 ∧ rmc.slots = 0 ∧ rmc.frames + 1 ≤ rm.frames ∧ 8 + (maxL + 11) + rmc.locals ≤ rm.locals) (hcat : (rest.map fun v => v.category).sum ≤ 8) (hd : decode cc pc = .ok (.invokevirtual index, 3))
    (kk : ∀ r I' J', post r I' J' → Z X w I' J' (pc + 3) lv (r.toList ++ rest)) : Z X w I J pc lv st := by
  obtain ⟨p, l, e, R, s, m, args, below, meth, c, ⟨cells, slots⟩, Q, A⟩ := X
  have C' := C
  obtain ⟨hx, hb, hts, hown, hK, hG, hA, hj, hlk, hR, hc1, hc2⟩ := C
  obtain ⟨g1, g2, g3, g4⟩ := hc
  obtain ⟨T, N, hcl⟩ := hcl
  intro H locs ls hP hS hl
  subst hR
  have hsz : ls.size = c0 := hl.1.trans hm
  refine z_run (va_runV (C := y.cls) (Ts := zT) (As := As) (rest := rest) (n := n) (nL := c0) ⟨hx, hb, hm, hown, hts⟩ (hM l) ⟨callB_of n hts (zT_cons g3) rfl hrm.1 hrm.2.1 (hts _ g2) (hts _ g1) g4 hrm.2.2, hts _ hv.1, hts _ hv.2⟩ ⟨zB_blind, ?_, fun U hU hW => ⟨rfl, zB_start C' hP hS hU hW⟩⟩ rfl hn hsz hst (lv_room hcat) hd ⟨hc1, hc2⟩) hS (fun q ⟨k, hk, e⟩ => e ▸ hA k hk) (fun r I' J' H1 locs1 hp hP1 hS1 => kk r I' J' hp H1 locs1 ls hP1 hS1 hl)
  exact va_recv hK hP (ci := ci) (q0 := a) (q := (y.cls, T, N)) hcl (fs := zfs w I J a 0 fs) (by rw [zws_at ha, hs]; rfl)
theorem z_callS {index : Nat} {y : MethodName} {bytes : ByteArray} {maxL n : Nat} {ret : Option FieldType} {rmc : Room} {post : Option Value → zI → zJ → Prop} (C : zOk X w cc own rm) (hm : zML X c0) (hc : zCl own index y bytes maxL ret n) (hv : Cond.static y ∈ zT) (As : List Value) (hn : As.length = n) {st : List Value} (hst : st = As.reverse ++ rest)
    (hM : zMet y bytes maxL ret rmc w As I J post) (hrm : rmc.cells = 0 ∧ rmc.slots = 0 ∧ rmc.frames + 1 ≤ rm.frames ∧ 8 + (maxL + 11) + rmc.locals ≤ rm.locals) (hcat : (rest.map fun v => v.category).sum ≤ 8) (hd : decode cc pc = .ok (.invokestatic index, 3))
    (kk : ∀ r I' J', post r I' J' → Z X w I' J' (pc + 3) lv (r.toList ++ rest)) : Z X w I J pc lv st := by
  obtain ⟨p, l, e, R, s, m, args, below, meth, c, ⟨cells, slots⟩, Q, A⟩ := X
  have C' := C
  obtain ⟨hx, hb, hts, hown, hK, hG, hA, hj, hlk, hR, hc1, hc2⟩ := C
  obtain ⟨g1, g2, g3, g4⟩ := hc
  intro H locs ls hP hS hl
  subst hR
  have hsz : ls.size = c0 := hl.1.trans hm
  exact z_run (va_runS (Ts := zT) (As := As) (rest := rest) (n := n) (nL := c0) ⟨hx, hb, hm, hown, hts⟩ (hM l) ⟨callB_of n hts (zT_cons g3) rfl hrm.1 hrm.2.1 (hts _ g2) (hts _ g1) g4 hrm.2.2, hts _ hv⟩ ⟨zB_blind, fun U hU hW => ⟨rfl, zB_start C' hP hS hU hW⟩⟩ rfl hn hsz hst (lv_room hcat) hd ⟨hc1, hc2⟩) hS (fun q ⟨k, hk, e⟩ => e ▸ hA k hk) (fun r I' J' H1 locs1 hp hP1 hS1 => kk r I' J' hp H1 locs1 ls hP1 hS1 hl)
/-- Math.max and min -/
theorem z_max {index : Nat} (C : zOk X w cc own rm) (hm : zML X c0) (h1 : Cond.methodLink own index Lib.Math.max.name ∈ zT) (h2 : Cond.static Lib.Math.max.name ∈ zT) (h3 : Cond.initialized "java/lang/Math" ∈ zT) (h4 : Cond.code Lib.Math.max.name Lib.Math.max.code 2 (some .int) ∈ zT) (hf : 1 ≤ rm.frames) (hlo : (rest.map fun v => v.category).sum + 13 ≤ rm.locals) {x y : Int32} (hd : decode cc pc = .ok (.invokestatic index, 3)) (kk : Z X w I J (pc + 3) lv (.int (if x < y then y else x) :: rest)) : Z X w I J pc lv (.int y :: .int x :: rest) := by
  obtain ⟨p, l, e, R, s, m, args, below, meth, c, ⟨cells, slots⟩, Q, A⟩ := X
  obtain ⟨hx, hb, hts, hown, hK, hG, hA, hj, hlk, hR, hc1, hc2⟩ := C
  intro H locs ls hP hS hl
  subst hR
  exact va_mmax hx hb hl.1.symm hown (hts _ h1) (hts _ h2) (hts _ h3) (hts _ h4) hf hlo hc1 hc2 hd (kk H locs ls hP hS hl)
theorem z_min {index : Nat} (C : zOk X w cc own rm) (hm : zML X c0) (h1 : Cond.methodLink own index Lib.Math.min.name ∈ zT) (h2 : Cond.static Lib.Math.min.name ∈ zT) (h3 : Cond.initialized "java/lang/Math" ∈ zT) (h4 : Cond.code Lib.Math.min.name Lib.Math.min.code 2 (some .int) ∈ zT) (hf : 1 ≤ rm.frames) (hlo : (rest.map fun v => v.category).sum + 13 ≤ rm.locals) {x y : Int32} (hd : decode cc pc = .ok (.invokestatic index, 3)) (kk : Z X w I J (pc + 3) lv (.int (if y < x then y else x) :: rest)) : Z X w I J pc lv (.int y :: .int x :: rest) := by
  obtain ⟨p, l, e, R, s, m, args, below, meth, c, ⟨cells, slots⟩, Q, A⟩ := X
  obtain ⟨hx, hb, hts, hown, hK, hG, hA, hj, hlk, hR, hc1, hc2⟩ := C
  intro H locs ls hP hS hl
  subst hR
  exact va_mmin hx hb hl.1.symm hown (hts _ h1) (hts _ h2) (hts _ h3) (hts _ h4) hf hlo hc1 hc2 hd (kk H locs ls hP hS hl)
theorem z_minl {index : Nat} (C : zOk X w cc own rm) (hm : zML X c0) (h1 : Cond.methodLink own index Lib.MathLoose.min_long.x ∈ zT) (h2 : Cond.static Lib.MathLoose.min_long.x ∈ zT) (h3 : Cond.initialized "java/lang/Math" ∈ zT) (h4 : Cond.code Lib.MathLoose.min_long.x Lib.MathLoose.min_long.code 4 (some .long) ∈ zT) (hf : 1 ≤ rm.frames) (hlo : (rest.map fun v => v.category).sum + 15 ≤ rm.locals) {x y : Int64} (hd : decode cc pc = .ok (.invokestatic index, 3)) (kk : Z X w I J (pc + 3) lv (.long (if y < x then y else x) :: rest)) : Z X w I J pc lv (.long y :: .long x :: rest) := by
  obtain ⟨p, l, e, R, s, m, args, below, meth, c, ⟨cells, slots⟩, Q, A⟩ := X
  obtain ⟨hx, hb, hts, hown, hK, hG, hA, hj, hlk, hR, hc1, hc2⟩ := C
  intro H locs ls hP hS hl
  subst hR
  exact va_mmin_long hx hb hl.1.symm hown (hts _ h1) (hts _ h2) (hts _ h3) (hts _ h4) hf hlo hc1 hc2 hd (kk H locs ls hP hS hl)
/-- System.arraycopy of ints, of longs -/
theorem z_copyi {index : Nat} (C : zOk X w cc own rm) (h1 : Cond.methodLink own index arraycopyName ∈ zT) (h2 : Cond.native arraycopyName ∈ zT) (h3 : Cond.static arraycopyName ∈ zT) (h4 : Cond.initialized "java/lang/System" ∈ zT) (a0 a : Nat) (ha0 : a0 < zN) (ha : a < zN) {n0 n1 : Nat} {r0 r1 : Nat → Option Nat} (hs0 : zsh a0 = .inl (0, n0, 0, r0)) (hs1 : zsh a = .inl (0, n1, 0, r1)) {sp dp n : Int32} (sp' dp' n' : Nat) (e1 : sp = nI sp') (e2 : dp = nI dp') (e3 : n = nI n') (b1 : sp' + n' ≤ n0) (b2 : dp' + n' ≤ n1) (b3 : n0 < 2 ^ 31) (b4 : n1 < 2 ^ 31)
    (hf : 1 ≤ rm.frames) (hlo : (rest.map fun v => v.category).sum + (nativeFrameWords "java/lang/System" "arraycopy" 5 + 11) ≤ rm.locals) (hd : decode cc pc = .ok (.invokestatic index, 3)) (kk : Z X w (zup I a (va_cpy (I a0) (I a) sp' dp' n')) J (pc + 3) lv rest) : Z X w I J pc lv (.int n :: .int dp :: .ref (zad w a) :: .int sp :: .ref (zad w a0) :: rest) := by
  obtain ⟨p, l, e, R, s, m, args, below, meth, c, ⟨cells, slots⟩, Q, A⟩ := X
  obtain ⟨hx, hb, hts, hown, hK, hG, hA, hj, hlk, hR, hc1, hc2⟩ := C
  intro H locs ls hP hS hl
  subst hR; subst e1; subst e2; subst e3
  refine va_copyi hx hb hl.1.symm hown (hts _ h1) (hts _ h2) (hts _ h3) (hts _ h4) hK hP (zD_of hA hj) hS a0 a 0 0 (a0 := zad w a0) (a := zad w a) (c0 := w.2.1 0) (c1 := w.2.1 0) (n0 := n0) (n1 := n1) (f := I a0) (g := I a) (ty := .int) (by rw [zws_at ha0, hs0]; rfl) (by rw [zws_at ha, hs1]; rfl) rfl rfl rfl (nI_pos (by omega)) (nI_pos (by omega)) (nI_pos (by omega)) (by rw [nI_clamp (by omega), nI_clamp (by omega)]; exact b1) (by rw [nI_clamp (by omega), nI_clamp (by omega)]; exact b2) (fun _ _ => rfl) hf hlo hd (fun H1 locs1 hP1 _ hS1 => kk H1 locs1 ls (zSet (A := A) ha ?_ (fun k hk => ⟨zup_n hk, rfl⟩) hP1) hS1 hl)
  rw [hs1, nI_clamp (by omega), nI_clamp (by omega), nI_clamp (by omega)]
  simp only [zE, zcont, zup_s]
theorem z_copyl {index : Nat} (C : zOk X w cc own rm) (h1 : Cond.methodLink own index arraycopyName ∈ zT) (h2 : Cond.native arraycopyName ∈ zT) (h3 : Cond.static arraycopyName ∈ zT) (h4 : Cond.initialized "java/lang/System" ∈ zT) (a0 a : Nat) (ha0 : a0 < zN) (ha : a < zN) {n0 n1 : Nat} {r0 r1 : Nat → Option Nat} (hs0 : zsh a0 = .inl (1, n0, 1, r0)) (hs1 : zsh a = .inl (1, n1, 1, r1)) {sp dp n : Int32} (sp' dp' n' : Nat) (e1 : sp = nI sp') (e2 : dp = nI dp') (e3 : n = nI n') (b1 : sp' + n' ≤ n0) (b2 : dp' + n' ≤ n1) (b3 : n0 < 2 ^ 31) (b4 : n1 < 2 ^ 31)
    (hf : 1 ≤ rm.frames) (hlo : (rest.map fun v => v.category).sum + (nativeFrameWords "java/lang/System" "arraycopy" 5 + 11) ≤ rm.locals) (hd : decode cc pc = .ok (.invokestatic index, 3)) (kk : Z X w I (zupJ J a (va_cpy (J a0) (J a) sp' dp' n')) (pc + 3) lv rest) : Z X w I J pc lv (.int n :: .int dp :: .ref (zad w a) :: .int sp :: .ref (zad w a0) :: rest) := by
  obtain ⟨p, l, e, R, s, m, args, below, meth, c, ⟨cells, slots⟩, Q, A⟩ := X
  obtain ⟨hx, hb, hts, hown, hK, hG, hA, hj, hlk, hR, hc1, hc2⟩ := C
  intro H locs ls hP hS hl
  subst hR; subst e1; subst e2; subst e3
  refine va_copyl hx hb hl.1.symm hown (hts _ h1) (hts _ h2) (hts _ h3) (hts _ h4) hK hP (zD_of hA hj) hS a0 a 1 1 (a0 := zad w a0) (a := zad w a) (c0 := w.2.1 1) (c1 := w.2.1 1) (n0 := n0) (n1 := n1) (f := J a0) (g := J a) (ty := .long) (by rw [zws_at ha0, hs0]; rfl) (by rw [zws_at ha, hs1]; rfl) rfl rfl rfl (nI_pos (by omega)) (nI_pos (by omega)) (nI_pos (by omega)) (by rw [nI_clamp (by omega), nI_clamp (by omega)]; exact b1) (by rw [nI_clamp (by omega), nI_clamp (by omega)]; exact b2) (fun _ _ => rfl) hf hlo hd (fun H1 locs1 hP1 _ hS1 => kk H1 locs1 ls (zSet (A := A) ha ?_ (fun k hk => ⟨rfl, zupJ_n hk⟩) hP1) hS1 hl)
  rw [hs1, nI_clamp (by omega), nI_clamp (by omega), nI_clamp (by omega)]
  simp only [zE, zcont, zupJ_s]
/-- reads by the field's sort -/
theorem z_geti {index ci j : Nat} {ty : FieldType} {fin : Bool} (C : zOk X w cc own rm) (F : zFd own index ci j ty fin) (a : Nat) (ha : a < zN) {fs : List (Nat × Nat)} (hs : zsh a = .inr (ci, fs)) (hf : fs[j]? = some (0, 0)) {v : Int32} (hv : I a j = v) (hd : decode cc pc = .ok (.getfield index, 3)) (kk : Z X w I J (pc + 3) lv (.int v :: rest)) : Z X w I J pc lv (.ref (zad w a) :: rest) := z_get C F a ha hs hf (by rw [← hv]; rfl) hd kk
theorem z_getl {index ci j : Nat} {ty : FieldType} {fin : Bool} (C : zOk X w cc own rm) (F : zFd own index ci j ty fin) (a : Nat) (ha : a < zN) {fs : List (Nat × Nat)} (hs : zsh a = .inr (ci, fs)) (hf : fs[j]? = some (1, 0)) {v : Int64} (hv : J a j = v) (hd : decode cc pc = .ok (.getfield index, 3)) (kk : Z X w I J (pc + 3) lv (.long v :: rest)) : Z X w I J pc lv (.ref (zad w a) :: rest) := z_get C F a ha hs hf (by rw [← hv]; rfl) hd kk
theorem z_getr {index ci j : Nat} {ty : FieldType} {fin : Bool} (C : zOk X w cc own rm) (F : zFd own index ci j ty fin) (a : Nat) (ha : a < zN) {fs : List (Nat × Nat)} (hs : zsh a = .inr (ci, fs)) {q : Nat} (hf : fs[j]? = some (2, q)) (hd : decode cc pc = .ok (.getfield index, 3)) (kk : Z X w I J (pc + 3) lv (.ref (zad w q) :: rest)) : Z X w I J pc lv (.ref (zad w a) :: rest) := z_get C F a ha hs hf rfl hd kk
theorem z_geth {index ci j : Nat} {ty : FieldType} {fin : Bool} (C : zOk X w cc own rm) (F : zFd own index ci j ty fin) (a : Nat) (ha : a < zN) {fs : List (Nat × Nat)} (hs : zsh a = .inr (ci, fs)) (hf : fs[j]? = some (3, 0)) {q : Nat} (hq : zhd (I a j) = q) (hd : decode cc pc = .ok (.getfield index, 3)) (kk : Z X w I J (pc + 3) lv (.ref (zad w q) :: rest)) : Z X w I J pc lv (.ref (zad w a) :: rest) := z_get C F a ha hs hf (by rw [← hq]; rfl) hd kk
/-- the same state under another name -/
theorem z_I {I' : zI} (h : I = I') (k : Z X w I' J pc lv rest) : Z X w I J pc lv rest := by subst h; exact k
theorem z_J {J' : zJ} (h : J = J') (k : Z X w I J' pc lv rest) : Z X w I J pc lv rest := by subst h; exact k
theorem z_ti {x y : Int32} (h : x = y) (k : Z X w I J pc lv (.int y :: rest)) : Z X w I J pc lv (.int x :: rest) := by subst h; exact k
theorem z_tl {x y : Int64} (h : x = y) (k : Z X w I J pc lv (.long y :: rest)) : Z X w I J pc lv (.long x :: rest) := by subst h; exact k
/-- answers by sort -/
theorem z_callVi {index : Nat} {y : MethodName} {bytes : ByteArray} {maxL n : Nat} {ret : Option FieldType} {rmc : Room} {f : Int32 → zI → zJ → Prop} (C : zOk X w cc own rm) (hm : zML X c0) (hc : zCl own index y bytes maxL ret n) (hv : Cond.instanceMethod y ∈ zT ∧ Cond.selects y.cls y y ∈ zT) (a : Nat) (ha : a < zN) {ci : Nat} {fs : List (Nat × Nat)} (hs : zsh a = .inr (ci, fs)) (hcl : ∃ T N, vwCl[ci]? = some (y.cls, T, N)) (As : List Value) (hn : As.length = n) {st : List Value} (hst : st = As.reverse ++ .ref (zad w a) :: rest)
    (hM : zMet y bytes maxL ret rmc w (.ref (zad w a) :: As) I J (zpi f)) (hrm : rmc.cells = 0 ∧ rmc.slots = 0 ∧ rmc.frames + 1 ≤ rm.frames ∧ 8 + (maxL + 11) + rmc.locals ≤ rm.locals) (hcat : (rest.map fun v => v.category).sum ≤ 8) (hd : decode cc pc = .ok (.invokevirtual index, 3))
    (kk : ∀ v I' J', f v I' J' → Z X w I' J' (pc + 3) lv (.int v :: rest)) : Z X w I J pc lv st := z_callV C hm hc hv a ha hs hcl As hn hst hM hrm hcat hd (fun r I' J' ⟨v, e, h⟩ => by subst e; exact kk v I' J' h)
theorem z_callVl {index : Nat} {y : MethodName} {bytes : ByteArray} {maxL n : Nat} {ret : Option FieldType} {rmc : Room} {f : Int64 → zI → zJ → Prop} (C : zOk X w cc own rm) (hm : zML X c0) (hc : zCl own index y bytes maxL ret n) (hv : Cond.instanceMethod y ∈ zT ∧ Cond.selects y.cls y y ∈ zT) (a : Nat) (ha : a < zN) {ci : Nat} {fs : List (Nat × Nat)} (hs : zsh a = .inr (ci, fs)) (hcl : ∃ T N, vwCl[ci]? = some (y.cls, T, N)) (As : List Value) (hn : As.length = n) {st : List Value} (hst : st = As.reverse ++ .ref (zad w a) :: rest)
    (hM : zMet y bytes maxL ret rmc w (.ref (zad w a) :: As) I J (zpl f)) (hrm : rmc.cells = 0 ∧ rmc.slots = 0 ∧ rmc.frames + 1 ≤ rm.frames ∧ 8 + (maxL + 11) + rmc.locals ≤ rm.locals) (hcat : (rest.map fun v => v.category).sum ≤ 8) (hd : decode cc pc = .ok (.invokevirtual index, 3))
    (kk : ∀ v I' J', f v I' J' → Z X w I' J' (pc + 3) lv (.long v :: rest)) : Z X w I J pc lv st := z_callV C hm hc hv a ha hs hcl As hn hst hM hrm hcat hd (fun r I' J' ⟨v, e, h⟩ => by subst e; exact kk v I' J' h)
theorem z_callVv {index : Nat} {y : MethodName} {bytes : ByteArray} {maxL n : Nat} {ret : Option FieldType} {rmc : Room} {f : zI → zJ → Prop} (C : zOk X w cc own rm) (hm : zML X c0) (hc : zCl own index y bytes maxL ret n) (hv : Cond.instanceMethod y ∈ zT ∧ Cond.selects y.cls y y ∈ zT) (a : Nat) (ha : a < zN) {ci : Nat} {fs : List (Nat × Nat)} (hs : zsh a = .inr (ci, fs)) (hcl : ∃ T N, vwCl[ci]? = some (y.cls, T, N)) (As : List Value) (hn : As.length = n) {st : List Value} (hst : st = As.reverse ++ .ref (zad w a) :: rest)
    (hM : zMet y bytes maxL ret rmc w (.ref (zad w a) :: As) I J (zpv f)) (hrm : rmc.cells = 0 ∧ rmc.slots = 0 ∧ rmc.frames + 1 ≤ rm.frames ∧ 8 + (maxL + 11) + rmc.locals ≤ rm.locals) (hcat : (rest.map fun v => v.category).sum ≤ 8) (hd : decode cc pc = .ok (.invokevirtual index, 3))
    (kk : ∀ I' J', f I' J' → Z X w I' J' (pc + 3) lv rest) : Z X w I J pc lv st := z_callV C hm hc hv a ha hs hcl As hn hst hM hrm hcat hd (fun r I' J' ⟨e, h⟩ => by subst e; exact kk I' J' h)
theorem z_callVr {index : Nat} {y : MethodName} {bytes : ByteArray} {maxL n : Nat} {ret : Option FieldType} {rmc : Room} {f : Value → zI → zJ → Prop} (C : zOk X w cc own rm) (hm : zML X c0) (hc : zCl own index y bytes maxL ret n) (hv : Cond.instanceMethod y ∈ zT ∧ Cond.selects y.cls y y ∈ zT) (a : Nat) (ha : a < zN) {ci : Nat} {fs : List (Nat × Nat)} (hs : zsh a = .inr (ci, fs)) (hcl : ∃ T N, vwCl[ci]? = some (y.cls, T, N)) (As : List Value) (hn : As.length = n) {st : List Value} (hst : st = As.reverse ++ .ref (zad w a) :: rest)
    (hM : zMet y bytes maxL ret rmc w (.ref (zad w a) :: As) I J (zpr f)) (hrm : rmc.cells = 0 ∧ rmc.slots = 0 ∧ rmc.frames + 1 ≤ rm.frames ∧ 8 + (maxL + 11) + rmc.locals ≤ rm.locals) (hcat : (rest.map fun v => v.category).sum ≤ 8) (hd : decode cc pc = .ok (.invokevirtual index, 3))
    (kk : ∀ v I' J', f v I' J' → Z X w I' J' (pc + 3) lv (v :: rest)) : Z X w I J pc lv st := z_callV C hm hc hv a ha hs hcl As hn hst hM hrm hcat hd (fun r I' J' ⟨v, e, h⟩ => by subst e; exact kk v I' J' h)
theorem z_callSi {index : Nat} {y : MethodName} {bytes : ByteArray} {maxL n : Nat} {ret : Option FieldType} {rmc : Room} {f : Int32 → zI → zJ → Prop} (C : zOk X w cc own rm) (hm : zML X c0) (hc : zCl own index y bytes maxL ret n) (hv : Cond.static y ∈ zT) (As : List Value) (hn : As.length = n) {st : List Value} (hst : st = As.reverse ++ rest)
    (hM : zMet y bytes maxL ret rmc w As I J (zpi f)) (hrm : rmc.cells = 0 ∧ rmc.slots = 0 ∧ rmc.frames + 1 ≤ rm.frames ∧ 8 + (maxL + 11) + rmc.locals ≤ rm.locals) (hcat : (rest.map fun v => v.category).sum ≤ 8) (hd : decode cc pc = .ok (.invokestatic index, 3))
    (kk : ∀ v I' J', f v I' J' → Z X w I' J' (pc + 3) lv (.int v :: rest)) : Z X w I J pc lv st := z_callS C hm hc hv As hn hst hM hrm hcat hd (fun r I' J' ⟨v, e, h⟩ => by subst e; exact kk v I' J' h)
theorem z_callSl {index : Nat} {y : MethodName} {bytes : ByteArray} {maxL n : Nat} {ret : Option FieldType} {rmc : Room} {f : Int64 → zI → zJ → Prop} (C : zOk X w cc own rm) (hm : zML X c0) (hc : zCl own index y bytes maxL ret n) (hv : Cond.static y ∈ zT) (As : List Value) (hn : As.length = n) {st : List Value} (hst : st = As.reverse ++ rest)
    (hM : zMet y bytes maxL ret rmc w As I J (zpl f)) (hrm : rmc.cells = 0 ∧ rmc.slots = 0 ∧ rmc.frames + 1 ≤ rm.frames ∧ 8 + (maxL + 11) + rmc.locals ≤ rm.locals) (hcat : (rest.map fun v => v.category).sum ≤ 8) (hd : decode cc pc = .ok (.invokestatic index, 3))
    (kk : ∀ v I' J', f v I' J' → Z X w I' J' (pc + 3) lv (.long v :: rest)) : Z X w I J pc lv st := z_callS C hm hc hv As hn hst hM hrm hcat hd (fun r I' J' ⟨v, e, h⟩ => by subst e; exact kk v I' J' h)
theorem z_callSv {index : Nat} {y : MethodName} {bytes : ByteArray} {maxL n : Nat} {ret : Option FieldType} {rmc : Room} {f : zI → zJ → Prop} (C : zOk X w cc own rm) (hm : zML X c0) (hc : zCl own index y bytes maxL ret n) (hv : Cond.static y ∈ zT) (As : List Value) (hn : As.length = n) {st : List Value} (hst : st = As.reverse ++ rest)
    (hM : zMet y bytes maxL ret rmc w As I J (zpv f)) (hrm : rmc.cells = 0 ∧ rmc.slots = 0 ∧ rmc.frames + 1 ≤ rm.frames ∧ 8 + (maxL + 11) + rmc.locals ≤ rm.locals) (hcat : (rest.map fun v => v.category).sum ≤ 8) (hd : decode cc pc = .ok (.invokestatic index, 3))
    (kk : ∀ I' J', f I' J' → Z X w I' J' (pc + 3) lv rest) : Z X w I J pc lv st := z_callS C hm hc hv As hn hst hM hrm hcat hd (fun r I' J' ⟨e, h⟩ => by subst e; exact kk I' J' h)
theorem z_callSr {index : Nat} {y : MethodName} {bytes : ByteArray} {maxL n : Nat} {ret : Option FieldType} {rmc : Room} {f : Value → zI → zJ → Prop} (C : zOk X w cc own rm) (hm : zML X c0) (hc : zCl own index y bytes maxL ret n) (hv : Cond.static y ∈ zT) (As : List Value) (hn : As.length = n) {st : List Value} (hst : st = As.reverse ++ rest)
    (hM : zMet y bytes maxL ret rmc w As I J (zpr f)) (hrm : rmc.cells = 0 ∧ rmc.slots = 0 ∧ rmc.frames + 1 ≤ rm.frames ∧ 8 + (maxL + 11) + rmc.locals ≤ rm.locals) (hcat : (rest.map fun v => v.category).sum ≤ 8) (hd : decode cc pc = .ok (.invokestatic index, 3))
    (kk : ∀ v I' J', f v I' J' → Z X w I' J' (pc + 3) lv (v :: rest)) : Z X w I J pc lv st := z_callS C hm hc hv As hn hst hM hrm hcat hd (fun r I' J' ⟨v, e, h⟩ => by subst e; exact kk v I' J' h)
/-- branches: on a truth told as a number; on numbers told as naturals -/
theorem z_ifeq_b {P : Prop} {off : Int} {tgt : Nat} (C : zOk X w cc own rm) (hd : decode cc pc = .ok (.ifCond .eq off, 3)) (ht : (pc : Int) + off = (tgt : Int)) (kt : ¬ P → Z X w I J tgt lv rest) (kf : P → Z X w I J (pc + 3) lv rest) : Z X w I J pc lv (.int (bI P) :: rest) := z_if_eq C hd ht (fun h => kt (bI_0.mp h)) (fun h => kf (bI_1.mp h))
theorem z_ifne_b {P : Prop} {off : Int} {tgt : Nat} (C : zOk X w cc own rm) (hd : decode cc pc = .ok (.ifCond .ne off, 3)) (ht : (pc : Int) + off = (tgt : Int)) (kt : P → Z X w I J tgt lv rest) (kf : ¬ P → Z X w I J (pc + 3) lv rest) : Z X w I J pc lv (.int (bI P) :: rest) := z_if_ne C hd ht (fun h => kt (bI_1.mp h)) (fun h => kf (bI_0.mp h))
theorem z_icmp_eq_n (a b : Nat) {off : Int} {tgt : Nat} (C : zOk X w cc own rm) {x y : Int32} (hx : x = nI a) (hy : y = nI b) (ha : a < 2 ^ 31) (hb : b < 2 ^ 31) (hd : decode cc pc = .ok (.if_icmp .eq off, 3)) (ht : (pc : Int) + off = (tgt : Int)) (kt : a = b → Z X w I J tgt lv rest) (kf : a ≠ b → Z X w I J (pc + 3) lv rest) : Z X w I J pc lv (.int y :: .int x :: rest) := by
  subst hx; subst hy
  refine z_icmp_eq C hd ht (fun h => kt ?_) (fun h => kf ?_)
  · first | exact (nI_eq ha hb).mp h | exact fun q => h (by rw [q]) | exact (nI_ltI ha hb).mp h | exact (nI_ltI hb ha).mp h | exact (nI_leI ha hb).mp h | exact (nI_leI hb ha).mp h
  · first | exact (nI_eq ha hb).mp h | exact fun q => h (by rw [q]) | exact Classical.not_not.mp (fun q => h (fun z => q ((nI_eq ha hb).mp z))) | exact Nat.not_lt.mp (fun q => h ((nI_ltI ha hb).mpr q)) | exact Nat.not_lt.mp (fun q => h ((nI_ltI hb ha).mpr q)) | exact Nat.not_le.mp (fun q => h ((nI_leI ha hb).mpr q)) | exact Nat.not_le.mp (fun q => h ((nI_leI hb ha).mpr q))
theorem z_icmp_ne_n (a b : Nat) {off : Int} {tgt : Nat} (C : zOk X w cc own rm) {x y : Int32} (hx : x = nI a) (hy : y = nI b) (ha : a < 2 ^ 31) (hb : b < 2 ^ 31) (hd : decode cc pc = .ok (.if_icmp .ne off, 3)) (ht : (pc : Int) + off = (tgt : Int)) (kt : a ≠ b → Z X w I J tgt lv rest) (kf : a = b → Z X w I J (pc + 3) lv rest) : Z X w I J pc lv (.int y :: .int x :: rest) := by
  subst hx; subst hy
  refine z_icmp_ne C hd ht (fun h => kt ?_) (fun h => kf ?_)
  · first | exact (nI_eq ha hb).mp h | exact fun q => h (by rw [q]) | exact (nI_ltI ha hb).mp h | exact (nI_ltI hb ha).mp h | exact (nI_leI ha hb).mp h | exact (nI_leI hb ha).mp h
  · first | exact (nI_eq ha hb).mp h | exact fun q => h (by rw [q]) | exact Classical.not_not.mp (fun q => h (fun z => q ((nI_eq ha hb).mp z))) | exact Nat.not_lt.mp (fun q => h ((nI_ltI ha hb).mpr q)) | exact Nat.not_lt.mp (fun q => h ((nI_ltI hb ha).mpr q)) | exact Nat.not_le.mp (fun q => h ((nI_leI ha hb).mpr q)) | exact Nat.not_le.mp (fun q => h ((nI_leI hb ha).mpr q))
theorem z_icmp_lt_n (a b : Nat) {off : Int} {tgt : Nat} (C : zOk X w cc own rm) {x y : Int32} (hx : x = nI a) (hy : y = nI b) (ha : a < 2 ^ 31) (hb : b < 2 ^ 31) (hd : decode cc pc = .ok (.if_icmp .lt off, 3)) (ht : (pc : Int) + off = (tgt : Int)) (kt : a < b → Z X w I J tgt lv rest) (kf : b ≤ a → Z X w I J (pc + 3) lv rest) : Z X w I J pc lv (.int y :: .int x :: rest) := by
  subst hx; subst hy
  refine z_icmp_lt C hd ht (fun h => kt ?_) (fun h => kf ?_)
  · first | exact (nI_eq ha hb).mp h | exact fun q => h (by rw [q]) | exact (nI_ltI ha hb).mp h | exact (nI_ltI hb ha).mp h | exact (nI_leI ha hb).mp h | exact (nI_leI hb ha).mp h
  · first | exact (nI_eq ha hb).mp h | exact fun q => h (by rw [q]) | exact Classical.not_not.mp (fun q => h (fun z => q ((nI_eq ha hb).mp z))) | exact Nat.not_lt.mp (fun q => h ((nI_ltI ha hb).mpr q)) | exact Nat.not_lt.mp (fun q => h ((nI_ltI hb ha).mpr q)) | exact Nat.not_le.mp (fun q => h ((nI_leI ha hb).mpr q)) | exact Nat.not_le.mp (fun q => h ((nI_leI hb ha).mpr q))
theorem z_icmp_ge_n (a b : Nat) {off : Int} {tgt : Nat} (C : zOk X w cc own rm) {x y : Int32} (hx : x = nI a) (hy : y = nI b) (ha : a < 2 ^ 31) (hb : b < 2 ^ 31) (hd : decode cc pc = .ok (.if_icmp .ge off, 3)) (ht : (pc : Int) + off = (tgt : Int)) (kt : b ≤ a → Z X w I J tgt lv rest) (kf : a < b → Z X w I J (pc + 3) lv rest) : Z X w I J pc lv (.int y :: .int x :: rest) := by
  subst hx; subst hy
  refine z_icmp_ge C hd ht (fun h => kt ?_) (fun h => kf ?_)
  · first | exact (nI_eq ha hb).mp h | exact fun q => h (by rw [q]) | exact (nI_ltI ha hb).mp h | exact (nI_ltI hb ha).mp h | exact (nI_leI ha hb).mp h | exact (nI_leI hb ha).mp h
  · first | exact (nI_eq ha hb).mp h | exact fun q => h (by rw [q]) | exact Classical.not_not.mp (fun q => h (fun z => q ((nI_eq ha hb).mp z))) | exact Nat.not_lt.mp (fun q => h ((nI_ltI ha hb).mpr q)) | exact Nat.not_lt.mp (fun q => h ((nI_ltI hb ha).mpr q)) | exact Nat.not_le.mp (fun q => h ((nI_leI ha hb).mpr q)) | exact Nat.not_le.mp (fun q => h ((nI_leI hb ha).mpr q))
theorem z_icmp_gt_n (a b : Nat) {off : Int} {tgt : Nat} (C : zOk X w cc own rm) {x y : Int32} (hx : x = nI a) (hy : y = nI b) (ha : a < 2 ^ 31) (hb : b < 2 ^ 31) (hd : decode cc pc = .ok (.if_icmp .gt off, 3)) (ht : (pc : Int) + off = (tgt : Int)) (kt : b < a → Z X w I J tgt lv rest) (kf : a ≤ b → Z X w I J (pc + 3) lv rest) : Z X w I J pc lv (.int y :: .int x :: rest) := by
  subst hx; subst hy
  refine z_icmp_gt C hd ht (fun h => kt ?_) (fun h => kf ?_)
  · first | exact (nI_eq ha hb).mp h | exact fun q => h (by rw [q]) | exact (nI_ltI ha hb).mp h | exact (nI_ltI hb ha).mp h | exact (nI_leI ha hb).mp h | exact (nI_leI hb ha).mp h
  · first | exact (nI_eq ha hb).mp h | exact fun q => h (by rw [q]) | exact Classical.not_not.mp (fun q => h (fun z => q ((nI_eq ha hb).mp z))) | exact Nat.not_lt.mp (fun q => h ((nI_ltI ha hb).mpr q)) | exact Nat.not_lt.mp (fun q => h ((nI_ltI hb ha).mpr q)) | exact Nat.not_le.mp (fun q => h ((nI_leI ha hb).mpr q)) | exact Nat.not_le.mp (fun q => h ((nI_leI hb ha).mpr q))
theorem z_icmp_le_n (a b : Nat) {off : Int} {tgt : Nat} (C : zOk X w cc own rm) {x y : Int32} (hx : x = nI a) (hy : y = nI b) (ha : a < 2 ^ 31) (hb : b < 2 ^ 31) (hd : decode cc pc = .ok (.if_icmp .le off, 3)) (ht : (pc : Int) + off = (tgt : Int)) (kt : a ≤ b → Z X w I J tgt lv rest) (kf : b < a → Z X w I J (pc + 3) lv rest) : Z X w I J pc lv (.int y :: .int x :: rest) := by
  subst hx; subst hy
  refine z_icmp_le C hd ht (fun h => kt ?_) (fun h => kf ?_)
  · first | exact (nI_eq ha hb).mp h | exact fun q => h (by rw [q]) | exact (nI_ltI ha hb).mp h | exact (nI_ltI hb ha).mp h | exact (nI_leI ha hb).mp h | exact (nI_leI hb ha).mp h
  · first | exact (nI_eq ha hb).mp h | exact fun q => h (by rw [q]) | exact Classical.not_not.mp (fun q => h (fun z => q ((nI_eq ha hb).mp z))) | exact Nat.not_lt.mp (fun q => h ((nI_ltI ha hb).mpr q)) | exact Nat.not_lt.mp (fun q => h ((nI_ltI hb ha).mpr q)) | exact Nat.not_le.mp (fun q => h ((nI_leI ha hb).mpr q)) | exact Nat.not_le.mp (fun q => h ((nI_leI hb ha).mpr q))
end ZROWS
end
section
theorem zz_look : True := trivial
end
