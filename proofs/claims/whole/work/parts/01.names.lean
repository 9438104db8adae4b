-- ===== PART A: goes FIRST, ahead of the names: the tables' words, and 'selects' of the private methods out of them =====
/-- a private method of a class that the tables say can be made, by its rows of tables_1 -/
def lw_okq (q : MethodName × Nat) : Prop := (q.1.cls ≠ "java/lang/invoke/MethodHandle" ∧ q.1.cls ≠ "java/lang/invoke/VarHandle") ∧ Cond.instantiable q.1.cls q.2 ∈ tables_1 ∧ Cond.privateMethod q.1 ∈ tables_1 ∧ Cond.instanceMethod q.1 ∈ tables_1
theorem lw_p0 : lw_okq (⟨"ToldMeThat", "newHearer", "(III)LToldMeThat$Hearer;"⟩, 16) := ⟨⟨by decide +kernel, by decide +kernel⟩, List.mem_of_getElem? (i := 22) (by decide +kernel), List.mem_of_getElem? (i := 234) (by decide +kernel), List.mem_of_getElem? (i := 235) (by decide +kernel)⟩
theorem lw_p1 : lw_okq (⟨"ToldMeThat", "hearerAt", "(I)LToldMeThat$Hearer;"⟩, 16) := ⟨⟨by decide +kernel, by decide +kernel⟩, List.mem_of_getElem? (i := 22) (by decide +kernel), List.mem_of_getElem? (i := 350) (by decide +kernel), List.mem_of_getElem? (i := 351) (by decide +kernel)⟩
theorem lw_p2 : lw_okq (⟨"ToldMeThat", "isStory", "(I)Z"⟩, 16) := ⟨⟨by decide +kernel, by decide +kernel⟩, List.mem_of_getElem? (i := 22) (by decide +kernel), List.mem_of_getElem? (i := 354) (by decide +kernel), List.mem_of_getElem? (i := 355) (by decide +kernel)⟩
theorem lw_p3 : lw_okq (⟨"ToldMeThat", "timesOf", "(II)I"⟩, 16) := ⟨⟨by decide +kernel, by decide +kernel⟩, List.mem_of_getElem? (i := 22) (by decide +kernel), List.mem_of_getElem? (i := 358) (by decide +kernel), List.mem_of_getElem? (i := 359) (by decide +kernel)⟩
theorem lw_p4 : lw_okq (⟨"ToldMeThat", "knowersThen", "(III)I"⟩, 16) := ⟨⟨by decide +kernel, by decide +kernel⟩, List.mem_of_getElem? (i := 22) (by decide +kernel), List.mem_of_getElem? (i := 362) (by decide +kernel), List.mem_of_getElem? (i := 363) (by decide +kernel)⟩
theorem lw_p5 : lw_okq (⟨"ToldMeThat", "knowsThen", "(LToldMeThat$Hearer;III)Z"⟩, 16) := ⟨⟨by decide +kernel, by decide +kernel⟩, List.mem_of_getElem? (i := 22) (by decide +kernel), List.mem_of_getElem? (i := 369) (by decide +kernel), List.mem_of_getElem? (i := 370) (by decide +kernel)⟩
theorem lw_p6 : lw_okq (⟨"ToldMeThat", "daysTold", "()I"⟩, 16) := ⟨⟨by decide +kernel, by decide +kernel⟩, List.mem_of_getElem? (i := 22) (by decide +kernel), List.mem_of_getElem? (i := 373) (by decide +kernel), List.mem_of_getElem? (i := 374) (by decide +kernel)⟩
theorem lw_p7 : lw_okq (⟨"ToldMeThat", "holding", "()LToldMeThat$House;"⟩, 16) := ⟨⟨by decide +kernel, by decide +kernel⟩, List.mem_of_getElem? (i := 22) (by decide +kernel), List.mem_of_getElem? (i := 377) (by decide +kernel), List.mem_of_getElem? (i := 378) (by decide +kernel)⟩
theorem lw_p8 : lw_okq (⟨"ToldMeThat", "moodThen", "(LToldMeThat$Hearer;III)I"⟩, 16) := ⟨⟨by decide +kernel, by decide +kernel⟩, List.mem_of_getElem? (i := 22) (by decide +kernel), List.mem_of_getElem? (i := 398) (by decide +kernel), List.mem_of_getElem? (i := 399) (by decide +kernel)⟩
theorem lw_p9 : lw_okq (⟨"ToldMeThat$House", "holds", "(I[I)Z"⟩, 8) := ⟨⟨by decide +kernel, by decide +kernel⟩, List.mem_of_getElem? (i := 119) (by decide +kernel), List.mem_of_getElem? (i := 409) (by decide +kernel), List.mem_of_getElem? (i := 410) (by decide +kernel)⟩
theorem lw_p10 : lw_okq (⟨"ToldMeThat", "setHad", "(III)V"⟩, 16) := ⟨⟨by decide +kernel, by decide +kernel⟩, List.mem_of_getElem? (i := 22) (by decide +kernel), List.mem_of_getElem? (i := 425) (by decide +kernel), List.mem_of_getElem? (i := 426) (by decide +kernel)⟩
theorem lw_p11 : lw_okq (⟨"ToldMeThat$House", "learnClause", "()Z"⟩, 8) := ⟨⟨by decide +kernel, by decide +kernel⟩, List.mem_of_getElem? (i := 119) (by decide +kernel), List.mem_of_getElem? (i := 446) (by decide +kernel), List.mem_of_getElem? (i := 447) (by decide +kernel)⟩
theorem lw_p12 : lw_okq (⟨"ToldMeThat$House", "goByWord", "()I"⟩, 8) := ⟨⟨by decide +kernel, by decide +kernel⟩, List.mem_of_getElem? (i := 119) (by decide +kernel), List.mem_of_getElem? (i := 450) (by decide +kernel), List.mem_of_getElem? (i := 451) (by decide +kernel)⟩
theorem lw_p13 : lw_okq (⟨"ToldMeThat$House", "alike", "(Ljava/lang/String;)I"⟩, 8) := ⟨⟨by decide +kernel, by decide +kernel⟩, List.mem_of_getElem? (i := 119) (by decide +kernel), List.mem_of_getElem? (i := 461) (by decide +kernel), List.mem_of_getElem? (i := 462) (by decide +kernel)⟩
theorem lw_p14 : lw_okq (⟨"ToldMeThat$House", "signAt", "(I)I"⟩, 8) := ⟨⟨by decide +kernel, by decide +kernel⟩, List.mem_of_getElem? (i := 119) (by decide +kernel), List.mem_of_getElem? (i := 475) (by decide +kernel), List.mem_of_getElem? (i := 476) (by decide +kernel)⟩
theorem lw_p15 : lw_okq (⟨"ToldMeThat$House", "goBy", "(I)Z"⟩, 8) := ⟨⟨by decide +kernel, by decide +kernel⟩, List.mem_of_getElem? (i := 119) (by decide +kernel), List.mem_of_getElem? (i := 520) (by decide +kernel), List.mem_of_getElem? (i := 521) (by decide +kernel)⟩
def lw_privs_1 : List (MethodName × Nat) := [(⟨"ToldMeThat", "newHearer", "(III)LToldMeThat$Hearer;"⟩, 16), (⟨"ToldMeThat", "hearerAt", "(I)LToldMeThat$Hearer;"⟩, 16), (⟨"ToldMeThat", "isStory", "(I)Z"⟩, 16), (⟨"ToldMeThat", "timesOf", "(II)I"⟩, 16), (⟨"ToldMeThat", "knowersThen", "(III)I"⟩, 16), (⟨"ToldMeThat", "knowsThen", "(LToldMeThat$Hearer;III)Z"⟩, 16), (⟨"ToldMeThat", "daysTold", "()I"⟩, 16), (⟨"ToldMeThat", "holding", "()LToldMeThat$House;"⟩, 16), (⟨"ToldMeThat", "moodThen", "(LToldMeThat$Hearer;III)I"⟩, 16), (⟨"ToldMeThat$House", "holds", "(I[I)Z"⟩, 8), (⟨"ToldMeThat", "setHad", "(III)V"⟩, 16), (⟨"ToldMeThat$House", "learnClause", "()Z"⟩, 8), (⟨"ToldMeThat$House", "goByWord", "()I"⟩, 8), (⟨"ToldMeThat$House", "alike", "(Ljava/lang/String;)I"⟩, 8), (⟨"ToldMeThat$House", "signAt", "(I)I"⟩, 8), (⟨"ToldMeThat$House", "goBy", "(I)Z"⟩, 8)]
theorem lw_r1 : ∀ q ∈ lw_privs_1, lw_okq q := List.forall_mem_cons.mpr ⟨lw_p0, List.forall_mem_cons.mpr ⟨lw_p1, List.forall_mem_cons.mpr ⟨lw_p2, List.forall_mem_cons.mpr ⟨lw_p3, List.forall_mem_cons.mpr ⟨lw_p4, List.forall_mem_cons.mpr ⟨lw_p5, List.forall_mem_cons.mpr ⟨lw_p6, List.forall_mem_cons.mpr ⟨lw_p7, List.forall_mem_cons.mpr ⟨lw_p8, List.forall_mem_cons.mpr ⟨lw_p9, List.forall_mem_cons.mpr ⟨lw_p10, List.forall_mem_cons.mpr ⟨lw_p11, List.forall_mem_cons.mpr ⟨lw_p12, List.forall_mem_cons.mpr ⟨lw_p13, List.forall_mem_cons.mpr ⟨lw_p14, List.forall_mem_cons.mpr ⟨lw_p15, fun _ h => absurd h List.not_mem_nil⟩⟩⟩⟩⟩⟩⟩⟩⟩⟩⟩⟩⟩⟩⟩⟩
theorem lw_p16 : lw_okq (⟨"ToldMeThat$House", "goByNumber", "()I"⟩, 8) := ⟨⟨by decide +kernel, by decide +kernel⟩, List.mem_of_getElem? (i := 119) (by decide +kernel), List.mem_of_getElem? (i := 524) (by decide +kernel), List.mem_of_getElem? (i := 525) (by decide +kernel)⟩
theorem lw_p17 : lw_okq (⟨"ToldMeThat$House", "learnEither", "(I)Z"⟩, 8) := ⟨⟨by decide +kernel, by decide +kernel⟩, List.mem_of_getElem? (i := 119) (by decide +kernel), List.mem_of_getElem? (i := 528) (by decide +kernel), List.mem_of_getElem? (i := 529) (by decide +kernel)⟩
theorem lw_p18 : lw_okq (⟨"ToldMeThat$House", "learnBoth", "(I)Z"⟩, 8) := ⟨⟨by decide +kernel, by decide +kernel⟩, List.mem_of_getElem? (i := 119) (by decide +kernel), List.mem_of_getElem? (i := 532) (by decide +kernel), List.mem_of_getElem? (i := 533) (by decide +kernel)⟩
theorem lw_p19 : lw_okq (⟨"ToldMeThat$House", "learnPart", "(I)Z"⟩, 8) := ⟨⟨by decide +kernel, by decide +kernel⟩, List.mem_of_getElem? (i := 119) (by decide +kernel), List.mem_of_getElem? (i := 536) (by decide +kernel), List.mem_of_getElem? (i := 537) (by decide +kernel)⟩
theorem lw_p20 : lw_okq (⟨"ToldMeThat$House", "add", "(II)Z"⟩, 8) := ⟨⟨by decide +kernel, by decide +kernel⟩, List.mem_of_getElem? (i := 119) (by decide +kernel), List.mem_of_getElem? (i := 540) (by decide +kernel), List.mem_of_getElem? (i := 541) (by decide +kernel)⟩
theorem lw_p21 : lw_okq (⟨"ToldMeThat$House", "goByOneOf", "(Ljava/lang/String;)I"⟩, 8) := ⟨⟨by decide +kernel, by decide +kernel⟩, List.mem_of_getElem? (i := 119) (by decide +kernel), List.mem_of_getElem? (i := 545) (by decide +kernel), List.mem_of_getElem? (i := 546) (by decide +kernel)⟩
theorem lw_p22 : lw_okq (⟨"ToldMeThat", "faceTold", "()I"⟩, 16) := ⟨⟨by decide +kernel, by decide +kernel⟩, List.mem_of_getElem? (i := 22) (by decide +kernel), List.mem_of_getElem? (i := 554) (by decide +kernel), List.mem_of_getElem? (i := 555) (by decide +kernel)⟩
theorem lw_p23 : lw_okq (⟨"ToldMeThat", "isTable", "(I)Z"⟩, 16) := ⟨⟨by decide +kernel, by decide +kernel⟩, List.mem_of_getElem? (i := 22) (by decide +kernel), List.mem_of_getElem? (i := 566) (by decide +kernel), List.mem_of_getElem? (i := 567) (by decide +kernel)⟩
theorem lw_p24 : lw_okq (⟨"ToldMeThat", "everybody", "()I"⟩, 16) := ⟨⟨by decide +kernel, by decide +kernel⟩, List.mem_of_getElem? (i := 22) (by decide +kernel), List.mem_of_getElem? (i := 570) (by decide +kernel), List.mem_of_getElem? (i := 571) (by decide +kernel)⟩
theorem lw_p25 : lw_okq (⟨"ToldMeThat", "laughter", "(II)I"⟩, 16) := ⟨⟨by decide +kernel, by decide +kernel⟩, List.mem_of_getElem? (i := 22) (by decide +kernel), List.mem_of_getElem? (i := 574) (by decide +kernel), List.mem_of_getElem? (i := 575) (by decide +kernel)⟩
theorem lw_p26 : lw_okq (⟨"ToldMeThat", "laughterThen", "(IIIII)I"⟩, 16) := ⟨⟨by decide +kernel, by decide +kernel⟩, List.mem_of_getElem? (i := 22) (by decide +kernel), List.mem_of_getElem? (i := 578) (by decide +kernel), List.mem_of_getElem? (i := 579) (by decide +kernel)⟩
theorem lw_p27 : lw_okq (⟨"ToldMeThat", "laughThen", "(IIIII)I"⟩, 16) := ⟨⟨by decide +kernel, by decide +kernel⟩, List.mem_of_getElem? (i := 22) (by decide +kernel), List.mem_of_getElem? (i := 582) (by decide +kernel), List.mem_of_getElem? (i := 583) (by decide +kernel)⟩
theorem lw_p28 : lw_okq (⟨"ToldMeThat", "laughNow", "(II)I"⟩, 16) := ⟨⟨by decide +kernel, by decide +kernel⟩, List.mem_of_getElem? (i := 22) (by decide +kernel), List.mem_of_getElem? (i := 622) (by decide +kernel), List.mem_of_getElem? (i := 623) (by decide +kernel)⟩
theorem lw_p29 : lw_okq (⟨"ToldMeThat", "weigh", "([III)V"⟩, 16) := ⟨⟨by decide +kernel, by decide +kernel⟩, List.mem_of_getElem? (i := 22) (by decide +kernel), List.mem_of_getElem? (i := 640) (by decide +kernel), List.mem_of_getElem? (i := 641) (by decide +kernel)⟩
theorem lw_p30 : lw_okq (⟨"ToldMeThat", "bestBeside", "(I)I"⟩, 16) := ⟨⟨by decide +kernel, by decide +kernel⟩, List.mem_of_getElem? (i := 22) (by decide +kernel), List.mem_of_getElem? (i := 644) (by decide +kernel), List.mem_of_getElem? (i := 645) (by decide +kernel)⟩
theorem lw_p31 : lw_okq (⟨"ToldMeThat", "weighSuppers", "(III)V"⟩, 16) := ⟨⟨by decide +kernel, by decide +kernel⟩, List.mem_of_getElem? (i := 22) (by decide +kernel), List.mem_of_getElem? (i := 676) (by decide +kernel), List.mem_of_getElem? (i := 677) (by decide +kernel)⟩
def lw_privs_2 : List (MethodName × Nat) := [(⟨"ToldMeThat$House", "goByNumber", "()I"⟩, 8), (⟨"ToldMeThat$House", "learnEither", "(I)Z"⟩, 8), (⟨"ToldMeThat$House", "learnBoth", "(I)Z"⟩, 8), (⟨"ToldMeThat$House", "learnPart", "(I)Z"⟩, 8), (⟨"ToldMeThat$House", "add", "(II)Z"⟩, 8), (⟨"ToldMeThat$House", "goByOneOf", "(Ljava/lang/String;)I"⟩, 8), (⟨"ToldMeThat", "faceTold", "()I"⟩, 16), (⟨"ToldMeThat", "isTable", "(I)Z"⟩, 16), (⟨"ToldMeThat", "everybody", "()I"⟩, 16), (⟨"ToldMeThat", "laughter", "(II)I"⟩, 16), (⟨"ToldMeThat", "laughterThen", "(IIIII)I"⟩, 16), (⟨"ToldMeThat", "laughThen", "(IIIII)I"⟩, 16), (⟨"ToldMeThat", "laughNow", "(II)I"⟩, 16), (⟨"ToldMeThat", "weigh", "([III)V"⟩, 16), (⟨"ToldMeThat", "bestBeside", "(I)I"⟩, 16), (⟨"ToldMeThat", "weighSuppers", "(III)V"⟩, 16)]
theorem lw_r2 : ∀ q ∈ lw_privs_2, lw_okq q := List.forall_mem_cons.mpr ⟨lw_p16, List.forall_mem_cons.mpr ⟨lw_p17, List.forall_mem_cons.mpr ⟨lw_p18, List.forall_mem_cons.mpr ⟨lw_p19, List.forall_mem_cons.mpr ⟨lw_p20, List.forall_mem_cons.mpr ⟨lw_p21, List.forall_mem_cons.mpr ⟨lw_p22, List.forall_mem_cons.mpr ⟨lw_p23, List.forall_mem_cons.mpr ⟨lw_p24, List.forall_mem_cons.mpr ⟨lw_p25, List.forall_mem_cons.mpr ⟨lw_p26, List.forall_mem_cons.mpr ⟨lw_p27, List.forall_mem_cons.mpr ⟨lw_p28, List.forall_mem_cons.mpr ⟨lw_p29, List.forall_mem_cons.mpr ⟨lw_p30, List.forall_mem_cons.mpr ⟨lw_p31, fun _ h => absurd h List.not_mem_nil⟩⟩⟩⟩⟩⟩⟩⟩⟩⟩⟩⟩⟩⟩⟩⟩
theorem lw_p32 : lw_okq (⟨"ToldMeThat", "worthOfRow", "(II)I"⟩, 16) := ⟨⟨by decide +kernel, by decide +kernel⟩, List.mem_of_getElem? (i := 22) (by decide +kernel), List.mem_of_getElem? (i := 683) (by decide +kernel), List.mem_of_getElem? (i := 684) (by decide +kernel)⟩
theorem lw_p33 : lw_okq (⟨"ToldMeThat", "findSeats", "(I)I"⟩, 16) := ⟨⟨by decide +kernel, by decide +kernel⟩, List.mem_of_getElem? (i := 22) (by decide +kernel), List.mem_of_getElem? (i := 694) (by decide +kernel), List.mem_of_getElem? (i := 695) (by decide +kernel)⟩
theorem lw_p34 : lw_okq (⟨"ToldMeThat", "servedBy", "(I)I"⟩, 16) := ⟨⟨by decide +kernel, by decide +kernel⟩, List.mem_of_getElem? (i := 22) (by decide +kernel), List.mem_of_getElem? (i := 698) (by decide +kernel), List.mem_of_getElem? (i := 699) (by decide +kernel)⟩
theorem lw_p35 : lw_okq (⟨"ToldMeThat", "nextOrder", "()Z"⟩, 16) := ⟨⟨by decide +kernel, by decide +kernel⟩, List.mem_of_getElem? (i := 22) (by decide +kernel), List.mem_of_getElem? (i := 705) (by decide +kernel), List.mem_of_getElem? (i := 706) (by decide +kernel)⟩
theorem lw_p36 : lw_okq (⟨"ToldMeThat", "swapSeats", "(II)V"⟩, 16) := ⟨⟨by decide +kernel, by decide +kernel⟩, List.mem_of_getElem? (i := 22) (by decide +kernel), List.mem_of_getElem? (i := 709) (by decide +kernel), List.mem_of_getElem? (i := 710) (by decide +kernel)⟩
theorem lw_p37 : lw_okq (⟨"ToldMeThat", "tapeAt", "(I)LToldMeThat$Tape;"⟩, 16) := ⟨⟨by decide +kernel, by decide +kernel⟩, List.mem_of_getElem? (i := 22) (by decide +kernel), List.mem_of_getElem? (i := 750) (by decide +kernel), List.mem_of_getElem? (i := 751) (by decide +kernel)⟩
theorem lw_p38 : lw_okq (⟨"ToldMeThatModel", "in", "(III)Z"⟩, 65) := ⟨⟨by decide +kernel, by decide +kernel⟩, List.mem_of_getElem? (i := 907) (by decide +kernel), List.mem_of_getElem? (i := 1114) (by decide +kernel), List.mem_of_getElem? (i := 1115) (by decide +kernel)⟩
theorem lw_p39 : lw_okq (⟨"ToldMeThatModel", "isStory", "(I)Z"⟩, 65) := ⟨⟨by decide +kernel, by decide +kernel⟩, List.mem_of_getElem? (i := 907) (by decide +kernel), List.mem_of_getElem? (i := 1126) (by decide +kernel), List.mem_of_getElem? (i := 1127) (by decide +kernel)⟩
theorem lw_p40 : lw_okq (⟨"ToldMeThatModel", "isHearer", "(I)Z"⟩, 65) := ⟨⟨by decide +kernel, by decide +kernel⟩, List.mem_of_getElem? (i := 907) (by decide +kernel), List.mem_of_getElem? (i := 1138) (by decide +kernel), List.mem_of_getElem? (i := 1139) (by decide +kernel)⟩
theorem lw_p41 : lw_okq (⟨"ToldMeThatModel", "goesText", "(I)Z"⟩, 65) := ⟨⟨by decide +kernel, by decide +kernel⟩, List.mem_of_getElem? (i := 907) (by decide +kernel), List.mem_of_getElem? (i := 1154) (by decide +kernel), List.mem_of_getElem? (i := 1155) (by decide +kernel)⟩
theorem lw_p42 : lw_okq (⟨"ToldMeThatModel", "takesClause", "(I)Z"⟩, 65) := ⟨⟨by decide +kernel, by decide +kernel⟩, List.mem_of_getElem? (i := 907) (by decide +kernel), List.mem_of_getElem? (i := 1158) (by decide +kernel), List.mem_of_getElem? (i := 1159) (by decide +kernel)⟩
theorem lw_p43 : lw_okq (⟨"ToldMeThatModel", "takesHead", "(I)Z"⟩, 65) := ⟨⟨by decide +kernel, by decide +kernel⟩, List.mem_of_getElem? (i := 907) (by decide +kernel), List.mem_of_getElem? (i := 1162) (by decide +kernel), List.mem_of_getElem? (i := 1163) (by decide +kernel)⟩
theorem lw_p44 : lw_okq (⟨"ToldMeThatModel", "next", "()I"⟩, 65) := ⟨⟨by decide +kernel, by decide +kernel⟩, List.mem_of_getElem? (i := 907) (by decide +kernel), List.mem_of_getElem? (i := 1166) (by decide +kernel), List.mem_of_getElem? (i := 1167) (by decide +kernel)⟩
theorem lw_p45 : lw_okq (⟨"ToldMeThatModel", "takesWord", "(II)Z"⟩, 65) := ⟨⟨by decide +kernel, by decide +kernel⟩, List.mem_of_getElem? (i := 907) (by decide +kernel), List.mem_of_getElem? (i := 1170) (by decide +kernel), List.mem_of_getElem? (i := 1171) (by decide +kernel)⟩
theorem lw_p46 : lw_okq (⟨"ToldMeThatModel", "takes", "(I)Z"⟩, 65) := ⟨⟨by decide +kernel, by decide +kernel⟩, List.mem_of_getElem? (i := 907) (by decide +kernel), List.mem_of_getElem? (i := 1174) (by decide +kernel), List.mem_of_getElem? (i := 1175) (by decide +kernel)⟩
theorem lw_p47 : lw_okq (⟨"ToldMeThatModel", "second", "()I"⟩, 65) := ⟨⟨by decide +kernel, by decide +kernel⟩, List.mem_of_getElem? (i := 907) (by decide +kernel), List.mem_of_getElem? (i := 1178) (by decide +kernel), List.mem_of_getElem? (i := 1179) (by decide +kernel)⟩
def lw_privs_3 : List (MethodName × Nat) := [(⟨"ToldMeThat", "worthOfRow", "(II)I"⟩, 16), (⟨"ToldMeThat", "findSeats", "(I)I"⟩, 16), (⟨"ToldMeThat", "servedBy", "(I)I"⟩, 16), (⟨"ToldMeThat", "nextOrder", "()Z"⟩, 16), (⟨"ToldMeThat", "swapSeats", "(II)V"⟩, 16), (⟨"ToldMeThat", "tapeAt", "(I)LToldMeThat$Tape;"⟩, 16), (⟨"ToldMeThatModel", "in", "(III)Z"⟩, 65), (⟨"ToldMeThatModel", "isStory", "(I)Z"⟩, 65), (⟨"ToldMeThatModel", "isHearer", "(I)Z"⟩, 65), (⟨"ToldMeThatModel", "goesText", "(I)Z"⟩, 65), (⟨"ToldMeThatModel", "takesClause", "(I)Z"⟩, 65), (⟨"ToldMeThatModel", "takesHead", "(I)Z"⟩, 65), (⟨"ToldMeThatModel", "next", "()I"⟩, 65), (⟨"ToldMeThatModel", "takesWord", "(II)Z"⟩, 65), (⟨"ToldMeThatModel", "takes", "(I)Z"⟩, 65), (⟨"ToldMeThatModel", "second", "()I"⟩, 65)]
theorem lw_r3 : ∀ q ∈ lw_privs_3, lw_okq q := List.forall_mem_cons.mpr ⟨lw_p32, List.forall_mem_cons.mpr ⟨lw_p33, List.forall_mem_cons.mpr ⟨lw_p34, List.forall_mem_cons.mpr ⟨lw_p35, List.forall_mem_cons.mpr ⟨lw_p36, List.forall_mem_cons.mpr ⟨lw_p37, List.forall_mem_cons.mpr ⟨lw_p38, List.forall_mem_cons.mpr ⟨lw_p39, List.forall_mem_cons.mpr ⟨lw_p40, List.forall_mem_cons.mpr ⟨lw_p41, List.forall_mem_cons.mpr ⟨lw_p42, List.forall_mem_cons.mpr ⟨lw_p43, List.forall_mem_cons.mpr ⟨lw_p44, List.forall_mem_cons.mpr ⟨lw_p45, List.forall_mem_cons.mpr ⟨lw_p46, List.forall_mem_cons.mpr ⟨lw_p47, fun _ h => absurd h List.not_mem_nil⟩⟩⟩⟩⟩⟩⟩⟩⟩⟩⟩⟩⟩⟩⟩⟩
theorem lw_p48 : lw_okq (⟨"ToldMeThatModel", "takesNumber", "()Z"⟩, 65) := ⟨⟨by decide +kernel, by decide +kernel⟩, List.mem_of_getElem? (i := 907) (by decide +kernel), List.mem_of_getElem? (i := 1182) (by decide +kernel), List.mem_of_getElem? (i := 1183) (by decide +kernel)⟩
theorem lw_p49 : lw_okq (⟨"ToldMeThatModel", "isDigit", "()Z"⟩, 65) := ⟨⟨by decide +kernel, by decide +kernel⟩, List.mem_of_getElem? (i := 907) (by decide +kernel), List.mem_of_getElem? (i := 1186) (by decide +kernel), List.mem_of_getElem? (i := 1187) (by decide +kernel)⟩
theorem lw_p50 : lw_okq (⟨"ToldMeThatModel", "takesE", "(I)Z"⟩, 65) := ⟨⟨by decide +kernel, by decide +kernel⟩, List.mem_of_getElem? (i := 907) (by decide +kernel), List.mem_of_getElem? (i := 1190) (by decide +kernel), List.mem_of_getElem? (i := 1191) (by decide +kernel)⟩
theorem lw_p51 : lw_okq (⟨"ToldMeThatModel", "takesTest", "()Z"⟩, 65) := ⟨⟨by decide +kernel, by decide +kernel⟩, List.mem_of_getElem? (i := 907) (by decide +kernel), List.mem_of_getElem? (i := 1194) (by decide +kernel), List.mem_of_getElem? (i := 1195) (by decide +kernel)⟩
theorem lw_p52 : lw_okq (⟨"ToldMeThatModel", "place", "(I)I"⟩, 65) := ⟨⟨by decide +kernel, by decide +kernel⟩, List.mem_of_getElem? (i := 907) (by decide +kernel), List.mem_of_getElem? (i := 1198) (by decide +kernel), List.mem_of_getElem? (i := 1199) (by decide +kernel)⟩
theorem lw_p53 : lw_okq (⟨"ToldMeThatModel", "emits", "(I)V"⟩, 65) := ⟨⟨by decide +kernel, by decide +kernel⟩, List.mem_of_getElem? (i := 907) (by decide +kernel), List.mem_of_getElem? (i := 1202) (by decide +kernel), List.mem_of_getElem? (i := 1203) (by decide +kernel)⟩
theorem lw_p54 : lw_okq (⟨"ToldMeThatModel", "whole", "()V"⟩, 65) := ⟨⟨by decide +kernel, by decide +kernel⟩, List.mem_of_getElem? (i := 907) (by decide +kernel), List.mem_of_getElem? (i := 1206) (by decide +kernel), List.mem_of_getElem? (i := 1207) (by decide +kernel)⟩
theorem lw_p55 : lw_okq (⟨"ToldMeThatModel", "settle", "(I)V"⟩, 65) := ⟨⟨by decide +kernel, by decide +kernel⟩, List.mem_of_getElem? (i := 907) (by decide +kernel), List.mem_of_getElem? (i := 1210) (by decide +kernel), List.mem_of_getElem? (i := 1211) (by decide +kernel)⟩
theorem lw_p56 : lw_okq (⟨"ToldMeThatModel", "knows", "(II)Z"⟩, 65) := ⟨⟨by decide +kernel, by decide +kernel⟩, List.mem_of_getElem? (i := 907) (by decide +kernel), List.mem_of_getElem? (i := 1218) (by decide +kernel), List.mem_of_getElem? (i := 1219) (by decide +kernel)⟩
theorem lw_p57 : lw_okq (⟨"ToldMeThatModel", "limit", "(I)I"⟩, 65) := ⟨⟨by decide +kernel, by decide +kernel⟩, List.mem_of_getElem? (i := 907) (by decide +kernel), List.mem_of_getElem? (i := 1222) (by decide +kernel), List.mem_of_getElem? (i := 1223) (by decide +kernel)⟩
theorem lw_p58 : lw_okq (⟨"ToldMeThatModel", "lastOf", "(II)I"⟩, 65) := ⟨⟨by decide +kernel, by decide +kernel⟩, List.mem_of_getElem? (i := 907) (by decide +kernel), List.mem_of_getElem? (i := 1226) (by decide +kernel), List.mem_of_getElem? (i := 1227) (by decide +kernel)⟩
theorem lw_p59 : lw_okq (⟨"ToldMeThatModel", "begin", "()I"⟩, 65) := ⟨⟨by decide +kernel, by decide +kernel⟩, List.mem_of_getElem? (i := 907) (by decide +kernel), List.mem_of_getElem? (i := 1230) (by decide +kernel), List.mem_of_getElem? (i := 1231) (by decide +kernel)⟩
theorem lw_p60 : lw_okq (⟨"ToldMeThatModel", "behind", "()I"⟩, 65) := ⟨⟨by decide +kernel, by decide +kernel⟩, List.mem_of_getElem? (i := 907) (by decide +kernel), List.mem_of_getElem? (i := 1234) (by decide +kernel), List.mem_of_getElem? (i := 1235) (by decide +kernel)⟩
theorem lw_p61 : lw_okq (⟨"ToldMeThatModel", "mood", "(II)I"⟩, 65) := ⟨⟨by decide +kernel, by decide +kernel⟩, List.mem_of_getElem? (i := 907) (by decide +kernel), List.mem_of_getElem? (i := 1238) (by decide +kernel), List.mem_of_getElem? (i := 1239) (by decide +kernel)⟩
theorem lw_p62 : lw_okq (⟨"ToldMeThatModel", "holds", "(III)Z"⟩, 65) := ⟨⟨by decide +kernel, by decide +kernel⟩, List.mem_of_getElem? (i := 907) (by decide +kernel), List.mem_of_getElem? (i := 1242) (by decide +kernel), List.mem_of_getElem? (i := 1243) (by decide +kernel)⟩
theorem lw_p63 : lw_okq (⟨"ToldMeThatModel", "factOf", "(III)I"⟩, 65) := ⟨⟨by decide +kernel, by decide +kernel⟩, List.mem_of_getElem? (i := 907) (by decide +kernel), List.mem_of_getElem? (i := 1246) (by decide +kernel), List.mem_of_getElem? (i := 1247) (by decide +kernel)⟩
def lw_privs_4 : List (MethodName × Nat) := [(⟨"ToldMeThatModel", "takesNumber", "()Z"⟩, 65), (⟨"ToldMeThatModel", "isDigit", "()Z"⟩, 65), (⟨"ToldMeThatModel", "takesE", "(I)Z"⟩, 65), (⟨"ToldMeThatModel", "takesTest", "()Z"⟩, 65), (⟨"ToldMeThatModel", "place", "(I)I"⟩, 65), (⟨"ToldMeThatModel", "emits", "(I)V"⟩, 65), (⟨"ToldMeThatModel", "whole", "()V"⟩, 65), (⟨"ToldMeThatModel", "settle", "(I)V"⟩, 65), (⟨"ToldMeThatModel", "knows", "(II)Z"⟩, 65), (⟨"ToldMeThatModel", "limit", "(I)I"⟩, 65), (⟨"ToldMeThatModel", "lastOf", "(II)I"⟩, 65), (⟨"ToldMeThatModel", "begin", "()I"⟩, 65), (⟨"ToldMeThatModel", "behind", "()I"⟩, 65), (⟨"ToldMeThatModel", "mood", "(II)I"⟩, 65), (⟨"ToldMeThatModel", "holds", "(III)Z"⟩, 65), (⟨"ToldMeThatModel", "factOf", "(III)I"⟩, 65)]
theorem lw_r4 : ∀ q ∈ lw_privs_4, lw_okq q := List.forall_mem_cons.mpr ⟨lw_p48, List.forall_mem_cons.mpr ⟨lw_p49, List.forall_mem_cons.mpr ⟨lw_p50, List.forall_mem_cons.mpr ⟨lw_p51, List.forall_mem_cons.mpr ⟨lw_p52, List.forall_mem_cons.mpr ⟨lw_p53, List.forall_mem_cons.mpr ⟨lw_p54, List.forall_mem_cons.mpr ⟨lw_p55, List.forall_mem_cons.mpr ⟨lw_p56, List.forall_mem_cons.mpr ⟨lw_p57, List.forall_mem_cons.mpr ⟨lw_p58, List.forall_mem_cons.mpr ⟨lw_p59, List.forall_mem_cons.mpr ⟨lw_p60, List.forall_mem_cons.mpr ⟨lw_p61, List.forall_mem_cons.mpr ⟨lw_p62, List.forall_mem_cons.mpr ⟨lw_p63, fun _ h => absurd h List.not_mem_nil⟩⟩⟩⟩⟩⟩⟩⟩⟩⟩⟩⟩⟩⟩⟩⟩
theorem lw_p64 : lw_okq (⟨"ToldMeThatModel", "isTable", "(I)Z"⟩, 65) := ⟨⟨by decide +kernel, by decide +kernel⟩, List.mem_of_getElem? (i := 907) (by decide +kernel), List.mem_of_getElem? (i := 1262) (by decide +kernel), List.mem_of_getElem? (i := 1263) (by decide +kernel)⟩
theorem lw_p65 : lw_okq (⟨"ToldMeThatModel", "tells", "(II)I"⟩, 65) := ⟨⟨by decide +kernel, by decide +kernel⟩, List.mem_of_getElem? (i := 907) (by decide +kernel), List.mem_of_getElem? (i := 1266) (by decide +kernel), List.mem_of_getElem? (i := 1267) (by decide +kernel)⟩
theorem lw_p66 : lw_okq (⟨"ToldMeThatModel", "laughter", "(II)I"⟩, 65) := ⟨⟨by decide +kernel, by decide +kernel⟩, List.mem_of_getElem? (i := 907) (by decide +kernel), List.mem_of_getElem? (i := 1270) (by decide +kernel), List.mem_of_getElem? (i := 1271) (by decide +kernel)⟩
theorem lw_p67 : lw_okq (⟨"ToldMeThatModel", "has", "(II)Z"⟩, 65) := ⟨⟨by decide +kernel, by decide +kernel⟩, List.mem_of_getElem? (i := 907) (by decide +kernel), List.mem_of_getElem? (i := 1274) (by decide +kernel), List.mem_of_getElem? (i := 1275) (by decide +kernel)⟩
theorem lw_p68 : lw_okq (⟨"ToldMeThatModel", "laughOf", "(II)I"⟩, 65) := ⟨⟨by decide +kernel, by decide +kernel⟩, List.mem_of_getElem? (i := 907) (by decide +kernel), List.mem_of_getElem? (i := 1278) (by decide +kernel), List.mem_of_getElem? (i := 1279) (by decide +kernel)⟩
theorem lw_p69 : lw_okq (⟨"ToldMeThatModel", "knowing", "(II)I"⟩, 65) := ⟨⟨by decide +kernel, by decide +kernel⟩, List.mem_of_getElem? (i := 907) (by decide +kernel), List.mem_of_getElem? (i := 1290) (by decide +kernel), List.mem_of_getElem? (i := 1291) (by decide +kernel)⟩
theorem lw_p70 : lw_okq (⟨"ToldMeThatModel", "ones", "(I)I"⟩, 65) := ⟨⟨by decide +kernel, by decide +kernel⟩, List.mem_of_getElem? (i := 907) (by decide +kernel), List.mem_of_getElem? (i := 1294) (by decide +kernel), List.mem_of_getElem? (i := 1295) (by decide +kernel)⟩
theorem lw_p71 : lw_okq (⟨"ToldMeThatModel", "bestOf", "(I)I"⟩, 65) := ⟨⟨by decide +kernel, by decide +kernel⟩, List.mem_of_getElem? (i := 907) (by decide +kernel), List.mem_of_getElem? (i := 1302) (by decide +kernel), List.mem_of_getElem? (i := 1303) (by decide +kernel)⟩
theorem lw_p72 : lw_okq (⟨"ToldMeThatModel", "layFun", "(I)V"⟩, 65) := ⟨⟨by decide +kernel, by decide +kernel⟩, List.mem_of_getElem? (i := 907) (by decide +kernel), List.mem_of_getElem? (i := 1318) (by decide +kernel), List.mem_of_getElem? (i := 1319) (by decide +kernel)⟩
theorem lw_p73 : lw_okq (⟨"ToldMeThatModel", "save", "()V"⟩, 65) := ⟨⟨by decide +kernel, by decide +kernel⟩, List.mem_of_getElem? (i := 907) (by decide +kernel), List.mem_of_getElem? (i := 1326) (by decide +kernel), List.mem_of_getElem? (i := 1327) (by decide +kernel)⟩
theorem lw_p74 : lw_okq (⟨"ToldMeThatModel", "putBack", "()V"⟩, 65) := ⟨⟨by decide +kernel, by decide +kernel⟩, List.mem_of_getElem? (i := 907) (by decide +kernel), List.mem_of_getElem? (i := 1330) (by decide +kernel), List.mem_of_getElem? (i := 1331) (by decide +kernel)⟩
theorem lw_p75 : lw_okq (⟨"ToldMeThatModel", "asRow", "(III)I"⟩, 65) := ⟨⟨by decide +kernel, by decide +kernel⟩, List.mem_of_getElem? (i := 907) (by decide +kernel), List.mem_of_getElem? (i := 1342) (by decide +kernel), List.mem_of_getElem? (i := 1343) (by decide +kernel)⟩
theorem lw_p76 : lw_okq (⟨"ToldMeThatModel", "nextRow", "(I)Z"⟩, 65) := ⟨⟨by decide +kernel, by decide +kernel⟩, List.mem_of_getElem? (i := 907) (by decide +kernel), List.mem_of_getElem? (i := 1346) (by decide +kernel), List.mem_of_getElem? (i := 1347) (by decide +kernel)⟩
theorem lw_p77 : lw_okq (⟨"ToldMeThatModel", "layOrder", "(I)Z"⟩, 65) := ⟨⟨by decide +kernel, by decide +kernel⟩, List.mem_of_getElem? (i := 907) (by decide +kernel), List.mem_of_getElem? (i := 1354) (by decide +kernel), List.mem_of_getElem? (i := 1355) (by decide +kernel)⟩
theorem lw_p78 : lw_okq (⟨"ToldMeThatModel", "seated", "(I)I"⟩, 65) := ⟨⟨by decide +kernel, by decide +kernel⟩, List.mem_of_getElem? (i := 907) (by decide +kernel), List.mem_of_getElem? (i := 1358) (by decide +kernel), List.mem_of_getElem? (i := 1359) (by decide +kernel)⟩
theorem lw_p79 : lw_okq (⟨"ToldMeThatModel", "lowest", "(III)J"⟩, 65) := ⟨⟨by decide +kernel, by decide +kernel⟩, List.mem_of_getElem? (i := 907) (by decide +kernel), List.mem_of_getElem? (i := 1379) (by decide +kernel), List.mem_of_getElem? (i := 1380) (by decide +kernel)⟩
def lw_privs_5 : List (MethodName × Nat) := [(⟨"ToldMeThatModel", "isTable", "(I)Z"⟩, 65), (⟨"ToldMeThatModel", "tells", "(II)I"⟩, 65), (⟨"ToldMeThatModel", "laughter", "(II)I"⟩, 65), (⟨"ToldMeThatModel", "has", "(II)Z"⟩, 65), (⟨"ToldMeThatModel", "laughOf", "(II)I"⟩, 65), (⟨"ToldMeThatModel", "knowing", "(II)I"⟩, 65), (⟨"ToldMeThatModel", "ones", "(I)I"⟩, 65), (⟨"ToldMeThatModel", "bestOf", "(I)I"⟩, 65), (⟨"ToldMeThatModel", "layFun", "(I)V"⟩, 65), (⟨"ToldMeThatModel", "save", "()V"⟩, 65), (⟨"ToldMeThatModel", "putBack", "()V"⟩, 65), (⟨"ToldMeThatModel", "asRow", "(III)I"⟩, 65), (⟨"ToldMeThatModel", "nextRow", "(I)Z"⟩, 65), (⟨"ToldMeThatModel", "layOrder", "(I)Z"⟩, 65), (⟨"ToldMeThatModel", "seated", "(I)I"⟩, 65), (⟨"ToldMeThatModel", "lowest", "(III)J"⟩, 65)]
theorem lw_r5 : ∀ q ∈ lw_privs_5, lw_okq q := List.forall_mem_cons.mpr ⟨lw_p64, List.forall_mem_cons.mpr ⟨lw_p65, List.forall_mem_cons.mpr ⟨lw_p66, List.forall_mem_cons.mpr ⟨lw_p67, List.forall_mem_cons.mpr ⟨lw_p68, List.forall_mem_cons.mpr ⟨lw_p69, List.forall_mem_cons.mpr ⟨lw_p70, List.forall_mem_cons.mpr ⟨lw_p71, List.forall_mem_cons.mpr ⟨lw_p72, List.forall_mem_cons.mpr ⟨lw_p73, List.forall_mem_cons.mpr ⟨lw_p74, List.forall_mem_cons.mpr ⟨lw_p75, List.forall_mem_cons.mpr ⟨lw_p76, List.forall_mem_cons.mpr ⟨lw_p77, List.forall_mem_cons.mpr ⟨lw_p78, List.forall_mem_cons.mpr ⟨lw_p79, fun _ h => absurd h List.not_mem_nil⟩⟩⟩⟩⟩⟩⟩⟩⟩⟩⟩⟩⟩⟩⟩⟩
theorem lw_p80 : lw_okq (⟨"ToldMeThatModel", "divisor", "(II)I"⟩, 65) := ⟨⟨by decide +kernel, by decide +kernel⟩, List.mem_of_getElem? (i := 907) (by decide +kernel), List.mem_of_getElem? (i := 1383) (by decide +kernel), List.mem_of_getElem? (i := 1384) (by decide +kernel)⟩
theorem lw_p81 : lw_okq (⟨"ToldMeThatModel", "isTape", "(I)Z"⟩, 65) := ⟨⟨by decide +kernel, by decide +kernel⟩, List.mem_of_getElem? (i := 907) (by decide +kernel), List.mem_of_getElem? (i := 1403) (by decide +kernel), List.mem_of_getElem? (i := 1404) (by decide +kernel)⟩
theorem lw_p82 : lw_okq (⟨"ToldMeThatModel", "hearsAct", "(II)I"⟩, 65) := ⟨⟨by decide +kernel, by decide +kernel⟩, List.mem_of_getElem? (i := 907) (by decide +kernel), List.mem_of_getElem? (i := 1419) (by decide +kernel), List.mem_of_getElem? (i := 1420) (by decide +kernel)⟩
theorem lw_p83 : lw_okq (⟨"ToldMeThatModel", "body", "(I)V"⟩, 65) := ⟨⟨by decide +kernel, by decide +kernel⟩, List.mem_of_getElem? (i := 907) (by decide +kernel), List.mem_of_getElem? (i := 1423) (by decide +kernel), List.mem_of_getElem? (i := 1424) (by decide +kernel)⟩
theorem lw_p84 : lw_okq (⟨"ToldMeThatModel", "hearerHears", "(II)I"⟩, 65) := ⟨⟨by decide +kernel, by decide +kernel⟩, List.mem_of_getElem? (i := 907) (by decide +kernel), List.mem_of_getElem? (i := 1427) (by decide +kernel), List.mem_of_getElem? (i := 1428) (by decide +kernel)⟩
theorem lw_p85 : lw_okq (⟨"ToldMeThatModel", "laughsAct", "(II)I"⟩, 65) := ⟨⟨by decide +kernel, by decide +kernel⟩, List.mem_of_getElem? (i := 907) (by decide +kernel), List.mem_of_getElem? (i := 1431) (by decide +kernel), List.mem_of_getElem? (i := 1432) (by decide +kernel)⟩
theorem lw_p86 : lw_okq (⟨"ToldMeThatModel", "politeLaughs", "(II)I"⟩, 65) := ⟨⟨by decide +kernel, by decide +kernel⟩, List.mem_of_getElem? (i := 907) (by decide +kernel), List.mem_of_getElem? (i := 1435) (by decide +kernel), List.mem_of_getElem? (i := 1436) (by decide +kernel)⟩
theorem lw_p87 : lw_okq (⟨"ToldMeThatModel", "hearerLaughs", "(II)I"⟩, 65) := ⟨⟨by decide +kernel, by decide +kernel⟩, List.mem_of_getElem? (i := 907) (by decide +kernel), List.mem_of_getElem? (i := 1439) (by decide +kernel), List.mem_of_getElem? (i := 1440) (by decide +kernel)⟩
theorem lw_p88 : lw_okq (⟨"ToldMeThatModel", "tellsAct", "(II)I"⟩, 65) := ⟨⟨by decide +kernel, by decide +kernel⟩, List.mem_of_getElem? (i := 907) (by decide +kernel), List.mem_of_getElem? (i := 1443) (by decide +kernel), List.mem_of_getElem? (i := 1444) (by decide +kernel)⟩
theorem lw_p89 : lw_okq (⟨"ToldMeThatModel", "hearerTells", "(II)I"⟩, 65) := ⟨⟨by decide +kernel, by decide +kernel⟩, List.mem_of_getElem? (i := 907) (by decide +kernel), List.mem_of_getElem? (i := 1447) (by decide +kernel), List.mem_of_getElem? (i := 1448) (by decide +kernel)⟩
theorem lw_p90 : lw_okq (⟨"ToldMeThatModel", "narrow", "(IJ)J"⟩, 65) := ⟨⟨by decide +kernel, by decide +kernel⟩, List.mem_of_getElem? (i := 907) (by decide +kernel), List.mem_of_getElem? (i := 1471) (by decide +kernel), List.mem_of_getElem? (i := 1472) (by decide +kernel)⟩
def lw_privs_6 : List (MethodName × Nat) := [(⟨"ToldMeThatModel", "divisor", "(II)I"⟩, 65), (⟨"ToldMeThatModel", "isTape", "(I)Z"⟩, 65), (⟨"ToldMeThatModel", "hearsAct", "(II)I"⟩, 65), (⟨"ToldMeThatModel", "body", "(I)V"⟩, 65), (⟨"ToldMeThatModel", "hearerHears", "(II)I"⟩, 65), (⟨"ToldMeThatModel", "laughsAct", "(II)I"⟩, 65), (⟨"ToldMeThatModel", "politeLaughs", "(II)I"⟩, 65), (⟨"ToldMeThatModel", "hearerLaughs", "(II)I"⟩, 65), (⟨"ToldMeThatModel", "tellsAct", "(II)I"⟩, 65), (⟨"ToldMeThatModel", "hearerTells", "(II)I"⟩, 65), (⟨"ToldMeThatModel", "narrow", "(IJ)J"⟩, 65)]
theorem lw_r6 : ∀ q ∈ lw_privs_6, lw_okq q := List.forall_mem_cons.mpr ⟨lw_p80, List.forall_mem_cons.mpr ⟨lw_p81, List.forall_mem_cons.mpr ⟨lw_p82, List.forall_mem_cons.mpr ⟨lw_p83, List.forall_mem_cons.mpr ⟨lw_p84, List.forall_mem_cons.mpr ⟨lw_p85, List.forall_mem_cons.mpr ⟨lw_p86, List.forall_mem_cons.mpr ⟨lw_p87, List.forall_mem_cons.mpr ⟨lw_p88, List.forall_mem_cons.mpr ⟨lw_p89, List.forall_mem_cons.mpr ⟨lw_p90, fun _ h => absurd h List.not_mem_nil⟩⟩⟩⟩⟩⟩⟩⟩⟩⟩⟩
def lw_privs : List (MethodName × Nat) := lw_privs_1 ++ (lw_privs_2 ++ (lw_privs_3 ++ (lw_privs_4 ++ (lw_privs_5 ++ (lw_privs_6)))))
def lw_tbl : List Cond := k2_sels lw_privs ++ tables_1
theorem lw_privs_ok : ∀ q ∈ lw_privs, lw_okq q := by
  show ∀ q ∈ lw_privs_1 ++ (lw_privs_2 ++ (lw_privs_3 ++ (lw_privs_4 ++ (lw_privs_5 ++ (lw_privs_6))))), lw_okq q
  exact List.forall_mem_append.mpr ⟨lw_r1, List.forall_mem_append.mpr ⟨lw_r2, List.forall_mem_append.mpr ⟨lw_r3, List.forall_mem_append.mpr ⟨lw_r4, List.forall_mem_append.mpr ⟨lw_r5, lw_r6⟩⟩⟩⟩⟩
/-! ===== BEGIN words of one list among another's, by their places ===== -/
theorem goodIn_r {big : List Cond} (ws : List Cond) (ps : List Nat) (hp : ws = ps.filterMap (fun i => big[i]?)) (h : ws.all goodWord = true) : GoodIn big ws := by
  intro w hw
  have h1 := List.all_eq_true.mp h w hw
  rw [hp] at hw
  obtain ⟨i, -, hi⟩ := List.mem_filterMap.mp hw
  have hm : w ∈ big := by first | exact List.mem_of_getElem? hi | exact List.getElem?_mem hi
  exact ⟨hm, good_of_word h1⟩
theorem goodIn_app {big a b : List Cond} (ha : GoodIn big a) (hb : GoodIn big b) : GoodIn big (a ++ b) := fun w h => (List.mem_append.mp h).elim (ha w) (hb w)
theorem goodIn_ca {big a b : List Cond} {c : Cond} (ha : GoodIn big (c :: a)) (hb : GoodIn big b) : GoodIn big (c :: (a ++ b)) := fun w h => (List.mem_cons.mp h).elim (fun e => ha w (List.mem_cons.mpr (Or.inl e))) (fun h => (List.mem_append.mp h).elim (fun h => ha w (List.mem_cons.mpr (Or.inr h))) (hb w))
theorem goodIn_sub {big ws : List Cond} (hm : ∀ w ∈ ws, w ∈ big) (h : ws.all goodWord = true) : GoodIn big ws := fun w hw => ⟨hm w hw, good_of_word (List.all_eq_true.mp h w hw)⟩
/-! ===== END ===== -/

/-! ===== BEGIN printed: names, fields, word lists, decode rows ===== -/
def RX0 : String := "ToldMeThat$Bored"
def TX0 : u_T := fun k => match k with
  | 0 => ("ToldMeThat$Hearer", "kind", "I", true)
  | 1 => ("ToldMeThat$Hearer", "number", "I", true)
  | 2 => ("ToldMeThat$Hearer", "v", "I", true)
  | _ => ("ToldMeThat$Hearer", "trace", "LToldMeThat$Trace;", true)
def tyX0 : Nat → FieldType := fun k => match k with
  | 0 => .int
  | 1 => .int
  | 2 => .int
  | _ => .object "ToldMeThat$Trace"
abbrev wsX00 : List Cond := u_ws RX0 TX0 4
theorem nmX0 : ∀ a, a < 4 → ∀ b, b < 4 → a ≠ b → (TX0 a).2.1 ≠ (TX0 b).2.1 := by decide +kernel
theorem tyX0_ok : ∀ k, k < 4 → parseFieldDescriptor (TX0 k).2.2.1 = some (tyX0 k) := by decide +kernel
abbrev cX0_init : ByteArray := prog_2_method_1_code
def yX0_init : MethodName := ⟨RX0, "<init>", "(IIILToldMeThat$Trace;)V"⟩
abbrev cX0_whenNew : ByteArray := prog_2_method_2_code
def yX0_whenNew : MethodName := ⟨RX0, "whenNew", "(II)I"⟩
abbrev cX0_whenKnown : ByteArray := prog_2_method_3_code
def yX0_whenKnown : MethodName := ⟨RX0, "whenKnown", "(II)I"⟩
abbrev cX0_hears : ByteArray := prog_2_method_4_code
def yX0_hears : MethodName := ⟨RX0, "hears", "(I)I"⟩
def RX1 : String := "ToldMeThat$Childish"
def TX1 : u_T := fun k => match k with
  | 0 => ("ToldMeThat$Hearer", "kind", "I", true)
  | 1 => ("ToldMeThat$Hearer", "number", "I", true)
  | 2 => ("ToldMeThat$Hearer", "v", "I", true)
  | _ => ("ToldMeThat$Hearer", "trace", "LToldMeThat$Trace;", true)
def tyX1 : Nat → FieldType := fun k => match k with
  | 0 => .int
  | 1 => .int
  | 2 => .int
  | _ => .object "ToldMeThat$Trace"
abbrev wsX10 : List Cond := u_ws RX1 TX1 4
theorem nmX1 : ∀ a, a < 4 → ∀ b, b < 4 → a ≠ b → (TX1 a).2.1 ≠ (TX1 b).2.1 := by decide +kernel
theorem tyX1_ok : ∀ k, k < 4 → parseFieldDescriptor (TX1 k).2.2.1 = some (tyX1 k) := by decide +kernel
abbrev cX1_init : ByteArray := prog_3_method_1_code
def yX1_init : MethodName := ⟨RX1, "<init>", "(IIILToldMeThat$Trace;)V"⟩
abbrev cX1_memory : ByteArray := prog_3_method_2_code
def yX1_memory : MethodName := ⟨RX1, "memory", "(II)I"⟩
abbrev cX1_whenKnown : ByteArray := prog_3_method_3_code
def yX1_whenKnown : MethodName := ⟨RX1, "whenKnown", "(II)I"⟩
abbrev cX1_tells : ByteArray := prog_3_method_4_code
def yX1_tells : MethodName := ⟨RX1, "tells", "(I)I"⟩
def RX2 : String := "ToldMeThat$Forgetful"
def TX2 : u_T := fun k => match k with
  | 0 => ("ToldMeThat$Hearer", "kind", "I", true)
  | 1 => ("ToldMeThat$Hearer", "number", "I", true)
  | 2 => ("ToldMeThat$Hearer", "v", "I", true)
  | _ => ("ToldMeThat$Hearer", "trace", "LToldMeThat$Trace;", true)
def tyX2 : Nat → FieldType := fun k => match k with
  | 0 => .int
  | 1 => .int
  | 2 => .int
  | _ => .object "ToldMeThat$Trace"
abbrev wsX20 : List Cond := u_ws RX2 TX2 4
theorem nmX2 : ∀ a, a < 4 → ∀ b, b < 4 → a ≠ b → (TX2 a).2.1 ≠ (TX2 b).2.1 := by decide +kernel
theorem tyX2_ok : ∀ k, k < 4 → parseFieldDescriptor (TX2 k).2.2.1 = some (tyX2 k) := by decide +kernel
abbrev cX2_init : ByteArray := prog_4_method_1_code
def yX2_init : MethodName := ⟨RX2, "<init>", "(IIILToldMeThat$Trace;)V"⟩
abbrev cX2_memory : ByteArray := prog_4_method_2_code
def yX2_memory : MethodName := ⟨RX2, "memory", "(II)I"⟩
abbrev cX2_tells : ByteArray := prog_4_method_3_code
def yX2_tells : MethodName := ⟨RX2, "tells", "(I)I"⟩
def RX3 : String := "ToldMeThat$Hearer"
def TX3 : u_T := fun k => match k with
  | 0 => ("ToldMeThat$Hearer", "kind", "I", true)
  | 1 => ("ToldMeThat$Hearer", "number", "I", true)
  | 2 => ("ToldMeThat$Hearer", "v", "I", true)
  | _ => ("ToldMeThat$Hearer", "trace", "LToldMeThat$Trace;", true)
def tyX3 : Nat → FieldType := fun k => match k with
  | 0 => .int
  | 1 => .int
  | 2 => .int
  | _ => .object "ToldMeThat$Trace"
abbrev wsX30 : List Cond := u_ws RX3 TX3 4
theorem nmX3 : ∀ a, a < 4 → ∀ b, b < 4 → a ≠ b → (TX3 a).2.1 ≠ (TX3 b).2.1 := by decide +kernel
theorem tyX3_ok : ∀ k, k < 4 → parseFieldDescriptor (TX3 k).2.2.1 = some (tyX3 k) := by decide +kernel
abbrev cX3_init : ByteArray := prog_5_method_1_code
def yX3_init : MethodName := ⟨RX3, "<init>", "(IIILToldMeThat$Trace;)V"⟩
abbrev cX3_memory : ByteArray := prog_5_method_2_code
def yX3_memory : MethodName := ⟨RX3, "memory", "(II)I"⟩
abbrev cX3_whenNew : ByteArray := prog_5_method_3_code
def yX3_whenNew : MethodName := ⟨RX3, "whenNew", "(II)I"⟩
abbrev cX3_whenKnown : ByteArray := prog_5_method_4_code
def yX3_whenKnown : MethodName := ⟨RX3, "whenKnown", "(II)I"⟩
abbrev cX3_hears : ByteArray := prog_5_method_5_code
def yX3_hears : MethodName := ⟨RX3, "hears", "(I)I"⟩
abbrev cX3_laughs : ByteArray := prog_5_method_6_code
def yX3_laughs : MethodName := ⟨RX3, "laughs", "(I)I"⟩
abbrev cX3_tells : ByteArray := prog_5_method_7_code
def yX3_tells : MethodName := ⟨RX3, "tells", "(I)I"⟩
def RX4 : String := "ToldMeThat$Helping"
def TX4 : u_T := fun k => match k with
  | 0 => ("ToldMeThat$Hearer", "kind", "I", true)
  | 1 => ("ToldMeThat$Hearer", "number", "I", true)
  | 2 => ("ToldMeThat$Hearer", "v", "I", true)
  | _ => ("ToldMeThat$Hearer", "trace", "LToldMeThat$Trace;", true)
def tyX4 : Nat → FieldType := fun k => match k with
  | 0 => .int
  | 1 => .int
  | 2 => .int
  | _ => .object "ToldMeThat$Trace"
abbrev wsX40 : List Cond := u_ws RX4 TX4 4
theorem nmX4 : ∀ a, a < 4 → ∀ b, b < 4 → a ≠ b → (TX4 a).2.1 ≠ (TX4 b).2.1 := by decide +kernel
theorem tyX4_ok : ∀ k, k < 4 → parseFieldDescriptor (TX4 k).2.2.1 = some (tyX4 k) := by decide +kernel
abbrev cX4_init : ByteArray := prog_6_method_1_code
def yX4_init : MethodName := ⟨RX4, "<init>", "(IIILToldMeThat$Trace;)V"⟩
abbrev cX4_whenKnown : ByteArray := prog_6_method_2_code
def yX4_whenKnown : MethodName := ⟨RX4, "whenKnown", "(II)I"⟩
abbrev cX4_hears : ByteArray := prog_6_method_3_code
def yX4_hears : MethodName := ⟨RX4, "hears", "(I)I"⟩
abbrev cX4_laughs : ByteArray := prog_6_method_4_code
def yX4_laughs : MethodName := ⟨RX4, "laughs", "(I)I"⟩
def RX5 : String := "ToldMeThat$House"
def TX5 : u_T := fun k => match k with
  | 0 => ("ToldMeThat$House", "step", "[I", true)
  | 1 => ("ToldMeThat$House", "number", "[I", true)
  | 2 => ("ToldMeThat$House", "steps", "I", false)
  | 3 => ("ToldMeThat$House", "days", "I", false)
  | 4 => ("ToldMeThat$House", "face", "I", false)
  | 5 => ("ToldMeThat$House", "text", "[B", false)
  | 6 => ("ToldMeThat$House", "length", "I", false)
  | _ => ("ToldMeThat$House", "at", "I", false)
def tyX5 : Nat → FieldType := fun k => match k with
  | 0 => .array .int
  | 1 => .array .int
  | 2 => .int
  | 3 => .int
  | 4 => .int
  | 5 => .array .byte
  | 6 => .int
  | _ => .int
abbrev wsX50 : List Cond := u_ws RX5 TX5 8
theorem nmX5 : ∀ a, a < 8 → ∀ b, b < 8 → a ≠ b → (TX5 a).2.1 ≠ (TX5 b).2.1 := by decide +kernel
theorem tyX5_ok : ∀ k, k < 8 → parseFieldDescriptor (TX5 k).2.2.1 = some (tyX5 k) := by decide +kernel
abbrev cX5_init : ByteArray := prog_7_method_1_code
def yX5_init : MethodName := ⟨RX5, "<init>", "()V"⟩
abbrev cX5_learn : ByteArray := prog_7_method_2_code
def yX5_learn : MethodName := ⟨RX5, "learn", "([BI)I"⟩
abbrev cX5_learnClause : ByteArray := prog_7_method_3_code
def yX5_learnClause : MethodName := ⟨RX5, "learnClause", "()Z"⟩
abbrev cX5_learnEither : ByteArray := prog_7_method_4_code
def yX5_learnEither : MethodName := ⟨RX5, "learnEither", "(I)Z"⟩
abbrev cX5_learnBoth : ByteArray := prog_7_method_5_code
def yX5_learnBoth : MethodName := ⟨RX5, "learnBoth", "(I)Z"⟩
abbrev cX5_learnPart : ByteArray := prog_7_method_6_code
def yX5_learnPart : MethodName := ⟨RX5, "learnPart", "(I)Z"⟩
abbrev cX5_add : ByteArray := prog_7_method_7_code
def yX5_add : MethodName := ⟨RX5, "add", "(II)Z"⟩
abbrev cX5_signAt : ByteArray := prog_7_method_8_code
def yX5_signAt : MethodName := ⟨RX5, "signAt", "(I)I"⟩
abbrev cX5_goBy : ByteArray := prog_7_method_9_code
def yX5_goBy : MethodName := ⟨RX5, "goBy", "(I)Z"⟩
abbrev cX5_goByOneOf : ByteArray := prog_7_method_10_code
def yX5_goByOneOf : MethodName := ⟨RX5, "goByOneOf", "(Ljava/lang/String;)I"⟩
abbrev cX5_goByNumber : ByteArray := prog_7_method_11_code
def yX5_goByNumber : MethodName := ⟨RX5, "goByNumber", "()I"⟩
abbrev cX5_goByWord : ByteArray := prog_7_method_12_code
def yX5_goByWord : MethodName := ⟨RX5, "goByWord", "()I"⟩
abbrev cX5_wordOf : ByteArray := prog_7_method_13_code
def yX5_wordOf : MethodName := ⟨RX5, "wordOf", "(I)Ljava/lang/String;"⟩
abbrev cX5_alike : ByteArray := prog_7_method_14_code
def yX5_alike : MethodName := ⟨RX5, "alike", "(Ljava/lang/String;)I"⟩
abbrev cX5_moodBy : ByteArray := prog_7_method_15_code
def yX5_moodBy : MethodName := ⟨RX5, "moodBy", "([I)I"⟩
abbrev cX5_holds : ByteArray := prog_7_method_16_code
def yX5_holds : MethodName := ⟨RX5, "holds", "(I[I)Z"⟩
def RX6 : String := "ToldMeThat$Polite"
def TX6 : u_T := fun k => match k with
  | 0 => ("ToldMeThat$Hearer", "kind", "I", true)
  | 1 => ("ToldMeThat$Hearer", "number", "I", true)
  | 2 => ("ToldMeThat$Hearer", "v", "I", true)
  | _ => ("ToldMeThat$Hearer", "trace", "LToldMeThat$Trace;", true)
def tyX6 : Nat → FieldType := fun k => match k with
  | 0 => .int
  | 1 => .int
  | 2 => .int
  | _ => .object "ToldMeThat$Trace"
abbrev wsX60 : List Cond := u_ws RX6 TX6 4
theorem nmX6 : ∀ a, a < 4 → ∀ b, b < 4 → a ≠ b → (TX6 a).2.1 ≠ (TX6 b).2.1 := by decide +kernel
theorem tyX6_ok : ∀ k, k < 4 → parseFieldDescriptor (TX6 k).2.2.1 = some (tyX6 k) := by decide +kernel
abbrev cX6_init : ByteArray := prog_8_method_1_code
def yX6_init : MethodName := ⟨RX6, "<init>", "(IIILToldMeThat$Trace;)V"⟩
abbrev cX6_whenKnown : ByteArray := prog_8_method_2_code
def yX6_whenKnown : MethodName := ⟨RX6, "whenKnown", "(II)I"⟩
abbrev cX6_laughs : ByteArray := prog_8_method_3_code
def yX6_laughs : MethodName := ⟨RX6, "laughs", "(I)I"⟩
def RX7 : String := "ToldMeThat$State"
def TX7 : u_T := fun k => match k with
  | 0 => ("ToldMeThat$State", "day", "I", false)
  | 1 => ("ToldMeThat$State", "holds", "I", false)
  | 2 => ("ToldMeThat$State", "stories", "I", false)
  | 3 => ("ToldMeThat$State", "hearers", "I", false)
  | 4 => ("ToldMeThat$State", "faces", "I", false)
  | 5 => ("ToldMeThat$State", "entries", "I", false)
  | 6 => ("ToldMeThat$State", "good", "[I", true)
  | 7 => ("ToldMeThat$State", "minutes", "[I", true)
  | 8 => ("ToldMeThat$State", "who", "[LToldMeThat$Hearer;", true)
  | 9 => ("ToldMeThat$State", "times", "[I", true)
  | 10 => ("ToldMeThat$State", "last", "[I", true)
  | 11 => ("ToldMeThat$State", "rows", "[I", true)
  | 12 => ("ToldMeThat$State", "faceStory", "[I", true)
  | 13 => ("ToldMeThat$State", "faceSet", "[I", true)
  | _ => ("ToldMeThat$State", "book", "[I", true)
def tyX7 : Nat → FieldType := fun k => match k with
  | 0 => .int
  | 1 => .int
  | 2 => .int
  | 3 => .int
  | 4 => .int
  | 5 => .int
  | 6 => .array .int
  | 7 => .array .int
  | 8 => .array (.object "ToldMeThat$Hearer")
  | 9 => .array .int
  | 10 => .array .int
  | 11 => .array .int
  | 12 => .array .int
  | 13 => .array .int
  | _ => .array .int
abbrev wsX70 : List Cond := u_ws RX7 TX7 15
theorem nmX7 : ∀ a, a < 15 → ∀ b, b < 15 → a ≠ b → (TX7 a).2.1 ≠ (TX7 b).2.1 := by decide +kernel
theorem tyX7_ok : ∀ k, k < 15 → parseFieldDescriptor (TX7 k).2.2.1 = some (tyX7 k) := by decide +kernel
abbrev cX7_init : ByteArray := prog_9_method_1_code
def yX7_init : MethodName := ⟨RX7, "<init>", "()V"⟩
abbrev cX7_become : ByteArray := prog_9_method_2_code
def yX7_become : MethodName := ⟨RX7, "become", "(LToldMeThat$State;)V"⟩
def RX8 : String := "ToldMeThat$Tape"
def TX8 : u_T := fun k => match k with
  | 0 => ("ToldMeThat$Tape", "items", "[J", true)
  | 1 => ("ToldMeThat$Tape", "sort", "I", false)
  | _ => ("ToldMeThat$Tape", "size", "I", false)
def tyX8 : Nat → FieldType := fun k => match k with
  | 0 => .array .long
  | 1 => .int
  | _ => .int
abbrev wsX80 : List Cond := u_ws RX8 TX8 3
theorem nmX8 : ∀ a, a < 3 → ∀ b, b < 3 → a ≠ b → (TX8 a).2.1 ≠ (TX8 b).2.1 := by decide +kernel
theorem tyX8_ok : ∀ k, k < 3 → parseFieldDescriptor (TX8 k).2.2.1 = some (tyX8 k) := by decide +kernel
abbrev cX8_init : ByteArray := prog_10_method_1_code
def yX8_init : MethodName := ⟨RX8, "<init>", "()V"⟩
abbrev cX8_renew : ByteArray := prog_10_method_2_code
def yX8_renew : MethodName := ⟨RX8, "renew", "(II)V"⟩
abbrev cX8_fitted : ByteArray := prog_10_method_3_code
def yX8_fitted : MethodName := ⟨RX8, "fitted", "(J)J"⟩
abbrev cX8_hasRun : ByteArray := prog_10_method_4_code
def yX8_hasRun : MethodName := ⟨RX8, "hasRun", "(II)Z"⟩
def RX9 : String := "ToldMeThat$Told"
def TX9 : u_T := fun k => match k with
  | 0 => ("ToldMeThat$Hearer", "kind", "I", true)
  | 1 => ("ToldMeThat$Hearer", "number", "I", true)
  | 2 => ("ToldMeThat$Hearer", "v", "I", true)
  | _ => ("ToldMeThat$Hearer", "trace", "LToldMeThat$Trace;", true)
def tyX9 : Nat → FieldType := fun k => match k with
  | 0 => .int
  | 1 => .int
  | 2 => .int
  | _ => .object "ToldMeThat$Trace"
abbrev wsX90 : List Cond := u_ws RX9 TX9 4
theorem nmX9 : ∀ a, a < 4 → ∀ b, b < 4 → a ≠ b → (TX9 a).2.1 ≠ (TX9 b).2.1 := by decide +kernel
theorem tyX9_ok : ∀ k, k < 4 → parseFieldDescriptor (TX9 k).2.2.1 = some (tyX9 k) := by decide +kernel
abbrev cX9_init : ByteArray := prog_11_method_1_code
def yX9_init : MethodName := ⟨RX9, "<init>", "(IIILToldMeThat$Trace;)V"⟩
abbrev cX9_memory : ByteArray := prog_11_method_2_code
def yX9_memory : MethodName := ⟨RX9, "memory", "(II)I"⟩
abbrev cX9_laughs : ByteArray := prog_11_method_3_code
def yX9_laughs : MethodName := ⟨RX9, "laughs", "(I)I"⟩
abbrev cX9_hears : ByteArray := prog_11_method_4_code
def yX9_hears : MethodName := ⟨RX9, "hears", "(I)I"⟩
def RX10 : String := "ToldMeThat$Trace"
def TX10 : u_T := fun k => match k with
  | 0 => ("ToldMeThat$Trace", "bodies", "[I", true)
  | _ => ("ToldMeThat$Trace", "ran", "I", false)
def tyX10 : Nat → FieldType := fun k => match k with
  | 0 => .array .int
  | _ => .int
abbrev wsX100 : List Cond := u_ws RX10 TX10 2
theorem nmX10 : ∀ a, a < 2 → ∀ b, b < 2 → a ≠ b → (TX10 a).2.1 ≠ (TX10 b).2.1 := by decide +kernel
theorem tyX10_ok : ∀ k, k < 2 → parseFieldDescriptor (TX10 k).2.2.1 = some (tyX10 k) := by decide +kernel
abbrev cX10_init : ByteArray := prog_12_method_1_code
def yX10_init : MethodName := ⟨RX10, "<init>", "()V"⟩
abbrev cX10_clear : ByteArray := prog_12_method_2_code
def yX10_clear : MethodName := ⟨RX10, "clear", "()V"⟩
abbrev cX10_begin : ByteArray := prog_12_method_3_code
def yX10_begin : MethodName := ⟨RX10, "begin", "(I)V"⟩
abbrev cX10_keptBodies : ByteArray := prog_12_method_4_code
def yX10_keptBodies : MethodName := ⟨RX10, "keptBodies", "()I"⟩
def RX11 : String := "ToldMeThat"
def TX11 : u_T := fun k => match k with
  | 0 => ("ToldMeThat", "now", "LToldMeThat$State;", true)
  | 1 => ("ToldMeThat", "kept", "LToldMeThat$State;", true)
  | 2 => ("ToldMeThat", "imaged", "Z", false)
  | 3 => ("ToldMeThat", "text", "[B", true)
  | 4 => ("ToldMeThat", "typed", "I", false)
  | 5 => ("ToldMeThat", "houses", "[LToldMeThat$House;", true)
  | 6 => ("ToldMeThat", "built", "I", false)
  | 7 => ("ToldMeThat", "trace", "LToldMeThat$Trace;", true)
  | 8 => ("ToldMeThat", "tapes", "[LToldMeThat$Tape;", true)
  | 9 => ("ToldMeThat", "facts", "[I", true)
  | 10 => ("ToldMeThat", "worths", "[I", true)
  | 11 => ("ToldMeThat", "laterWorths", "[I", true)
  | 12 => ("ToldMeThat", "laughs", "[I", true)
  | 13 => ("ToldMeThat", "supperWorths", "[I", true)
  | 14 => ("ToldMeThat", "order", "[I", true)
  | _ => ("ToldMeThat", "bestOrder", "[I", true)
def tyX11 : Nat → FieldType := fun k => match k with
  | 0 => .object "ToldMeThat$State"
  | 1 => .object "ToldMeThat$State"
  | 2 => .boolean
  | 3 => .array .byte
  | 4 => .int
  | 5 => .array (.object "ToldMeThat$House")
  | 6 => .int
  | 7 => .object "ToldMeThat$Trace"
  | 8 => .array (.object "ToldMeThat$Tape")
  | 9 => .array .int
  | 10 => .array .int
  | 11 => .array .int
  | 12 => .array .int
  | 13 => .array .int
  | 14 => .array .int
  | _ => .array .int
abbrev wsX110 : List Cond := u_ws RX11 TX11 16
theorem nmX11 : ∀ a, a < 16 → ∀ b, b < 16 → a ≠ b → (TX11 a).2.1 ≠ (TX11 b).2.1 := by decide +kernel
theorem tyX11_ok : ∀ k, k < 16 → parseFieldDescriptor (TX11 k).2.2.1 = some (tyX11 k) := by decide +kernel
abbrev cX11_init : ByteArray := prog_1_method_1_code
def yX11_init : MethodName := ⟨RX11, "<init>", "()V"⟩
abbrev cX11_story : ByteArray := prog_1_method_2_code
def yX11_story : MethodName := ⟨RX11, "story", "(II)I"⟩
abbrev cX11_hearer : ByteArray := prog_1_method_3_code
def yX11_hearer : MethodName := ⟨RX11, "hearer", "(II)I"⟩
abbrev cX11_of : ByteArray := prog_1_method_4_code
def yX11_of : MethodName := ⟨RX11, "of", "(II)I"⟩
abbrev cX11_at : ByteArray := prog_1_method_5_code
def yX11_at : MethodName := ⟨RX11, "at", "(II)I"⟩
abbrev cX11_good : ByteArray := prog_1_method_6_code
def yX11_good : MethodName := ⟨RX11, "good", "(II)I"⟩
abbrev cX11_had : ByteArray := prog_1_method_7_code
def yX11_had : MethodName := ⟨RX11, "had", "(III)I"⟩
abbrev cX11_row : ByteArray := prog_1_method_8_code
def yX11_row : MethodName := ⟨RX11, "row", "(III)I"⟩
abbrev cX11_feed : ByteArray := prog_1_method_9_code
def yX11_feed : MethodName := ⟨RX11, "feed", "(I)I"⟩
abbrev cX11_house : ByteArray := prog_1_method_10_code
def yX11_house : MethodName := ⟨RX11, "house", "()I"⟩
abbrev cX11_told : ByteArray := prog_1_method_11_code
def yX11_told : MethodName := ⟨RX11, "told", "(I)I"⟩
abbrev cX11_pass : ByteArray := prog_1_method_12_code
def yX11_pass : MethodName := ⟨RX11, "pass", "(I)I"⟩
abbrev cX11_tell : ByteArray := prog_1_method_13_code
def yX11_tell : MethodName := ⟨RX11, "tell", "(II)I"⟩
abbrev cX11_laugh : ByteArray := prog_1_method_14_code
def yX11_laugh : MethodName := ⟨RX11, "laugh", "(II)I"⟩
abbrev cX11_would : ByteArray := prog_1_method_15_code
def yX11_would : MethodName := ⟨RX11, "would", "(III)I"⟩
abbrev cX11_best : ByteArray := prog_1_method_16_code
def yX11_best : MethodName := ⟨RX11, "best", "(II)I"⟩
abbrev cX11_fresh : ByteArray := prog_1_method_17_code
def yX11_fresh : MethodName := ⟨RX11, "fresh", "(I)I"⟩
abbrev cX11_again : ByteArray := prog_1_method_18_code
def yX11_again : MethodName := ⟨RX11, "again", "(II)I"⟩
abbrev cX11_evening : ByteArray := prog_1_method_19_code
def yX11_evening : MethodName := ⟨RX11, "evening", "(III)I"⟩
abbrev cX11_coffee : ByteArray := prog_1_method_20_code
def yX11_coffee : MethodName := ⟨RX11, "coffee", "(II)I"⟩
abbrev cX11_keep : ByteArray := prog_1_method_21_code
def yX11_keep : MethodName := ⟨RX11, "keep", "(IIII)I"⟩
abbrev cX11_suppers : ByteArray := prog_1_method_22_code
def yX11_suppers : MethodName := ⟨RX11, "suppers", "(IIII)I"⟩
abbrev cX11_seats : ByteArray := prog_1_method_23_code
def yX11_seats : MethodName := ⟨RX11, "seats", "(II)I"⟩
abbrev cX11_spared : ByteArray := prog_1_method_24_code
def yX11_spared : MethodName := ⟨RX11, "spared", "(II)I"⟩
abbrev cX11_see : ByteArray := prog_1_method_25_code
def yX11_see : MethodName := ⟨RX11, "see", "(II)I"⟩
abbrev cX11_guess : ByteArray := prog_1_method_26_code
def yX11_guess : MethodName := ⟨RX11, "guess", "(I)I"⟩
abbrev cX11_odds : ByteArray := prog_1_method_27_code
def yX11_odds : MethodName := ⟨RX11, "odds", "(II)J"⟩
abbrev cX11_mean : ByteArray := prog_1_method_28_code
def yX11_mean : MethodName := ⟨RX11, "mean", "(II)J"⟩
abbrev cX11_book : ByteArray := prog_1_method_29_code
def yX11_book : MethodName := ⟨RX11, "book", "(I)I"⟩
abbrev cX11_looked : ByteArray := prog_1_method_30_code
def yX11_looked : MethodName := ⟨RX11, "looked", "()I"⟩
abbrev cX11_judge : ByteArray := prog_1_method_31_code
def yX11_judge : MethodName := ⟨RX11, "judge", "(II)I"⟩
abbrev cX11_image : ByteArray := prog_1_method_32_code
def yX11_image : MethodName := ⟨RX11, "image", "()I"⟩
abbrev cX11_undo : ByteArray := prog_1_method_33_code
def yX11_undo : MethodName := ⟨RX11, "undo", "()I"⟩
abbrev cX11_act : ByteArray := prog_1_method_34_code
def yX11_act : MethodName := ⟨RX11, "act", "(III)I"⟩
abbrev cX11_trace : ByteArray := prog_1_method_35_code
def yX11_trace : MethodName := ⟨RX11, "trace", "(I)I"⟩
abbrev cX11_taken : ByteArray := prog_1_method_36_code
def yX11_taken : MethodName := ⟨RX11, "taken", "(II)I"⟩
abbrev cX11_count : ByteArray := prog_1_method_37_code
def yX11_count : MethodName := ⟨RX11, "count", "(I)I"⟩
abbrev cX11_tape : ByteArray := prog_1_method_38_code
def yX11_tape : MethodName := ⟨RX11, "tape", "(III)I"⟩
abbrev cX11_item : ByteArray := prog_1_method_39_code
def yX11_item : MethodName := ⟨RX11, "item", "(IIJ)I"⟩
abbrev cX11_read : ByteArray := prog_1_method_40_code
def yX11_read : MethodName := ⟨RX11, "read", "(II)J"⟩
abbrev cX11_shift : ByteArray := prog_1_method_41_code
def yX11_shift : MethodName := ⟨RX11, "shift", "(IIIII)I"⟩
abbrev cX11_within : ByteArray := prog_1_method_42_code
def yX11_within : MethodName := ⟨RX11, "within", "(III)Z"⟩
abbrev cX11_isGood : ByteArray := prog_1_method_43_code
def yX11_isGood : MethodName := ⟨RX11, "isGood", "(I)Z"⟩
abbrev cX11_in : ByteArray := prog_1_method_44_code
def yX11_in : MethodName := ⟨RX11, "in", "(II)Z"⟩
abbrev cX11_isStory : ByteArray := prog_1_method_45_code
def yX11_isStory : MethodName := ⟨RX11, "isStory", "(I)Z"⟩
abbrev cX11_everybody : ByteArray := prog_1_method_46_code
def yX11_everybody : MethodName := ⟨RX11, "everybody", "()I"⟩
abbrev cX11_isTable : ByteArray := prog_1_method_47_code
def yX11_isTable : MethodName := ⟨RX11, "isTable", "(I)Z"⟩
abbrev cX11_hearerAt : ByteArray := prog_1_method_48_code
def yX11_hearerAt : MethodName := ⟨RX11, "hearerAt", "(I)LToldMeThat$Hearer;"⟩
abbrev cX11_tapeAt : ByteArray := prog_1_method_49_code
def yX11_tapeAt : MethodName := ⟨RX11, "tapeAt", "(I)LToldMeThat$Tape;"⟩
abbrev cX11_holding : ByteArray := prog_1_method_50_code
def yX11_holding : MethodName := ⟨RX11, "holding", "()LToldMeThat$House;"⟩
abbrev cX11_daysTold : ByteArray := prog_1_method_51_code
def yX11_daysTold : MethodName := ⟨RX11, "daysTold", "()I"⟩
abbrev cX11_faceTold : ByteArray := prog_1_method_52_code
def yX11_faceTold : MethodName := ⟨RX11, "faceTold", "()I"⟩
abbrev cX11_timesOf : ByteArray := prog_1_method_53_code
def yX11_timesOf : MethodName := ⟨RX11, "timesOf", "(II)I"⟩
abbrev cX11_setHad : ByteArray := prog_1_method_54_code
def yX11_setHad : MethodName := ⟨RX11, "setHad", "(III)V"⟩
abbrev cX11_newHearer : ByteArray := prog_1_method_55_code
def yX11_newHearer : MethodName := ⟨RX11, "newHearer", "(III)LToldMeThat$Hearer;"⟩
abbrev cX11_isOfKind : ByteArray := prog_1_method_56_code
def yX11_isOfKind : MethodName := ⟨RX11, "isOfKind", "(LToldMeThat$Hearer;I)Z"⟩
abbrev cX11_knowsThen : ByteArray := prog_1_method_57_code
def yX11_knowsThen : MethodName := ⟨RX11, "knowsThen", "(LToldMeThat$Hearer;III)Z"⟩
abbrev cX11_knowersThen : ByteArray := prog_1_method_58_code
def yX11_knowersThen : MethodName := ⟨RX11, "knowersThen", "(III)I"⟩
abbrev cX11_moodThen : ByteArray := prog_1_method_59_code
def yX11_moodThen : MethodName := ⟨RX11, "moodThen", "(LToldMeThat$Hearer;III)I"⟩
abbrev cX11_laughThen : ByteArray := prog_1_method_60_code
def yX11_laughThen : MethodName := ⟨RX11, "laughThen", "(IIIII)I"⟩
abbrev cX11_laughNow : ByteArray := prog_1_method_61_code
def yX11_laughNow : MethodName := ⟨RX11, "laughNow", "(II)I"⟩
abbrev cX11_laughterThen : ByteArray := prog_1_method_62_code
def yX11_laughterThen : MethodName := ⟨RX11, "laughterThen", "(IIIII)I"⟩
abbrev cX11_laughter : ByteArray := prog_1_method_63_code
def yX11_laughter : MethodName := ⟨RX11, "laughter", "(II)I"⟩
abbrev cX11_weigh : ByteArray := prog_1_method_64_code
def yX11_weigh : MethodName := ⟨RX11, "weigh", "([III)V"⟩
abbrev cX11_bestBeside : ByteArray := prog_1_method_65_code
def yX11_bestBeside : MethodName := ⟨RX11, "bestBeside", "(I)I"⟩
abbrev cX11_sumOf : ByteArray := prog_1_method_66_code
def yX11_sumOf : MethodName := ⟨RX11, "sumOf", "([II)I"⟩
abbrev cX11_partOf : ByteArray := prog_1_method_67_code
def yX11_partOf : MethodName := ⟨RX11, "partOf", "(III)I"⟩
abbrev cX11_supperPlace : ByteArray := prog_1_method_68_code
def yX11_supperPlace : MethodName := ⟨RX11, "supperPlace", "(III)I"⟩
abbrev cX11_weighSuppers : ByteArray := prog_1_method_69_code
def yX11_weighSuppers : MethodName := ⟨RX11, "weighSuppers", "(III)V"⟩
abbrev cX11_storyInRow : ByteArray := prog_1_method_70_code
def yX11_storyInRow : MethodName := ⟨RX11, "storyInRow", "(III)I"⟩
abbrev cX11_worthOfRow : ByteArray := prog_1_method_71_code
def yX11_worthOfRow : MethodName := ⟨RX11, "worthOfRow", "(II)I"⟩
abbrev cX11_findSeats : ByteArray := prog_1_method_72_code
def yX11_findSeats : MethodName := ⟨RX11, "findSeats", "(I)I"⟩
abbrev cX11_servedBy : ByteArray := prog_1_method_73_code
def yX11_servedBy : MethodName := ⟨RX11, "servedBy", "(I)I"⟩
abbrev cX11_nextOrder : ByteArray := prog_1_method_74_code
def yX11_nextOrder : MethodName := ⟨RX11, "nextOrder", "()Z"⟩
abbrev cX11_swapSeats : ByteArray := prog_1_method_75_code
def yX11_swapSeats : MethodName := ⟨RX11, "swapSeats", "(II)V"⟩
abbrev cX11_copy : ByteArray := prog_1_method_76_code
def yX11_copy : MethodName := ⟨RX11, "copy", "([I[I)V"⟩
def RX12 : String := "ToldMeThatModel"
def TX12 : u_T := fun k => match k with
  | 0 => ("ToldMeThatModel", "stories", "I", false)
  | 1 => ("ToldMeThatModel", "hearers", "I", false)
  | 2 => ("ToldMeThatModel", "day", "I", false)
  | 3 => ("ToldMeThatModel", "good", "[I", true)
  | 4 => ("ToldMeThatModel", "minutes", "[I", true)
  | 5 => ("ToldMeThatModel", "kind", "[I", true)
  | 6 => ("ToldMeThatModel", "v", "[I", true)
  | 7 => ("ToldMeThatModel", "rows", "[I", true)
  | 8 => ("ToldMeThatModel", "times", "[I", true)
  | 9 => ("ToldMeThatModel", "latest", "[I", true)
  | 10 => ("ToldMeThatModel", "houses", "I", false)
  | 11 => ("ToldMeThatModel", "the", "I", false)
  | 12 => ("ToldMeThatModel", "fed", "I", false)
  | 13 => ("ToldMeThatModel", "at", "I", false)
  | 14 => ("ToldMeThatModel", "digits", "I", false)
  | 15 => ("ToldMeThatModel", "text", "[I", true)
  | 16 => ("ToldMeThatModel", "clauses", "[I", true)
  | 17 => ("ToldMeThatModel", "word", "[I", true)
  | 18 => ("ToldMeThatModel", "number", "[I", true)
  | 19 => ("ToldMeThatModel", "from", "[I", true)
  | 20 => ("ToldMeThatModel", "to", "[I", true)
  | 21 => ("ToldMeThatModel", "sign", "[I", true)
  | 22 => ("ToldMeThatModel", "waits", "[I", true)
  | 23 => ("ToldMeThatModel", "signs", "I", false)
  | 24 => ("ToldMeThatModel", "waiting", "I", false)
  | 25 => ("ToldMeThatModel", "open", "I", false)
  | 26 => ("ToldMeThatModel", "letters", "[I", true)
  | 27 => ("ToldMeThatModel", "pile", "[Z", true)
  | 28 => ("ToldMeThatModel", "gone", "I", false)
  | 29 => ("ToldMeThatModel", "fun", "[I", true)
  | 30 => ("ToldMeThatModel", "keptDay", "I", false)
  | 31 => ("ToldMeThatModel", "keptTimes", "[I", true)
  | 32 => ("ToldMeThatModel", "keptLatest", "[I", true)
  | 33 => ("ToldMeThatModel", "rowNow", "[I", true)
  | 34 => ("ToldMeThatModel", "bestRow", "[I", true)
  | 35 => ("ToldMeThatModel", "order", "[I", true)
  | 36 => ("ToldMeThatModel", "bestOrder", "[I", true)
  | 37 => ("ToldMeThatModel", "faces", "I", false)
  | 38 => ("ToldMeThatModel", "faceStory", "[I", true)
  | 39 => ("ToldMeThatModel", "faceSet", "[I", true)
  | 40 => ("ToldMeThatModel", "books", "I", false)
  | 41 => ("ToldMeThatModel", "book", "[I", true)
  | 42 => ("ToldMeThatModel", "hasImage", "Z", false)
  | 43 => ("ToldMeThatModel", "imageThe", "I", false)
  | 44 => ("ToldMeThatModel", "imageStories", "I", false)
  | 45 => ("ToldMeThatModel", "imageHearers", "I", false)
  | 46 => ("ToldMeThatModel", "imageDay", "I", false)
  | 47 => ("ToldMeThatModel", "imageFaces", "I", false)
  | 48 => ("ToldMeThatModel", "imageBooks", "I", false)
  | 49 => ("ToldMeThatModel", "imageGood", "[I", true)
  | 50 => ("ToldMeThatModel", "imageMinutes", "[I", true)
  | 51 => ("ToldMeThatModel", "imageKind", "[I", true)
  | 52 => ("ToldMeThatModel", "imageV", "[I", true)
  | 53 => ("ToldMeThatModel", "imageRows", "[I", true)
  | 54 => ("ToldMeThatModel", "imageTimes", "[I", true)
  | 55 => ("ToldMeThatModel", "imageLatest", "[I", true)
  | 56 => ("ToldMeThatModel", "imageStory", "[I", true)
  | 57 => ("ToldMeThatModel", "imageSet", "[I", true)
  | 58 => ("ToldMeThatModel", "imageBook", "[I", true)
  | 59 => ("ToldMeThatModel", "ran", "I", false)
  | 60 => ("ToldMeThatModel", "bodies", "[I", true)
  | 61 => ("ToldMeThatModel", "sort", "[I", true)
  | 62 => ("ToldMeThatModel", "length", "[I", true)
  | 63 => ("ToldMeThatModel", "item", "[J", true)
  | _ => ("ToldMeThatModel", "aside", "[J", true)
def tyX12 : Nat → FieldType := fun k => match k with
  | 0 => .int
  | 1 => .int
  | 2 => .int
  | 3 => .array .int
  | 4 => .array .int
  | 5 => .array .int
  | 6 => .array .int
  | 7 => .array .int
  | 8 => .array .int
  | 9 => .array .int
  | 10 => .int
  | 11 => .int
  | 12 => .int
  | 13 => .int
  | 14 => .int
  | 15 => .array .int
  | 16 => .array .int
  | 17 => .array .int
  | 18 => .array .int
  | 19 => .array .int
  | 20 => .array .int
  | 21 => .array .int
  | 22 => .array .int
  | 23 => .int
  | 24 => .int
  | 25 => .int
  | 26 => .array .int
  | 27 => .array .boolean
  | 28 => .int
  | 29 => .array .int
  | 30 => .int
  | 31 => .array .int
  | 32 => .array .int
  | 33 => .array .int
  | 34 => .array .int
  | 35 => .array .int
  | 36 => .array .int
  | 37 => .int
  | 38 => .array .int
  | 39 => .array .int
  | 40 => .int
  | 41 => .array .int
  | 42 => .boolean
  | 43 => .int
  | 44 => .int
  | 45 => .int
  | 46 => .int
  | 47 => .int
  | 48 => .int
  | 49 => .array .int
  | 50 => .array .int
  | 51 => .array .int
  | 52 => .array .int
  | 53 => .array .int
  | 54 => .array .int
  | 55 => .array .int
  | 56 => .array .int
  | 57 => .array .int
  | 58 => .array .int
  | 59 => .int
  | 60 => .array .int
  | 61 => .array .int
  | 62 => .array .int
  | 63 => .array .long
  | _ => .array .long
abbrev wsX120 : List Cond := u_ws RX12 TX12 65
theorem nmX12 : ∀ a, a < 65 → ∀ b, b < 65 → a ≠ b → (TX12 a).2.1 ≠ (TX12 b).2.1 := by decide +kernel
theorem tyX12_ok : ∀ k, k < 65 → parseFieldDescriptor (TX12 k).2.2.1 = some (tyX12 k) := by decide +kernel
abbrev cX12_init : ByteArray := prog_14_method_1_code
def yX12_init : MethodName := ⟨RX12, "<init>", "()V"⟩
abbrev cX12_in : ByteArray := prog_14_method_2_code
def yX12_in : MethodName := ⟨RX12, "in", "(III)Z"⟩
abbrev cX12_has : ByteArray := prog_14_method_3_code
def yX12_has : MethodName := ⟨RX12, "has", "(II)Z"⟩
abbrev cX12_ones : ByteArray := prog_14_method_4_code
def yX12_ones : MethodName := ⟨RX12, "ones", "(I)I"⟩
abbrev cX12_isStory : ByteArray := prog_14_method_5_code
def yX12_isStory : MethodName := ⟨RX12, "isStory", "(I)Z"⟩
abbrev cX12_isHearer : ByteArray := prog_14_method_6_code
def yX12_isHearer : MethodName := ⟨RX12, "isHearer", "(I)Z"⟩
abbrev cX12_isTable : ByteArray := prog_14_method_7_code
def yX12_isTable : MethodName := ⟨RX12, "isTable", "(I)Z"⟩
abbrev cX12_story : ByteArray := prog_14_method_8_code
def yX12_story : MethodName := ⟨RX12, "story", "(II)I"⟩
abbrev cX12_hearer : ByteArray := prog_14_method_9_code
def yX12_hearer : MethodName := ⟨RX12, "hearer", "(II)I"⟩
abbrev cX12_at : ByteArray := prog_14_method_10_code
def yX12_at : MethodName := ⟨RX12, "at", "(II)I"⟩
abbrev cX12_good : ByteArray := prog_14_method_11_code
def yX12_good : MethodName := ⟨RX12, "good", "(II)I"⟩
abbrev cX12_had : ByteArray := prog_14_method_12_code
def yX12_had : MethodName := ⟨RX12, "had", "(III)I"⟩
abbrev cX12_row : ByteArray := prog_14_method_13_code
def yX12_row : MethodName := ⟨RX12, "row", "(III)I"⟩
abbrev cX12_feed : ByteArray := prog_14_method_14_code
def yX12_feed : MethodName := ⟨RX12, "feed", "(I)I"⟩
abbrev cX12_next : ByteArray := prog_14_method_15_code
def yX12_next : MethodName := ⟨RX12, "next", "()I"⟩
abbrev cX12_second : ByteArray := prog_14_method_16_code
def yX12_second : MethodName := ⟨RX12, "second", "()I"⟩
abbrev cX12_takes : ByteArray := prog_14_method_17_code
def yX12_takes : MethodName := ⟨RX12, "takes", "(I)Z"⟩
abbrev cX12_takesWord : ByteArray := prog_14_method_18_code
def yX12_takesWord : MethodName := ⟨RX12, "takesWord", "(II)Z"⟩
abbrev cX12_isDigit : ByteArray := prog_14_method_19_code
def yX12_isDigit : MethodName := ⟨RX12, "isDigit", "()Z"⟩
abbrev cX12_takesNumber : ByteArray := prog_14_method_20_code
def yX12_takesNumber : MethodName := ⟨RX12, "takesNumber", "()Z"⟩
abbrev cX12_emits : ByteArray := prog_14_method_21_code
def yX12_emits : MethodName := ⟨RX12, "emits", "(I)V"⟩
abbrev cX12_whole : ByteArray := prog_14_method_22_code
def yX12_whole : MethodName := ⟨RX12, "whole", "()V"⟩
abbrev cX12_settle : ByteArray := prog_14_method_23_code
def yX12_settle : MethodName := ⟨RX12, "settle", "(I)V"⟩
abbrev cX12_place : ByteArray := prog_14_method_24_code
def yX12_place : MethodName := ⟨RX12, "place", "(I)I"⟩
abbrev cX12_takesTest : ByteArray := prog_14_method_25_code
def yX12_takesTest : MethodName := ⟨RX12, "takesTest", "()Z"⟩
abbrev cX12_takesE : ByteArray := prog_14_method_26_code
def yX12_takesE : MethodName := ⟨RX12, "takesE", "(I)Z"⟩
abbrev cX12_takesHead : ByteArray := prog_14_method_27_code
def yX12_takesHead : MethodName := ⟨RX12, "takesHead", "(I)Z"⟩
abbrev cX12_takesClause : ByteArray := prog_14_method_28_code
def yX12_takesClause : MethodName := ⟨RX12, "takesClause", "(I)Z"⟩
abbrev cX12_goesText : ByteArray := prog_14_method_29_code
def yX12_goesText : MethodName := ⟨RX12, "goesText", "(I)Z"⟩
abbrev cX12_house : ByteArray := prog_14_method_30_code
def yX12_house : MethodName := ⟨RX12, "house", "()I"⟩
abbrev cX12_begin : ByteArray := prog_14_method_31_code
def yX12_begin : MethodName := ⟨RX12, "begin", "()I"⟩
abbrev cX12_behind : ByteArray := prog_14_method_32_code
def yX12_behind : MethodName := ⟨RX12, "behind", "()I"⟩
abbrev cX12_lastOf : ByteArray := prog_14_method_33_code
def yX12_lastOf : MethodName := ⟨RX12, "lastOf", "(II)I"⟩
abbrev cX12_factOf : ByteArray := prog_14_method_34_code
def yX12_factOf : MethodName := ⟨RX12, "factOf", "(III)I"⟩
abbrev cX12_holds : ByteArray := prog_14_method_35_code
def yX12_holds : MethodName := ⟨RX12, "holds", "(III)Z"⟩
abbrev cX12_mood : ByteArray := prog_14_method_36_code
def yX12_mood : MethodName := ⟨RX12, "mood", "(II)I"⟩
abbrev cX12_limit : ByteArray := prog_14_method_37_code
def yX12_limit : MethodName := ⟨RX12, "limit", "(I)I"⟩
abbrev cX12_knows : ByteArray := prog_14_method_38_code
def yX12_knows : MethodName := ⟨RX12, "knows", "(II)Z"⟩
abbrev cX12_laughOf : ByteArray := prog_14_method_39_code
def yX12_laughOf : MethodName := ⟨RX12, "laughOf", "(II)I"⟩
abbrev cX12_laughter : ByteArray := prog_14_method_40_code
def yX12_laughter : MethodName := ⟨RX12, "laughter", "(II)I"⟩
abbrev cX12_knowing : ByteArray := prog_14_method_41_code
def yX12_knowing : MethodName := ⟨RX12, "knowing", "(II)I"⟩
abbrev cX12_of : ByteArray := prog_14_method_42_code
def yX12_of : MethodName := ⟨RX12, "of", "(II)I"⟩
abbrev cX12_told : ByteArray := prog_14_method_43_code
def yX12_told : MethodName := ⟨RX12, "told", "(I)I"⟩
abbrev cX12_pass : ByteArray := prog_14_method_44_code
def yX12_pass : MethodName := ⟨RX12, "pass", "(I)I"⟩
abbrev cX12_tells : ByteArray := prog_14_method_45_code
def yX12_tells : MethodName := ⟨RX12, "tells", "(II)I"⟩
abbrev cX12_tell : ByteArray := prog_14_method_46_code
def yX12_tell : MethodName := ⟨RX12, "tell", "(II)I"⟩
abbrev cX12_laugh : ByteArray := prog_14_method_47_code
def yX12_laugh : MethodName := ⟨RX12, "laugh", "(II)I"⟩
abbrev cX12_would : ByteArray := prog_14_method_48_code
def yX12_would : MethodName := ⟨RX12, "would", "(III)I"⟩
abbrev cX12_bestOf : ByteArray := prog_14_method_49_code
def yX12_bestOf : MethodName := ⟨RX12, "bestOf", "(I)I"⟩
abbrev cX12_best : ByteArray := prog_14_method_50_code
def yX12_best : MethodName := ⟨RX12, "best", "(II)I"⟩
abbrev cX12_fresh : ByteArray := prog_14_method_51_code
def yX12_fresh : MethodName := ⟨RX12, "fresh", "(I)I"⟩
abbrev cX12_again : ByteArray := prog_14_method_52_code
def yX12_again : MethodName := ⟨RX12, "again", "(II)I"⟩
abbrev cX12_layFun : ByteArray := prog_14_method_53_code
def yX12_layFun : MethodName := ⟨RX12, "layFun", "(I)V"⟩
abbrev cX12_evening : ByteArray := prog_14_method_54_code
def yX12_evening : MethodName := ⟨RX12, "evening", "(III)I"⟩
abbrev cX12_save : ByteArray := prog_14_method_55_code
def yX12_save : MethodName := ⟨RX12, "save", "()V"⟩
abbrev cX12_putBack : ByteArray := prog_14_method_56_code
def yX12_putBack : MethodName := ⟨RX12, "putBack", "()V"⟩
abbrev cX12_coffee : ByteArray := prog_14_method_57_code
def yX12_coffee : MethodName := ⟨RX12, "coffee", "(II)I"⟩
abbrev cX12_keep : ByteArray := prog_14_method_58_code
def yX12_keep : MethodName := ⟨RX12, "keep", "(IIII)I"⟩
abbrev cX12_nextRow : ByteArray := prog_14_method_59_code
def yX12_nextRow : MethodName := ⟨RX12, "nextRow", "(I)Z"⟩
abbrev cX12_asRow : ByteArray := prog_14_method_60_code
def yX12_asRow : MethodName := ⟨RX12, "asRow", "(III)I"⟩
abbrev cX12_suppers : ByteArray := prog_14_method_61_code
def yX12_suppers : MethodName := ⟨RX12, "suppers", "(IIII)I"⟩
abbrev cX12_layOrder : ByteArray := prog_14_method_62_code
def yX12_layOrder : MethodName := ⟨RX12, "layOrder", "(I)Z"⟩
abbrev cX12_seated : ByteArray := prog_14_method_63_code
def yX12_seated : MethodName := ⟨RX12, "seated", "(I)I"⟩
abbrev cX12_seats : ByteArray := prog_14_method_64_code
def yX12_seats : MethodName := ⟨RX12, "seats", "(II)I"⟩
abbrev cX12_spared : ByteArray := prog_14_method_65_code
def yX12_spared : MethodName := ⟨RX12, "spared", "(II)I"⟩
abbrev cX12_see : ByteArray := prog_14_method_66_code
def yX12_see : MethodName := ⟨RX12, "see", "(II)I"⟩
abbrev cX12_guess : ByteArray := prog_14_method_67_code
def yX12_guess : MethodName := ⟨RX12, "guess", "(I)I"⟩
abbrev cX12_divisor : ByteArray := prog_14_method_68_code
def yX12_divisor : MethodName := ⟨RX12, "divisor", "(II)I"⟩
abbrev cX12_lowest : ByteArray := prog_14_method_69_code
def yX12_lowest : MethodName := ⟨RX12, "lowest", "(III)J"⟩
abbrev cX12_odds : ByteArray := prog_14_method_70_code
def yX12_odds : MethodName := ⟨RX12, "odds", "(II)J"⟩
abbrev cX12_mean : ByteArray := prog_14_method_71_code
def yX12_mean : MethodName := ⟨RX12, "mean", "(II)J"⟩
abbrev cX12_book : ByteArray := prog_14_method_72_code
def yX12_book : MethodName := ⟨RX12, "book", "(I)I"⟩
abbrev cX12_looked : ByteArray := prog_14_method_73_code
def yX12_looked : MethodName := ⟨RX12, "looked", "()I"⟩
abbrev cX12_judge : ByteArray := prog_14_method_74_code
def yX12_judge : MethodName := ⟨RX12, "judge", "(II)I"⟩
abbrev cX12_image : ByteArray := prog_14_method_75_code
def yX12_image : MethodName := ⟨RX12, "image", "()I"⟩
abbrev cX12_undo : ByteArray := prog_14_method_76_code
def yX12_undo : MethodName := ⟨RX12, "undo", "()I"⟩
abbrev cX12_body : ByteArray := prog_14_method_77_code
def yX12_body : MethodName := ⟨RX12, "body", "(I)V"⟩
abbrev cX12_hearerHears : ByteArray := prog_14_method_78_code
def yX12_hearerHears : MethodName := ⟨RX12, "hearerHears", "(II)I"⟩
abbrev cX12_hearsAct : ByteArray := prog_14_method_79_code
def yX12_hearsAct : MethodName := ⟨RX12, "hearsAct", "(II)I"⟩
abbrev cX12_hearerLaughs : ByteArray := prog_14_method_80_code
def yX12_hearerLaughs : MethodName := ⟨RX12, "hearerLaughs", "(II)I"⟩
abbrev cX12_politeLaughs : ByteArray := prog_14_method_81_code
def yX12_politeLaughs : MethodName := ⟨RX12, "politeLaughs", "(II)I"⟩
abbrev cX12_laughsAct : ByteArray := prog_14_method_82_code
def yX12_laughsAct : MethodName := ⟨RX12, "laughsAct", "(II)I"⟩
abbrev cX12_hearerTells : ByteArray := prog_14_method_83_code
def yX12_hearerTells : MethodName := ⟨RX12, "hearerTells", "(II)I"⟩
abbrev cX12_tellsAct : ByteArray := prog_14_method_84_code
def yX12_tellsAct : MethodName := ⟨RX12, "tellsAct", "(II)I"⟩
abbrev cX12_act : ByteArray := prog_14_method_85_code
def yX12_act : MethodName := ⟨RX12, "act", "(III)I"⟩
abbrev cX12_trace : ByteArray := prog_14_method_86_code
def yX12_trace : MethodName := ⟨RX12, "trace", "(I)I"⟩
abbrev cX12_taken : ByteArray := prog_14_method_87_code
def yX12_taken : MethodName := ⟨RX12, "taken", "(II)I"⟩
abbrev cX12_count : ByteArray := prog_14_method_88_code
def yX12_count : MethodName := ⟨RX12, "count", "(I)I"⟩
abbrev cX12_isTape : ByteArray := prog_14_method_89_code
def yX12_isTape : MethodName := ⟨RX12, "isTape", "(I)Z"⟩
abbrev cX12_tape : ByteArray := prog_14_method_90_code
def yX12_tape : MethodName := ⟨RX12, "tape", "(III)I"⟩
abbrev cX12_narrow : ByteArray := prog_14_method_91_code
def yX12_narrow : MethodName := ⟨RX12, "narrow", "(IJ)J"⟩
abbrev cX12_item : ByteArray := prog_14_method_92_code
def yX12_item : MethodName := ⟨RX12, "item", "(IIJ)I"⟩
abbrev cX12_read : ByteArray := prog_14_method_93_code
def yX12_read : MethodName := ⟨RX12, "read", "(II)J"⟩
abbrev cX12_shift : ByteArray := prog_14_method_94_code
def yX12_shift : MethodName := ⟨RX12, "shift", "(IIIII)I"⟩
def RJ6 : String := "java/lang/Integer"
def TJ6 : u_T := fun k => match k with
  | _ => ("", "", "", false)
def tyJ6 : Nat → FieldType := fun k => match k with
  | _ => .int
abbrev wsJ60 : List Cond := u_ws RJ6 TJ6 0
theorem nmJ6 : ∀ a, a < 0 → ∀ b, b < 0 → a ≠ b → (TJ6 a).2.1 ≠ (TJ6 b).2.1 := by decide +kernel
theorem tyJ6_ok : ∀ k, k < 0 → parseFieldDescriptor (TJ6 k).2.2.1 = some (tyJ6 k) := by decide +kernel
abbrev cJ6_bitCount_0f7a4 : ByteArray := prog_15_method_49_code
def yJ6_bitCount_0f7a4 : MethodName := ⟨RJ6, "bitCount", "(I)I"⟩
def RJ9 : String := "java/lang/Math"
def TJ9 : u_T := fun k => match k with
  | _ => ("", "", "", false)
def tyJ9 : Nat → FieldType := fun k => match k with
  | _ => .int
abbrev wsJ90 : List Cond := u_ws RJ9 TJ9 0
theorem nmJ9 : ∀ a, a < 0 → ∀ b, b < 0 → a ≠ b → (TJ9 a).2.1 ≠ (TJ9 b).2.1 := by decide +kernel
theorem tyJ9_ok : ∀ k, k < 0 → parseFieldDescriptor (TJ9 k).2.2.1 = some (tyJ9 k) := by decide +kernel
abbrev cJ9_max_7cf53 : ByteArray := prog_16_method_65_code
def yJ9_max_7cf53 : MethodName := ⟨RJ9, "max", "(II)I"⟩
abbrev cJ9_min_7cf53 : ByteArray := prog_16_method_69_code
def yJ9_min_7cf53 : MethodName := ⟨RJ9, "min", "(II)I"⟩
def RJ0 : String := "java/lang/String"
def TJ0 : u_T := fun k => match k with
  | _ => ("", "", "", false)
def tyJ0 : Nat → FieldType := fun k => match k with
  | _ => .int
abbrev wsJ00 : List Cond := u_ws RJ0 TJ0 0
theorem nmJ0 : ∀ a, a < 0 → ∀ b, b < 0 → a ≠ b → (TJ0 a).2.1 ≠ (TJ0 b).2.1 := by decide +kernel
theorem tyJ0_ok : ∀ k, k < 0 → parseFieldDescriptor (TJ0 k).2.2.1 = some (tyJ0 k) := by decide +kernel
abbrev cJ0_length_8abf5 : ByteArray := prog_17_method_54_code
def yJ0_length_8abf5 : MethodName := ⟨RJ0, "length", "()I"⟩
abbrev cJ0_charAt_5068e : ByteArray := prog_17_method_56_code
def yJ0_charAt_5068e : MethodName := ⟨RJ0, "charAt", "(I)C"⟩
abbrev cJ0_coder_7d493 : ByteArray := prog_17_method_152_code
def yJ0_coder_7d493 : MethodName := ⟨RJ0, "coder", "()B"⟩
abbrev cJ0_isLatin1_aae02 : ByteArray := prog_17_method_154_code
def yJ0_isLatin1_aae02 : MethodName := ⟨RJ0, "isLatin1", "()Z"⟩
abbrev cJ0_checkIndex_df160 : ByteArray := prog_17_method_155_code
def yJ0_checkIndex_df160 : MethodName := ⟨RJ0, "checkIndex", "(II)V"⟩
def RJ1 : String := "java/lang/StringLatin1"
def TJ1 : u_T := fun k => match k with
  | _ => ("", "", "", false)
def tyJ1 : Nat → FieldType := fun k => match k with
  | _ => .int
abbrev wsJ10 : List Cond := u_ws RJ1 TJ1 0
theorem nmJ1 : ∀ a, a < 0 → ∀ b, b < 0 → a ≠ b → (TJ1 a).2.1 ≠ (TJ1 b).2.1 := by decide +kernel
theorem tyJ1_ok : ∀ k, k < 0 → parseFieldDescriptor (TJ1 k).2.2.1 = some (tyJ1 k) := by decide +kernel
abbrev cJ1_charAt_3b067 : ByteArray := prog_18_method_2_code
def yJ1_charAt_3b067 : MethodName := ⟨RJ1, "charAt", "([BI)C"⟩
def RJ2 : String := "java/lang/StringUTF16"
def TJ2 : u_T := fun k => match k with
  | _ => ("", "", "", false)
def tyJ2 : Nat → FieldType := fun k => match k with
  | _ => .int
abbrev wsJ20 : List Cond := u_ws RJ2 TJ2 0
theorem nmJ2 : ∀ a, a < 0 → ∀ b, b < 0 → a ≠ b → (TJ2 a).2.1 ≠ (TJ2 b).2.1 := by decide +kernel
theorem tyJ2_ok : ∀ k, k < 0 → parseFieldDescriptor (TJ2 k).2.2.1 = some (tyJ2 k) := by decide +kernel
abbrev cJ2_getChar_3b067 : ByteArray := prog_19_method_5_code
def yJ2_getChar_3b067 : MethodName := ⟨RJ2, "getChar", "([BI)C"⟩
abbrev cJ2_length_9d52b : ByteArray := prog_19_method_6_code
def yJ2_length_9d52b : MethodName := ⟨RJ2, "length", "([B)I"⟩
abbrev cJ2_charAt_3b067 : ByteArray := prog_19_method_83_code
def yJ2_charAt_3b067 : MethodName := ⟨RJ2, "charAt", "([BI)C"⟩
abbrev cJ2_checkIndex_2214a : ByteArray := prog_19_method_91_code
def yJ2_checkIndex_2214a : MethodName := ⟨RJ2, "checkIndex", "(I[B)V"⟩
def RJ10 : String := "java/lang/System"
def TJ10 : u_T := fun k => match k with
  | _ => ("", "", "", false)
def tyJ10 : Nat → FieldType := fun k => match k with
  | _ => .int
abbrev wsJ100 : List Cond := u_ws RJ10 TJ10 0
theorem nmJ10 : ∀ a, a < 0 → ∀ b, b < 0 → a ≠ b → (TJ10 a).2.1 ≠ (TJ10 b).2.1 := by decide +kernel
theorem tyJ10_ok : ∀ k, k < 0 → parseFieldDescriptor (TJ10 k).2.2.1 = some (tyJ10 k) := by decide +kernel
def RJ3 : String := "jdk/internal/util/Preconditions"
def TJ3 : u_T := fun k => match k with
  | _ => ("", "", "", false)
def tyJ3 : Nat → FieldType := fun k => match k with
  | _ => .int
abbrev wsJ30 : List Cond := u_ws RJ3 TJ3 0
theorem nmJ3 : ∀ a, a < 0 → ∀ b, b < 0 → a ≠ b → (TJ3 a).2.1 ≠ (TJ3 b).2.1 := by decide +kernel
theorem tyJ3_ok : ∀ k, k < 0 → parseFieldDescriptor (TJ3 k).2.2.1 = some (tyJ3 k) := by decide +kernel
abbrev cJ3_checkIndex_8e157 : ByteArray := prog_21_method_11_code
def yJ3_checkIndex_8e157 : MethodName := ⟨RJ3, "checkIndex", "(IILjava/util/function/BiFunction;)I"⟩
def RL : String := "ToldMeThatLaw"
abbrev cL_law : ByteArray := code
def yL_law : MethodName := ⟨RL, "law", "([I)Z"⟩
abbrev vwCl : List vw_C := [(RX0, TX0, 4), (RX1, TX1, 4), (RX2, TX2, 4), (RX3, TX3, 4), (RX4, TX4, 4), (RX5, TX5, 8), (RX6, TX6, 4), (RX7, TX7, 15), (RX8, TX8, 3), (RX9, TX9, 4), (RX10, TX10, 2), (RX11, TX11, 16), (RX12, TX12, 65)]
