section
-- ===== PART A: goes FIRST, ahead of the names: the tables' words, and 'selects' of the private methods out of them =====
/-- a private method of a class that the tables say can be made, by its rows of tables_1 -/
def lw_okq (q : MethodName × Nat) : Prop := (q.1.cls ≠ "java/lang/invoke/MethodHandle" ∧ q.1.cls ≠ "java/lang/invoke/VarHandle") ∧ Cond.instantiable q.1.cls q.2 ∈ tables_1 ∧ Cond.privateMethod q.1 ∈ tables_1 ∧ Cond.instanceMethod q.1 ∈ tables_1
theorem lw_p0 : lw_okq (⟨"TestVersions", "beginChange", "()V"⟩, 9) := ⟨⟨by decide +kernel, by decide +kernel⟩, List.mem_of_getElem? (i := 15) (by decide +kernel), List.mem_of_getElem? (i := 275) (by decide +kernel), List.mem_of_getElem? (i := 276) (by decide +kernel)⟩
theorem lw_p1 : lw_okq (⟨"TestVersions$History", "stateAt", "(I)LTestVersions$State;"⟩, 3) := ⟨⟨by decide +kernel, by decide +kernel⟩, List.mem_of_getElem? (i := 106) (by decide +kernel), List.mem_of_getElem? (i := 283) (by decide +kernel), List.mem_of_getElem? (i := 284) (by decide +kernel)⟩
theorem lw_p2 : lw_okq (⟨"TestVersions", "outdatePapers", "()V"⟩, 9) := ⟨⟨by decide +kernel, by decide +kernel⟩, List.mem_of_getElem? (i := 15) (by decide +kernel), List.mem_of_getElem? (i := 311) (by decide +kernel), List.mem_of_getElem? (i := 312) (by decide +kernel)⟩
theorem lw_p3 : lw_okq (⟨"TestVersions", "paperOf", "(I)LTestVersions$Paper;"⟩, 9) := ⟨⟨by decide +kernel, by decide +kernel⟩, List.mem_of_getElem? (i := 15) (by decide +kernel), List.mem_of_getElem? (i := 380) (by decide +kernel), List.mem_of_getElem? (i := 381) (by decide +kernel)⟩
theorem lw_p4 : lw_okq (⟨"TestVersions$Mixer", "listUnits", "(LTestVersions$Questions;)I"⟩, 4) := ⟨⟨by decide +kernel, by decide +kernel⟩, List.mem_of_getElem? (i := 126) (by decide +kernel), List.mem_of_getElem? (i := 392) (by decide +kernel), List.mem_of_getElem? (i := 393) (by decide +kernel)⟩
theorem lw_p5 : lw_okq (⟨"TestVersions$Mixer", "mixUnit", "(LTestVersions$Questions;ILTestVersions$Paper;)V"⟩, 4) := ⟨⟨by decide +kernel, by decide +kernel⟩, List.mem_of_getElem? (i := 126) (by decide +kernel), List.mem_of_getElem? (i := 419) (by decide +kernel), List.mem_of_getElem? (i := 420) (by decide +kernel)⟩
theorem lw_p6 : lw_okq (⟨"TestVersions$Mixer", "mixChoices", "(LTestVersions$Questions;ILTestVersions$Paper;)V"⟩, 4) := ⟨⟨by decide +kernel, by decide +kernel⟩, List.mem_of_getElem? (i := 126) (by decide +kernel), List.mem_of_getElem? (i := 429) (by decide +kernel), List.mem_of_getElem? (i := 430) (by decide +kernel)⟩
theorem lw_p7 : lw_okq (⟨"TestVersions$Mixer", "listLoose", "(II)I"⟩, 4) := ⟨⟨by decide +kernel, by decide +kernel⟩, List.mem_of_getElem? (i := 126) (by decide +kernel), List.mem_of_getElem? (i := 434) (by decide +kernel), List.mem_of_getElem? (i := 435) (by decide +kernel)⟩
theorem lw_p8 : lw_okq (⟨"TestVersions$Layout", "pagesFrom", "(II)I"⟩, 7) := ⟨⟨by decide +kernel, by decide +kernel⟩, List.mem_of_getElem? (i := 166) (by decide +kernel), List.mem_of_getElem? (i := 449) (by decide +kernel), List.mem_of_getElem? (i := 450) (by decide +kernel)⟩
theorem lw_p9 : lw_okq (⟨"TestVersions$Layout", "lowestLimit", "(I)I"⟩, 7) := ⟨⟨by decide +kernel, by decide +kernel⟩, List.mem_of_getElem? (i := 166) (by decide +kernel), List.mem_of_getElem? (i := 453) (by decide +kernel), List.mem_of_getElem? (i := 454) (by decide +kernel)⟩
theorem lw_p10 : lw_okq (⟨"TestVersions$Layout", "earliestEnd", "(III)I"⟩, 7) := ⟨⟨by decide +kernel, by decide +kernel⟩, List.mem_of_getElem? (i := 166) (by decide +kernel), List.mem_of_getElem? (i := 460) (by decide +kernel), List.mem_of_getElem? (i := 461) (by decide +kernel)⟩
theorem lw_p11 : lw_okq (⟨"TestVersions$Layout", "fill", "(III)V"⟩, 7) := ⟨⟨by decide +kernel, by decide +kernel⟩, List.mem_of_getElem? (i := 166) (by decide +kernel), List.mem_of_getElem? (i := 464) (by decide +kernel), List.mem_of_getElem? (i := 465) (by decide +kernel)⟩
theorem lw_p12 : lw_okq (⟨"TestVersions", "choicesAt", "(LTestVersions$Paper;I)I"⟩, 9) := ⟨⟨by decide +kernel, by decide +kernel⟩, List.mem_of_getElem? (i := 15) (by decide +kernel), List.mem_of_getElem? (i := 485) (by decide +kernel), List.mem_of_getElem? (i := 486) (by decide +kernel)⟩
theorem lw_p13 : lw_okq (⟨"TestVersions", "mostSameKeys", "(I)I"⟩, 9) := ⟨⟨by decide +kernel, by decide +kernel⟩, List.mem_of_getElem? (i := 15) (by decide +kernel), List.mem_of_getElem? (i := 511) (by decide +kernel), List.mem_of_getElem? (i := 512) (by decide +kernel)⟩
theorem lw_p14 : lw_okq (⟨"TestVersions", "readTyped", "(LTestVersions$Paper;)I"⟩, 9) := ⟨⟨by decide +kernel, by decide +kernel⟩, List.mem_of_getElem? (i := 15) (by decide +kernel), List.mem_of_getElem? (i := 540) (by decide +kernel), List.mem_of_getElem? (i := 541) (by decide +kernel)⟩
theorem lw_p15 : lw_okq (⟨"TestVersions", "handIn", "(ILTestVersions$Paper;)I"⟩, 9) := ⟨⟨by decide +kernel, by decide +kernel⟩, List.mem_of_getElem? (i := 15) (by decide +kernel), List.mem_of_getElem? (i := 547) (by decide +kernel), List.mem_of_getElem? (i := 548) (by decide +kernel)⟩
def lw_privs_1 : List (MethodName × Nat) := [(⟨"TestVersions", "beginChange", "()V"⟩, 9), (⟨"TestVersions$History", "stateAt", "(I)LTestVersions$State;"⟩, 3), (⟨"TestVersions", "outdatePapers", "()V"⟩, 9), (⟨"TestVersions", "paperOf", "(I)LTestVersions$Paper;"⟩, 9), (⟨"TestVersions$Mixer", "listUnits", "(LTestVersions$Questions;)I"⟩, 4), (⟨"TestVersions$Mixer", "mixUnit", "(LTestVersions$Questions;ILTestVersions$Paper;)V"⟩, 4), (⟨"TestVersions$Mixer", "mixChoices", "(LTestVersions$Questions;ILTestVersions$Paper;)V"⟩, 4), (⟨"TestVersions$Mixer", "listLoose", "(II)I"⟩, 4), (⟨"TestVersions$Layout", "pagesFrom", "(II)I"⟩, 7), (⟨"TestVersions$Layout", "lowestLimit", "(I)I"⟩, 7), (⟨"TestVersions$Layout", "earliestEnd", "(III)I"⟩, 7), (⟨"TestVersions$Layout", "fill", "(III)V"⟩, 7), (⟨"TestVersions", "choicesAt", "(LTestVersions$Paper;I)I"⟩, 9), (⟨"TestVersions", "mostSameKeys", "(I)I"⟩, 9), (⟨"TestVersions", "readTyped", "(LTestVersions$Paper;)I"⟩, 9), (⟨"TestVersions", "handIn", "(ILTestVersions$Paper;)I"⟩, 9)]
theorem lw_r1 : ∀ q ∈ lw_privs_1, lw_okq q := List.forall_mem_cons.mpr ⟨lw_p0, List.forall_mem_cons.mpr ⟨lw_p1, List.forall_mem_cons.mpr ⟨lw_p2, List.forall_mem_cons.mpr ⟨lw_p3, List.forall_mem_cons.mpr ⟨lw_p4, List.forall_mem_cons.mpr ⟨lw_p5, List.forall_mem_cons.mpr ⟨lw_p6, List.forall_mem_cons.mpr ⟨lw_p7, List.forall_mem_cons.mpr ⟨lw_p8, List.forall_mem_cons.mpr ⟨lw_p9, List.forall_mem_cons.mpr ⟨lw_p10, List.forall_mem_cons.mpr ⟨lw_p11, List.forall_mem_cons.mpr ⟨lw_p12, List.forall_mem_cons.mpr ⟨lw_p13, List.forall_mem_cons.mpr ⟨lw_p14, List.forall_mem_cons.mpr ⟨lw_p15, fun _ h => absurd h List.not_mem_nil⟩⟩⟩⟩⟩⟩⟩⟩⟩⟩⟩⟩⟩⟩⟩⟩
theorem lw_p16 : lw_okq (⟨"TestVersions$Sheets", "betterThan", "(I)I"⟩, 6) := ⟨⟨by decide +kernel, by decide +kernel⟩, List.mem_of_getElem? (i := 57) (by decide +kernel), List.mem_of_getElem? (i := 584) (by decide +kernel), List.mem_of_getElem? (i := 585) (by decide +kernel)⟩
theorem lw_p17 : lw_okq (⟨"TestVersions", "favoriteWrong", "(II)I"⟩, 9) := ⟨⟨by decide +kernel, by decide +kernel⟩, List.mem_of_getElem? (i := 15) (by decide +kernel), List.mem_of_getElem? (i := 605) (by decide +kernel), List.mem_of_getElem? (i := 606) (by decide +kernel)⟩
theorem lw_p18 : lw_okq (⟨"TestVersions", "countSameWrong", "(II)I"⟩, 9) := ⟨⟨by decide +kernel, by decide +kernel⟩, List.mem_of_getElem? (i := 15) (by decide +kernel), List.mem_of_getElem? (i := 627) (by decide +kernel), List.mem_of_getElem? (i := 628) (by decide +kernel)⟩
theorem lw_p19 : lw_okq (⟨"TestVersions", "printQuestions", "(J)J"⟩, 9) := ⟨⟨by decide +kernel, by decide +kernel⟩, List.mem_of_getElem? (i := 15) (by decide +kernel), List.mem_of_getElem? (i := 656) (by decide +kernel), List.mem_of_getElem? (i := 657) (by decide +kernel)⟩
theorem lw_p20 : lw_okq (⟨"TestVersions", "printVersions", "(J)J"⟩, 9) := ⟨⟨by decide +kernel, by decide +kernel⟩, List.mem_of_getElem? (i := 15) (by decide +kernel), List.mem_of_getElem? (i := 661) (by decide +kernel), List.mem_of_getElem? (i := 662) (by decide +kernel)⟩
theorem lw_p21 : lw_okq (⟨"TestVersions", "printSheets", "(J)J"⟩, 9) := ⟨⟨by decide +kernel, by decide +kernel⟩, List.mem_of_getElem? (i := 15) (by decide +kernel), List.mem_of_getElem? (i := 665) (by decide +kernel), List.mem_of_getElem? (i := 666) (by decide +kernel)⟩
theorem lw_p22 : lw_okq (⟨"TestVersionsModel", "act", "()V"⟩, 17) := ⟨⟨by decide +kernel, by decide +kernel⟩, List.mem_of_getElem? (i := 669) (by decide +kernel), List.mem_of_getElem? (i := 734) (by decide +kernel), List.mem_of_getElem? (i := 735) (by decide +kernel)⟩
theorem lw_p23 : lw_okq (⟨"TestVersionsModel", "isQuestion", "(I)Z"⟩, 17) := ⟨⟨by decide +kernel, by decide +kernel⟩, List.mem_of_getElem? (i := 669) (by decide +kernel), List.mem_of_getElem? (i := 742) (by decide +kernel), List.mem_of_getElem? (i := 743) (by decide +kernel)⟩
theorem lw_p24 : lw_okq (⟨"TestVersionsModel", "isIn", "(III)Z"⟩, 17) := ⟨⟨by decide +kernel, by decide +kernel⟩, List.mem_of_getElem? (i := 669) (by decide +kernel), List.mem_of_getElem? (i := 750) (by decide +kernel), List.mem_of_getElem? (i := 751) (by decide +kernel)⟩
theorem lw_p25 : lw_okq (⟨"TestVersionsModel", "of", "(II)I"⟩, 17) := ⟨⟨by decide +kernel, by decide +kernel⟩, List.mem_of_getElem? (i := 669) (by decide +kernel), List.mem_of_getElem? (i := 754) (by decide +kernel), List.mem_of_getElem? (i := 755) (by decide +kernel)⟩
theorem lw_p26 : lw_okq (⟨"TestVersionsModel", "sets", "(II)I"⟩, 17) := ⟨⟨by decide +kernel, by decide +kernel⟩, List.mem_of_getElem? (i := 669) (by decide +kernel), List.mem_of_getElem? (i := 758) (by decide +kernel), List.mem_of_getElem? (i := 759) (by decide +kernel)⟩
theorem lw_p27 : lw_okq (⟨"TestVersionsModel", "isVersion", "(I)Z"⟩, 17) := ⟨⟨by decide +kernel, by decide +kernel⟩, List.mem_of_getElem? (i := 669) (by decide +kernel), List.mem_of_getElem? (i := 787) (by decide +kernel), List.mem_of_getElem? (i := 788) (by decide +kernel)⟩
theorem lw_p28 : lw_okq (⟨"TestVersionsModel", "opens", "(I)V"⟩, 17) := ⟨⟨by decide +kernel, by decide +kernel⟩, List.mem_of_getElem? (i := 669) (by decide +kernel), List.mem_of_getElem? (i := 791) (by decide +kernel), List.mem_of_getElem? (i := 792) (by decide +kernel)⟩
theorem lw_p29 : lw_okq (⟨"TestVersionsModel", "mixesAll", "(I)V"⟩, 17) := ⟨⟨by decide +kernel, by decide +kernel⟩, List.mem_of_getElem? (i := 669) (by decide +kernel), List.mem_of_getElem? (i := 795) (by decide +kernel), List.mem_of_getElem? (i := 796) (by decide +kernel)⟩
theorem lw_p30 : lw_okq (⟨"TestVersionsModel", "leads", "(I)Z"⟩, 17) := ⟨⟨by decide +kernel, by decide +kernel⟩, List.mem_of_getElem? (i := 669) (by decide +kernel), List.mem_of_getElem? (i := 799) (by decide +kernel), List.mem_of_getElem? (i := 800) (by decide +kernel)⟩
theorem lw_p31 : lw_okq (⟨"TestVersionsModel", "mixes", "()V"⟩, 17) := ⟨⟨by decide +kernel, by decide +kernel⟩, List.mem_of_getElem? (i := 669) (by decide +kernel), List.mem_of_getElem? (i := 803) (by decide +kernel), List.mem_of_getElem? (i := 804) (by decide +kernel)⟩
def lw_privs_2 : List (MethodName × Nat) := [(⟨"TestVersions$Sheets", "betterThan", "(I)I"⟩, 6), (⟨"TestVersions", "favoriteWrong", "(II)I"⟩, 9), (⟨"TestVersions", "countSameWrong", "(II)I"⟩, 9), (⟨"TestVersions", "printQuestions", "(J)J"⟩, 9), (⟨"TestVersions", "printVersions", "(J)J"⟩, 9), (⟨"TestVersions", "printSheets", "(J)J"⟩, 9), (⟨"TestVersionsModel", "act", "()V"⟩, 17), (⟨"TestVersionsModel", "isQuestion", "(I)Z"⟩, 17), (⟨"TestVersionsModel", "isIn", "(III)Z"⟩, 17), (⟨"TestVersionsModel", "of", "(II)I"⟩, 17), (⟨"TestVersionsModel", "sets", "(II)I"⟩, 17), (⟨"TestVersionsModel", "isVersion", "(I)Z"⟩, 17), (⟨"TestVersionsModel", "opens", "(I)V"⟩, 17), (⟨"TestVersionsModel", "mixesAll", "(I)V"⟩, 17), (⟨"TestVersionsModel", "leads", "(I)Z"⟩, 17), (⟨"TestVersionsModel", "mixes", "()V"⟩, 17)]
theorem lw_r2 : ∀ q ∈ lw_privs_2, lw_okq q := List.forall_mem_cons.mpr ⟨lw_p16, List.forall_mem_cons.mpr ⟨lw_p17, List.forall_mem_cons.mpr ⟨lw_p18, List.forall_mem_cons.mpr ⟨lw_p19, List.forall_mem_cons.mpr ⟨lw_p20, List.forall_mem_cons.mpr ⟨lw_p21, List.forall_mem_cons.mpr ⟨lw_p22, List.forall_mem_cons.mpr ⟨lw_p23, List.forall_mem_cons.mpr ⟨lw_p24, List.forall_mem_cons.mpr ⟨lw_p25, List.forall_mem_cons.mpr ⟨lw_p26, List.forall_mem_cons.mpr ⟨lw_p27, List.forall_mem_cons.mpr ⟨lw_p28, List.forall_mem_cons.mpr ⟨lw_p29, List.forall_mem_cons.mpr ⟨lw_p30, List.forall_mem_cons.mpr ⟨lw_p31, fun _ h => absurd h List.not_mem_nil⟩⟩⟩⟩⟩⟩⟩⟩⟩⟩⟩⟩⟩⟩⟩⟩
theorem lw_p32 : lw_okq (⟨"TestVersionsModel", "lot", "(I)I"⟩, 17) := ⟨⟨by decide +kernel, by decide +kernel⟩, List.mem_of_getElem? (i := 669) (by decide +kernel), List.mem_of_getElem? (i := 807) (by decide +kernel), List.mem_of_getElem? (i := 808) (by decide +kernel)⟩
theorem lw_p33 : lw_okq (⟨"TestVersionsModel", "mixesChoices", "(I)V"⟩, 17) := ⟨⟨by decide +kernel, by decide +kernel⟩, List.mem_of_getElem? (i := 669) (by decide +kernel), List.mem_of_getElem? (i := 812) (by decide +kernel), List.mem_of_getElem? (i := 813) (by decide +kernel)⟩
theorem lw_p34 : lw_okq (⟨"TestVersionsModel", "lays", "()V"⟩, 17) := ⟨⟨by decide +kernel, by decide +kernel⟩, List.mem_of_getElem? (i := 669) (by decide +kernel), List.mem_of_getElem? (i := 816) (by decide +kernel), List.mem_of_getElem? (i := 817) (by decide +kernel)⟩
theorem lw_p35 : lw_okq (⟨"TestVersionsModel", "needs", "(II)I"⟩, 17) := ⟨⟨by decide +kernel, by decide +kernel⟩, List.mem_of_getElem? (i := 669) (by decide +kernel), List.mem_of_getElem? (i := 820) (by decide +kernel), List.mem_of_getElem? (i := 821) (by decide +kernel)⟩
theorem lw_p36 : lw_okq (⟨"TestVersionsModel", "told", "(II)I"⟩, 17) := ⟨⟨by decide +kernel, by decide +kernel⟩, List.mem_of_getElem? (i := 669) (by decide +kernel), List.mem_of_getElem? (i := 824) (by decide +kernel), List.mem_of_getElem? (i := 825) (by decide +kernel)⟩
theorem lw_p37 : lw_okq (⟨"TestVersionsModel", "placeOf", "(I)I"⟩, 17) := ⟨⟨by decide +kernel, by decide +kernel⟩, List.mem_of_getElem? (i := 669) (by decide +kernel), List.mem_of_getElem? (i := 832) (by decide +kernel), List.mem_of_getElem? (i := 833) (by decide +kernel)⟩
theorem lw_p38 : lw_okq (⟨"TestVersionsModel", "puts", "()V"⟩, 17) := ⟨⟨by decide +kernel, by decide +kernel⟩, List.mem_of_getElem? (i := 669) (by decide +kernel), List.mem_of_getElem? (i := 844) (by decide +kernel), List.mem_of_getElem? (i := 845) (by decide +kernel)⟩
theorem lw_p39 : lw_okq (⟨"TestVersionsModel", "common", "(I)I"⟩, 17) := ⟨⟨by decide +kernel, by decide +kernel⟩, List.mem_of_getElem? (i := 669) (by decide +kernel), List.mem_of_getElem? (i := 848) (by decide +kernel), List.mem_of_getElem? (i := 849) (by decide +kernel)⟩
theorem lw_p40 : lw_okq (⟨"TestVersionsModel", "wrongAt", "()I"⟩, 17) := ⟨⟨by decide +kernel, by decide +kernel⟩, List.mem_of_getElem? (i := 669) (by decide +kernel), List.mem_of_getElem? (i := 881) (by decide +kernel), List.mem_of_getElem? (i := 882) (by decide +kernel)⟩
theorem lw_p41 : lw_okq (⟨"TestVersionsModel", "isSheet", "(I)Z"⟩, 17) := ⟨⟨by decide +kernel, by decide +kernel⟩, List.mem_of_getElem? (i := 669) (by decide +kernel), List.mem_of_getElem? (i := 900) (by decide +kernel), List.mem_of_getElem? (i := 901) (by decide +kernel)⟩
theorem lw_p42 : lw_okq (⟨"TestVersionsModel", "resultOf", "(II)I"⟩, 17) := ⟨⟨by decide +kernel, by decide +kernel⟩, List.mem_of_getElem? (i := 669) (by decide +kernel), List.mem_of_getElem? (i := 904) (by decide +kernel), List.mem_of_getElem? (i := 905) (by decide +kernel)⟩
theorem lw_p43 : lw_okq (⟨"TestVersionsModel", "points", "(I)I"⟩, 17) := ⟨⟨by decide +kernel, by decide +kernel⟩, List.mem_of_getElem? (i := 669) (by decide +kernel), List.mem_of_getElem? (i := 908) (by decide +kernel), List.mem_of_getElem? (i := 909) (by decide +kernel)⟩
theorem lw_p44 : lw_okq (⟨"TestVersionsModel", "countsOwn", "(I)I"⟩, 17) := ⟨⟨by decide +kernel, by decide +kernel⟩, List.mem_of_getElem? (i := 669) (by decide +kernel), List.mem_of_getElem? (i := 912) (by decide +kernel), List.mem_of_getElem? (i := 913) (by decide +kernel)⟩
theorem lw_p45 : lw_okq (⟨"TestVersionsModel", "counts", "(I)I"⟩, 17) := ⟨⟨by decide +kernel, by decide +kernel⟩, List.mem_of_getElem? (i := 669) (by decide +kernel), List.mem_of_getElem? (i := 916) (by decide +kernel), List.mem_of_getElem? (i := 917) (by decide +kernel)⟩
theorem lw_p46 : lw_okq (⟨"TestVersionsModel", "rank", "(I)I"⟩, 17) := ⟨⟨by decide +kernel, by decide +kernel⟩, List.mem_of_getElem? (i := 669) (by decide +kernel), List.mem_of_getElem? (i := 923) (by decide +kernel), List.mem_of_getElem? (i := 924) (by decide +kernel)⟩
theorem lw_p47 : lw_okq (⟨"TestVersionsModel", "answerOf", "(II)I"⟩, 17) := ⟨⟨by decide +kernel, by decide +kernel⟩, List.mem_of_getElem? (i := 669) (by decide +kernel), List.mem_of_getElem? (i := 931) (by decide +kernel), List.mem_of_getElem? (i := 932) (by decide +kernel)⟩
def lw_privs_3 : List (MethodName × Nat) := [(⟨"TestVersionsModel", "lot", "(I)I"⟩, 17), (⟨"TestVersionsModel", "mixesChoices", "(I)V"⟩, 17), (⟨"TestVersionsModel", "lays", "()V"⟩, 17), (⟨"TestVersionsModel", "needs", "(II)I"⟩, 17), (⟨"TestVersionsModel", "told", "(II)I"⟩, 17), (⟨"TestVersionsModel", "placeOf", "(I)I"⟩, 17), (⟨"TestVersionsModel", "puts", "()V"⟩, 17), (⟨"TestVersionsModel", "common", "(I)I"⟩, 17), (⟨"TestVersionsModel", "wrongAt", "()I"⟩, 17), (⟨"TestVersionsModel", "isSheet", "(I)Z"⟩, 17), (⟨"TestVersionsModel", "resultOf", "(II)I"⟩, 17), (⟨"TestVersionsModel", "points", "(I)I"⟩, 17), (⟨"TestVersionsModel", "countsOwn", "(I)I"⟩, 17), (⟨"TestVersionsModel", "counts", "(I)I"⟩, 17), (⟨"TestVersionsModel", "rank", "(I)I"⟩, 17), (⟨"TestVersionsModel", "answerOf", "(II)I"⟩, 17)]
theorem lw_r3 : ∀ q ∈ lw_privs_3, lw_okq q := List.forall_mem_cons.mpr ⟨lw_p32, List.forall_mem_cons.mpr ⟨lw_p33, List.forall_mem_cons.mpr ⟨lw_p34, List.forall_mem_cons.mpr ⟨lw_p35, List.forall_mem_cons.mpr ⟨lw_p36, List.forall_mem_cons.mpr ⟨lw_p37, List.forall_mem_cons.mpr ⟨lw_p38, List.forall_mem_cons.mpr ⟨lw_p39, List.forall_mem_cons.mpr ⟨lw_p40, List.forall_mem_cons.mpr ⟨lw_p41, List.forall_mem_cons.mpr ⟨lw_p42, List.forall_mem_cons.mpr ⟨lw_p43, List.forall_mem_cons.mpr ⟨lw_p44, List.forall_mem_cons.mpr ⟨lw_p45, List.forall_mem_cons.mpr ⟨lw_p46, List.forall_mem_cons.mpr ⟨lw_p47, fun _ h => absurd h List.not_mem_nil⟩⟩⟩⟩⟩⟩⟩⟩⟩⟩⟩⟩⟩⟩⟩⟩
theorem lw_p48 : lw_okq (⟨"TestVersionsModel", "taken", "(II)I"⟩, 17) := ⟨⟨by decide +kernel, by decide +kernel⟩, List.mem_of_getElem? (i := 669) (by decide +kernel), List.mem_of_getElem? (i := 939) (by decide +kernel), List.mem_of_getElem? (i := 940) (by decide +kernel)⟩
theorem lw_p49 : lw_okq (⟨"TestVersionsModel", "shared", "(II)I"⟩, 17) := ⟨⟨by decide +kernel, by decide +kernel⟩, List.mem_of_getElem? (i := 669) (by decide +kernel), List.mem_of_getElem? (i := 956) (by decide +kernel), List.mem_of_getElem? (i := 957) (by decide +kernel)⟩
def lw_privs_4 : List (MethodName × Nat) := [(⟨"TestVersionsModel", "taken", "(II)I"⟩, 17), (⟨"TestVersionsModel", "shared", "(II)I"⟩, 17)]
theorem lw_r4 : ∀ q ∈ lw_privs_4, lw_okq q := List.forall_mem_cons.mpr ⟨lw_p48, List.forall_mem_cons.mpr ⟨lw_p49, fun _ h => absurd h List.not_mem_nil⟩⟩
def lw_privs : List (MethodName × Nat) := lw_privs_1 ++ (lw_privs_2 ++ (lw_privs_3 ++ (lw_privs_4)))
def lw_tbl : List Cond := k2_sels lw_privs ++ tables_1
theorem lw_privs_ok : ∀ q ∈ lw_privs, lw_okq q := by
  show ∀ q ∈ lw_privs_1 ++ (lw_privs_2 ++ (lw_privs_3 ++ (lw_privs_4))), lw_okq q
  exact List.forall_mem_append.mpr ⟨lw_r1, List.forall_mem_append.mpr ⟨lw_r2, List.forall_mem_append.mpr ⟨lw_r3, lw_r4⟩⟩⟩
/-- the streams that the claim lets the run draw from -/
abbrev lw_cs : List Choice := [Jvm.Choice.named "NaN.bits"]
theorem lw_bits : nanBits ∈ lw_cs := by first | decide | exact List.mem_cons_self | simp [lw_cs, nanBits]
end
section
def RX0 : String := "TestVersions$History"
def TX0 : u_T := fun k => match k with
  | 0 => ("TestVersions$History", "states", "[LTestVersions$State;", true)
  | 1 => ("TestVersions$History", "oldest", "I", false)
  | _ => ("TestVersions$History", "count", "I", false)
def tyX0 : Nat → FieldType := fun k => match k with
  | 0 => .array (.object "TestVersions$State")
  | 1 => .int
  | _ => .int
abbrev wsX00 : List Cond := u_ws RX0 TX0 3
theorem nmX0 : ∀ a, a < 3 → ∀ b, b < 3 → a ≠ b → (TX0 a).2.1 ≠ (TX0 b).2.1 := by decide +kernel
theorem tyX0_ok : ∀ k, k < 3 → parseFieldDescriptor (TX0 k).2.2.1 = some (tyX0 k) := by decide +kernel
abbrev cX0_init : ByteArray := prog_2_method_1_code
def yX0_init : MethodName := ⟨RX0, "<init>", "()V"⟩
abbrev cX0_keep : ByteArray := prog_2_method_2_code
def yX0_keep : MethodName := ⟨RX0, "keep", "(LTestVersions$State;)V"⟩
abbrev cX0_restore : ByteArray := prog_2_method_3_code
def yX0_restore : MethodName := ⟨RX0, "restore", "(LTestVersions$State;)V"⟩
abbrev cX0_stateAt : ByteArray := prog_2_method_4_code
def yX0_stateAt : MethodName := ⟨RX0, "stateAt", "(I)LTestVersions$State;"⟩
def RX1 : String := "TestVersions$Layout"
def TX1 : u_T := fun k => match k with
  | 0 => ("TestVersions$Layout", "heights", "LTestVersions$Row;", true)
  | 1 => ("TestVersions$Layout", "pageOf", "LTestVersions$Row;", true)
  | 2 => ("TestVersions$Layout", "lineOf", "LTestVersions$Row;", true)
  | 3 => ("TestVersions$Layout", "pageCounts", "LTestVersions$Row;", true)
  | 4 => ("TestVersions$Layout", "pageHeights", "LTestVersions$Row;", true)
  | 5 => ("TestVersions$Layout", "placeCount", "I", false)
  | _ => ("TestVersions$Layout", "pageCount", "I", false)
def tyX1 : Nat → FieldType := fun k => match k with
  | 0 => .object "TestVersions$Row"
  | 1 => .object "TestVersions$Row"
  | 2 => .object "TestVersions$Row"
  | 3 => .object "TestVersions$Row"
  | 4 => .object "TestVersions$Row"
  | 5 => .int
  | _ => .int
abbrev wsX10 : List Cond := u_ws RX1 TX1 7
theorem nmX1 : ∀ a, a < 7 → ∀ b, b < 7 → a ≠ b → (TX1 a).2.1 ≠ (TX1 b).2.1 := by decide +kernel
theorem tyX1_ok : ∀ k, k < 7 → parseFieldDescriptor (TX1 k).2.2.1 = some (tyX1 k) := by decide +kernel
abbrev cX1_init : ByteArray := prog_3_method_1_code
def yX1_init : MethodName := ⟨RX1, "<init>", "()V"⟩
abbrev cX1_lay : ByteArray := prog_3_method_2_code
def yX1_lay : MethodName := ⟨RX1, "lay", "(LTestVersions$Questions;LTestVersions$Paper;I)V"⟩
abbrev cX1_pagesFrom : ByteArray := prog_3_method_3_code
def yX1_pagesFrom : MethodName := ⟨RX1, "pagesFrom", "(II)I"⟩
abbrev cX1_lowestLimit : ByteArray := prog_3_method_4_code
def yX1_lowestLimit : MethodName := ⟨RX1, "lowestLimit", "(I)I"⟩
abbrev cX1_earliestEnd : ByteArray := prog_3_method_5_code
def yX1_earliestEnd : MethodName := ⟨RX1, "earliestEnd", "(III)I"⟩
abbrev cX1_fill : ByteArray := prog_3_method_6_code
def yX1_fill : MethodName := ⟨RX1, "fill", "(III)V"⟩
def RX2 : String := "TestVersions$Lots"
def TX2 : u_T := fun k => match k with
  | _ => ("TestVersions$Lots", "x", "I", false)
def tyX2 : Nat → FieldType := fun k => match k with
  | _ => .int
abbrev wsX20 : List Cond := u_ws RX2 TX2 1
theorem nmX2 : ∀ a, a < 1 → ∀ b, b < 1 → a ≠ b → (TX2 a).2.1 ≠ (TX2 b).2.1 := by decide +kernel
theorem tyX2_ok : ∀ k, k < 1 → parseFieldDescriptor (TX2 k).2.2.1 = some (tyX2 k) := by decide +kernel
abbrev cX2_init : ByteArray := prog_4_method_1_code
def yX2_init : MethodName := ⟨RX2, "<init>", "()V"⟩
abbrev cX2_begin : ByteArray := prog_4_method_2_code
def yX2_begin : MethodName := ⟨RX2, "begin", "(I)V"⟩
abbrev cX2_next : ByteArray := prog_4_method_3_code
def yX2_next : MethodName := ⟨RX2, "next", "(I)I"⟩
abbrev cX2_mix : ByteArray := prog_4_method_4_code
def yX2_mix : MethodName := ⟨RX2, "mix", "(LTestVersions$Row;I)V"⟩
def RX3 : String := "TestVersions$Mixer"
def TX3 : u_T := fun k => match k with
  | 0 => ("TestVersions$Mixer", "lots", "LTestVersions$Lots;", true)
  | 1 => ("TestVersions$Mixer", "units", "LTestVersions$Row;", true)
  | 2 => ("TestVersions$Mixer", "members", "LTestVersions$Row;", true)
  | _ => ("TestVersions$Mixer", "loose", "LTestVersions$Row;", true)
def tyX3 : Nat → FieldType := fun k => match k with
  | 0 => .object "TestVersions$Lots"
  | 1 => .object "TestVersions$Row"
  | 2 => .object "TestVersions$Row"
  | _ => .object "TestVersions$Row"
abbrev wsX30 : List Cond := u_ws RX3 TX3 4
theorem nmX3 : ∀ a, a < 4 → ∀ b, b < 4 → a ≠ b → (TX3 a).2.1 ≠ (TX3 b).2.1 := by decide +kernel
theorem tyX3_ok : ∀ k, k < 4 → parseFieldDescriptor (TX3 k).2.2.1 = some (tyX3 k) := by decide +kernel
abbrev cX3_init : ByteArray := prog_5_method_1_code
def yX3_init : MethodName := ⟨RX3, "<init>", "()V"⟩
abbrev cX3_mix : ByteArray := prog_5_method_2_code
def yX3_mix : MethodName := ⟨RX3, "mix", "(LTestVersions$Questions;ILTestVersions$Paper;)V"⟩
abbrev cX3_listUnits : ByteArray := prog_5_method_3_code
def yX3_listUnits : MethodName := ⟨RX3, "listUnits", "(LTestVersions$Questions;)I"⟩
abbrev cX3_mixUnit : ByteArray := prog_5_method_4_code
def yX3_mixUnit : MethodName := ⟨RX3, "mixUnit", "(LTestVersions$Questions;ILTestVersions$Paper;)V"⟩
abbrev cX3_mixChoices : ByteArray := prog_5_method_5_code
def yX3_mixChoices : MethodName := ⟨RX3, "mixChoices", "(LTestVersions$Questions;ILTestVersions$Paper;)V"⟩
abbrev cX3_listLoose : ByteArray := prog_5_method_6_code
def yX3_listLoose : MethodName := ⟨RX3, "listLoose", "(II)I"⟩
def RX4 : String := "TestVersions$Paper"
def TX4 : u_T := fun k => match k with
  | 0 => ("TestVersions$Paper", "order", "LTestVersions$Row;", true)
  | 1 => ("TestVersions$Paper", "places", "LTestVersions$Row;", true)
  | 2 => ("TestVersions$Paper", "keys", "LTestVersions$Row;", true)
  | 3 => ("TestVersions$Paper", "choices", "LTestVersions$Row;", true)
  | 4 => ("TestVersions$Paper", "layout", "LTestVersions$Layout;", true)
  | 5 => ("TestVersions$Paper", "count", "I", false)
  | _ => ("TestVersions$Paper", "upToDate", "Z", false)
def tyX4 : Nat → FieldType := fun k => match k with
  | 0 => .object "TestVersions$Row"
  | 1 => .object "TestVersions$Row"
  | 2 => .object "TestVersions$Row"
  | 3 => .object "TestVersions$Row"
  | 4 => .object "TestVersions$Layout"
  | 5 => .int
  | _ => .boolean
abbrev wsX40 : List Cond := u_ws RX4 TX4 7
theorem nmX4 : ∀ a, a < 7 → ∀ b, b < 7 → a ≠ b → (TX4 a).2.1 ≠ (TX4 b).2.1 := by decide +kernel
theorem tyX4_ok : ∀ k, k < 7 → parseFieldDescriptor (TX4 k).2.2.1 = some (tyX4 k) := by decide +kernel
abbrev cX4_init : ByteArray := prog_6_method_1_code
def yX4_init : MethodName := ⟨RX4, "<init>", "()V"⟩
abbrev cX4_hasPlace : ByteArray := prog_6_method_2_code
def yX4_hasPlace : MethodName := ⟨RX4, "hasPlace", "(I)Z"⟩
abbrev cX4_append : ByteArray := prog_6_method_3_code
def yX4_append : MethodName := ⟨RX4, "append", "(I)V"⟩
abbrev cX4_choiceAt : ByteArray := prog_6_method_4_code
def yX4_choiceAt : MethodName := ⟨RX4, "choiceAt", "(II)I"⟩
abbrev cX4_putChoice : ByteArray := prog_6_method_5_code
def yX4_putChoice : MethodName := ⟨RX4, "putChoice", "(III)V"⟩
abbrev cX4_number : ByteArray := prog_6_method_6_code
def yX4_number : MethodName := ⟨RX4, "number", "(II)I"⟩
abbrev cX4_neighborsIn : ByteArray := prog_6_method_7_code
def yX4_neighborsIn : MethodName := ⟨RX4, "neighborsIn", "(LTestVersions$Paper;)I"⟩
def RX5 : String := "TestVersions$Questions"
def TX5 : u_T := fun k => match k with
  | 0 => ("TestVersions$Questions", "numbers", "LTestVersions$Row;", true)
  | _ => ("TestVersions$Questions", "count", "I", false)
def tyX5 : Nat → FieldType := fun k => match k with
  | 0 => .object "TestVersions$Row"
  | _ => .int
abbrev wsX50 : List Cond := u_ws RX5 TX5 2
theorem nmX5 : ∀ a, a < 2 → ∀ b, b < 2 → a ≠ b → (TX5 a).2.1 ≠ (TX5 b).2.1 := by decide +kernel
theorem tyX5_ok : ∀ k, k < 2 → parseFieldDescriptor (TX5 k).2.2.1 = some (tyX5 k) := by decide +kernel
abbrev cX5_init : ByteArray := prog_7_method_1_code
def yX5_init : MethodName := ⟨RX5, "<init>", "()V"⟩
abbrev cX5_allows : ByteArray := prog_7_method_2_code
def yX5_allows : MethodName := ⟨RX5, "allows", "(III)Z"⟩
abbrev cX5_has : ByteArray := prog_7_method_3_code
def yX5_has : MethodName := ⟨RX5, "has", "(I)Z"⟩
abbrev cX5_number : ByteArray := prog_7_method_4_code
def yX5_number : MethodName := ⟨RX5, "number", "(II)I"⟩
abbrev cX5_put : ByteArray := prog_7_method_5_code
def yX5_put : MethodName := ⟨RX5, "put", "(III)V"⟩
abbrev cX5_append : ByteArray := prog_7_method_6_code
def yX5_append : MethodName := ⟨RX5, "append", "(IIIII)I"⟩
abbrev cX5_delete : ByteArray := prog_7_method_7_code
def yX5_delete : MethodName := ⟨RX5, "delete", "(I)V"⟩
abbrev cX5_together : ByteArray := prog_7_method_8_code
def yX5_together : MethodName := ⟨RX5, "together", "(II)Z"⟩
abbrev cX5_isFirstOfUnit : ByteArray := prog_7_method_9_code
def yX5_isFirstOfUnit : MethodName := ⟨RX5, "isFirstOfUnit", "(I)Z"⟩
abbrev cX5_copy : ByteArray := prog_7_method_10_code
def yX5_copy : MethodName := ⟨RX5, "copy", "(LTestVersions$Questions;)V"⟩
def RX6 : String := "TestVersions$Row"
def TX6 : u_T := fun k => match k with
  | _ => ("TestVersions$Row", "cells", "[I", true)
def tyX6 : Nat → FieldType := fun k => match k with
  | _ => .array .int
abbrev wsX60 : List Cond := u_ws RX6 TX6 1
theorem nmX6 : ∀ a, a < 1 → ∀ b, b < 1 → a ≠ b → (TX6 a).2.1 ≠ (TX6 b).2.1 := by decide +kernel
theorem tyX6_ok : ∀ k, k < 1 → parseFieldDescriptor (TX6 k).2.2.1 = some (tyX6 k) := by decide +kernel
abbrev cX6_init : ByteArray := prog_8_method_1_code
def yX6_init : MethodName := ⟨RX6, "<init>", "(I)V"⟩
abbrev cX6_get : ByteArray := prog_8_method_2_code
def yX6_get : MethodName := ⟨RX6, "get", "(I)I"⟩
abbrev cX6_set : ByteArray := prog_8_method_3_code
def yX6_set : MethodName := ⟨RX6, "set", "(II)V"⟩
abbrev cX6_exchange : ByteArray := prog_8_method_4_code
def yX6_exchange : MethodName := ⟨RX6, "exchange", "(II)V"⟩
abbrev cX6_copy : ByteArray := prog_8_method_5_code
def yX6_copy : MethodName := ⟨RX6, "copy", "(LTestVersions$Row;)V"⟩
abbrev cX6_sameAs : ByteArray := prog_8_method_6_code
def yX6_sameAs : MethodName := ⟨RX6, "sameAs", "(LTestVersions$Row;I)I"⟩
def RX7 : String := "TestVersions$Sheets"
def TX7 : u_T := fun k => match k with
  | 0 => ("TestVersions$Sheets", "versions", "LTestVersions$Row;", true)
  | 1 => ("TestVersions$Sheets", "rights", "LTestVersions$Row;", true)
  | 2 => ("TestVersions$Sheets", "wrongs", "LTestVersions$Row;", true)
  | 3 => ("TestVersions$Sheets", "marks", "LTestVersions$Row;", true)
  | 4 => ("TestVersions$Sheets", "picks", "LTestVersions$Row;", true)
  | _ => ("TestVersions$Sheets", "count", "I", false)
def tyX7 : Nat → FieldType := fun k => match k with
  | 0 => .object "TestVersions$Row"
  | 1 => .object "TestVersions$Row"
  | 2 => .object "TestVersions$Row"
  | 3 => .object "TestVersions$Row"
  | 4 => .object "TestVersions$Row"
  | _ => .int
abbrev wsX70 : List Cond := u_ws RX7 TX7 6
theorem nmX7 : ∀ a, a < 6 → ∀ b, b < 6 → a ≠ b → (TX7 a).2.1 ≠ (TX7 b).2.1 := by decide +kernel
theorem tyX7_ok : ∀ k, k < 6 → parseFieldDescriptor (TX7 k).2.2.1 = some (tyX7 k) := by decide +kernel
abbrev cX7_init : ByteArray := prog_9_method_1_code
def yX7_init : MethodName := ⟨RX7, "<init>", "()V"⟩
abbrev cX7_has : ByteArray := prog_9_method_2_code
def yX7_has : MethodName := ⟨RX7, "has", "(I)Z"⟩
abbrev cX7_mark : ByteArray := prog_9_method_3_code
def yX7_mark : MethodName := ⟨RX7, "mark", "(II)I"⟩
abbrev cX7_pick : ByteArray := prog_9_method_4_code
def yX7_pick : MethodName := ⟨RX7, "pick", "(II)I"⟩
abbrev cX7_append : ByteArray := prog_9_method_5_code
def yX7_append : MethodName := ⟨RX7, "append", "(ILTestVersions$Paper;LTestVersions$Row;)I"⟩
abbrev cX7_points : ByteArray := prog_9_method_6_code
def yX7_points : MethodName := ⟨RX7, "points", "(I)I"⟩
abbrev cX7_number : ByteArray := prog_9_method_7_code
def yX7_number : MethodName := ⟨RX7, "number", "(II)I"⟩
abbrev cX7_betterThan : ByteArray := prog_9_method_8_code
def yX7_betterThan : MethodName := ⟨RX7, "betterThan", "(I)I"⟩
abbrev cX7_standing : ByteArray := prog_9_method_9_code
def yX7_standing : MethodName := ⟨RX7, "standing", "(I)I"⟩
abbrev cX7_pickers : ByteArray := prog_9_method_10_code
def yX7_pickers : MethodName := ⟨RX7, "pickers", "(II)I"⟩
abbrev cX7_copy : ByteArray := prog_9_method_11_code
def yX7_copy : MethodName := ⟨RX7, "copy", "(LTestVersions$Sheets;)V"⟩
def RX8 : String := "TestVersions$State"
def TX8 : u_T := fun k => match k with
  | 0 => ("TestVersions$State", "questions", "LTestVersions$Questions;", true)
  | 1 => ("TestVersions$State", "seeds", "LTestVersions$Row;", true)
  | 2 => ("TestVersions$State", "sheets", "LTestVersions$Sheets;", true)
  | 3 => ("TestVersions$State", "versionCount", "I", false)
  | _ => ("TestVersions$State", "lines", "I", false)
def tyX8 : Nat → FieldType := fun k => match k with
  | 0 => .object "TestVersions$Questions"
  | 1 => .object "TestVersions$Row"
  | 2 => .object "TestVersions$Sheets"
  | 3 => .int
  | _ => .int
abbrev wsX80 : List Cond := u_ws RX8 TX8 5
theorem nmX8 : ∀ a, a < 5 → ∀ b, b < 5 → a ≠ b → (TX8 a).2.1 ≠ (TX8 b).2.1 := by decide +kernel
theorem tyX8_ok : ∀ k, k < 5 → parseFieldDescriptor (TX8 k).2.2.1 = some (tyX8 k) := by decide +kernel
abbrev cX8_init : ByteArray := prog_10_method_1_code
def yX8_init : MethodName := ⟨RX8, "<init>", "()V"⟩
abbrev cX8_copy : ByteArray := prog_10_method_2_code
def yX8_copy : MethodName := ⟨RX8, "copy", "(LTestVersions$State;)V"⟩
def RX9 : String := "TestVersions"
def TX9 : u_T := fun k => match k with
  | 0 => ("TestVersions", "now", "LTestVersions$State;", true)
  | 1 => ("TestVersions", "history", "LTestVersions$History;", true)
  | 2 => ("TestVersions", "mixer", "LTestVersions$Mixer;", true)
  | 3 => ("TestVersions", "papers", "[LTestVersions$Paper;", true)
  | 4 => ("TestVersions", "candidate", "LTestVersions$Paper;", true)
  | 5 => ("TestVersions", "guesses", "LTestVersions$Lots;", true)
  | 6 => ("TestVersions", "draft", "LTestVersions$Row;", true)
  | 7 => ("TestVersions", "typed", "LTestVersions$Row;", true)
  | _ => ("TestVersions", "typedCount", "I", false)
def tyX9 : Nat → FieldType := fun k => match k with
  | 0 => .object "TestVersions$State"
  | 1 => .object "TestVersions$History"
  | 2 => .object "TestVersions$Mixer"
  | 3 => .array (.object "TestVersions$Paper")
  | 4 => .object "TestVersions$Paper"
  | 5 => .object "TestVersions$Lots"
  | 6 => .object "TestVersions$Row"
  | 7 => .object "TestVersions$Row"
  | _ => .int
abbrev wsX90 : List Cond := u_ws RX9 TX9 9
theorem nmX9 : ∀ a, a < 9 → ∀ b, b < 9 → a ≠ b → (TX9 a).2.1 ≠ (TX9 b).2.1 := by decide +kernel
theorem tyX9_ok : ∀ k, k < 9 → parseFieldDescriptor (TX9 k).2.2.1 = some (tyX9 k) := by decide +kernel
abbrev cX9_init : ByteArray := prog_1_method_1_code
def yX9_init : MethodName := ⟨RX9, "<init>", "()V"⟩
abbrev cX9_add : ByteArray := prog_1_method_2_code
def yX9_add : MethodName := ⟨RX9, "add", "(IIIII)I"⟩
abbrev cX9_remove : ByteArray := prog_1_method_3_code
def yX9_remove : MethodName := ⟨RX9, "remove", "(I)I"⟩
abbrev cX9_change : ByteArray := prog_1_method_4_code
def yX9_change : MethodName := ⟨RX9, "change", "(III)I"⟩
abbrev cX9_question : ByteArray := prog_1_method_5_code
def yX9_question : MethodName := ⟨RX9, "question", "(II)I"⟩
abbrev cX9_questions : ByteArray := prog_1_method_6_code
def yX9_questions : MethodName := ⟨RX9, "questions", "()I"⟩
abbrev cX9_version : ByteArray := prog_1_method_7_code
def yX9_version : MethodName := ⟨RX9, "version", "(I)I"⟩
abbrev cX9_drop : ByteArray := prog_1_method_8_code
def yX9_drop : MethodName := ⟨RX9, "drop", "()J"⟩
abbrev cX9_versions : ByteArray := prog_1_method_9_code
def yX9_versions : MethodName := ⟨RX9, "versions", "()I"⟩
abbrev cX9_at : ByteArray := prog_1_method_10_code
def yX9_at : MethodName := ⟨RX9, "at", "(III)I"⟩
abbrev cX9_where : ByteArray := prog_1_method_11_code
def yX9_where : MethodName := ⟨RX9, "where", "(II)I"⟩
abbrev cX9_choice : ByteArray := prog_1_method_12_code
def yX9_choice : MethodName := ⟨RX9, "choice", "(III)I"⟩
abbrev cX9_alike : ByteArray := prog_1_method_13_code
def yX9_alike : MethodName := ⟨RX9, "alike", "(III)I"⟩
abbrev cX9_unlike : ByteArray := prog_1_method_14_code
def yX9_unlike : MethodName := ⟨RX9, "unlike", "(II)J"⟩
abbrev cX9_setLines : ByteArray := prog_1_method_15_code
def yX9_setLines : MethodName := ⟨RX9, "setLines", "(I)I"⟩
abbrev cX9_pages : ByteArray := prog_1_method_16_code
def yX9_pages : MethodName := ⟨RX9, "pages", "(I)I"⟩
abbrev cX9_page : ByteArray := prog_1_method_17_code
def yX9_page : MethodName := ⟨RX9, "page", "(III)I"⟩
abbrev cX9_type : ByteArray := prog_1_method_18_code
def yX9_type : MethodName := ⟨RX9, "type", "(I)I"⟩
abbrev cX9_clear : ByteArray := prog_1_method_19_code
def yX9_clear : MethodName := ⟨RX9, "clear", "()I"⟩
abbrev cX9_sheet : ByteArray := prog_1_method_20_code
def yX9_sheet : MethodName := ⟨RX9, "sheet", "(I)I"⟩
abbrev cX9_guess : ByteArray := prog_1_method_21_code
def yX9_guess : MethodName := ⟨RX9, "guess", "(III)I"⟩
abbrev cX9_forget : ByteArray := prog_1_method_22_code
def yX9_forget : MethodName := ⟨RX9, "forget", "()I"⟩
abbrev cX9_result : ByteArray := prog_1_method_23_code
def yX9_result : MethodName := ⟨RX9, "result", "(II)I"⟩
abbrev cX9_answer : ByteArray := prog_1_method_24_code
def yX9_answer : MethodName := ⟨RX9, "answer", "(II)I"⟩
abbrev cX9_about : ByteArray := prog_1_method_25_code
def yX9_about : MethodName := ⟨RX9, "about", "(II)I"⟩
abbrev cX9_parting : ByteArray := prog_1_method_26_code
def yX9_parting : MethodName := ⟨RX9, "parting", "(I)F"⟩
abbrev cX9_mean : ByteArray := prog_1_method_27_code
def yX9_mean : MethodName := ⟨RX9, "mean", "()F"⟩
abbrev cX9_sameWrong : ByteArray := prog_1_method_28_code
def yX9_sameWrong : MethodName := ⟨RX9, "sameWrong", "(II)I"⟩
abbrev cX9_suspects : ByteArray := prog_1_method_29_code
def yX9_suspects : MethodName := ⟨RX9, "suspects", "()I"⟩
abbrev cX9_mistaken : ByteArray := prog_1_method_30_code
def yX9_mistaken : MethodName := ⟨RX9, "mistaken", "(II)I"⟩
abbrev cX9_undo : ByteArray := prog_1_method_31_code
def yX9_undo : MethodName := ⟨RX9, "undo", "()I"⟩
abbrev cX9_fingerprint : ByteArray := prog_1_method_32_code
def yX9_fingerprint : MethodName := ⟨RX9, "fingerprint", "()J"⟩
abbrev cX9_beginChange : ByteArray := prog_1_method_33_code
def yX9_beginChange : MethodName := ⟨RX9, "beginChange", "()V"⟩
abbrev cX9_outdatePapers : ByteArray := prog_1_method_34_code
def yX9_outdatePapers : MethodName := ⟨RX9, "outdatePapers", "()V"⟩
abbrev cX9_paperOf : ByteArray := prog_1_method_35_code
def yX9_paperOf : MethodName := ⟨RX9, "paperOf", "(I)LTestVersions$Paper;"⟩
abbrev cX9_choicesAt : ByteArray := prog_1_method_36_code
def yX9_choicesAt : MethodName := ⟨RX9, "choicesAt", "(LTestVersions$Paper;I)I"⟩
abbrev cX9_mostSameKeys : ByteArray := prog_1_method_37_code
def yX9_mostSameKeys : MethodName := ⟨RX9, "mostSameKeys", "(I)I"⟩
abbrev cX9_readTyped : ByteArray := prog_1_method_38_code
def yX9_readTyped : MethodName := ⟨RX9, "readTyped", "(LTestVersions$Paper;)I"⟩
abbrev cX9_markOf : ByteArray := prog_1_method_39_code
def yX9_markOf : MethodName := ⟨RX9, "markOf", "(II)I"⟩
abbrev cX9_handIn : ByteArray := prog_1_method_40_code
def yX9_handIn : MethodName := ⟨RX9, "handIn", "(ILTestVersions$Paper;)I"⟩
abbrev cX9_favoriteWrong : ByteArray := prog_1_method_41_code
def yX9_favoriteWrong : MethodName := ⟨RX9, "favoriteWrong", "(II)I"⟩
abbrev cX9_countSameWrong : ByteArray := prog_1_method_42_code
def yX9_countSameWrong : MethodName := ⟨RX9, "countSameWrong", "(II)I"⟩
abbrev cX9_printQuestions : ByteArray := prog_1_method_43_code
def yX9_printQuestions : MethodName := ⟨RX9, "printQuestions", "(J)J"⟩
abbrev cX9_printVersions : ByteArray := prog_1_method_44_code
def yX9_printVersions : MethodName := ⟨RX9, "printVersions", "(J)J"⟩
abbrev cX9_printSheets : ByteArray := prog_1_method_45_code
def yX9_printSheets : MethodName := ⟨RX9, "printSheets", "(J)J"⟩
def RX10 : String := "TestVersionsModel"
def TX10 : u_T := fun k => match k with
  | 0 => ("TestVersionsModel", "v", "[I", true)
  | 1 => ("TestVersionsModel", "past", "[I", true)
  | 2 => ("TestVersionsModel", "pastMany", "I", false)
  | 3 => ("TestVersionsModel", "lotted", "I", false)
  | 4 => ("TestVersionsModel", "order", "[I", true)
  | 5 => ("TestVersionsModel", "key", "[I", true)
  | 6 => ("TestVersionsModel", "choiceAt", "[I", true)
  | 7 => ("TestVersionsModel", "row", "[I", true)
  | 8 => ("TestVersionsModel", "rowMany", "I", false)
  | 9 => ("TestVersionsModel", "units", "[I", true)
  | 10 => ("TestVersionsModel", "pageOf", "[I", true)
  | 11 => ("TestVersionsModel", "lineOf", "[I", true)
  | 12 => ("TestVersionsModel", "pageMany", "I", false)
  | 13 => ("TestVersionsModel", "firstOrder", "[I", true)
  | 14 => ("TestVersionsModel", "firstKey", "[I", true)
  | 15 => ("TestVersionsModel", "text", "[I", true)
  | _ => ("TestVersionsModel", "typed", "I", false)
def tyX10 : Nat → FieldType := fun k => match k with
  | 0 => .array .int
  | 1 => .array .int
  | 2 => .int
  | 3 => .int
  | 4 => .array .int
  | 5 => .array .int
  | 6 => .array .int
  | 7 => .array .int
  | 8 => .int
  | 9 => .array .int
  | 10 => .array .int
  | 11 => .array .int
  | 12 => .int
  | 13 => .array .int
  | 14 => .array .int
  | 15 => .array .int
  | _ => .int
abbrev wsX100 : List Cond := u_ws RX10 TX10 17
theorem nmX10 : ∀ a, a < 17 → ∀ b, b < 17 → a ≠ b → (TX10 a).2.1 ≠ (TX10 b).2.1 := by decide +kernel
theorem tyX10_ok : ∀ k, k < 17 → parseFieldDescriptor (TX10 k).2.2.1 = some (tyX10 k) := by decide +kernel
abbrev cX10_init : ByteArray := prog_12_method_1_code
def yX10_init : MethodName := ⟨RX10, "<init>", "()V"⟩
abbrev cX10_in : ByteArray := prog_12_method_2_code
def yX10_in : MethodName := ⟨RX10, "in", "(III)Z"⟩
abbrev cX10_act : ByteArray := prog_12_method_3_code
def yX10_act : MethodName := ⟨RX10, "act", "()V"⟩
abbrev cX10_of : ByteArray := prog_12_method_4_code
def yX10_of : MethodName := ⟨RX10, "of", "(II)I"⟩
abbrev cX10_isQuestion : ByteArray := prog_12_method_5_code
def yX10_isQuestion : MethodName := ⟨RX10, "isQuestion", "(I)Z"⟩
abbrev cX10_isVersion : ByteArray := prog_12_method_6_code
def yX10_isVersion : MethodName := ⟨RX10, "isVersion", "(I)Z"⟩
abbrev cX10_isSheet : ByteArray := prog_12_method_7_code
def yX10_isSheet : MethodName := ⟨RX10, "isSheet", "(I)Z"⟩
abbrev cX10_add : ByteArray := prog_12_method_8_code
def yX10_add : MethodName := ⟨RX10, "add", "(IIIII)I"⟩
abbrev cX10_remove : ByteArray := prog_12_method_9_code
def yX10_remove : MethodName := ⟨RX10, "remove", "(I)I"⟩
abbrev cX10_isIn : ByteArray := prog_12_method_10_code
def yX10_isIn : MethodName := ⟨RX10, "isIn", "(III)Z"⟩
abbrev cX10_sets : ByteArray := prog_12_method_11_code
def yX10_sets : MethodName := ⟨RX10, "sets", "(II)I"⟩
abbrev cX10_change : ByteArray := prog_12_method_12_code
def yX10_change : MethodName := ⟨RX10, "change", "(III)I"⟩
abbrev cX10_question : ByteArray := prog_12_method_13_code
def yX10_question : MethodName := ⟨RX10, "question", "(II)I"⟩
abbrev cX10_questions : ByteArray := prog_12_method_14_code
def yX10_questions : MethodName := ⟨RX10, "questions", "()I"⟩
abbrev cX10_lot : ByteArray := prog_12_method_15_code
def yX10_lot : MethodName := ⟨RX10, "lot", "(I)I"⟩
abbrev cX10_mixes : ByteArray := prog_12_method_16_code
def yX10_mixes : MethodName := ⟨RX10, "mixes", "()V"⟩
abbrev cX10_leads : ByteArray := prog_12_method_17_code
def yX10_leads : MethodName := ⟨RX10, "leads", "(I)Z"⟩
abbrev cX10_mixesChoices : ByteArray := prog_12_method_18_code
def yX10_mixesChoices : MethodName := ⟨RX10, "mixesChoices", "(I)V"⟩
abbrev cX10_mixesAll : ByteArray := prog_12_method_19_code
def yX10_mixesAll : MethodName := ⟨RX10, "mixesAll", "(I)V"⟩
abbrev cX10_opens : ByteArray := prog_12_method_20_code
def yX10_opens : MethodName := ⟨RX10, "opens", "(I)V"⟩
abbrev cX10_needs : ByteArray := prog_12_method_21_code
def yX10_needs : MethodName := ⟨RX10, "needs", "(II)I"⟩
abbrev cX10_lays : ByteArray := prog_12_method_22_code
def yX10_lays : MethodName := ⟨RX10, "lays", "()V"⟩
abbrev cX10_told : ByteArray := prog_12_method_23_code
def yX10_told : MethodName := ⟨RX10, "told", "(II)I"⟩
abbrev cX10_version : ByteArray := prog_12_method_24_code
def yX10_version : MethodName := ⟨RX10, "version", "(I)I"⟩
abbrev cX10_drop : ByteArray := prog_12_method_25_code
def yX10_drop : MethodName := ⟨RX10, "drop", "()J"⟩
abbrev cX10_versions : ByteArray := prog_12_method_26_code
def yX10_versions : MethodName := ⟨RX10, "versions", "()I"⟩
abbrev cX10_at : ByteArray := prog_12_method_27_code
def yX10_at : MethodName := ⟨RX10, "at", "(III)I"⟩
abbrev cX10_placeOf : ByteArray := prog_12_method_28_code
def yX10_placeOf : MethodName := ⟨RX10, "placeOf", "(I)I"⟩
abbrev cX10_where : ByteArray := prog_12_method_29_code
def yX10_where : MethodName := ⟨RX10, "where", "(II)I"⟩
abbrev cX10_choice : ByteArray := prog_12_method_30_code
def yX10_choice : MethodName := ⟨RX10, "choice", "(III)I"⟩
abbrev cX10_puts : ByteArray := prog_12_method_31_code
def yX10_puts : MethodName := ⟨RX10, "puts", "()V"⟩
abbrev cX10_common : ByteArray := prog_12_method_32_code
def yX10_common : MethodName := ⟨RX10, "common", "(I)I"⟩
abbrev cX10_alike : ByteArray := prog_12_method_33_code
def yX10_alike : MethodName := ⟨RX10, "alike", "(III)I"⟩
abbrev cX10_unlike : ByteArray := prog_12_method_34_code
def yX10_unlike : MethodName := ⟨RX10, "unlike", "(II)J"⟩
abbrev cX10_setLines : ByteArray := prog_12_method_35_code
def yX10_setLines : MethodName := ⟨RX10, "setLines", "(I)I"⟩
abbrev cX10_pages : ByteArray := prog_12_method_36_code
def yX10_pages : MethodName := ⟨RX10, "pages", "(I)I"⟩
abbrev cX10_page : ByteArray := prog_12_method_37_code
def yX10_page : MethodName := ⟨RX10, "page", "(III)I"⟩
abbrev cX10_type : ByteArray := prog_12_method_38_code
def yX10_type : MethodName := ⟨RX10, "type", "(I)I"⟩
abbrev cX10_clear : ByteArray := prog_12_method_39_code
def yX10_clear : MethodName := ⟨RX10, "clear", "()I"⟩
abbrev cX10_sheetAt : ByteArray := prog_12_method_40_code
def yX10_sheetAt : MethodName := ⟨RX10, "sheetAt", "(I)I"⟩
abbrev cX10_wrongAt : ByteArray := prog_12_method_41_code
def yX10_wrongAt : MethodName := ⟨RX10, "wrongAt", "()I"⟩
abbrev cX10_sheet : ByteArray := prog_12_method_42_code
def yX10_sheet : MethodName := ⟨RX10, "sheet", "(I)I"⟩
abbrev cX10_guess : ByteArray := prog_12_method_43_code
def yX10_guess : MethodName := ⟨RX10, "guess", "(III)I"⟩
abbrev cX10_forget : ByteArray := prog_12_method_44_code
def yX10_forget : MethodName := ⟨RX10, "forget", "()I"⟩
abbrev cX10_counts : ByteArray := prog_12_method_45_code
def yX10_counts : MethodName := ⟨RX10, "counts", "(I)I"⟩
abbrev cX10_countsOwn : ByteArray := prog_12_method_46_code
def yX10_countsOwn : MethodName := ⟨RX10, "countsOwn", "(I)I"⟩
abbrev cX10_pointsBy : ByteArray := prog_12_method_47_code
def yX10_pointsBy : MethodName := ⟨RX10, "pointsBy", "(I)I"⟩
abbrev cX10_points : ByteArray := prog_12_method_48_code
def yX10_points : MethodName := ⟨RX10, "points", "(I)I"⟩
abbrev cX10_rank : ByteArray := prog_12_method_49_code
def yX10_rank : MethodName := ⟨RX10, "rank", "(I)I"⟩
abbrev cX10_resultOf : ByteArray := prog_12_method_50_code
def yX10_resultOf : MethodName := ⟨RX10, "resultOf", "(II)I"⟩
abbrev cX10_result : ByteArray := prog_12_method_51_code
def yX10_result : MethodName := ⟨RX10, "result", "(II)I"⟩
abbrev cX10_answerOf : ByteArray := prog_12_method_52_code
def yX10_answerOf : MethodName := ⟨RX10, "answerOf", "(II)I"⟩
abbrev cX10_answer : ByteArray := prog_12_method_53_code
def yX10_answer : MethodName := ⟨RX10, "answer", "(II)I"⟩
abbrev cX10_taken : ByteArray := prog_12_method_54_code
def yX10_taken : MethodName := ⟨RX10, "taken", "(II)I"⟩
abbrev cX10_about : ByteArray := prog_12_method_55_code
def yX10_about : MethodName := ⟨RX10, "about", "(II)I"⟩
abbrev cX10_parting : ByteArray := prog_12_method_56_code
def yX10_parting : MethodName := ⟨RX10, "parting", "(I)F"⟩
abbrev cX10_mean : ByteArray := prog_12_method_57_code
def yX10_mean : MethodName := ⟨RX10, "mean", "()F"⟩
abbrev cX10_shared : ByteArray := prog_12_method_58_code
def yX10_shared : MethodName := ⟨RX10, "shared", "(II)I"⟩
abbrev cX10_sameWrong : ByteArray := prog_12_method_59_code
def yX10_sameWrong : MethodName := ⟨RX10, "sameWrong", "(II)I"⟩
abbrev cX10_suspects : ByteArray := prog_12_method_60_code
def yX10_suspects : MethodName := ⟨RX10, "suspects", "()I"⟩
abbrev cX10_mistaken : ByteArray := prog_12_method_61_code
def yX10_mistaken : MethodName := ⟨RX10, "mistaken", "(II)I"⟩
abbrev cX10_undo : ByteArray := prog_12_method_62_code
def yX10_undo : MethodName := ⟨RX10, "undo", "()I"⟩
abbrev cX10_fingerprint : ByteArray := prog_12_method_63_code
def yX10_fingerprint : MethodName := ⟨RX10, "fingerprint", "()J"⟩
def RJ9 : String := "java/lang/Math"
def TJ9 : u_T := fun k => match k with
  | _ => ("", "", "", false)
def tyJ9 : Nat → FieldType := fun k => match k with
  | _ => .int
abbrev wsJ90 : List Cond := u_ws RJ9 TJ9 0
theorem nmJ9 : ∀ a, a < 0 → ∀ b, b < 0 → a ≠ b → (TJ9 a).2.1 ≠ (TJ9 b).2.1 := by decide +kernel
theorem tyJ9_ok : ∀ k, k < 0 → parseFieldDescriptor (TJ9 k).2.2.1 = some (tyJ9 k) := by decide +kernel
abbrev cJ9_max_7cf53 : ByteArray := prog_13_method_65_code
def yJ9_max_7cf53 : MethodName := ⟨RJ9, "max", "(II)I"⟩
abbrev cJ9_min_7cf53 : ByteArray := prog_13_method_69_code
def yJ9_min_7cf53 : MethodName := ⟨RJ9, "min", "(II)I"⟩
def RJ10 : String := "java/lang/System"
def TJ10 : u_T := fun k => match k with
  | _ => ("", "", "", false)
def tyJ10 : Nat → FieldType := fun k => match k with
  | _ => .int
abbrev wsJ100 : List Cond := u_ws RJ10 TJ10 0
theorem nmJ10 : ∀ a, a < 0 → ∀ b, b < 0 → a ≠ b → (TJ10 a).2.1 ≠ (TJ10 b).2.1 := by decide +kernel
theorem tyJ10_ok : ∀ k, k < 0 → parseFieldDescriptor (TJ10 k).2.2.1 = some (tyJ10 k) := by decide +kernel
def RL : String := "TestVersionsLaw"
abbrev cL_law : ByteArray := code
def yL_law : MethodName := ⟨RL, "law", "([I)Z"⟩
abbrev vwCl : List vw_C := [(RX0, TX0, 3), (RX1, TX1, 7), (RX2, TX2, 1), (RX3, TX3, 4), (RX4, TX4, 7), (RX5, TX5, 2), (RX6, TX6, 1), (RX7, TX7, 6), (RX8, TX8, 5), (RX9, TX9, 9), (RX10, TX10, 17)]
end
section
theorem dX0_init_0 : decode cX0_init 0 = .ok (.aload_n 0, 1) := by decide +kernel
theorem dX0_init_1 : decode cX0_init 1 = .ok (.invokespecial 3, 3) := by decide +kernel
theorem dX0_init_4 : decode cX0_init 4 = .ok (.aload_n 0, 1) := by decide +kernel
theorem dX0_init_5 : decode cX0_init 5 = .ok (.iconst 5, 1) := by decide +kernel
theorem dX0_init_6 : decode cX0_init 6 = .ok (.anewarray 9, 3) := by decide +kernel
theorem dX0_init_9 : decode cX0_init 9 = .ok (.putfield 11, 3) := by decide +kernel
theorem dX0_init_12 : decode cX0_init 12 = .ok (.iconst 0, 1) := by decide +kernel
theorem dX0_init_13 : decode cX0_init 13 = .ok (.istore_n 1, 1) := by decide +kernel
theorem dX0_init_14 : decode cX0_init 14 = .ok (.iload_n 1, 1) := by decide +kernel
theorem dX0_init_15 : decode cX0_init 15 = .ok (.aload_n 0, 1) := by decide +kernel
theorem dX0_init_16 : decode cX0_init 16 = .ok (.getfield 11, 3) := by decide +kernel
theorem dX0_init_19 : decode cX0_init 19 = .ok (.arraylength, 1) := by decide +kernel
theorem dX0_init_20 : decode cX0_init 20 = .ok (.if_icmp .ge 22, 3) := by decide +kernel
theorem dX0_init_23 : decode cX0_init 23 = .ok (.aload_n 0, 1) := by decide +kernel
theorem dX0_init_24 : decode cX0_init 24 = .ok (.getfield 11, 3) := by decide +kernel
theorem dX0_init_27 : decode cX0_init 27 = .ok (.iload_n 1, 1) := by decide +kernel
theorem dX0_init_28 : decode cX0_init 28 = .ok (.new 9, 3) := by decide +kernel
theorem dX0_init_31 : decode cX0_init 31 = .ok (.dup, 1) := by decide +kernel
theorem dX0_init_32 : decode cX0_init 32 = .ok (.invokespecial 17, 3) := by decide +kernel
theorem dX0_init_35 : decode cX0_init 35 = .ok (.aastore, 1) := by decide +kernel
theorem dX0_init_36 : decode cX0_init 36 = .ok (.iinc 1 1, 3) := by decide +kernel
theorem dX0_init_39 : decode cX0_init 39 = .ok (.goto (-25), 3) := by decide +kernel
theorem dX0_init_42 : decode cX0_init 42 = .ok (.return_, 1) := by decide +kernel
theorem dX0_keep_0 : decode cX0_keep 0 = .ok (.aload_n 0, 1) := by decide +kernel
theorem dX0_keep_1 : decode cX0_keep 1 = .ok (.getfield 18, 3) := by decide +kernel
theorem dX0_keep_4 : decode cX0_keep 4 = .ok (.iconst 5, 1) := by decide +kernel
theorem dX0_keep_5 : decode cX0_keep 5 = .ok (.if_icmp .ne 25, 3) := by decide +kernel
theorem dX0_keep_8 : decode cX0_keep 8 = .ok (.aload_n 0, 1) := by decide +kernel
theorem dX0_keep_9 : decode cX0_keep 9 = .ok (.aload_n 0, 1) := by decide +kernel
theorem dX0_keep_10 : decode cX0_keep 10 = .ok (.getfield 22, 3) := by decide +kernel
theorem dX0_keep_13 : decode cX0_keep 13 = .ok (.iconst 1, 1) := by decide +kernel
theorem dX0_keep_14 : decode cX0_keep 14 = .ok (.iadd, 1) := by decide +kernel
theorem dX0_keep_15 : decode cX0_keep 15 = .ok (.iconst 5, 1) := by decide +kernel
theorem dX0_keep_16 : decode cX0_keep 16 = .ok (.irem, 1) := by decide +kernel
theorem dX0_keep_17 : decode cX0_keep 17 = .ok (.putfield 22, 3) := by decide +kernel
theorem dX0_keep_20 : decode cX0_keep 20 = .ok (.aload_n 0, 1) := by decide +kernel
theorem dX0_keep_21 : decode cX0_keep 21 = .ok (.dup, 1) := by decide +kernel
theorem dX0_keep_22 : decode cX0_keep 22 = .ok (.getfield 18, 3) := by decide +kernel
theorem dX0_keep_25 : decode cX0_keep 25 = .ok (.iconst 1, 1) := by decide +kernel
theorem dX0_keep_26 : decode cX0_keep 26 = .ok (.isub, 1) := by decide +kernel
theorem dX0_keep_27 : decode cX0_keep 27 = .ok (.putfield 18, 3) := by decide +kernel
theorem dX0_keep_30 : decode cX0_keep 30 = .ok (.aload_n 0, 1) := by decide +kernel
theorem dX0_keep_31 : decode cX0_keep 31 = .ok (.aload_n 0, 1) := by decide +kernel
theorem dX0_keep_32 : decode cX0_keep 32 = .ok (.getfield 18, 3) := by decide +kernel
theorem dX0_keep_35 : decode cX0_keep 35 = .ok (.invokevirtual 25, 3) := by decide +kernel
theorem dX0_keep_38 : decode cX0_keep 38 = .ok (.astore_n 2, 1) := by decide +kernel
theorem dX0_keep_39 : decode cX0_keep 39 = .ok (.aload_n 2, 1) := by decide +kernel
theorem dX0_keep_40 : decode cX0_keep 40 = .ok (.ifnull 18, 3) := by decide +kernel
theorem dX0_keep_43 : decode cX0_keep 43 = .ok (.aload_n 2, 1) := by decide +kernel
theorem dX0_keep_44 : decode cX0_keep 44 = .ok (.aload_n 1, 1) := by decide +kernel
theorem dX0_keep_45 : decode cX0_keep 45 = .ok (.invokevirtual 29, 3) := by decide +kernel
theorem dX0_keep_48 : decode cX0_keep 48 = .ok (.aload_n 0, 1) := by decide +kernel
theorem dX0_keep_49 : decode cX0_keep 49 = .ok (.dup, 1) := by decide +kernel
theorem dX0_keep_50 : decode cX0_keep 50 = .ok (.getfield 18, 3) := by decide +kernel
theorem dX0_keep_53 : decode cX0_keep 53 = .ok (.iconst 1, 1) := by decide +kernel
theorem dX0_keep_54 : decode cX0_keep 54 = .ok (.iadd, 1) := by decide +kernel
theorem dX0_keep_55 : decode cX0_keep 55 = .ok (.putfield 18, 3) := by decide +kernel
theorem dX0_keep_58 : decode cX0_keep 58 = .ok (.return_, 1) := by decide +kernel
theorem dX0_restore_0 : decode cX0_restore 0 = .ok (.aload_n 0, 1) := by decide +kernel
theorem dX0_restore_1 : decode cX0_restore 1 = .ok (.aload_n 0, 1) := by decide +kernel
theorem dX0_restore_2 : decode cX0_restore 2 = .ok (.getfield 18, 3) := by decide +kernel
theorem dX0_restore_5 : decode cX0_restore 5 = .ok (.iconst 1, 1) := by decide +kernel
theorem dX0_restore_6 : decode cX0_restore 6 = .ok (.isub, 1) := by decide +kernel
theorem dX0_restore_7 : decode cX0_restore 7 = .ok (.invokevirtual 25, 3) := by decide +kernel
theorem dX0_restore_10 : decode cX0_restore 10 = .ok (.astore_n 2, 1) := by decide +kernel
theorem dX0_restore_11 : decode cX0_restore 11 = .ok (.aload_n 2, 1) := by decide +kernel
theorem dX0_restore_12 : decode cX0_restore 12 = .ok (.ifnull 18, 3) := by decide +kernel
theorem dX0_restore_15 : decode cX0_restore 15 = .ok (.aload_n 1, 1) := by decide +kernel
theorem dX0_restore_16 : decode cX0_restore 16 = .ok (.aload_n 2, 1) := by decide +kernel
theorem dX0_restore_17 : decode cX0_restore 17 = .ok (.invokevirtual 29, 3) := by decide +kernel
theorem dX0_restore_20 : decode cX0_restore 20 = .ok (.aload_n 0, 1) := by decide +kernel
theorem dX0_restore_21 : decode cX0_restore 21 = .ok (.dup, 1) := by decide +kernel
theorem dX0_restore_22 : decode cX0_restore 22 = .ok (.getfield 18, 3) := by decide +kernel
theorem dX0_restore_25 : decode cX0_restore 25 = .ok (.iconst 1, 1) := by decide +kernel
theorem dX0_restore_26 : decode cX0_restore 26 = .ok (.isub, 1) := by decide +kernel
theorem dX0_restore_27 : decode cX0_restore 27 = .ok (.putfield 18, 3) := by decide +kernel
theorem dX0_restore_30 : decode cX0_restore 30 = .ok (.return_, 1) := by decide +kernel
theorem dX0_stateAt_0 : decode cX0_stateAt 0 = .ok (.aload_n 0, 1) := by decide +kernel
theorem dX0_stateAt_1 : decode cX0_stateAt 1 = .ok (.getfield 22, 3) := by decide +kernel
theorem dX0_stateAt_4 : decode cX0_stateAt 4 = .ok (.iload_n 1, 1) := by decide +kernel
theorem dX0_stateAt_5 : decode cX0_stateAt 5 = .ok (.iadd, 1) := by decide +kernel
theorem dX0_stateAt_6 : decode cX0_stateAt 6 = .ok (.iconst 5, 1) := by decide +kernel
theorem dX0_stateAt_7 : decode cX0_stateAt 7 = .ok (.irem, 1) := by decide +kernel
theorem dX0_stateAt_8 : decode cX0_stateAt 8 = .ok (.istore_n 2, 1) := by decide +kernel
theorem dX0_stateAt_9 : decode cX0_stateAt 9 = .ok (.iload_n 2, 1) := by decide +kernel
theorem dX0_stateAt_10 : decode cX0_stateAt 10 = .ok (.ifCond .lt 21, 3) := by decide +kernel
theorem dX0_stateAt_13 : decode cX0_stateAt 13 = .ok (.iload_n 2, 1) := by decide +kernel
theorem dX0_stateAt_14 : decode cX0_stateAt 14 = .ok (.aload_n 0, 1) := by decide +kernel
theorem dX0_stateAt_15 : decode cX0_stateAt 15 = .ok (.getfield 11, 3) := by decide +kernel
theorem dX0_stateAt_18 : decode cX0_stateAt 18 = .ok (.arraylength, 1) := by decide +kernel
theorem dX0_stateAt_19 : decode cX0_stateAt 19 = .ok (.if_icmp .ge 12, 3) := by decide +kernel
theorem dX0_stateAt_22 : decode cX0_stateAt 22 = .ok (.aload_n 0, 1) := by decide +kernel
theorem dX0_stateAt_23 : decode cX0_stateAt 23 = .ok (.getfield 11, 3) := by decide +kernel
theorem dX0_stateAt_26 : decode cX0_stateAt 26 = .ok (.iload_n 2, 1) := by decide +kernel
theorem dX0_stateAt_27 : decode cX0_stateAt 27 = .ok (.aaload, 1) := by decide +kernel
theorem dX0_stateAt_28 : decode cX0_stateAt 28 = .ok (.goto 4, 3) := by decide +kernel
theorem dX0_stateAt_31 : decode cX0_stateAt 31 = .ok (.aconst_null, 1) := by decide +kernel
theorem dX0_stateAt_32 : decode cX0_stateAt 32 = .ok (.areturn, 1) := by decide +kernel
theorem dX1_init_0 : decode cX1_init 0 = .ok (.aload_n 0, 1) := by decide +kernel
theorem dX1_init_1 : decode cX1_init 1 = .ok (.invokespecial 3, 3) := by decide +kernel
theorem dX1_init_4 : decode cX1_init 4 = .ok (.aload_n 0, 1) := by decide +kernel
theorem dX1_init_5 : decode cX1_init 5 = .ok (.new 9, 3) := by decide +kernel
theorem dX1_init_8 : decode cX1_init 8 = .ok (.dup, 1) := by decide +kernel
theorem dX1_init_9 : decode cX1_init 9 = .ok (.bipush 20, 2) := by decide +kernel
theorem dX1_init_11 : decode cX1_init 11 = .ok (.invokespecial 11, 3) := by decide +kernel
theorem dX1_init_14 : decode cX1_init 14 = .ok (.putfield 14, 3) := by decide +kernel
theorem dX1_init_17 : decode cX1_init 17 = .ok (.aload_n 0, 1) := by decide +kernel
theorem dX1_init_18 : decode cX1_init 18 = .ok (.new 9, 3) := by decide +kernel
theorem dX1_init_21 : decode cX1_init 21 = .ok (.dup, 1) := by decide +kernel
theorem dX1_init_22 : decode cX1_init 22 = .ok (.bipush 20, 2) := by decide +kernel
theorem dX1_init_24 : decode cX1_init 24 = .ok (.invokespecial 11, 3) := by decide +kernel
theorem dX1_init_27 : decode cX1_init 27 = .ok (.putfield 20, 3) := by decide +kernel
theorem dX1_init_30 : decode cX1_init 30 = .ok (.aload_n 0, 1) := by decide +kernel
theorem dX1_init_31 : decode cX1_init 31 = .ok (.new 9, 3) := by decide +kernel
theorem dX1_init_34 : decode cX1_init 34 = .ok (.dup, 1) := by decide +kernel
theorem dX1_init_35 : decode cX1_init 35 = .ok (.bipush 20, 2) := by decide +kernel
theorem dX1_init_37 : decode cX1_init 37 = .ok (.invokespecial 11, 3) := by decide +kernel
theorem dX1_init_40 : decode cX1_init 40 = .ok (.putfield 23, 3) := by decide +kernel
theorem dX1_init_43 : decode cX1_init 43 = .ok (.aload_n 0, 1) := by decide +kernel
theorem dX1_init_44 : decode cX1_init 44 = .ok (.new 9, 3) := by decide +kernel
theorem dX1_init_47 : decode cX1_init 47 = .ok (.dup, 1) := by decide +kernel
theorem dX1_init_48 : decode cX1_init 48 = .ok (.bipush 20, 2) := by decide +kernel
theorem dX1_init_50 : decode cX1_init 50 = .ok (.invokespecial 11, 3) := by decide +kernel
theorem dX1_init_53 : decode cX1_init 53 = .ok (.putfield 26, 3) := by decide +kernel
theorem dX1_init_56 : decode cX1_init 56 = .ok (.aload_n 0, 1) := by decide +kernel
theorem dX1_init_57 : decode cX1_init 57 = .ok (.new 9, 3) := by decide +kernel
theorem dX1_init_60 : decode cX1_init 60 = .ok (.dup, 1) := by decide +kernel
theorem dX1_init_61 : decode cX1_init 61 = .ok (.bipush 20, 2) := by decide +kernel
theorem dX1_init_63 : decode cX1_init 63 = .ok (.invokespecial 11, 3) := by decide +kernel
theorem dX1_init_66 : decode cX1_init 66 = .ok (.putfield 29, 3) := by decide +kernel
theorem dX1_init_69 : decode cX1_init 69 = .ok (.return_, 1) := by decide +kernel
theorem dX1_lay_0 : decode cX1_lay 0 = .ok (.aload_n 0, 1) := by decide +kernel
theorem dX1_lay_1 : decode cX1_lay 1 = .ok (.aload_n 2, 1) := by decide +kernel
theorem dX1_lay_2 : decode cX1_lay 2 = .ok (.getfield 32, 3) := by decide +kernel
theorem dX1_lay_5 : decode cX1_lay 5 = .ok (.putfield 38, 3) := by decide +kernel
theorem dX1_lay_8 : decode cX1_lay 8 = .ok (.iconst 0, 1) := by decide +kernel
theorem dX1_lay_9 : decode cX1_lay 9 = .ok (.istore 4, 2) := by decide +kernel
theorem dX1_lay_11 : decode cX1_lay 11 = .ok (.iload 4, 2) := by decide +kernel
theorem dX1_lay_13 : decode cX1_lay 13 = .ok (.aload_n 0, 1) := by decide +kernel
theorem dX1_lay_14 : decode cX1_lay 14 = .ok (.getfield 38, 3) := by decide +kernel
theorem dX1_lay_17 : decode cX1_lay 17 = .ok (.if_icmp .ge 32, 3) := by decide +kernel
theorem dX1_lay_20 : decode cX1_lay 20 = .ok (.aload_n 0, 1) := by decide +kernel
theorem dX1_lay_21 : decode cX1_lay 21 = .ok (.getfield 14, 3) := by decide +kernel
theorem dX1_lay_24 : decode cX1_lay 24 = .ok (.iload 4, 2) := by decide +kernel
theorem dX1_lay_26 : decode cX1_lay 26 = .ok (.aload_n 1, 1) := by decide +kernel
theorem dX1_lay_27 : decode cX1_lay 27 = .ok (.aload_n 2, 1) := by decide +kernel
theorem dX1_lay_28 : decode cX1_lay 28 = .ok (.getfield 41, 3) := by decide +kernel
theorem dX1_lay_31 : decode cX1_lay 31 = .ok (.iload 4, 2) := by decide +kernel
theorem dX1_lay_33 : decode cX1_lay 33 = .ok (.invokevirtual 44, 3) := by decide +kernel
theorem dX1_lay_36 : decode cX1_lay 36 = .ok (.iconst 0, 1) := by decide +kernel
theorem dX1_lay_37 : decode cX1_lay 37 = .ok (.invokevirtual 48, 3) := by decide +kernel
theorem dX1_lay_40 : decode cX1_lay 40 = .ok (.invokevirtual 54, 3) := by decide +kernel
theorem dX1_lay_43 : decode cX1_lay 43 = .ok (.iinc 4 1, 3) := by decide +kernel
theorem dX1_lay_46 : decode cX1_lay 46 = .ok (.goto (-35), 3) := by decide +kernel
theorem dX1_lay_49 : decode cX1_lay 49 = .ok (.aload_n 0, 1) := by decide +kernel
theorem dX1_lay_50 : decode cX1_lay 50 = .ok (.aload_n 0, 1) := by decide +kernel
theorem dX1_lay_51 : decode cX1_lay 51 = .ok (.iconst 0, 1) := by decide +kernel
theorem dX1_lay_52 : decode cX1_lay 52 = .ok (.iload_n 3, 1) := by decide +kernel
theorem dX1_lay_53 : decode cX1_lay 53 = .ok (.invokevirtual 58, 3) := by decide +kernel
theorem dX1_lay_56 : decode cX1_lay 56 = .ok (.putfield 61, 3) := by decide +kernel
theorem dX1_lay_59 : decode cX1_lay 59 = .ok (.aload_n 0, 1) := by decide +kernel
theorem dX1_lay_60 : decode cX1_lay 60 = .ok (.iload_n 3, 1) := by decide +kernel
theorem dX1_lay_61 : decode cX1_lay 61 = .ok (.invokevirtual 64, 3) := by decide +kernel
theorem dX1_lay_64 : decode cX1_lay 64 = .ok (.istore 4, 2) := by decide +kernel
theorem dX1_lay_66 : decode cX1_lay 66 = .ok (.iconst 0, 1) := by decide +kernel
theorem dX1_lay_67 : decode cX1_lay 67 = .ok (.istore 5, 2) := by decide +kernel
theorem dX1_lay_69 : decode cX1_lay 69 = .ok (.iconst 0, 1) := by decide +kernel
theorem dX1_lay_70 : decode cX1_lay 70 = .ok (.istore 6, 2) := by decide +kernel
theorem dX1_lay_72 : decode cX1_lay 72 = .ok (.iload 6, 2) := by decide +kernel
theorem dX1_lay_74 : decode cX1_lay 74 = .ok (.aload_n 0, 1) := by decide +kernel
theorem dX1_lay_75 : decode cX1_lay 75 = .ok (.getfield 61, 3) := by decide +kernel
theorem dX1_lay_78 : decode cX1_lay 78 = .ok (.if_icmp .ge 42, 3) := by decide +kernel
theorem dX1_lay_81 : decode cX1_lay 81 = .ok (.aload_n 0, 1) := by decide +kernel
theorem dX1_lay_82 : decode cX1_lay 82 = .ok (.iload 5, 2) := by decide +kernel
theorem dX1_lay_84 : decode cX1_lay 84 = .ok (.aload_n 0, 1) := by decide +kernel
theorem dX1_lay_85 : decode cX1_lay 85 = .ok (.getfield 61, 3) := by decide +kernel
theorem dX1_lay_88 : decode cX1_lay 88 = .ok (.iload 6, 2) := by decide +kernel
theorem dX1_lay_90 : decode cX1_lay 90 = .ok (.isub, 1) := by decide +kernel
theorem dX1_lay_91 : decode cX1_lay 91 = .ok (.iconst 1, 1) := by decide +kernel
theorem dX1_lay_92 : decode cX1_lay 92 = .ok (.isub, 1) := by decide +kernel
theorem dX1_lay_93 : decode cX1_lay 93 = .ok (.iload 4, 2) := by decide +kernel
theorem dX1_lay_95 : decode cX1_lay 95 = .ok (.invokevirtual 67, 3) := by decide +kernel
theorem dX1_lay_98 : decode cX1_lay 98 = .ok (.istore 7, 2) := by decide +kernel
theorem dX1_lay_100 : decode cX1_lay 100 = .ok (.aload_n 0, 1) := by decide +kernel
theorem dX1_lay_101 : decode cX1_lay 101 = .ok (.iload 6, 2) := by decide +kernel
theorem dX1_lay_103 : decode cX1_lay 103 = .ok (.iload 5, 2) := by decide +kernel
theorem dX1_lay_105 : decode cX1_lay 105 = .ok (.iload 7, 2) := by decide +kernel
theorem dX1_lay_107 : decode cX1_lay 107 = .ok (.invokevirtual 71, 3) := by decide +kernel
theorem dX1_lay_110 : decode cX1_lay 110 = .ok (.iload 7, 2) := by decide +kernel
theorem dX1_lay_112 : decode cX1_lay 112 = .ok (.istore 5, 2) := by decide +kernel
theorem dX1_lay_114 : decode cX1_lay 114 = .ok (.iinc 6 1, 3) := by decide +kernel
theorem dX1_lay_117 : decode cX1_lay 117 = .ok (.goto (-45), 3) := by decide +kernel
theorem dX1_lay_120 : decode cX1_lay 120 = .ok (.return_, 1) := by decide +kernel
theorem dX1_pagesFrom_0 : decode cX1_pagesFrom 0 = .ok (.iconst 0, 1) := by decide +kernel
theorem dX1_pagesFrom_1 : decode cX1_pagesFrom 1 = .ok (.istore_n 3, 1) := by decide +kernel
theorem dX1_pagesFrom_2 : decode cX1_pagesFrom 2 = .ok (.iconst 0, 1) := by decide +kernel
theorem dX1_pagesFrom_3 : decode cX1_pagesFrom 3 = .ok (.istore 4, 2) := by decide +kernel
theorem dX1_pagesFrom_5 : decode cX1_pagesFrom 5 = .ok (.iload_n 1, 1) := by decide +kernel
theorem dX1_pagesFrom_6 : decode cX1_pagesFrom 6 = .ok (.istore 5, 2) := by decide +kernel
theorem dX1_pagesFrom_8 : decode cX1_pagesFrom 8 = .ok (.iload 5, 2) := by decide +kernel
theorem dX1_pagesFrom_10 : decode cX1_pagesFrom 10 = .ok (.aload_n 0, 1) := by decide +kernel
theorem dX1_pagesFrom_11 : decode cX1_pagesFrom 11 = .ok (.getfield 38, 3) := by decide +kernel
theorem dX1_pagesFrom_14 : decode cX1_pagesFrom 14 = .ok (.if_icmp .ge 40, 3) := by decide +kernel
theorem dX1_pagesFrom_17 : decode cX1_pagesFrom 17 = .ok (.aload_n 0, 1) := by decide +kernel
theorem dX1_pagesFrom_18 : decode cX1_pagesFrom 18 = .ok (.getfield 14, 3) := by decide +kernel
theorem dX1_pagesFrom_21 : decode cX1_pagesFrom 21 = .ok (.iload 5, 2) := by decide +kernel
theorem dX1_pagesFrom_23 : decode cX1_pagesFrom 23 = .ok (.invokevirtual 44, 3) := by decide +kernel
theorem dX1_pagesFrom_26 : decode cX1_pagesFrom 26 = .ok (.istore 6, 2) := by decide +kernel
theorem dX1_pagesFrom_28 : decode cX1_pagesFrom 28 = .ok (.iload 6, 2) := by decide +kernel
theorem dX1_pagesFrom_30 : decode cX1_pagesFrom 30 = .ok (.iload 4, 2) := by decide +kernel
theorem dX1_pagesFrom_32 : decode cX1_pagesFrom 32 = .ok (.if_icmp .le 9, 3) := by decide +kernel
theorem dX1_pagesFrom_35 : decode cX1_pagesFrom 35 = .ok (.iinc 3 1, 3) := by decide +kernel
theorem dX1_pagesFrom_38 : decode cX1_pagesFrom 38 = .ok (.iload_n 2, 1) := by decide +kernel
theorem dX1_pagesFrom_39 : decode cX1_pagesFrom 39 = .ok (.istore 4, 2) := by decide +kernel
theorem dX1_pagesFrom_41 : decode cX1_pagesFrom 41 = .ok (.iload 4, 2) := by decide +kernel
theorem dX1_pagesFrom_43 : decode cX1_pagesFrom 43 = .ok (.iload 6, 2) := by decide +kernel
theorem dX1_pagesFrom_45 : decode cX1_pagesFrom 45 = .ok (.isub, 1) := by decide +kernel
theorem dX1_pagesFrom_46 : decode cX1_pagesFrom 46 = .ok (.istore 4, 2) := by decide +kernel
theorem dX1_pagesFrom_48 : decode cX1_pagesFrom 48 = .ok (.iinc 5 1, 3) := by decide +kernel
theorem dX1_pagesFrom_51 : decode cX1_pagesFrom 51 = .ok (.goto (-43), 3) := by decide +kernel
theorem dX1_pagesFrom_54 : decode cX1_pagesFrom 54 = .ok (.iload_n 3, 1) := by decide +kernel
theorem dX1_pagesFrom_55 : decode cX1_pagesFrom 55 = .ok (.ireturn, 1) := by decide +kernel
theorem dX1_lowestLimit_0 : decode cX1_lowestLimit 0 = .ok (.iconst 0, 1) := by decide +kernel
theorem dX1_lowestLimit_1 : decode cX1_lowestLimit 1 = .ok (.istore_n 2, 1) := by decide +kernel
theorem dX1_lowestLimit_2 : decode cX1_lowestLimit 2 = .ok (.iconst 0, 1) := by decide +kernel
theorem dX1_lowestLimit_3 : decode cX1_lowestLimit 3 = .ok (.istore_n 3, 1) := by decide +kernel
theorem dX1_lowestLimit_4 : decode cX1_lowestLimit 4 = .ok (.iload_n 3, 1) := by decide +kernel
theorem dX1_lowestLimit_5 : decode cX1_lowestLimit 5 = .ok (.aload_n 0, 1) := by decide +kernel
theorem dX1_lowestLimit_6 : decode cX1_lowestLimit 6 = .ok (.getfield 38, 3) := by decide +kernel
theorem dX1_lowestLimit_9 : decode cX1_lowestLimit 9 = .ok (.if_icmp .ge 22, 3) := by decide +kernel
theorem dX1_lowestLimit_12 : decode cX1_lowestLimit 12 = .ok (.iload_n 2, 1) := by decide +kernel
theorem dX1_lowestLimit_13 : decode cX1_lowestLimit 13 = .ok (.aload_n 0, 1) := by decide +kernel
theorem dX1_lowestLimit_14 : decode cX1_lowestLimit 14 = .ok (.getfield 14, 3) := by decide +kernel
theorem dX1_lowestLimit_17 : decode cX1_lowestLimit 17 = .ok (.iload_n 3, 1) := by decide +kernel
theorem dX1_lowestLimit_18 : decode cX1_lowestLimit 18 = .ok (.invokevirtual 44, 3) := by decide +kernel
theorem dX1_lowestLimit_21 : decode cX1_lowestLimit 21 = .ok (.invokestatic 75, 3) := by decide +kernel
theorem dX1_lowestLimit_24 : decode cX1_lowestLimit 24 = .ok (.istore_n 2, 1) := by decide +kernel
theorem dX1_lowestLimit_25 : decode cX1_lowestLimit 25 = .ok (.iinc 3 1, 3) := by decide +kernel
theorem dX1_lowestLimit_28 : decode cX1_lowestLimit 28 = .ok (.goto (-24), 3) := by decide +kernel
theorem dX1_lowestLimit_31 : decode cX1_lowestLimit 31 = .ok (.iload_n 2, 1) := by decide +kernel
theorem dX1_lowestLimit_32 : decode cX1_lowestLimit 32 = .ok (.iload_n 1, 1) := by decide +kernel
theorem dX1_lowestLimit_33 : decode cX1_lowestLimit 33 = .ok (.if_icmp .ge 22, 3) := by decide +kernel
theorem dX1_lowestLimit_36 : decode cX1_lowestLimit 36 = .ok (.aload_n 0, 1) := by decide +kernel
theorem dX1_lowestLimit_37 : decode cX1_lowestLimit 37 = .ok (.iconst 0, 1) := by decide +kernel
theorem dX1_lowestLimit_38 : decode cX1_lowestLimit 38 = .ok (.iload_n 2, 1) := by decide +kernel
theorem dX1_lowestLimit_39 : decode cX1_lowestLimit 39 = .ok (.invokevirtual 58, 3) := by decide +kernel
theorem dX1_lowestLimit_42 : decode cX1_lowestLimit 42 = .ok (.aload_n 0, 1) := by decide +kernel
theorem dX1_lowestLimit_43 : decode cX1_lowestLimit 43 = .ok (.getfield 61, 3) := by decide +kernel
theorem dX1_lowestLimit_46 : decode cX1_lowestLimit 46 = .ok (.if_icmp .le 9, 3) := by decide +kernel
theorem dX1_lowestLimit_49 : decode cX1_lowestLimit 49 = .ok (.iinc 2 1, 3) := by decide +kernel
theorem dX1_lowestLimit_52 : decode cX1_lowestLimit 52 = .ok (.goto (-21), 3) := by decide +kernel
theorem dX1_lowestLimit_55 : decode cX1_lowestLimit 55 = .ok (.iload_n 2, 1) := by decide +kernel
theorem dX1_lowestLimit_56 : decode cX1_lowestLimit 56 = .ok (.ireturn, 1) := by decide +kernel
theorem dX1_earliestEnd_0 : decode cX1_earliestEnd 0 = .ok (.iload_n 1, 1) := by decide +kernel
theorem dX1_earliestEnd_1 : decode cX1_earliestEnd 1 = .ok (.iconst 1, 1) := by decide +kernel
theorem dX1_earliestEnd_2 : decode cX1_earliestEnd 2 = .ok (.iadd, 1) := by decide +kernel
theorem dX1_earliestEnd_3 : decode cX1_earliestEnd 3 = .ok (.istore 4, 2) := by decide +kernel
theorem dX1_earliestEnd_5 : decode cX1_earliestEnd 5 = .ok (.iload 4, 2) := by decide +kernel
theorem dX1_earliestEnd_7 : decode cX1_earliestEnd 7 = .ok (.aload_n 0, 1) := by decide +kernel
theorem dX1_earliestEnd_8 : decode cX1_earliestEnd 8 = .ok (.getfield 38, 3) := by decide +kernel
theorem dX1_earliestEnd_11 : decode cX1_earliestEnd 11 = .ok (.if_icmp .ge 20, 3) := by decide +kernel
theorem dX1_earliestEnd_14 : decode cX1_earliestEnd 14 = .ok (.aload_n 0, 1) := by decide +kernel
theorem dX1_earliestEnd_15 : decode cX1_earliestEnd 15 = .ok (.iload 4, 2) := by decide +kernel
theorem dX1_earliestEnd_17 : decode cX1_earliestEnd 17 = .ok (.iload_n 3, 1) := by decide +kernel
theorem dX1_earliestEnd_18 : decode cX1_earliestEnd 18 = .ok (.invokevirtual 58, 3) := by decide +kernel
theorem dX1_earliestEnd_21 : decode cX1_earliestEnd 21 = .ok (.iload_n 2, 1) := by decide +kernel
theorem dX1_earliestEnd_22 : decode cX1_earliestEnd 22 = .ok (.if_icmp .le 9, 3) := by decide +kernel
theorem dX1_earliestEnd_25 : decode cX1_earliestEnd 25 = .ok (.iinc 4 1, 3) := by decide +kernel
theorem dX1_earliestEnd_28 : decode cX1_earliestEnd 28 = .ok (.goto (-23), 3) := by decide +kernel
theorem dX1_earliestEnd_31 : decode cX1_earliestEnd 31 = .ok (.iload 4, 2) := by decide +kernel
theorem dX1_earliestEnd_33 : decode cX1_earliestEnd 33 = .ok (.ireturn, 1) := by decide +kernel
theorem dX1_fill_0 : decode cX1_fill 0 = .ok (.iconst 0, 1) := by decide +kernel
theorem dX1_fill_1 : decode cX1_fill 1 = .ok (.istore 4, 2) := by decide +kernel
theorem dX1_fill_3 : decode cX1_fill 3 = .ok (.iload_n 2, 1) := by decide +kernel
theorem dX1_fill_4 : decode cX1_fill 4 = .ok (.istore 5, 2) := by decide +kernel
theorem dX1_fill_6 : decode cX1_fill 6 = .ok (.iload 5, 2) := by decide +kernel
theorem dX1_fill_8 : decode cX1_fill 8 = .ok (.iload_n 3, 1) := by decide +kernel
theorem dX1_fill_9 : decode cX1_fill 9 = .ok (.if_icmp .ge 44, 3) := by decide +kernel
theorem dX1_fill_12 : decode cX1_fill 12 = .ok (.aload_n 0, 1) := by decide +kernel
theorem dX1_fill_13 : decode cX1_fill 13 = .ok (.getfield 20, 3) := by decide +kernel
theorem dX1_fill_16 : decode cX1_fill 16 = .ok (.iload 5, 2) := by decide +kernel
theorem dX1_fill_18 : decode cX1_fill 18 = .ok (.iload_n 1, 1) := by decide +kernel
theorem dX1_fill_19 : decode cX1_fill 19 = .ok (.invokevirtual 54, 3) := by decide +kernel
theorem dX1_fill_22 : decode cX1_fill 22 = .ok (.aload_n 0, 1) := by decide +kernel
theorem dX1_fill_23 : decode cX1_fill 23 = .ok (.getfield 23, 3) := by decide +kernel
theorem dX1_fill_26 : decode cX1_fill 26 = .ok (.iload 5, 2) := by decide +kernel
theorem dX1_fill_28 : decode cX1_fill 28 = .ok (.iload 4, 2) := by decide +kernel
theorem dX1_fill_30 : decode cX1_fill 30 = .ok (.invokevirtual 54, 3) := by decide +kernel
theorem dX1_fill_33 : decode cX1_fill 33 = .ok (.iload 4, 2) := by decide +kernel
theorem dX1_fill_35 : decode cX1_fill 35 = .ok (.aload_n 0, 1) := by decide +kernel
theorem dX1_fill_36 : decode cX1_fill 36 = .ok (.getfield 14, 3) := by decide +kernel
theorem dX1_fill_39 : decode cX1_fill 39 = .ok (.iload 5, 2) := by decide +kernel
theorem dX1_fill_41 : decode cX1_fill 41 = .ok (.invokevirtual 44, 3) := by decide +kernel
theorem dX1_fill_44 : decode cX1_fill 44 = .ok (.iadd, 1) := by decide +kernel
theorem dX1_fill_45 : decode cX1_fill 45 = .ok (.istore 4, 2) := by decide +kernel
theorem dX1_fill_47 : decode cX1_fill 47 = .ok (.iinc 5 1, 3) := by decide +kernel
theorem dX1_fill_50 : decode cX1_fill 50 = .ok (.goto (-44), 3) := by decide +kernel
theorem dX1_fill_53 : decode cX1_fill 53 = .ok (.aload_n 0, 1) := by decide +kernel
theorem dX1_fill_54 : decode cX1_fill 54 = .ok (.getfield 26, 3) := by decide +kernel
theorem dX1_fill_57 : decode cX1_fill 57 = .ok (.iload_n 1, 1) := by decide +kernel
theorem dX1_fill_58 : decode cX1_fill 58 = .ok (.iload_n 3, 1) := by decide +kernel
theorem dX1_fill_59 : decode cX1_fill 59 = .ok (.iload_n 2, 1) := by decide +kernel
theorem dX1_fill_60 : decode cX1_fill 60 = .ok (.isub, 1) := by decide +kernel
theorem dX1_fill_61 : decode cX1_fill 61 = .ok (.invokevirtual 54, 3) := by decide +kernel
theorem dX1_fill_64 : decode cX1_fill 64 = .ok (.aload_n 0, 1) := by decide +kernel
theorem dX1_fill_65 : decode cX1_fill 65 = .ok (.getfield 29, 3) := by decide +kernel
theorem dX1_fill_68 : decode cX1_fill 68 = .ok (.iload_n 1, 1) := by decide +kernel
theorem dX1_fill_69 : decode cX1_fill 69 = .ok (.iload 4, 2) := by decide +kernel
theorem dX1_fill_71 : decode cX1_fill 71 = .ok (.invokevirtual 54, 3) := by decide +kernel
theorem dX1_fill_74 : decode cX1_fill 74 = .ok (.return_, 1) := by decide +kernel
theorem dX2_init_0 : decode cX2_init 0 = .ok (.aload_n 0, 1) := by decide +kernel
theorem dX2_init_1 : decode cX2_init 1 = .ok (.invokespecial 1, 3) := by decide +kernel
theorem dX2_init_4 : decode cX2_init 4 = .ok (.return_, 1) := by decide +kernel
theorem dX2_begin_0 : decode cX2_begin 0 = .ok (.aload_n 0, 1) := by decide +kernel
theorem dX2_begin_1 : decode cX2_begin 1 = .ok (.iload_n 1, 1) := by decide +kernel
theorem dX2_begin_2 : decode cX2_begin 2 = .ok (.putfield 7, 3) := by decide +kernel
theorem dX2_begin_5 : decode cX2_begin 5 = .ok (.return_, 1) := by decide +kernel
theorem dX2_next_0 : decode cX2_next 0 = .ok (.aload_n 0, 1) := by decide +kernel
theorem dX2_next_1 : decode cX2_next 1 = .ok (.ldc 13, 2) := by decide +kernel
theorem dX2_next_3 : decode cX2_next 3 = .ok (.aload_n 0, 1) := by decide +kernel
theorem dX2_next_4 : decode cX2_next 4 = .ok (.getfield 7, 3) := by decide +kernel
theorem dX2_next_7 : decode cX2_next 7 = .ok (.imul, 1) := by decide +kernel
theorem dX2_next_8 : decode cX2_next 8 = .ok (.sipush 12345, 3) := by decide +kernel
theorem dX2_next_11 : decode cX2_next 11 = .ok (.iadd, 1) := by decide +kernel
theorem dX2_next_12 : decode cX2_next 12 = .ok (.putfield 7, 3) := by decide +kernel
theorem dX2_next_15 : decode cX2_next 15 = .ok (.iload_n 1, 1) := by decide +kernel
theorem dX2_next_16 : decode cX2_next 16 = .ok (.ifCond .le 15, 3) := by decide +kernel
theorem dX2_next_19 : decode cX2_next 19 = .ok (.aload_n 0, 1) := by decide +kernel
theorem dX2_next_20 : decode cX2_next 20 = .ok (.getfield 7, 3) := by decide +kernel
theorem dX2_next_23 : decode cX2_next 23 = .ok (.bipush 16, 2) := by decide +kernel
theorem dX2_next_25 : decode cX2_next 25 = .ok (.iushr, 1) := by decide +kernel
theorem dX2_next_26 : decode cX2_next 26 = .ok (.iload_n 1, 1) := by decide +kernel
theorem dX2_next_27 : decode cX2_next 27 = .ok (.irem, 1) := by decide +kernel
theorem dX2_next_28 : decode cX2_next 28 = .ok (.goto 4, 3) := by decide +kernel
theorem dX2_next_31 : decode cX2_next 31 = .ok (.iconst 0, 1) := by decide +kernel
theorem dX2_next_32 : decode cX2_next 32 = .ok (.ireturn, 1) := by decide +kernel
theorem dX2_mix_0 : decode cX2_mix 0 = .ok (.iload_n 2, 1) := by decide +kernel
theorem dX2_mix_1 : decode cX2_mix 1 = .ok (.iconst 1, 1) := by decide +kernel
theorem dX2_mix_2 : decode cX2_mix 2 = .ok (.isub, 1) := by decide +kernel
theorem dX2_mix_3 : decode cX2_mix 3 = .ok (.istore_n 3, 1) := by decide +kernel
theorem dX2_mix_4 : decode cX2_mix 4 = .ok (.iload_n 3, 1) := by decide +kernel
theorem dX2_mix_5 : decode cX2_mix 5 = .ok (.iconst 1, 1) := by decide +kernel
theorem dX2_mix_6 : decode cX2_mix 6 = .ok (.if_icmp .lt 21, 3) := by decide +kernel
theorem dX2_mix_9 : decode cX2_mix 9 = .ok (.aload_n 1, 1) := by decide +kernel
theorem dX2_mix_10 : decode cX2_mix 10 = .ok (.iload_n 3, 1) := by decide +kernel
theorem dX2_mix_11 : decode cX2_mix 11 = .ok (.aload_n 0, 1) := by decide +kernel
theorem dX2_mix_12 : decode cX2_mix 12 = .ok (.iload_n 3, 1) := by decide +kernel
theorem dX2_mix_13 : decode cX2_mix 13 = .ok (.iconst 1, 1) := by decide +kernel
theorem dX2_mix_14 : decode cX2_mix 14 = .ok (.iadd, 1) := by decide +kernel
theorem dX2_mix_15 : decode cX2_mix 15 = .ok (.invokevirtual 14, 3) := by decide +kernel
theorem dX2_mix_18 : decode cX2_mix 18 = .ok (.invokevirtual 18, 3) := by decide +kernel
theorem dX2_mix_21 : decode cX2_mix 21 = .ok (.iinc 3 (-1), 3) := by decide +kernel
theorem dX2_mix_24 : decode cX2_mix 24 = .ok (.goto (-20), 3) := by decide +kernel
theorem dX2_mix_27 : decode cX2_mix 27 = .ok (.return_, 1) := by decide +kernel
theorem dX3_init_0 : decode cX3_init 0 = .ok (.aload_n 0, 1) := by decide +kernel
theorem dX3_init_1 : decode cX3_init 1 = .ok (.invokespecial 3, 3) := by decide +kernel
theorem dX3_init_4 : decode cX3_init 4 = .ok (.aload_n 0, 1) := by decide +kernel
theorem dX3_init_5 : decode cX3_init 5 = .ok (.new 9, 3) := by decide +kernel
theorem dX3_init_8 : decode cX3_init 8 = .ok (.dup, 1) := by decide +kernel
theorem dX3_init_9 : decode cX3_init 9 = .ok (.invokespecial 11, 3) := by decide +kernel
theorem dX3_init_12 : decode cX3_init 12 = .ok (.putfield 12, 3) := by decide +kernel
theorem dX3_init_15 : decode cX3_init 15 = .ok (.aload_n 0, 1) := by decide +kernel
theorem dX3_init_16 : decode cX3_init 16 = .ok (.new 18, 3) := by decide +kernel
theorem dX3_init_19 : decode cX3_init 19 = .ok (.dup, 1) := by decide +kernel
theorem dX3_init_20 : decode cX3_init 20 = .ok (.bipush 20, 2) := by decide +kernel
theorem dX3_init_22 : decode cX3_init 22 = .ok (.invokespecial 20, 3) := by decide +kernel
theorem dX3_init_25 : decode cX3_init 25 = .ok (.putfield 23, 3) := by decide +kernel
theorem dX3_init_28 : decode cX3_init 28 = .ok (.aload_n 0, 1) := by decide +kernel
theorem dX3_init_29 : decode cX3_init 29 = .ok (.new 18, 3) := by decide +kernel
theorem dX3_init_32 : decode cX3_init 32 = .ok (.dup, 1) := by decide +kernel
theorem dX3_init_33 : decode cX3_init 33 = .ok (.bipush 20, 2) := by decide +kernel
theorem dX3_init_35 : decode cX3_init 35 = .ok (.invokespecial 20, 3) := by decide +kernel
theorem dX3_init_38 : decode cX3_init 38 = .ok (.putfield 27, 3) := by decide +kernel
theorem dX3_init_41 : decode cX3_init 41 = .ok (.aload_n 0, 1) := by decide +kernel
theorem dX3_init_42 : decode cX3_init 42 = .ok (.new 18, 3) := by decide +kernel
theorem dX3_init_45 : decode cX3_init 45 = .ok (.dup, 1) := by decide +kernel
theorem dX3_init_46 : decode cX3_init 46 = .ok (.iconst 5, 1) := by decide +kernel
theorem dX3_init_47 : decode cX3_init 47 = .ok (.invokespecial 20, 3) := by decide +kernel
theorem dX3_init_50 : decode cX3_init 50 = .ok (.putfield 30, 3) := by decide +kernel
theorem dX3_init_53 : decode cX3_init 53 = .ok (.return_, 1) := by decide +kernel
theorem dX3_mix_0 : decode cX3_mix 0 = .ok (.aload_n 0, 1) := by decide +kernel
theorem dX3_mix_1 : decode cX3_mix 1 = .ok (.getfield 12, 3) := by decide +kernel
theorem dX3_mix_4 : decode cX3_mix 4 = .ok (.iload_n 2, 1) := by decide +kernel
theorem dX3_mix_5 : decode cX3_mix 5 = .ok (.invokevirtual 33, 3) := by decide +kernel
theorem dX3_mix_8 : decode cX3_mix 8 = .ok (.aload_n 0, 1) := by decide +kernel
theorem dX3_mix_9 : decode cX3_mix 9 = .ok (.aload_n 1, 1) := by decide +kernel
theorem dX3_mix_10 : decode cX3_mix 10 = .ok (.invokevirtual 36, 3) := by decide +kernel
theorem dX3_mix_13 : decode cX3_mix 13 = .ok (.istore 4, 2) := by decide +kernel
theorem dX3_mix_15 : decode cX3_mix 15 = .ok (.aload_n 0, 1) := by decide +kernel
theorem dX3_mix_16 : decode cX3_mix 16 = .ok (.getfield 12, 3) := by decide +kernel
theorem dX3_mix_19 : decode cX3_mix 19 = .ok (.aload_n 0, 1) := by decide +kernel
theorem dX3_mix_20 : decode cX3_mix 20 = .ok (.getfield 23, 3) := by decide +kernel
theorem dX3_mix_23 : decode cX3_mix 23 = .ok (.iload 4, 2) := by decide +kernel
theorem dX3_mix_25 : decode cX3_mix 25 = .ok (.invokevirtual 40, 3) := by decide +kernel
theorem dX3_mix_28 : decode cX3_mix 28 = .ok (.aload_n 3, 1) := by decide +kernel
theorem dX3_mix_29 : decode cX3_mix 29 = .ok (.iconst 0, 1) := by decide +kernel
theorem dX3_mix_30 : decode cX3_mix 30 = .ok (.putfield 44, 3) := by decide +kernel
theorem dX3_mix_33 : decode cX3_mix 33 = .ok (.iconst 0, 1) := by decide +kernel
theorem dX3_mix_34 : decode cX3_mix 34 = .ok (.istore 5, 2) := by decide +kernel
theorem dX3_mix_36 : decode cX3_mix 36 = .ok (.iload 5, 2) := by decide +kernel
theorem dX3_mix_38 : decode cX3_mix 38 = .ok (.iload 4, 2) := by decide +kernel
theorem dX3_mix_40 : decode cX3_mix 40 = .ok (.if_icmp .ge 24, 3) := by decide +kernel
theorem dX3_mix_43 : decode cX3_mix 43 = .ok (.aload_n 0, 1) := by decide +kernel
theorem dX3_mix_44 : decode cX3_mix 44 = .ok (.aload_n 1, 1) := by decide +kernel
theorem dX3_mix_45 : decode cX3_mix 45 = .ok (.aload_n 0, 1) := by decide +kernel
theorem dX3_mix_46 : decode cX3_mix 46 = .ok (.getfield 23, 3) := by decide +kernel
theorem dX3_mix_49 : decode cX3_mix 49 = .ok (.iload 5, 2) := by decide +kernel
theorem dX3_mix_51 : decode cX3_mix 51 = .ok (.invokevirtual 50, 3) := by decide +kernel
theorem dX3_mix_54 : decode cX3_mix 54 = .ok (.aload_n 3, 1) := by decide +kernel
theorem dX3_mix_55 : decode cX3_mix 55 = .ok (.invokevirtual 54, 3) := by decide +kernel
theorem dX3_mix_58 : decode cX3_mix 58 = .ok (.iinc 5 1, 3) := by decide +kernel
theorem dX3_mix_61 : decode cX3_mix 61 = .ok (.goto (-25), 3) := by decide +kernel
theorem dX3_mix_64 : decode cX3_mix 64 = .ok (.iconst 0, 1) := by decide +kernel
theorem dX3_mix_65 : decode cX3_mix 65 = .ok (.istore 5, 2) := by decide +kernel
theorem dX3_mix_67 : decode cX3_mix 67 = .ok (.iload 5, 2) := by decide +kernel
theorem dX3_mix_69 : decode cX3_mix 69 = .ok (.aload_n 3, 1) := by decide +kernel
theorem dX3_mix_70 : decode cX3_mix 70 = .ok (.getfield 44, 3) := by decide +kernel
theorem dX3_mix_73 : decode cX3_mix 73 = .ok (.if_icmp .ge 17, 3) := by decide +kernel
theorem dX3_mix_76 : decode cX3_mix 76 = .ok (.aload_n 0, 1) := by decide +kernel
theorem dX3_mix_77 : decode cX3_mix 77 = .ok (.aload_n 1, 1) := by decide +kernel
theorem dX3_mix_78 : decode cX3_mix 78 = .ok (.iload 5, 2) := by decide +kernel
theorem dX3_mix_80 : decode cX3_mix 80 = .ok (.aload_n 3, 1) := by decide +kernel
theorem dX3_mix_81 : decode cX3_mix 81 = .ok (.invokevirtual 58, 3) := by decide +kernel
theorem dX3_mix_84 : decode cX3_mix 84 = .ok (.iinc 5 1, 3) := by decide +kernel
theorem dX3_mix_87 : decode cX3_mix 87 = .ok (.goto (-20), 3) := by decide +kernel
theorem dX3_mix_90 : decode cX3_mix 90 = .ok (.return_, 1) := by decide +kernel
theorem dX3_listUnits_0 : decode cX3_listUnits 0 = .ok (.iconst 0, 1) := by decide +kernel
theorem dX3_listUnits_1 : decode cX3_listUnits 1 = .ok (.istore_n 2, 1) := by decide +kernel
theorem dX3_listUnits_2 : decode cX3_listUnits 2 = .ok (.iconst 0, 1) := by decide +kernel
theorem dX3_listUnits_3 : decode cX3_listUnits 3 = .ok (.istore_n 3, 1) := by decide +kernel
theorem dX3_listUnits_4 : decode cX3_listUnits 4 = .ok (.iload_n 3, 1) := by decide +kernel
theorem dX3_listUnits_5 : decode cX3_listUnits 5 = .ok (.aload_n 1, 1) := by decide +kernel
theorem dX3_listUnits_6 : decode cX3_listUnits 6 = .ok (.getfield 61, 3) := by decide +kernel
theorem dX3_listUnits_9 : decode cX3_listUnits 9 = .ok (.if_icmp .ge 29, 3) := by decide +kernel
theorem dX3_listUnits_12 : decode cX3_listUnits 12 = .ok (.aload_n 1, 1) := by decide +kernel
theorem dX3_listUnits_13 : decode cX3_listUnits 13 = .ok (.iload_n 3, 1) := by decide +kernel
theorem dX3_listUnits_14 : decode cX3_listUnits 14 = .ok (.invokevirtual 64, 3) := by decide +kernel
theorem dX3_listUnits_17 : decode cX3_listUnits 17 = .ok (.ifCond .eq 15, 3) := by decide +kernel
theorem dX3_listUnits_20 : decode cX3_listUnits 20 = .ok (.aload_n 0, 1) := by decide +kernel
theorem dX3_listUnits_21 : decode cX3_listUnits 21 = .ok (.getfield 23, 3) := by decide +kernel
theorem dX3_listUnits_24 : decode cX3_listUnits 24 = .ok (.iload_n 2, 1) := by decide +kernel
theorem dX3_listUnits_25 : decode cX3_listUnits 25 = .ok (.iload_n 3, 1) := by decide +kernel
theorem dX3_listUnits_26 : decode cX3_listUnits 26 = .ok (.invokevirtual 68, 3) := by decide +kernel
theorem dX3_listUnits_29 : decode cX3_listUnits 29 = .ok (.iinc 2 1, 3) := by decide +kernel
theorem dX3_listUnits_32 : decode cX3_listUnits 32 = .ok (.iinc 3 1, 3) := by decide +kernel
theorem dX3_listUnits_35 : decode cX3_listUnits 35 = .ok (.goto (-31), 3) := by decide +kernel
theorem dX3_listUnits_38 : decode cX3_listUnits 38 = .ok (.iload_n 2, 1) := by decide +kernel
theorem dX3_listUnits_39 : decode cX3_listUnits 39 = .ok (.ireturn, 1) := by decide +kernel
theorem dX3_mixUnit_0 : decode cX3_mixUnit 0 = .ok (.iconst 0, 1) := by decide +kernel
theorem dX3_mixUnit_1 : decode cX3_mixUnit 1 = .ok (.istore 4, 2) := by decide +kernel
theorem dX3_mixUnit_3 : decode cX3_mixUnit 3 = .ok (.iload_n 2, 1) := by decide +kernel
theorem dX3_mixUnit_4 : decode cX3_mixUnit 4 = .ok (.istore 5, 2) := by decide +kernel
theorem dX3_mixUnit_6 : decode cX3_mixUnit 6 = .ok (.iload 5, 2) := by decide +kernel
theorem dX3_mixUnit_8 : decode cX3_mixUnit 8 = .ok (.aload_n 1, 1) := by decide +kernel
theorem dX3_mixUnit_9 : decode cX3_mixUnit 9 = .ok (.getfield 61, 3) := by decide +kernel
theorem dX3_mixUnit_12 : decode cX3_mixUnit 12 = .ok (.if_icmp .ge 33, 3) := by decide +kernel
theorem dX3_mixUnit_15 : decode cX3_mixUnit 15 = .ok (.aload_n 1, 1) := by decide +kernel
theorem dX3_mixUnit_16 : decode cX3_mixUnit 16 = .ok (.iload_n 2, 1) := by decide +kernel
theorem dX3_mixUnit_17 : decode cX3_mixUnit 17 = .ok (.iload 5, 2) := by decide +kernel
theorem dX3_mixUnit_19 : decode cX3_mixUnit 19 = .ok (.invokevirtual 72, 3) := by decide +kernel
theorem dX3_mixUnit_22 : decode cX3_mixUnit 22 = .ok (.ifCond .eq 17, 3) := by decide +kernel
theorem dX3_mixUnit_25 : decode cX3_mixUnit 25 = .ok (.aload_n 0, 1) := by decide +kernel
theorem dX3_mixUnit_26 : decode cX3_mixUnit 26 = .ok (.getfield 27, 3) := by decide +kernel
theorem dX3_mixUnit_29 : decode cX3_mixUnit 29 = .ok (.iload 4, 2) := by decide +kernel
theorem dX3_mixUnit_31 : decode cX3_mixUnit 31 = .ok (.iload 5, 2) := by decide +kernel
theorem dX3_mixUnit_33 : decode cX3_mixUnit 33 = .ok (.invokevirtual 68, 3) := by decide +kernel
theorem dX3_mixUnit_36 : decode cX3_mixUnit 36 = .ok (.iinc 4 1, 3) := by decide +kernel
theorem dX3_mixUnit_39 : decode cX3_mixUnit 39 = .ok (.iinc 5 1, 3) := by decide +kernel
theorem dX3_mixUnit_42 : decode cX3_mixUnit 42 = .ok (.goto (-36), 3) := by decide +kernel
theorem dX3_mixUnit_45 : decode cX3_mixUnit 45 = .ok (.aload_n 0, 1) := by decide +kernel
theorem dX3_mixUnit_46 : decode cX3_mixUnit 46 = .ok (.getfield 12, 3) := by decide +kernel
theorem dX3_mixUnit_49 : decode cX3_mixUnit 49 = .ok (.aload_n 0, 1) := by decide +kernel
theorem dX3_mixUnit_50 : decode cX3_mixUnit 50 = .ok (.getfield 27, 3) := by decide +kernel
theorem dX3_mixUnit_53 : decode cX3_mixUnit 53 = .ok (.iload 4, 2) := by decide +kernel
theorem dX3_mixUnit_55 : decode cX3_mixUnit 55 = .ok (.invokevirtual 40, 3) := by decide +kernel
theorem dX3_mixUnit_58 : decode cX3_mixUnit 58 = .ok (.iconst 0, 1) := by decide +kernel
theorem dX3_mixUnit_59 : decode cX3_mixUnit 59 = .ok (.istore 5, 2) := by decide +kernel
theorem dX3_mixUnit_61 : decode cX3_mixUnit 61 = .ok (.iload 5, 2) := by decide +kernel
theorem dX3_mixUnit_63 : decode cX3_mixUnit 63 = .ok (.iload 4, 2) := by decide +kernel
theorem dX3_mixUnit_65 : decode cX3_mixUnit 65 = .ok (.if_icmp .ge 22, 3) := by decide +kernel
theorem dX3_mixUnit_68 : decode cX3_mixUnit 68 = .ok (.aload_n 3, 1) := by decide +kernel
theorem dX3_mixUnit_69 : decode cX3_mixUnit 69 = .ok (.aload_n 0, 1) := by decide +kernel
theorem dX3_mixUnit_70 : decode cX3_mixUnit 70 = .ok (.getfield 27, 3) := by decide +kernel
theorem dX3_mixUnit_73 : decode cX3_mixUnit 73 = .ok (.iload 5, 2) := by decide +kernel
theorem dX3_mixUnit_75 : decode cX3_mixUnit 75 = .ok (.invokevirtual 50, 3) := by decide +kernel
theorem dX3_mixUnit_78 : decode cX3_mixUnit 78 = .ok (.invokevirtual 76, 3) := by decide +kernel
theorem dX3_mixUnit_81 : decode cX3_mixUnit 81 = .ok (.iinc 5 1, 3) := by decide +kernel
theorem dX3_mixUnit_84 : decode cX3_mixUnit 84 = .ok (.goto (-23), 3) := by decide +kernel
theorem dX3_mixUnit_87 : decode cX3_mixUnit 87 = .ok (.return_, 1) := by decide +kernel
theorem dX3_mixChoices_0 : decode cX3_mixChoices 0 = .ok (.aload_n 3, 1) := by decide +kernel
theorem dX3_mixChoices_1 : decode cX3_mixChoices 1 = .ok (.getfield 79, 3) := by decide +kernel
theorem dX3_mixChoices_4 : decode cX3_mixChoices 4 = .ok (.iload_n 2, 1) := by decide +kernel
theorem dX3_mixChoices_5 : decode cX3_mixChoices 5 = .ok (.invokevirtual 50, 3) := by decide +kernel
theorem dX3_mixChoices_8 : decode cX3_mixChoices 8 = .ok (.istore 4, 2) := by decide +kernel
theorem dX3_mixChoices_10 : decode cX3_mixChoices 10 = .ok (.aload_n 1, 1) := by decide +kernel
theorem dX3_mixChoices_11 : decode cX3_mixChoices 11 = .ok (.iload 4, 2) := by decide +kernel
theorem dX3_mixChoices_13 : decode cX3_mixChoices 13 = .ok (.iconst 4, 1) := by decide +kernel
theorem dX3_mixChoices_14 : decode cX3_mixChoices 14 = .ok (.invokevirtual 82, 3) := by decide +kernel
theorem dX3_mixChoices_17 : decode cX3_mixChoices 17 = .ok (.istore 5, 2) := by decide +kernel
theorem dX3_mixChoices_19 : decode cX3_mixChoices 19 = .ok (.aload_n 1, 1) := by decide +kernel
theorem dX3_mixChoices_20 : decode cX3_mixChoices 20 = .ok (.iload 4, 2) := by decide +kernel
theorem dX3_mixChoices_22 : decode cX3_mixChoices 22 = .ok (.iconst 2, 1) := by decide +kernel
theorem dX3_mixChoices_23 : decode cX3_mixChoices 23 = .ok (.invokevirtual 82, 3) := by decide +kernel
theorem dX3_mixChoices_26 : decode cX3_mixChoices 26 = .ok (.istore 6, 2) := by decide +kernel
theorem dX3_mixChoices_28 : decode cX3_mixChoices 28 = .ok (.aload_n 0, 1) := by decide +kernel
theorem dX3_mixChoices_29 : decode cX3_mixChoices 29 = .ok (.getfield 12, 3) := by decide +kernel
theorem dX3_mixChoices_32 : decode cX3_mixChoices 32 = .ok (.aload_n 0, 1) := by decide +kernel
theorem dX3_mixChoices_33 : decode cX3_mixChoices 33 = .ok (.getfield 30, 3) := by decide +kernel
theorem dX3_mixChoices_36 : decode cX3_mixChoices 36 = .ok (.aload_n 0, 1) := by decide +kernel
theorem dX3_mixChoices_37 : decode cX3_mixChoices 37 = .ok (.iload 5, 2) := by decide +kernel
theorem dX3_mixChoices_39 : decode cX3_mixChoices 39 = .ok (.iload 6, 2) := by decide +kernel
theorem dX3_mixChoices_41 : decode cX3_mixChoices 41 = .ok (.invokevirtual 86, 3) := by decide +kernel
theorem dX3_mixChoices_44 : decode cX3_mixChoices 44 = .ok (.invokevirtual 40, 3) := by decide +kernel
theorem dX3_mixChoices_47 : decode cX3_mixChoices 47 = .ok (.iconst 0, 1) := by decide +kernel
theorem dX3_mixChoices_48 : decode cX3_mixChoices 48 = .ok (.istore 7, 2) := by decide +kernel
theorem dX3_mixChoices_50 : decode cX3_mixChoices 50 = .ok (.iconst 0, 1) := by decide +kernel
theorem dX3_mixChoices_51 : decode cX3_mixChoices 51 = .ok (.istore 8, 2) := by decide +kernel
theorem dX3_mixChoices_53 : decode cX3_mixChoices 53 = .ok (.iload 8, 2) := by decide +kernel
theorem dX3_mixChoices_55 : decode cX3_mixChoices 55 = .ok (.iload 5, 2) := by decide +kernel
theorem dX3_mixChoices_57 : decode cX3_mixChoices 57 = .ok (.if_icmp .ge 68, 3) := by decide +kernel
theorem dX3_mixChoices_60 : decode cX3_mixChoices 60 = .ok (.iload 8, 2) := by decide +kernel
theorem dX3_mixChoices_62 : decode cX3_mixChoices 62 = .ok (.istore 9, 2) := by decide +kernel
theorem dX3_mixChoices_64 : decode cX3_mixChoices 64 = .ok (.iload 6, 2) := by decide +kernel
theorem dX3_mixChoices_66 : decode cX3_mixChoices 66 = .ok (.iload 8, 2) := by decide +kernel
theorem dX3_mixChoices_68 : decode cX3_mixChoices 68 = .ok (.ishr, 1) := by decide +kernel
theorem dX3_mixChoices_69 : decode cX3_mixChoices 69 = .ok (.iconst 1, 1) := by decide +kernel
theorem dX3_mixChoices_70 : decode cX3_mixChoices 70 = .ok (.iand, 1) := by decide +kernel
theorem dX3_mixChoices_71 : decode cX3_mixChoices 71 = .ok (.ifCond .ne 17, 3) := by decide +kernel
theorem dX3_mixChoices_74 : decode cX3_mixChoices 74 = .ok (.aload_n 0, 1) := by decide +kernel
theorem dX3_mixChoices_75 : decode cX3_mixChoices 75 = .ok (.getfield 30, 3) := by decide +kernel
theorem dX3_mixChoices_78 : decode cX3_mixChoices 78 = .ok (.iload 7, 2) := by decide +kernel
theorem dX3_mixChoices_80 : decode cX3_mixChoices 80 = .ok (.invokevirtual 50, 3) := by decide +kernel
theorem dX3_mixChoices_83 : decode cX3_mixChoices 83 = .ok (.istore 9, 2) := by decide +kernel
theorem dX3_mixChoices_85 : decode cX3_mixChoices 85 = .ok (.iinc 7 1, 3) := by decide +kernel
theorem dX3_mixChoices_88 : decode cX3_mixChoices 88 = .ok (.aload_n 3, 1) := by decide +kernel
theorem dX3_mixChoices_89 : decode cX3_mixChoices 89 = .ok (.iload_n 2, 1) := by decide +kernel
theorem dX3_mixChoices_90 : decode cX3_mixChoices 90 = .ok (.iload 8, 2) := by decide +kernel
theorem dX3_mixChoices_92 : decode cX3_mixChoices 92 = .ok (.iload 9, 2) := by decide +kernel
theorem dX3_mixChoices_94 : decode cX3_mixChoices 94 = .ok (.invokevirtual 89, 3) := by decide +kernel
theorem dX3_mixChoices_97 : decode cX3_mixChoices 97 = .ok (.iload 9, 2) := by decide +kernel
theorem dX3_mixChoices_99 : decode cX3_mixChoices 99 = .ok (.aload_n 1, 1) := by decide +kernel
theorem dX3_mixChoices_100 : decode cX3_mixChoices 100 = .ok (.iload 4, 2) := by decide +kernel
theorem dX3_mixChoices_102 : decode cX3_mixChoices 102 = .ok (.iconst 1, 1) := by decide +kernel
theorem dX3_mixChoices_103 : decode cX3_mixChoices 103 = .ok (.invokevirtual 82, 3) := by decide +kernel
theorem dX3_mixChoices_106 : decode cX3_mixChoices 106 = .ok (.if_icmp .ne 13, 3) := by decide +kernel
theorem dX3_mixChoices_109 : decode cX3_mixChoices 109 = .ok (.aload_n 3, 1) := by decide +kernel
theorem dX3_mixChoices_110 : decode cX3_mixChoices 110 = .ok (.getfield 93, 3) := by decide +kernel
theorem dX3_mixChoices_113 : decode cX3_mixChoices 113 = .ok (.iload_n 2, 1) := by decide +kernel
theorem dX3_mixChoices_114 : decode cX3_mixChoices 114 = .ok (.iload 8, 2) := by decide +kernel
theorem dX3_mixChoices_116 : decode cX3_mixChoices 116 = .ok (.invokevirtual 68, 3) := by decide +kernel
theorem dX3_mixChoices_119 : decode cX3_mixChoices 119 = .ok (.iinc 8 1, 3) := by decide +kernel
theorem dX3_mixChoices_122 : decode cX3_mixChoices 122 = .ok (.goto (-69), 3) := by decide +kernel
theorem dX3_mixChoices_125 : decode cX3_mixChoices 125 = .ok (.return_, 1) := by decide +kernel
theorem dX3_listLoose_0 : decode cX3_listLoose 0 = .ok (.iconst 0, 1) := by decide +kernel
theorem dX3_listLoose_1 : decode cX3_listLoose 1 = .ok (.istore_n 3, 1) := by decide +kernel
theorem dX3_listLoose_2 : decode cX3_listLoose 2 = .ok (.iconst 0, 1) := by decide +kernel
theorem dX3_listLoose_3 : decode cX3_listLoose 3 = .ok (.istore 4, 2) := by decide +kernel
theorem dX3_listLoose_5 : decode cX3_listLoose 5 = .ok (.iload 4, 2) := by decide +kernel
theorem dX3_listLoose_7 : decode cX3_listLoose 7 = .ok (.iload_n 1, 1) := by decide +kernel
theorem dX3_listLoose_8 : decode cX3_listLoose 8 = .ok (.if_icmp .ge 31, 3) := by decide +kernel
theorem dX3_listLoose_11 : decode cX3_listLoose 11 = .ok (.iload_n 2, 1) := by decide +kernel
theorem dX3_listLoose_12 : decode cX3_listLoose 12 = .ok (.iload 4, 2) := by decide +kernel
theorem dX3_listLoose_14 : decode cX3_listLoose 14 = .ok (.ishr, 1) := by decide +kernel
theorem dX3_listLoose_15 : decode cX3_listLoose 15 = .ok (.iconst 1, 1) := by decide +kernel
theorem dX3_listLoose_16 : decode cX3_listLoose 16 = .ok (.iand, 1) := by decide +kernel
theorem dX3_listLoose_17 : decode cX3_listLoose 17 = .ok (.ifCond .ne 16, 3) := by decide +kernel
theorem dX3_listLoose_20 : decode cX3_listLoose 20 = .ok (.aload_n 0, 1) := by decide +kernel
theorem dX3_listLoose_21 : decode cX3_listLoose 21 = .ok (.getfield 30, 3) := by decide +kernel
theorem dX3_listLoose_24 : decode cX3_listLoose 24 = .ok (.iload_n 3, 1) := by decide +kernel
theorem dX3_listLoose_25 : decode cX3_listLoose 25 = .ok (.iload 4, 2) := by decide +kernel
theorem dX3_listLoose_27 : decode cX3_listLoose 27 = .ok (.invokevirtual 68, 3) := by decide +kernel
theorem dX3_listLoose_30 : decode cX3_listLoose 30 = .ok (.iinc 3 1, 3) := by decide +kernel
theorem dX3_listLoose_33 : decode cX3_listLoose 33 = .ok (.iinc 4 1, 3) := by decide +kernel
theorem dX3_listLoose_36 : decode cX3_listLoose 36 = .ok (.goto (-31), 3) := by decide +kernel
theorem dX3_listLoose_39 : decode cX3_listLoose 39 = .ok (.iload_n 3, 1) := by decide +kernel
theorem dX3_listLoose_40 : decode cX3_listLoose 40 = .ok (.ireturn, 1) := by decide +kernel
theorem dX4_init_0 : decode cX4_init 0 = .ok (.aload_n 0, 1) := by decide +kernel
theorem dX4_init_1 : decode cX4_init 1 = .ok (.invokespecial 3, 3) := by decide +kernel
theorem dX4_init_4 : decode cX4_init 4 = .ok (.aload_n 0, 1) := by decide +kernel
theorem dX4_init_5 : decode cX4_init 5 = .ok (.new 9, 3) := by decide +kernel
theorem dX4_init_8 : decode cX4_init 8 = .ok (.dup, 1) := by decide +kernel
theorem dX4_init_9 : decode cX4_init 9 = .ok (.bipush 20, 2) := by decide +kernel
theorem dX4_init_11 : decode cX4_init 11 = .ok (.invokespecial 11, 3) := by decide +kernel
theorem dX4_init_14 : decode cX4_init 14 = .ok (.putfield 14, 3) := by decide +kernel
theorem dX4_init_17 : decode cX4_init 17 = .ok (.aload_n 0, 1) := by decide +kernel
theorem dX4_init_18 : decode cX4_init 18 = .ok (.new 9, 3) := by decide +kernel
theorem dX4_init_21 : decode cX4_init 21 = .ok (.dup, 1) := by decide +kernel
theorem dX4_init_22 : decode cX4_init 22 = .ok (.bipush 20, 2) := by decide +kernel
theorem dX4_init_24 : decode cX4_init 24 = .ok (.invokespecial 11, 3) := by decide +kernel
theorem dX4_init_27 : decode cX4_init 27 = .ok (.putfield 20, 3) := by decide +kernel
theorem dX4_init_30 : decode cX4_init 30 = .ok (.aload_n 0, 1) := by decide +kernel
theorem dX4_init_31 : decode cX4_init 31 = .ok (.new 9, 3) := by decide +kernel
theorem dX4_init_34 : decode cX4_init 34 = .ok (.dup, 1) := by decide +kernel
theorem dX4_init_35 : decode cX4_init 35 = .ok (.bipush 20, 2) := by decide +kernel
theorem dX4_init_37 : decode cX4_init 37 = .ok (.invokespecial 11, 3) := by decide +kernel
theorem dX4_init_40 : decode cX4_init 40 = .ok (.putfield 23, 3) := by decide +kernel
theorem dX4_init_43 : decode cX4_init 43 = .ok (.aload_n 0, 1) := by decide +kernel
theorem dX4_init_44 : decode cX4_init 44 = .ok (.new 9, 3) := by decide +kernel
theorem dX4_init_47 : decode cX4_init 47 = .ok (.dup, 1) := by decide +kernel
theorem dX4_init_48 : decode cX4_init 48 = .ok (.bipush 100, 2) := by decide +kernel
theorem dX4_init_50 : decode cX4_init 50 = .ok (.invokespecial 11, 3) := by decide +kernel
theorem dX4_init_53 : decode cX4_init 53 = .ok (.putfield 26, 3) := by decide +kernel
theorem dX4_init_56 : decode cX4_init 56 = .ok (.aload_n 0, 1) := by decide +kernel
theorem dX4_init_57 : decode cX4_init 57 = .ok (.new 29, 3) := by decide +kernel
theorem dX4_init_60 : decode cX4_init 60 = .ok (.dup, 1) := by decide +kernel
theorem dX4_init_61 : decode cX4_init 61 = .ok (.invokespecial 31, 3) := by decide +kernel
theorem dX4_init_64 : decode cX4_init 64 = .ok (.putfield 32, 3) := by decide +kernel
theorem dX4_init_67 : decode cX4_init 67 = .ok (.return_, 1) := by decide +kernel
theorem dX4_hasPlace_0 : decode cX4_hasPlace 0 = .ok (.iload_n 1, 1) := by decide +kernel
theorem dX4_hasPlace_1 : decode cX4_hasPlace 1 = .ok (.ifCond .lt 15, 3) := by decide +kernel
theorem dX4_hasPlace_4 : decode cX4_hasPlace 4 = .ok (.iload_n 1, 1) := by decide +kernel
theorem dX4_hasPlace_5 : decode cX4_hasPlace 5 = .ok (.aload_n 0, 1) := by decide +kernel
theorem dX4_hasPlace_6 : decode cX4_hasPlace 6 = .ok (.getfield 36, 3) := by decide +kernel
theorem dX4_hasPlace_9 : decode cX4_hasPlace 9 = .ok (.if_icmp .ge 7, 3) := by decide +kernel
theorem dX4_hasPlace_12 : decode cX4_hasPlace 12 = .ok (.iconst 1, 1) := by decide +kernel
theorem dX4_hasPlace_13 : decode cX4_hasPlace 13 = .ok (.goto 4, 3) := by decide +kernel
theorem dX4_hasPlace_16 : decode cX4_hasPlace 16 = .ok (.iconst 0, 1) := by decide +kernel
theorem dX4_hasPlace_17 : decode cX4_hasPlace 17 = .ok (.ireturn, 1) := by decide +kernel
theorem dX4_append_0 : decode cX4_append 0 = .ok (.aload_n 0, 1) := by decide +kernel
theorem dX4_append_1 : decode cX4_append 1 = .ok (.getfield 14, 3) := by decide +kernel
theorem dX4_append_4 : decode cX4_append 4 = .ok (.aload_n 0, 1) := by decide +kernel
theorem dX4_append_5 : decode cX4_append 5 = .ok (.getfield 36, 3) := by decide +kernel
theorem dX4_append_8 : decode cX4_append 8 = .ok (.iload_n 1, 1) := by decide +kernel
theorem dX4_append_9 : decode cX4_append 9 = .ok (.invokevirtual 40, 3) := by decide +kernel
theorem dX4_append_12 : decode cX4_append 12 = .ok (.aload_n 0, 1) := by decide +kernel
theorem dX4_append_13 : decode cX4_append 13 = .ok (.getfield 20, 3) := by decide +kernel
theorem dX4_append_16 : decode cX4_append 16 = .ok (.iload_n 1, 1) := by decide +kernel
theorem dX4_append_17 : decode cX4_append 17 = .ok (.aload_n 0, 1) := by decide +kernel
theorem dX4_append_18 : decode cX4_append 18 = .ok (.getfield 36, 3) := by decide +kernel
theorem dX4_append_21 : decode cX4_append 21 = .ok (.invokevirtual 40, 3) := by decide +kernel
theorem dX4_append_24 : decode cX4_append 24 = .ok (.aload_n 0, 1) := by decide +kernel
theorem dX4_append_25 : decode cX4_append 25 = .ok (.dup, 1) := by decide +kernel
theorem dX4_append_26 : decode cX4_append 26 = .ok (.getfield 36, 3) := by decide +kernel
theorem dX4_append_29 : decode cX4_append 29 = .ok (.iconst 1, 1) := by decide +kernel
theorem dX4_append_30 : decode cX4_append 30 = .ok (.iadd, 1) := by decide +kernel
theorem dX4_append_31 : decode cX4_append 31 = .ok (.putfield 36, 3) := by decide +kernel
theorem dX4_append_34 : decode cX4_append 34 = .ok (.return_, 1) := by decide +kernel
theorem dX4_choiceAt_0 : decode cX4_choiceAt 0 = .ok (.aload_n 0, 1) := by decide +kernel
theorem dX4_choiceAt_1 : decode cX4_choiceAt 1 = .ok (.getfield 26, 3) := by decide +kernel
theorem dX4_choiceAt_4 : decode cX4_choiceAt 4 = .ok (.iload_n 1, 1) := by decide +kernel
theorem dX4_choiceAt_5 : decode cX4_choiceAt 5 = .ok (.iconst 5, 1) := by decide +kernel
theorem dX4_choiceAt_6 : decode cX4_choiceAt 6 = .ok (.imul, 1) := by decide +kernel
theorem dX4_choiceAt_7 : decode cX4_choiceAt 7 = .ok (.iload_n 2, 1) := by decide +kernel
theorem dX4_choiceAt_8 : decode cX4_choiceAt 8 = .ok (.iadd, 1) := by decide +kernel
theorem dX4_choiceAt_9 : decode cX4_choiceAt 9 = .ok (.invokevirtual 44, 3) := by decide +kernel
theorem dX4_choiceAt_12 : decode cX4_choiceAt 12 = .ok (.ireturn, 1) := by decide +kernel
theorem dX4_putChoice_0 : decode cX4_putChoice 0 = .ok (.aload_n 0, 1) := by decide +kernel
theorem dX4_putChoice_1 : decode cX4_putChoice 1 = .ok (.getfield 26, 3) := by decide +kernel
theorem dX4_putChoice_4 : decode cX4_putChoice 4 = .ok (.iload_n 1, 1) := by decide +kernel
theorem dX4_putChoice_5 : decode cX4_putChoice 5 = .ok (.iconst 5, 1) := by decide +kernel
theorem dX4_putChoice_6 : decode cX4_putChoice 6 = .ok (.imul, 1) := by decide +kernel
theorem dX4_putChoice_7 : decode cX4_putChoice 7 = .ok (.iload_n 2, 1) := by decide +kernel
theorem dX4_putChoice_8 : decode cX4_putChoice 8 = .ok (.iadd, 1) := by decide +kernel
theorem dX4_putChoice_9 : decode cX4_putChoice 9 = .ok (.iload_n 3, 1) := by decide +kernel
theorem dX4_putChoice_10 : decode cX4_putChoice 10 = .ok (.invokevirtual 40, 3) := by decide +kernel
theorem dX4_putChoice_13 : decode cX4_putChoice 13 = .ok (.return_, 1) := by decide +kernel
theorem dX4_number_0 : decode cX4_number 0 = .ok (.iload_n 2, 1) := by decide +kernel
theorem dX4_number_1 : decode cX4_number 1 = .ok (.tableswitch 57 0 2 #[27, 36, 45], 27) := by decide +kernel
theorem dX4_number_28 : decode cX4_number 28 = .ok (.aload_n 0, 1) := by decide +kernel
theorem dX4_number_29 : decode cX4_number 29 = .ok (.getfield 14, 3) := by decide +kernel
theorem dX4_number_32 : decode cX4_number 32 = .ok (.iload_n 1, 1) := by decide +kernel
theorem dX4_number_33 : decode cX4_number 33 = .ok (.invokevirtual 44, 3) := by decide +kernel
theorem dX4_number_36 : decode cX4_number 36 = .ok (.ireturn, 1) := by decide +kernel
theorem dX4_number_37 : decode cX4_number 37 = .ok (.aload_n 0, 1) := by decide +kernel
theorem dX4_number_38 : decode cX4_number 38 = .ok (.getfield 23, 3) := by decide +kernel
theorem dX4_number_41 : decode cX4_number 41 = .ok (.iload_n 1, 1) := by decide +kernel
theorem dX4_number_42 : decode cX4_number 42 = .ok (.invokevirtual 44, 3) := by decide +kernel
theorem dX4_number_45 : decode cX4_number 45 = .ok (.ireturn, 1) := by decide +kernel
theorem dX4_number_46 : decode cX4_number 46 = .ok (.aload_n 0, 1) := by decide +kernel
theorem dX4_number_47 : decode cX4_number 47 = .ok (.getfield 32, 3) := by decide +kernel
theorem dX4_number_50 : decode cX4_number 50 = .ok (.getfield 48, 3) := by decide +kernel
theorem dX4_number_53 : decode cX4_number 53 = .ok (.iload_n 1, 1) := by decide +kernel
theorem dX4_number_54 : decode cX4_number 54 = .ok (.invokevirtual 44, 3) := by decide +kernel
theorem dX4_number_57 : decode cX4_number 57 = .ok (.ireturn, 1) := by decide +kernel
theorem dX4_number_58 : decode cX4_number 58 = .ok (.aload_n 0, 1) := by decide +kernel
theorem dX4_number_59 : decode cX4_number 59 = .ok (.getfield 32, 3) := by decide +kernel
theorem dX4_number_62 : decode cX4_number 62 = .ok (.getfield 51, 3) := by decide +kernel
theorem dX4_number_65 : decode cX4_number 65 = .ok (.iload_n 1, 1) := by decide +kernel
theorem dX4_number_66 : decode cX4_number 66 = .ok (.invokevirtual 44, 3) := by decide +kernel
theorem dX4_number_69 : decode cX4_number 69 = .ok (.ireturn, 1) := by decide +kernel
theorem dX4_neighborsIn_0 : decode cX4_neighborsIn 0 = .ok (.iconst 0, 1) := by decide +kernel
theorem dX4_neighborsIn_1 : decode cX4_neighborsIn 1 = .ok (.istore_n 2, 1) := by decide +kernel
theorem dX4_neighborsIn_2 : decode cX4_neighborsIn 2 = .ok (.iconst 1, 1) := by decide +kernel
theorem dX4_neighborsIn_3 : decode cX4_neighborsIn 3 = .ok (.istore_n 3, 1) := by decide +kernel
theorem dX4_neighborsIn_4 : decode cX4_neighborsIn 4 = .ok (.iload_n 3, 1) := by decide +kernel
theorem dX4_neighborsIn_5 : decode cX4_neighborsIn 5 = .ok (.aload_n 0, 1) := by decide +kernel
theorem dX4_neighborsIn_6 : decode cX4_neighborsIn 6 = .ok (.getfield 36, 3) := by decide +kernel
theorem dX4_neighborsIn_9 : decode cX4_neighborsIn 9 = .ok (.if_icmp .ge 53, 3) := by decide +kernel
theorem dX4_neighborsIn_12 : decode cX4_neighborsIn 12 = .ok (.aload_n 1, 1) := by decide +kernel
theorem dX4_neighborsIn_13 : decode cX4_neighborsIn 13 = .ok (.getfield 20, 3) := by decide +kernel
theorem dX4_neighborsIn_16 : decode cX4_neighborsIn 16 = .ok (.aload_n 0, 1) := by decide +kernel
theorem dX4_neighborsIn_17 : decode cX4_neighborsIn 17 = .ok (.getfield 14, 3) := by decide +kernel
theorem dX4_neighborsIn_20 : decode cX4_neighborsIn 20 = .ok (.iload_n 3, 1) := by decide +kernel
theorem dX4_neighborsIn_21 : decode cX4_neighborsIn 21 = .ok (.iconst 1, 1) := by decide +kernel
theorem dX4_neighborsIn_22 : decode cX4_neighborsIn 22 = .ok (.isub, 1) := by decide +kernel
theorem dX4_neighborsIn_23 : decode cX4_neighborsIn 23 = .ok (.invokevirtual 44, 3) := by decide +kernel
theorem dX4_neighborsIn_26 : decode cX4_neighborsIn 26 = .ok (.invokevirtual 44, 3) := by decide +kernel
theorem dX4_neighborsIn_29 : decode cX4_neighborsIn 29 = .ok (.istore 4, 2) := by decide +kernel
theorem dX4_neighborsIn_31 : decode cX4_neighborsIn 31 = .ok (.aload_n 1, 1) := by decide +kernel
theorem dX4_neighborsIn_32 : decode cX4_neighborsIn 32 = .ok (.getfield 20, 3) := by decide +kernel
theorem dX4_neighborsIn_35 : decode cX4_neighborsIn 35 = .ok (.aload_n 0, 1) := by decide +kernel
theorem dX4_neighborsIn_36 : decode cX4_neighborsIn 36 = .ok (.getfield 14, 3) := by decide +kernel
theorem dX4_neighborsIn_39 : decode cX4_neighborsIn 39 = .ok (.iload_n 3, 1) := by decide +kernel
theorem dX4_neighborsIn_40 : decode cX4_neighborsIn 40 = .ok (.invokevirtual 44, 3) := by decide +kernel
theorem dX4_neighborsIn_43 : decode cX4_neighborsIn 43 = .ok (.invokevirtual 44, 3) := by decide +kernel
theorem dX4_neighborsIn_46 : decode cX4_neighborsIn 46 = .ok (.iload 4, 2) := by decide +kernel
theorem dX4_neighborsIn_48 : decode cX4_neighborsIn 48 = .ok (.iconst 1, 1) := by decide +kernel
theorem dX4_neighborsIn_49 : decode cX4_neighborsIn 49 = .ok (.iadd, 1) := by decide +kernel
theorem dX4_neighborsIn_50 : decode cX4_neighborsIn 50 = .ok (.if_icmp .ne 6, 3) := by decide +kernel
theorem dX4_neighborsIn_53 : decode cX4_neighborsIn 53 = .ok (.iinc 2 1, 3) := by decide +kernel
theorem dX4_neighborsIn_56 : decode cX4_neighborsIn 56 = .ok (.iinc 3 1, 3) := by decide +kernel
theorem dX4_neighborsIn_59 : decode cX4_neighborsIn 59 = .ok (.goto (-55), 3) := by decide +kernel
theorem dX4_neighborsIn_62 : decode cX4_neighborsIn 62 = .ok (.iload_n 2, 1) := by decide +kernel
theorem dX4_neighborsIn_63 : decode cX4_neighborsIn 63 = .ok (.ireturn, 1) := by decide +kernel
theorem dX5_init_0 : decode cX5_init 0 = .ok (.aload_n 0, 1) := by decide +kernel
theorem dX5_init_1 : decode cX5_init 1 = .ok (.invokespecial 3, 3) := by decide +kernel
theorem dX5_init_4 : decode cX5_init 4 = .ok (.aload_n 0, 1) := by decide +kernel
theorem dX5_init_5 : decode cX5_init 5 = .ok (.new 9, 3) := by decide +kernel
theorem dX5_init_8 : decode cX5_init 8 = .ok (.dup, 1) := by decide +kernel
theorem dX5_init_9 : decode cX5_init 9 = .ok (.bipush 100, 2) := by decide +kernel
theorem dX5_init_11 : decode cX5_init 11 = .ok (.invokespecial 11, 3) := by decide +kernel
theorem dX5_init_14 : decode cX5_init 14 = .ok (.putfield 14, 3) := by decide +kernel
theorem dX5_init_17 : decode cX5_init 17 = .ok (.return_, 1) := by decide +kernel
theorem dX5_allows_0 : decode cX5_allows 0 = .ok (.iload_n 0, 1) := by decide +kernel
theorem dX5_allows_1 : decode cX5_allows 1 = .ok (.tableswitch 95 0 3 #[31, 48, 63, 80], 31) := by decide +kernel
theorem dX5_allows_32 : decode cX5_allows 32 = .ok (.iload_n 1, 1) := by decide +kernel
theorem dX5_allows_33 : decode cX5_allows 33 = .ok (.iconst 1, 1) := by decide +kernel
theorem dX5_allows_34 : decode cX5_allows 34 = .ok (.if_icmp .lt 13, 3) := by decide +kernel
theorem dX5_allows_37 : decode cX5_allows 37 = .ok (.iload_n 1, 1) := by decide +kernel
theorem dX5_allows_38 : decode cX5_allows 38 = .ok (.bipush 9, 2) := by decide +kernel
theorem dX5_allows_40 : decode cX5_allows 40 = .ok (.if_icmp .gt 7, 3) := by decide +kernel
theorem dX5_allows_43 : decode cX5_allows 43 = .ok (.iconst 1, 1) := by decide +kernel
theorem dX5_allows_44 : decode cX5_allows 44 = .ok (.goto 4, 3) := by decide +kernel
theorem dX5_allows_47 : decode cX5_allows 47 = .ok (.iconst 0, 1) := by decide +kernel
theorem dX5_allows_48 : decode cX5_allows 48 = .ok (.ireturn, 1) := by decide +kernel
theorem dX5_allows_49 : decode cX5_allows 49 = .ok (.iload_n 1, 1) := by decide +kernel
theorem dX5_allows_50 : decode cX5_allows 50 = .ok (.ifCond .lt 12, 3) := by decide +kernel
theorem dX5_allows_53 : decode cX5_allows 53 = .ok (.iload_n 1, 1) := by decide +kernel
theorem dX5_allows_54 : decode cX5_allows 54 = .ok (.iload_n 2, 1) := by decide +kernel
theorem dX5_allows_55 : decode cX5_allows 55 = .ok (.if_icmp .ge 7, 3) := by decide +kernel
theorem dX5_allows_58 : decode cX5_allows 58 = .ok (.iconst 1, 1) := by decide +kernel
theorem dX5_allows_59 : decode cX5_allows 59 = .ok (.goto 4, 3) := by decide +kernel
theorem dX5_allows_62 : decode cX5_allows 62 = .ok (.iconst 0, 1) := by decide +kernel
theorem dX5_allows_63 : decode cX5_allows 63 = .ok (.ireturn, 1) := by decide +kernel
theorem dX5_allows_64 : decode cX5_allows 64 = .ok (.iload_n 1, 1) := by decide +kernel
theorem dX5_allows_65 : decode cX5_allows 65 = .ok (.ifCond .lt 14, 3) := by decide +kernel
theorem dX5_allows_68 : decode cX5_allows 68 = .ok (.iload_n 1, 1) := by decide +kernel
theorem dX5_allows_69 : decode cX5_allows 69 = .ok (.iconst 1, 1) := by decide +kernel
theorem dX5_allows_70 : decode cX5_allows 70 = .ok (.iload_n 2, 1) := by decide +kernel
theorem dX5_allows_71 : decode cX5_allows 71 = .ok (.ishl, 1) := by decide +kernel
theorem dX5_allows_72 : decode cX5_allows 72 = .ok (.if_icmp .ge 7, 3) := by decide +kernel
theorem dX5_allows_75 : decode cX5_allows 75 = .ok (.iconst 1, 1) := by decide +kernel
theorem dX5_allows_76 : decode cX5_allows 76 = .ok (.goto 4, 3) := by decide +kernel
theorem dX5_allows_79 : decode cX5_allows 79 = .ok (.iconst 0, 1) := by decide +kernel
theorem dX5_allows_80 : decode cX5_allows 80 = .ok (.ireturn, 1) := by decide +kernel
theorem dX5_allows_81 : decode cX5_allows 81 = .ok (.iload_n 1, 1) := by decide +kernel
theorem dX5_allows_82 : decode cX5_allows 82 = .ok (.ifCond .lt 12, 3) := by decide +kernel
theorem dX5_allows_85 : decode cX5_allows 85 = .ok (.iload_n 1, 1) := by decide +kernel
theorem dX5_allows_86 : decode cX5_allows 86 = .ok (.iconst 5, 1) := by decide +kernel
theorem dX5_allows_87 : decode cX5_allows 87 = .ok (.if_icmp .gt 7, 3) := by decide +kernel
theorem dX5_allows_90 : decode cX5_allows 90 = .ok (.iconst 1, 1) := by decide +kernel
theorem dX5_allows_91 : decode cX5_allows 91 = .ok (.goto 4, 3) := by decide +kernel
theorem dX5_allows_94 : decode cX5_allows 94 = .ok (.iconst 0, 1) := by decide +kernel
theorem dX5_allows_95 : decode cX5_allows 95 = .ok (.ireturn, 1) := by decide +kernel
theorem dX5_allows_96 : decode cX5_allows 96 = .ok (.iconst 0, 1) := by decide +kernel
theorem dX5_allows_97 : decode cX5_allows 97 = .ok (.ireturn, 1) := by decide +kernel
theorem dX5_has_0 : decode cX5_has 0 = .ok (.iload_n 1, 1) := by decide +kernel
theorem dX5_has_1 : decode cX5_has 1 = .ok (.ifCond .lt 15, 3) := by decide +kernel
theorem dX5_has_4 : decode cX5_has 4 = .ok (.iload_n 1, 1) := by decide +kernel
theorem dX5_has_5 : decode cX5_has 5 = .ok (.aload_n 0, 1) := by decide +kernel
theorem dX5_has_6 : decode cX5_has 6 = .ok (.getfield 20, 3) := by decide +kernel
theorem dX5_has_9 : decode cX5_has 9 = .ok (.if_icmp .ge 7, 3) := by decide +kernel
theorem dX5_has_12 : decode cX5_has 12 = .ok (.iconst 1, 1) := by decide +kernel
theorem dX5_has_13 : decode cX5_has 13 = .ok (.goto 4, 3) := by decide +kernel
theorem dX5_has_16 : decode cX5_has 16 = .ok (.iconst 0, 1) := by decide +kernel
theorem dX5_has_17 : decode cX5_has 17 = .ok (.ireturn, 1) := by decide +kernel
theorem dX5_number_0 : decode cX5_number 0 = .ok (.aload_n 0, 1) := by decide +kernel
theorem dX5_number_1 : decode cX5_number 1 = .ok (.getfield 14, 3) := by decide +kernel
theorem dX5_number_4 : decode cX5_number 4 = .ok (.iload_n 1, 1) := by decide +kernel
theorem dX5_number_5 : decode cX5_number 5 = .ok (.iconst 5, 1) := by decide +kernel
theorem dX5_number_6 : decode cX5_number 6 = .ok (.imul, 1) := by decide +kernel
theorem dX5_number_7 : decode cX5_number 7 = .ok (.iload_n 2, 1) := by decide +kernel
theorem dX5_number_8 : decode cX5_number 8 = .ok (.iadd, 1) := by decide +kernel
theorem dX5_number_9 : decode cX5_number 9 = .ok (.invokevirtual 24, 3) := by decide +kernel
theorem dX5_number_12 : decode cX5_number 12 = .ok (.ireturn, 1) := by decide +kernel
theorem dX5_put_0 : decode cX5_put 0 = .ok (.aload_n 0, 1) := by decide +kernel
theorem dX5_put_1 : decode cX5_put 1 = .ok (.getfield 14, 3) := by decide +kernel
theorem dX5_put_4 : decode cX5_put 4 = .ok (.iload_n 1, 1) := by decide +kernel
theorem dX5_put_5 : decode cX5_put 5 = .ok (.iconst 5, 1) := by decide +kernel
theorem dX5_put_6 : decode cX5_put 6 = .ok (.imul, 1) := by decide +kernel
theorem dX5_put_7 : decode cX5_put 7 = .ok (.iload_n 2, 1) := by decide +kernel
theorem dX5_put_8 : decode cX5_put 8 = .ok (.iadd, 1) := by decide +kernel
theorem dX5_put_9 : decode cX5_put 9 = .ok (.iload_n 3, 1) := by decide +kernel
theorem dX5_put_10 : decode cX5_put 10 = .ok (.invokevirtual 28, 3) := by decide +kernel
theorem dX5_put_13 : decode cX5_put 13 = .ok (.return_, 1) := by decide +kernel
theorem dX5_append_0 : decode cX5_append 0 = .ok (.aload_n 0, 1) := by decide +kernel
theorem dX5_append_1 : decode cX5_append 1 = .ok (.getfield 20, 3) := by decide +kernel
theorem dX5_append_4 : decode cX5_append 4 = .ok (.istore 6, 2) := by decide +kernel
theorem dX5_append_6 : decode cX5_append 6 = .ok (.aload_n 0, 1) := by decide +kernel
theorem dX5_append_7 : decode cX5_append 7 = .ok (.dup, 1) := by decide +kernel
theorem dX5_append_8 : decode cX5_append 8 = .ok (.getfield 20, 3) := by decide +kernel
theorem dX5_append_11 : decode cX5_append 11 = .ok (.iconst 1, 1) := by decide +kernel
theorem dX5_append_12 : decode cX5_append 12 = .ok (.iadd, 1) := by decide +kernel
theorem dX5_append_13 : decode cX5_append 13 = .ok (.putfield 20, 3) := by decide +kernel
theorem dX5_append_16 : decode cX5_append 16 = .ok (.aload_n 0, 1) := by decide +kernel
theorem dX5_append_17 : decode cX5_append 17 = .ok (.iload 6, 2) := by decide +kernel
theorem dX5_append_19 : decode cX5_append 19 = .ok (.iconst 0, 1) := by decide +kernel
theorem dX5_append_20 : decode cX5_append 20 = .ok (.iload_n 1, 1) := by decide +kernel
theorem dX5_append_21 : decode cX5_append 21 = .ok (.invokevirtual 32, 3) := by decide +kernel
theorem dX5_append_24 : decode cX5_append 24 = .ok (.aload_n 0, 1) := by decide +kernel
theorem dX5_append_25 : decode cX5_append 25 = .ok (.iload 6, 2) := by decide +kernel
theorem dX5_append_27 : decode cX5_append 27 = .ok (.iconst 1, 1) := by decide +kernel
theorem dX5_append_28 : decode cX5_append 28 = .ok (.iload_n 3, 1) := by decide +kernel
theorem dX5_append_29 : decode cX5_append 29 = .ok (.invokevirtual 32, 3) := by decide +kernel
theorem dX5_append_32 : decode cX5_append 32 = .ok (.aload_n 0, 1) := by decide +kernel
theorem dX5_append_33 : decode cX5_append 33 = .ok (.iload 6, 2) := by decide +kernel
theorem dX5_append_35 : decode cX5_append 35 = .ok (.iconst 2, 1) := by decide +kernel
theorem dX5_append_36 : decode cX5_append 36 = .ok (.iload 4, 2) := by decide +kernel
theorem dX5_append_38 : decode cX5_append 38 = .ok (.invokevirtual 32, 3) := by decide +kernel
theorem dX5_append_41 : decode cX5_append 41 = .ok (.aload_n 0, 1) := by decide +kernel
theorem dX5_append_42 : decode cX5_append 42 = .ok (.iload 6, 2) := by decide +kernel
theorem dX5_append_44 : decode cX5_append 44 = .ok (.iconst 3, 1) := by decide +kernel
theorem dX5_append_45 : decode cX5_append 45 = .ok (.iload 5, 2) := by decide +kernel
theorem dX5_append_47 : decode cX5_append 47 = .ok (.invokevirtual 32, 3) := by decide +kernel
theorem dX5_append_50 : decode cX5_append 50 = .ok (.aload_n 0, 1) := by decide +kernel
theorem dX5_append_51 : decode cX5_append 51 = .ok (.iload 6, 2) := by decide +kernel
theorem dX5_append_53 : decode cX5_append 53 = .ok (.iconst 4, 1) := by decide +kernel
theorem dX5_append_54 : decode cX5_append 54 = .ok (.iload_n 2, 1) := by decide +kernel
theorem dX5_append_55 : decode cX5_append 55 = .ok (.invokevirtual 32, 3) := by decide +kernel
theorem dX5_append_58 : decode cX5_append 58 = .ok (.iload 6, 2) := by decide +kernel
theorem dX5_append_60 : decode cX5_append 60 = .ok (.ireturn, 1) := by decide +kernel
theorem dX5_delete_0 : decode cX5_delete 0 = .ok (.aload_n 0, 1) := by decide +kernel
theorem dX5_delete_1 : decode cX5_delete 1 = .ok (.dup, 1) := by decide +kernel
theorem dX5_delete_2 : decode cX5_delete 2 = .ok (.getfield 20, 3) := by decide +kernel
theorem dX5_delete_5 : decode cX5_delete 5 = .ok (.iconst 1, 1) := by decide +kernel
theorem dX5_delete_6 : decode cX5_delete 6 = .ok (.isub, 1) := by decide +kernel
theorem dX5_delete_7 : decode cX5_delete 7 = .ok (.putfield 20, 3) := by decide +kernel
theorem dX5_delete_10 : decode cX5_delete 10 = .ok (.iload_n 1, 1) := by decide +kernel
theorem dX5_delete_11 : decode cX5_delete 11 = .ok (.istore_n 2, 1) := by decide +kernel
theorem dX5_delete_12 : decode cX5_delete 12 = .ok (.iload_n 2, 1) := by decide +kernel
theorem dX5_delete_13 : decode cX5_delete 13 = .ok (.aload_n 0, 1) := by decide +kernel
theorem dX5_delete_14 : decode cX5_delete 14 = .ok (.getfield 20, 3) := by decide +kernel
theorem dX5_delete_17 : decode cX5_delete 17 = .ok (.if_icmp .ge 36, 3) := by decide +kernel
theorem dX5_delete_20 : decode cX5_delete 20 = .ok (.iconst 0, 1) := by decide +kernel
theorem dX5_delete_21 : decode cX5_delete 21 = .ok (.istore_n 3, 1) := by decide +kernel
theorem dX5_delete_22 : decode cX5_delete 22 = .ok (.iload_n 3, 1) := by decide +kernel
theorem dX5_delete_23 : decode cX5_delete 23 = .ok (.iconst 5, 1) := by decide +kernel
theorem dX5_delete_24 : decode cX5_delete 24 = .ok (.if_icmp .ge 23, 3) := by decide +kernel
theorem dX5_delete_27 : decode cX5_delete 27 = .ok (.aload_n 0, 1) := by decide +kernel
theorem dX5_delete_28 : decode cX5_delete 28 = .ok (.iload_n 2, 1) := by decide +kernel
theorem dX5_delete_29 : decode cX5_delete 29 = .ok (.iload_n 3, 1) := by decide +kernel
theorem dX5_delete_30 : decode cX5_delete 30 = .ok (.aload_n 0, 1) := by decide +kernel
theorem dX5_delete_31 : decode cX5_delete 31 = .ok (.iload_n 2, 1) := by decide +kernel
theorem dX5_delete_32 : decode cX5_delete 32 = .ok (.iconst 1, 1) := by decide +kernel
theorem dX5_delete_33 : decode cX5_delete 33 = .ok (.iadd, 1) := by decide +kernel
theorem dX5_delete_34 : decode cX5_delete 34 = .ok (.iload_n 3, 1) := by decide +kernel
theorem dX5_delete_35 : decode cX5_delete 35 = .ok (.invokevirtual 36, 3) := by decide +kernel
theorem dX5_delete_38 : decode cX5_delete 38 = .ok (.invokevirtual 32, 3) := by decide +kernel
theorem dX5_delete_41 : decode cX5_delete 41 = .ok (.iinc 3 1, 3) := by decide +kernel
theorem dX5_delete_44 : decode cX5_delete 44 = .ok (.goto (-22), 3) := by decide +kernel
theorem dX5_delete_47 : decode cX5_delete 47 = .ok (.iinc 2 1, 3) := by decide +kernel
theorem dX5_delete_50 : decode cX5_delete 50 = .ok (.goto (-38), 3) := by decide +kernel
theorem dX5_delete_53 : decode cX5_delete 53 = .ok (.return_, 1) := by decide +kernel
theorem dX5_together_0 : decode cX5_together 0 = .ok (.iload_n 1, 1) := by decide +kernel
theorem dX5_together_1 : decode cX5_together 1 = .ok (.iload_n 2, 1) := by decide +kernel
theorem dX5_together_2 : decode cX5_together 2 = .ok (.if_icmp .eq 27, 3) := by decide +kernel
theorem dX5_together_5 : decode cX5_together 5 = .ok (.aload_n 0, 1) := by decide +kernel
theorem dX5_together_6 : decode cX5_together 6 = .ok (.iload_n 1, 1) := by decide +kernel
theorem dX5_together_7 : decode cX5_together 7 = .ok (.iconst 3, 1) := by decide +kernel
theorem dX5_together_8 : decode cX5_together 8 = .ok (.invokevirtual 36, 3) := by decide +kernel
theorem dX5_together_11 : decode cX5_together 11 = .ok (.ifCond .eq 22, 3) := by decide +kernel
theorem dX5_together_14 : decode cX5_together 14 = .ok (.aload_n 0, 1) := by decide +kernel
theorem dX5_together_15 : decode cX5_together 15 = .ok (.iload_n 1, 1) := by decide +kernel
theorem dX5_together_16 : decode cX5_together 16 = .ok (.iconst 3, 1) := by decide +kernel
theorem dX5_together_17 : decode cX5_together 17 = .ok (.invokevirtual 36, 3) := by decide +kernel
theorem dX5_together_20 : decode cX5_together 20 = .ok (.aload_n 0, 1) := by decide +kernel
theorem dX5_together_21 : decode cX5_together 21 = .ok (.iload_n 2, 1) := by decide +kernel
theorem dX5_together_22 : decode cX5_together 22 = .ok (.iconst 3, 1) := by decide +kernel
theorem dX5_together_23 : decode cX5_together 23 = .ok (.invokevirtual 36, 3) := by decide +kernel
theorem dX5_together_26 : decode cX5_together 26 = .ok (.if_icmp .ne 7, 3) := by decide +kernel
theorem dX5_together_29 : decode cX5_together 29 = .ok (.iconst 1, 1) := by decide +kernel
theorem dX5_together_30 : decode cX5_together 30 = .ok (.goto 4, 3) := by decide +kernel
theorem dX5_together_33 : decode cX5_together 33 = .ok (.iconst 0, 1) := by decide +kernel
theorem dX5_together_34 : decode cX5_together 34 = .ok (.ireturn, 1) := by decide +kernel
theorem dX5_isFirstOfUnit_0 : decode cX5_isFirstOfUnit 0 = .ok (.iconst 0, 1) := by decide +kernel
theorem dX5_isFirstOfUnit_1 : decode cX5_isFirstOfUnit 1 = .ok (.istore_n 2, 1) := by decide +kernel
theorem dX5_isFirstOfUnit_2 : decode cX5_isFirstOfUnit 2 = .ok (.iload_n 2, 1) := by decide +kernel
theorem dX5_isFirstOfUnit_3 : decode cX5_isFirstOfUnit 3 = .ok (.iload_n 1, 1) := by decide +kernel
theorem dX5_isFirstOfUnit_4 : decode cX5_isFirstOfUnit 4 = .ok (.if_icmp .ge 20, 3) := by decide +kernel
theorem dX5_isFirstOfUnit_7 : decode cX5_isFirstOfUnit 7 = .ok (.aload_n 0, 1) := by decide +kernel
theorem dX5_isFirstOfUnit_8 : decode cX5_isFirstOfUnit 8 = .ok (.iload_n 2, 1) := by decide +kernel
theorem dX5_isFirstOfUnit_9 : decode cX5_isFirstOfUnit 9 = .ok (.iload_n 1, 1) := by decide +kernel
theorem dX5_isFirstOfUnit_10 : decode cX5_isFirstOfUnit 10 = .ok (.invokevirtual 40, 3) := by decide +kernel
theorem dX5_isFirstOfUnit_13 : decode cX5_isFirstOfUnit 13 = .ok (.ifCond .eq 5, 3) := by decide +kernel
theorem dX5_isFirstOfUnit_16 : decode cX5_isFirstOfUnit 16 = .ok (.iconst 0, 1) := by decide +kernel
theorem dX5_isFirstOfUnit_17 : decode cX5_isFirstOfUnit 17 = .ok (.ireturn, 1) := by decide +kernel
theorem dX5_isFirstOfUnit_18 : decode cX5_isFirstOfUnit 18 = .ok (.iinc 2 1, 3) := by decide +kernel
theorem dX5_isFirstOfUnit_21 : decode cX5_isFirstOfUnit 21 = .ok (.goto (-19), 3) := by decide +kernel
theorem dX5_isFirstOfUnit_24 : decode cX5_isFirstOfUnit 24 = .ok (.iconst 1, 1) := by decide +kernel
theorem dX5_isFirstOfUnit_25 : decode cX5_isFirstOfUnit 25 = .ok (.ireturn, 1) := by decide +kernel
theorem dX5_copy_0 : decode cX5_copy 0 = .ok (.aload_n 0, 1) := by decide +kernel
theorem dX5_copy_1 : decode cX5_copy 1 = .ok (.getfield 14, 3) := by decide +kernel
theorem dX5_copy_4 : decode cX5_copy 4 = .ok (.aload_n 1, 1) := by decide +kernel
theorem dX5_copy_5 : decode cX5_copy 5 = .ok (.getfield 14, 3) := by decide +kernel
theorem dX5_copy_8 : decode cX5_copy 8 = .ok (.invokevirtual 44, 3) := by decide +kernel
theorem dX5_copy_11 : decode cX5_copy 11 = .ok (.aload_n 0, 1) := by decide +kernel
theorem dX5_copy_12 : decode cX5_copy 12 = .ok (.aload_n 1, 1) := by decide +kernel
theorem dX5_copy_13 : decode cX5_copy 13 = .ok (.getfield 20, 3) := by decide +kernel
theorem dX5_copy_16 : decode cX5_copy 16 = .ok (.putfield 20, 3) := by decide +kernel
theorem dX5_copy_19 : decode cX5_copy 19 = .ok (.return_, 1) := by decide +kernel
theorem dX6_init_0 : decode cX6_init 0 = .ok (.aload_n 0, 1) := by decide +kernel
theorem dX6_init_1 : decode cX6_init 1 = .ok (.invokespecial 1, 3) := by decide +kernel
theorem dX6_init_4 : decode cX6_init 4 = .ok (.aload_n 0, 1) := by decide +kernel
theorem dX6_init_5 : decode cX6_init 5 = .ok (.iload_n 1, 1) := by decide +kernel
theorem dX6_init_6 : decode cX6_init 6 = .ok (.ifCond .le 7, 3) := by decide +kernel
theorem dX6_init_9 : decode cX6_init 9 = .ok (.iload_n 1, 1) := by decide +kernel
theorem dX6_init_10 : decode cX6_init 10 = .ok (.goto 4, 3) := by decide +kernel
theorem dX6_init_13 : decode cX6_init 13 = .ok (.iconst 0, 1) := by decide +kernel
theorem dX6_init_14 : decode cX6_init 14 = .ok (.newarray .int, 2) := by decide +kernel
theorem dX6_init_16 : decode cX6_init 16 = .ok (.putfield 7, 3) := by decide +kernel
theorem dX6_init_19 : decode cX6_init 19 = .ok (.return_, 1) := by decide +kernel
theorem dX6_get_0 : decode cX6_get 0 = .ok (.iload_n 1, 1) := by decide +kernel
theorem dX6_get_1 : decode cX6_get 1 = .ok (.ifCond .lt 21, 3) := by decide +kernel
theorem dX6_get_4 : decode cX6_get 4 = .ok (.iload_n 1, 1) := by decide +kernel
theorem dX6_get_5 : decode cX6_get 5 = .ok (.aload_n 0, 1) := by decide +kernel
theorem dX6_get_6 : decode cX6_get 6 = .ok (.getfield 7, 3) := by decide +kernel
theorem dX6_get_9 : decode cX6_get 9 = .ok (.arraylength, 1) := by decide +kernel
theorem dX6_get_10 : decode cX6_get 10 = .ok (.if_icmp .ge 12, 3) := by decide +kernel
theorem dX6_get_13 : decode cX6_get 13 = .ok (.aload_n 0, 1) := by decide +kernel
theorem dX6_get_14 : decode cX6_get 14 = .ok (.getfield 7, 3) := by decide +kernel
theorem dX6_get_17 : decode cX6_get 17 = .ok (.iload_n 1, 1) := by decide +kernel
theorem dX6_get_18 : decode cX6_get 18 = .ok (.iaload, 1) := by decide +kernel
theorem dX6_get_19 : decode cX6_get 19 = .ok (.goto 4, 3) := by decide +kernel
theorem dX6_get_22 : decode cX6_get 22 = .ok (.iconst 0, 1) := by decide +kernel
theorem dX6_get_23 : decode cX6_get 23 = .ok (.ireturn, 1) := by decide +kernel
theorem dX6_set_0 : decode cX6_set 0 = .ok (.iload_n 1, 1) := by decide +kernel
theorem dX6_set_1 : decode cX6_set 1 = .ok (.ifCond .lt 19, 3) := by decide +kernel
theorem dX6_set_4 : decode cX6_set 4 = .ok (.iload_n 1, 1) := by decide +kernel
theorem dX6_set_5 : decode cX6_set 5 = .ok (.aload_n 0, 1) := by decide +kernel
theorem dX6_set_6 : decode cX6_set 6 = .ok (.getfield 7, 3) := by decide +kernel
theorem dX6_set_9 : decode cX6_set 9 = .ok (.arraylength, 1) := by decide +kernel
theorem dX6_set_10 : decode cX6_set 10 = .ok (.if_icmp .ge 10, 3) := by decide +kernel
theorem dX6_set_13 : decode cX6_set 13 = .ok (.aload_n 0, 1) := by decide +kernel
theorem dX6_set_14 : decode cX6_set 14 = .ok (.getfield 7, 3) := by decide +kernel
theorem dX6_set_17 : decode cX6_set 17 = .ok (.iload_n 1, 1) := by decide +kernel
theorem dX6_set_18 : decode cX6_set 18 = .ok (.iload_n 2, 1) := by decide +kernel
theorem dX6_set_19 : decode cX6_set 19 = .ok (.iastore, 1) := by decide +kernel
theorem dX6_set_20 : decode cX6_set 20 = .ok (.return_, 1) := by decide +kernel
theorem dX6_exchange_0 : decode cX6_exchange 0 = .ok (.iload_n 1, 1) := by decide +kernel
theorem dX6_exchange_1 : decode cX6_exchange 1 = .ok (.ifCond .lt 51, 3) := by decide +kernel
theorem dX6_exchange_4 : decode cX6_exchange 4 = .ok (.iload_n 1, 1) := by decide +kernel
theorem dX6_exchange_5 : decode cX6_exchange 5 = .ok (.aload_n 0, 1) := by decide +kernel
theorem dX6_exchange_6 : decode cX6_exchange 6 = .ok (.getfield 7, 3) := by decide +kernel
theorem dX6_exchange_9 : decode cX6_exchange 9 = .ok (.arraylength, 1) := by decide +kernel
theorem dX6_exchange_10 : decode cX6_exchange 10 = .ok (.if_icmp .ge 42, 3) := by decide +kernel
theorem dX6_exchange_13 : decode cX6_exchange 13 = .ok (.iload_n 2, 1) := by decide +kernel
theorem dX6_exchange_14 : decode cX6_exchange 14 = .ok (.ifCond .lt 38, 3) := by decide +kernel
theorem dX6_exchange_17 : decode cX6_exchange 17 = .ok (.iload_n 2, 1) := by decide +kernel
theorem dX6_exchange_18 : decode cX6_exchange 18 = .ok (.aload_n 0, 1) := by decide +kernel
theorem dX6_exchange_19 : decode cX6_exchange 19 = .ok (.getfield 7, 3) := by decide +kernel
theorem dX6_exchange_22 : decode cX6_exchange 22 = .ok (.arraylength, 1) := by decide +kernel
theorem dX6_exchange_23 : decode cX6_exchange 23 = .ok (.if_icmp .ge 29, 3) := by decide +kernel
theorem dX6_exchange_26 : decode cX6_exchange 26 = .ok (.aload_n 0, 1) := by decide +kernel
theorem dX6_exchange_27 : decode cX6_exchange 27 = .ok (.getfield 7, 3) := by decide +kernel
theorem dX6_exchange_30 : decode cX6_exchange 30 = .ok (.iload_n 1, 1) := by decide +kernel
theorem dX6_exchange_31 : decode cX6_exchange 31 = .ok (.iaload, 1) := by decide +kernel
theorem dX6_exchange_32 : decode cX6_exchange 32 = .ok (.istore_n 3, 1) := by decide +kernel
theorem dX6_exchange_33 : decode cX6_exchange 33 = .ok (.aload_n 0, 1) := by decide +kernel
theorem dX6_exchange_34 : decode cX6_exchange 34 = .ok (.getfield 7, 3) := by decide +kernel
theorem dX6_exchange_37 : decode cX6_exchange 37 = .ok (.iload_n 1, 1) := by decide +kernel
theorem dX6_exchange_38 : decode cX6_exchange 38 = .ok (.aload_n 0, 1) := by decide +kernel
theorem dX6_exchange_39 : decode cX6_exchange 39 = .ok (.getfield 7, 3) := by decide +kernel
theorem dX6_exchange_42 : decode cX6_exchange 42 = .ok (.iload_n 2, 1) := by decide +kernel
theorem dX6_exchange_43 : decode cX6_exchange 43 = .ok (.iaload, 1) := by decide +kernel
theorem dX6_exchange_44 : decode cX6_exchange 44 = .ok (.iastore, 1) := by decide +kernel
theorem dX6_exchange_45 : decode cX6_exchange 45 = .ok (.aload_n 0, 1) := by decide +kernel
theorem dX6_exchange_46 : decode cX6_exchange 46 = .ok (.getfield 7, 3) := by decide +kernel
theorem dX6_exchange_49 : decode cX6_exchange 49 = .ok (.iload_n 2, 1) := by decide +kernel
theorem dX6_exchange_50 : decode cX6_exchange 50 = .ok (.iload_n 3, 1) := by decide +kernel
theorem dX6_exchange_51 : decode cX6_exchange 51 = .ok (.iastore, 1) := by decide +kernel
theorem dX6_exchange_52 : decode cX6_exchange 52 = .ok (.return_, 1) := by decide +kernel
theorem dX6_copy_0 : decode cX6_copy 0 = .ok (.aload_n 1, 1) := by decide +kernel
theorem dX6_copy_1 : decode cX6_copy 1 = .ok (.getfield 7, 3) := by decide +kernel
theorem dX6_copy_4 : decode cX6_copy 4 = .ok (.iconst 0, 1) := by decide +kernel
theorem dX6_copy_5 : decode cX6_copy 5 = .ok (.aload_n 0, 1) := by decide +kernel
theorem dX6_copy_6 : decode cX6_copy 6 = .ok (.getfield 7, 3) := by decide +kernel
theorem dX6_copy_9 : decode cX6_copy 9 = .ok (.iconst 0, 1) := by decide +kernel
theorem dX6_copy_10 : decode cX6_copy 10 = .ok (.aload_n 1, 1) := by decide +kernel
theorem dX6_copy_11 : decode cX6_copy 11 = .ok (.getfield 7, 3) := by decide +kernel
theorem dX6_copy_14 : decode cX6_copy 14 = .ok (.arraylength, 1) := by decide +kernel
theorem dX6_copy_15 : decode cX6_copy 15 = .ok (.aload_n 0, 1) := by decide +kernel
theorem dX6_copy_16 : decode cX6_copy 16 = .ok (.getfield 7, 3) := by decide +kernel
theorem dX6_copy_19 : decode cX6_copy 19 = .ok (.arraylength, 1) := by decide +kernel
theorem dX6_copy_20 : decode cX6_copy 20 = .ok (.invokestatic 13, 3) := by decide +kernel
theorem dX6_copy_23 : decode cX6_copy 23 = .ok (.invokestatic 19, 3) := by decide +kernel
theorem dX6_copy_26 : decode cX6_copy 26 = .ok (.return_, 1) := by decide +kernel
theorem dX6_sameAs_0 : decode cX6_sameAs 0 = .ok (.iconst 0, 1) := by decide +kernel
theorem dX6_sameAs_1 : decode cX6_sameAs 1 = .ok (.istore_n 3, 1) := by decide +kernel
theorem dX6_sameAs_2 : decode cX6_sameAs 2 = .ok (.iconst 0, 1) := by decide +kernel
theorem dX6_sameAs_3 : decode cX6_sameAs 3 = .ok (.istore 4, 2) := by decide +kernel
theorem dX6_sameAs_5 : decode cX6_sameAs 5 = .ok (.iload 4, 2) := by decide +kernel
theorem dX6_sameAs_7 : decode cX6_sameAs 7 = .ok (.iload_n 2, 1) := by decide +kernel
theorem dX6_sameAs_8 : decode cX6_sameAs 8 = .ok (.if_icmp .ge 27, 3) := by decide +kernel
theorem dX6_sameAs_11 : decode cX6_sameAs 11 = .ok (.aload_n 0, 1) := by decide +kernel
theorem dX6_sameAs_12 : decode cX6_sameAs 12 = .ok (.iload 4, 2) := by decide +kernel
theorem dX6_sameAs_14 : decode cX6_sameAs 14 = .ok (.invokevirtual 25, 3) := by decide +kernel
theorem dX6_sameAs_17 : decode cX6_sameAs 17 = .ok (.aload_n 1, 1) := by decide +kernel
theorem dX6_sameAs_18 : decode cX6_sameAs 18 = .ok (.iload 4, 2) := by decide +kernel
theorem dX6_sameAs_20 : decode cX6_sameAs 20 = .ok (.invokevirtual 25, 3) := by decide +kernel
theorem dX6_sameAs_23 : decode cX6_sameAs 23 = .ok (.if_icmp .ne 6, 3) := by decide +kernel
theorem dX6_sameAs_26 : decode cX6_sameAs 26 = .ok (.iinc 3 1, 3) := by decide +kernel
theorem dX6_sameAs_29 : decode cX6_sameAs 29 = .ok (.iinc 4 1, 3) := by decide +kernel
theorem dX6_sameAs_32 : decode cX6_sameAs 32 = .ok (.goto (-27), 3) := by decide +kernel
theorem dX6_sameAs_35 : decode cX6_sameAs 35 = .ok (.iload_n 3, 1) := by decide +kernel
theorem dX6_sameAs_36 : decode cX6_sameAs 36 = .ok (.ireturn, 1) := by decide +kernel
theorem dX7_init_0 : decode cX7_init 0 = .ok (.aload_n 0, 1) := by decide +kernel
theorem dX7_init_1 : decode cX7_init 1 = .ok (.invokespecial 3, 3) := by decide +kernel
theorem dX7_init_4 : decode cX7_init 4 = .ok (.aload_n 0, 1) := by decide +kernel
theorem dX7_init_5 : decode cX7_init 5 = .ok (.new 9, 3) := by decide +kernel
theorem dX7_init_8 : decode cX7_init 8 = .ok (.dup, 1) := by decide +kernel
theorem dX7_init_9 : decode cX7_init 9 = .ok (.bipush 20, 2) := by decide +kernel
theorem dX7_init_11 : decode cX7_init 11 = .ok (.invokespecial 11, 3) := by decide +kernel
theorem dX7_init_14 : decode cX7_init 14 = .ok (.putfield 14, 3) := by decide +kernel
theorem dX7_init_17 : decode cX7_init 17 = .ok (.aload_n 0, 1) := by decide +kernel
theorem dX7_init_18 : decode cX7_init 18 = .ok (.new 9, 3) := by decide +kernel
theorem dX7_init_21 : decode cX7_init 21 = .ok (.dup, 1) := by decide +kernel
theorem dX7_init_22 : decode cX7_init 22 = .ok (.bipush 20, 2) := by decide +kernel
theorem dX7_init_24 : decode cX7_init 24 = .ok (.invokespecial 11, 3) := by decide +kernel
theorem dX7_init_27 : decode cX7_init 27 = .ok (.putfield 20, 3) := by decide +kernel
theorem dX7_init_30 : decode cX7_init 30 = .ok (.aload_n 0, 1) := by decide +kernel
theorem dX7_init_31 : decode cX7_init 31 = .ok (.new 9, 3) := by decide +kernel
theorem dX7_init_34 : decode cX7_init 34 = .ok (.dup, 1) := by decide +kernel
theorem dX7_init_35 : decode cX7_init 35 = .ok (.bipush 20, 2) := by decide +kernel
theorem dX7_init_37 : decode cX7_init 37 = .ok (.invokespecial 11, 3) := by decide +kernel
theorem dX7_init_40 : decode cX7_init 40 = .ok (.putfield 23, 3) := by decide +kernel
theorem dX7_init_43 : decode cX7_init 43 = .ok (.aload_n 0, 1) := by decide +kernel
theorem dX7_init_44 : decode cX7_init 44 = .ok (.new 9, 3) := by decide +kernel
theorem dX7_init_47 : decode cX7_init 47 = .ok (.dup, 1) := by decide +kernel
theorem dX7_init_48 : decode cX7_init 48 = .ok (.sipush 400, 3) := by decide +kernel
theorem dX7_init_51 : decode cX7_init 51 = .ok (.invokespecial 11, 3) := by decide +kernel
theorem dX7_init_54 : decode cX7_init 54 = .ok (.putfield 26, 3) := by decide +kernel
theorem dX7_init_57 : decode cX7_init 57 = .ok (.aload_n 0, 1) := by decide +kernel
theorem dX7_init_58 : decode cX7_init 58 = .ok (.new 9, 3) := by decide +kernel
theorem dX7_init_61 : decode cX7_init 61 = .ok (.dup, 1) := by decide +kernel
theorem dX7_init_62 : decode cX7_init 62 = .ok (.sipush 400, 3) := by decide +kernel
theorem dX7_init_65 : decode cX7_init 65 = .ok (.invokespecial 11, 3) := by decide +kernel
theorem dX7_init_68 : decode cX7_init 68 = .ok (.putfield 29, 3) := by decide +kernel
theorem dX7_init_71 : decode cX7_init 71 = .ok (.return_, 1) := by decide +kernel
theorem dX7_has_0 : decode cX7_has 0 = .ok (.iload_n 1, 1) := by decide +kernel
theorem dX7_has_1 : decode cX7_has 1 = .ok (.ifCond .lt 15, 3) := by decide +kernel
theorem dX7_has_4 : decode cX7_has 4 = .ok (.iload_n 1, 1) := by decide +kernel
theorem dX7_has_5 : decode cX7_has 5 = .ok (.aload_n 0, 1) := by decide +kernel
theorem dX7_has_6 : decode cX7_has 6 = .ok (.getfield 32, 3) := by decide +kernel
theorem dX7_has_9 : decode cX7_has 9 = .ok (.if_icmp .ge 7, 3) := by decide +kernel
theorem dX7_has_12 : decode cX7_has 12 = .ok (.iconst 1, 1) := by decide +kernel
theorem dX7_has_13 : decode cX7_has 13 = .ok (.goto 4, 3) := by decide +kernel
theorem dX7_has_16 : decode cX7_has 16 = .ok (.iconst 0, 1) := by decide +kernel
theorem dX7_has_17 : decode cX7_has 17 = .ok (.ireturn, 1) := by decide +kernel
theorem dX7_mark_0 : decode cX7_mark 0 = .ok (.aload_n 0, 1) := by decide +kernel
theorem dX7_mark_1 : decode cX7_mark 1 = .ok (.getfield 26, 3) := by decide +kernel
theorem dX7_mark_4 : decode cX7_mark 4 = .ok (.iload_n 1, 1) := by decide +kernel
theorem dX7_mark_5 : decode cX7_mark 5 = .ok (.bipush 20, 2) := by decide +kernel
theorem dX7_mark_7 : decode cX7_mark 7 = .ok (.imul, 1) := by decide +kernel
theorem dX7_mark_8 : decode cX7_mark 8 = .ok (.iload_n 2, 1) := by decide +kernel
theorem dX7_mark_9 : decode cX7_mark 9 = .ok (.iadd, 1) := by decide +kernel
theorem dX7_mark_10 : decode cX7_mark 10 = .ok (.invokevirtual 36, 3) := by decide +kernel
theorem dX7_mark_13 : decode cX7_mark 13 = .ok (.ireturn, 1) := by decide +kernel
theorem dX7_pick_0 : decode cX7_pick 0 = .ok (.aload_n 0, 1) := by decide +kernel
theorem dX7_pick_1 : decode cX7_pick 1 = .ok (.getfield 29, 3) := by decide +kernel
theorem dX7_pick_4 : decode cX7_pick 4 = .ok (.iload_n 1, 1) := by decide +kernel
theorem dX7_pick_5 : decode cX7_pick 5 = .ok (.bipush 20, 2) := by decide +kernel
theorem dX7_pick_7 : decode cX7_pick 7 = .ok (.imul, 1) := by decide +kernel
theorem dX7_pick_8 : decode cX7_pick 8 = .ok (.iload_n 2, 1) := by decide +kernel
theorem dX7_pick_9 : decode cX7_pick 9 = .ok (.iadd, 1) := by decide +kernel
theorem dX7_pick_10 : decode cX7_pick 10 = .ok (.invokevirtual 36, 3) := by decide +kernel
theorem dX7_pick_13 : decode cX7_pick 13 = .ok (.ireturn, 1) := by decide +kernel
theorem dX7_append_0 : decode cX7_append 0 = .ok (.aload_n 0, 1) := by decide +kernel
theorem dX7_append_1 : decode cX7_append 1 = .ok (.getfield 32, 3) := by decide +kernel
theorem dX7_append_4 : decode cX7_append 4 = .ok (.istore 4, 2) := by decide +kernel
theorem dX7_append_6 : decode cX7_append 6 = .ok (.iconst 0, 1) := by decide +kernel
theorem dX7_append_7 : decode cX7_append 7 = .ok (.istore 5, 2) := by decide +kernel
theorem dX7_append_9 : decode cX7_append 9 = .ok (.iconst 0, 1) := by decide +kernel
theorem dX7_append_10 : decode cX7_append 10 = .ok (.istore 6, 2) := by decide +kernel
theorem dX7_append_12 : decode cX7_append 12 = .ok (.iconst 0, 1) := by decide +kernel
theorem dX7_append_13 : decode cX7_append 13 = .ok (.istore 7, 2) := by decide +kernel
theorem dX7_append_15 : decode cX7_append 15 = .ok (.iload 7, 2) := by decide +kernel
theorem dX7_append_17 : decode cX7_append 17 = .ok (.aload_n 2, 1) := by decide +kernel
theorem dX7_append_18 : decode cX7_append 18 = .ok (.getfield 40, 3) := by decide +kernel
theorem dX7_append_21 : decode cX7_append 21 = .ok (.if_icmp .ge 107, 3) := by decide +kernel
theorem dX7_append_24 : decode cX7_append 24 = .ok (.aload_n 3, 1) := by decide +kernel
theorem dX7_append_25 : decode cX7_append 25 = .ok (.iload 7, 2) := by decide +kernel
theorem dX7_append_27 : decode cX7_append 27 = .ok (.invokevirtual 36, 3) := by decide +kernel
theorem dX7_append_30 : decode cX7_append 30 = .ok (.istore 8, 2) := by decide +kernel
theorem dX7_append_32 : decode cX7_append 32 = .ok (.iload 8, 2) := by decide +kernel
theorem dX7_append_34 : decode cX7_append 34 = .ok (.iconst (-1), 1) := by decide +kernel
theorem dX7_append_35 : decode cX7_append 35 = .ok (.if_icmp .ne 7, 3) := by decide +kernel
theorem dX7_append_38 : decode cX7_append 38 = .ok (.iconst (-1), 1) := by decide +kernel
theorem dX7_append_39 : decode cX7_append 39 = .ok (.goto 11, 3) := by decide +kernel
theorem dX7_append_42 : decode cX7_append 42 = .ok (.aload_n 2, 1) := by decide +kernel
theorem dX7_append_43 : decode cX7_append 43 = .ok (.iload 7, 2) := by decide +kernel
theorem dX7_append_45 : decode cX7_append 45 = .ok (.iload 8, 2) := by decide +kernel
theorem dX7_append_47 : decode cX7_append 47 = .ok (.invokevirtual 43, 3) := by decide +kernel
theorem dX7_append_50 : decode cX7_append 50 = .ok (.istore 9, 2) := by decide +kernel
theorem dX7_append_52 : decode cX7_append 52 = .ok (.aload_n 0, 1) := by decide +kernel
theorem dX7_append_53 : decode cX7_append 53 = .ok (.getfield 26, 3) := by decide +kernel
theorem dX7_append_56 : decode cX7_append 56 = .ok (.iload 4, 2) := by decide +kernel
theorem dX7_append_58 : decode cX7_append 58 = .ok (.bipush 20, 2) := by decide +kernel
theorem dX7_append_60 : decode cX7_append 60 = .ok (.imul, 1) := by decide +kernel
theorem dX7_append_61 : decode cX7_append 61 = .ok (.iload 7, 2) := by decide +kernel
theorem dX7_append_63 : decode cX7_append 63 = .ok (.iadd, 1) := by decide +kernel
theorem dX7_append_64 : decode cX7_append 64 = .ok (.iload 8, 2) := by decide +kernel
theorem dX7_append_66 : decode cX7_append 66 = .ok (.invokevirtual 47, 3) := by decide +kernel
theorem dX7_append_69 : decode cX7_append 69 = .ok (.aload_n 0, 1) := by decide +kernel
theorem dX7_append_70 : decode cX7_append 70 = .ok (.getfield 29, 3) := by decide +kernel
theorem dX7_append_73 : decode cX7_append 73 = .ok (.iload 4, 2) := by decide +kernel
theorem dX7_append_75 : decode cX7_append 75 = .ok (.bipush 20, 2) := by decide +kernel
theorem dX7_append_77 : decode cX7_append 77 = .ok (.imul, 1) := by decide +kernel
theorem dX7_append_78 : decode cX7_append 78 = .ok (.aload_n 2, 1) := by decide +kernel
theorem dX7_append_79 : decode cX7_append 79 = .ok (.getfield 51, 3) := by decide +kernel
theorem dX7_append_82 : decode cX7_append 82 = .ok (.iload 7, 2) := by decide +kernel
theorem dX7_append_84 : decode cX7_append 84 = .ok (.invokevirtual 36, 3) := by decide +kernel
theorem dX7_append_87 : decode cX7_append 87 = .ok (.iadd, 1) := by decide +kernel
theorem dX7_append_88 : decode cX7_append 88 = .ok (.iload 9, 2) := by decide +kernel
theorem dX7_append_90 : decode cX7_append 90 = .ok (.invokevirtual 47, 3) := by decide +kernel
theorem dX7_append_93 : decode cX7_append 93 = .ok (.iload 8, 2) := by decide +kernel
theorem dX7_append_95 : decode cX7_append 95 = .ok (.aload_n 2, 1) := by decide +kernel
theorem dX7_append_96 : decode cX7_append 96 = .ok (.getfield 54, 3) := by decide +kernel
theorem dX7_append_99 : decode cX7_append 99 = .ok (.iload 7, 2) := by decide +kernel
theorem dX7_append_101 : decode cX7_append 101 = .ok (.invokevirtual 36, 3) := by decide +kernel
theorem dX7_append_104 : decode cX7_append 104 = .ok (.if_icmp .ne 9, 3) := by decide +kernel
theorem dX7_append_107 : decode cX7_append 107 = .ok (.iinc 5 1, 3) := by decide +kernel
theorem dX7_append_110 : decode cX7_append 110 = .ok (.goto 12, 3) := by decide +kernel
theorem dX7_append_113 : decode cX7_append 113 = .ok (.iload 8, 2) := by decide +kernel
theorem dX7_append_115 : decode cX7_append 115 = .ok (.iconst (-1), 1) := by decide +kernel
theorem dX7_append_116 : decode cX7_append 116 = .ok (.if_icmp .eq 6, 3) := by decide +kernel
theorem dX7_append_119 : decode cX7_append 119 = .ok (.iinc 6 1, 3) := by decide +kernel
theorem dX7_append_122 : decode cX7_append 122 = .ok (.iinc 7 1, 3) := by decide +kernel
theorem dX7_append_125 : decode cX7_append 125 = .ok (.goto (-110), 3) := by decide +kernel
theorem dX7_append_128 : decode cX7_append 128 = .ok (.aload_n 0, 1) := by decide +kernel
theorem dX7_append_129 : decode cX7_append 129 = .ok (.getfield 14, 3) := by decide +kernel
theorem dX7_append_132 : decode cX7_append 132 = .ok (.iload 4, 2) := by decide +kernel
theorem dX7_append_134 : decode cX7_append 134 = .ok (.iload_n 1, 1) := by decide +kernel
theorem dX7_append_135 : decode cX7_append 135 = .ok (.invokevirtual 47, 3) := by decide +kernel
theorem dX7_append_138 : decode cX7_append 138 = .ok (.aload_n 0, 1) := by decide +kernel
theorem dX7_append_139 : decode cX7_append 139 = .ok (.getfield 20, 3) := by decide +kernel
theorem dX7_append_142 : decode cX7_append 142 = .ok (.iload 4, 2) := by decide +kernel
theorem dX7_append_144 : decode cX7_append 144 = .ok (.iload 5, 2) := by decide +kernel
theorem dX7_append_146 : decode cX7_append 146 = .ok (.invokevirtual 47, 3) := by decide +kernel
theorem dX7_append_149 : decode cX7_append 149 = .ok (.aload_n 0, 1) := by decide +kernel
theorem dX7_append_150 : decode cX7_append 150 = .ok (.getfield 23, 3) := by decide +kernel
theorem dX7_append_153 : decode cX7_append 153 = .ok (.iload 4, 2) := by decide +kernel
theorem dX7_append_155 : decode cX7_append 155 = .ok (.iload 6, 2) := by decide +kernel
theorem dX7_append_157 : decode cX7_append 157 = .ok (.invokevirtual 47, 3) := by decide +kernel
theorem dX7_append_160 : decode cX7_append 160 = .ok (.aload_n 0, 1) := by decide +kernel
theorem dX7_append_161 : decode cX7_append 161 = .ok (.dup, 1) := by decide +kernel
theorem dX7_append_162 : decode cX7_append 162 = .ok (.getfield 32, 3) := by decide +kernel
theorem dX7_append_165 : decode cX7_append 165 = .ok (.iconst 1, 1) := by decide +kernel
theorem dX7_append_166 : decode cX7_append 166 = .ok (.iadd, 1) := by decide +kernel
theorem dX7_append_167 : decode cX7_append 167 = .ok (.putfield 32, 3) := by decide +kernel
theorem dX7_append_170 : decode cX7_append 170 = .ok (.iload 4, 2) := by decide +kernel
theorem dX7_append_172 : decode cX7_append 172 = .ok (.ireturn, 1) := by decide +kernel
theorem dX7_points_0 : decode cX7_points 0 = .ok (.iconst 4, 1) := by decide +kernel
theorem dX7_points_1 : decode cX7_points 1 = .ok (.aload_n 0, 1) := by decide +kernel
theorem dX7_points_2 : decode cX7_points 2 = .ok (.getfield 20, 3) := by decide +kernel
theorem dX7_points_5 : decode cX7_points 5 = .ok (.iload_n 1, 1) := by decide +kernel
theorem dX7_points_6 : decode cX7_points 6 = .ok (.invokevirtual 36, 3) := by decide +kernel
theorem dX7_points_9 : decode cX7_points 9 = .ok (.imul, 1) := by decide +kernel
theorem dX7_points_10 : decode cX7_points 10 = .ok (.aload_n 0, 1) := by decide +kernel
theorem dX7_points_11 : decode cX7_points 11 = .ok (.getfield 23, 3) := by decide +kernel
theorem dX7_points_14 : decode cX7_points 14 = .ok (.iload_n 1, 1) := by decide +kernel
theorem dX7_points_15 : decode cX7_points 15 = .ok (.invokevirtual 36, 3) := by decide +kernel
theorem dX7_points_18 : decode cX7_points 18 = .ok (.isub, 1) := by decide +kernel
theorem dX7_points_19 : decode cX7_points 19 = .ok (.ireturn, 1) := by decide +kernel
theorem dX7_number_0 : decode cX7_number 0 = .ok (.iload_n 2, 1) := by decide +kernel
theorem dX7_number_1 : decode cX7_number 1 = .ok (.tableswitch 64 0 3 #[31, 40, 46, 55], 31) := by decide +kernel
theorem dX7_number_32 : decode cX7_number 32 = .ok (.aload_n 0, 1) := by decide +kernel
theorem dX7_number_33 : decode cX7_number 33 = .ok (.getfield 14, 3) := by decide +kernel
theorem dX7_number_36 : decode cX7_number 36 = .ok (.iload_n 1, 1) := by decide +kernel
theorem dX7_number_37 : decode cX7_number 37 = .ok (.invokevirtual 36, 3) := by decide +kernel
theorem dX7_number_40 : decode cX7_number 40 = .ok (.ireturn, 1) := by decide +kernel
theorem dX7_number_41 : decode cX7_number 41 = .ok (.aload_n 0, 1) := by decide +kernel
theorem dX7_number_42 : decode cX7_number 42 = .ok (.iload_n 1, 1) := by decide +kernel
theorem dX7_number_43 : decode cX7_number 43 = .ok (.invokevirtual 57, 3) := by decide +kernel
theorem dX7_number_46 : decode cX7_number 46 = .ok (.ireturn, 1) := by decide +kernel
theorem dX7_number_47 : decode cX7_number 47 = .ok (.aload_n 0, 1) := by decide +kernel
theorem dX7_number_48 : decode cX7_number 48 = .ok (.getfield 20, 3) := by decide +kernel
theorem dX7_number_51 : decode cX7_number 51 = .ok (.iload_n 1, 1) := by decide +kernel
theorem dX7_number_52 : decode cX7_number 52 = .ok (.invokevirtual 36, 3) := by decide +kernel
theorem dX7_number_55 : decode cX7_number 55 = .ok (.ireturn, 1) := by decide +kernel
theorem dX7_number_56 : decode cX7_number 56 = .ok (.aload_n 0, 1) := by decide +kernel
theorem dX7_number_57 : decode cX7_number 57 = .ok (.getfield 23, 3) := by decide +kernel
theorem dX7_number_60 : decode cX7_number 60 = .ok (.iload_n 1, 1) := by decide +kernel
theorem dX7_number_61 : decode cX7_number 61 = .ok (.invokevirtual 36, 3) := by decide +kernel
theorem dX7_number_64 : decode cX7_number 64 = .ok (.ireturn, 1) := by decide +kernel
theorem dX7_number_65 : decode cX7_number 65 = .ok (.iconst 1, 1) := by decide +kernel
theorem dX7_number_66 : decode cX7_number 66 = .ok (.aload_n 0, 1) := by decide +kernel
theorem dX7_number_67 : decode cX7_number 67 = .ok (.iload_n 1, 1) := by decide +kernel
theorem dX7_number_68 : decode cX7_number 68 = .ok (.invokevirtual 60, 3) := by decide +kernel
theorem dX7_number_71 : decode cX7_number 71 = .ok (.iadd, 1) := by decide +kernel
theorem dX7_number_72 : decode cX7_number 72 = .ok (.ireturn, 1) := by decide +kernel
theorem dX7_betterThan_0 : decode cX7_betterThan 0 = .ok (.aload_n 0, 1) := by decide +kernel
theorem dX7_betterThan_1 : decode cX7_betterThan 1 = .ok (.iload_n 1, 1) := by decide +kernel
theorem dX7_betterThan_2 : decode cX7_betterThan 2 = .ok (.invokevirtual 57, 3) := by decide +kernel
theorem dX7_betterThan_5 : decode cX7_betterThan 5 = .ok (.istore_n 2, 1) := by decide +kernel
theorem dX7_betterThan_6 : decode cX7_betterThan 6 = .ok (.iconst 0, 1) := by decide +kernel
theorem dX7_betterThan_7 : decode cX7_betterThan 7 = .ok (.istore_n 3, 1) := by decide +kernel
theorem dX7_betterThan_8 : decode cX7_betterThan 8 = .ok (.iconst 0, 1) := by decide +kernel
theorem dX7_betterThan_9 : decode cX7_betterThan 9 = .ok (.istore 4, 2) := by decide +kernel
theorem dX7_betterThan_11 : decode cX7_betterThan 11 = .ok (.iload 4, 2) := by decide +kernel
theorem dX7_betterThan_13 : decode cX7_betterThan 13 = .ok (.aload_n 0, 1) := by decide +kernel
theorem dX7_betterThan_14 : decode cX7_betterThan 14 = .ok (.getfield 32, 3) := by decide +kernel
theorem dX7_betterThan_17 : decode cX7_betterThan 17 = .ok (.if_icmp .ge 22, 3) := by decide +kernel
theorem dX7_betterThan_20 : decode cX7_betterThan 20 = .ok (.aload_n 0, 1) := by decide +kernel
theorem dX7_betterThan_21 : decode cX7_betterThan 21 = .ok (.iload 4, 2) := by decide +kernel
theorem dX7_betterThan_23 : decode cX7_betterThan 23 = .ok (.invokevirtual 57, 3) := by decide +kernel
theorem dX7_betterThan_26 : decode cX7_betterThan 26 = .ok (.iload_n 2, 1) := by decide +kernel
theorem dX7_betterThan_27 : decode cX7_betterThan 27 = .ok (.if_icmp .le 6, 3) := by decide +kernel
theorem dX7_betterThan_30 : decode cX7_betterThan 30 = .ok (.iinc 3 1, 3) := by decide +kernel
theorem dX7_betterThan_33 : decode cX7_betterThan 33 = .ok (.iinc 4 1, 3) := by decide +kernel
theorem dX7_betterThan_36 : decode cX7_betterThan 36 = .ok (.goto (-25), 3) := by decide +kernel
theorem dX7_betterThan_39 : decode cX7_betterThan 39 = .ok (.iload_n 3, 1) := by decide +kernel
theorem dX7_betterThan_40 : decode cX7_betterThan 40 = .ok (.ireturn, 1) := by decide +kernel
theorem dX7_standing_0 : decode cX7_standing 0 = .ok (.aload_n 0, 1) := by decide +kernel
theorem dX7_standing_1 : decode cX7_standing 1 = .ok (.iload_n 1, 1) := by decide +kernel
theorem dX7_standing_2 : decode cX7_standing 2 = .ok (.invokevirtual 57, 3) := by decide +kernel
theorem dX7_standing_5 : decode cX7_standing 5 = .ok (.istore_n 2, 1) := by decide +kernel
theorem dX7_standing_6 : decode cX7_standing 6 = .ok (.aload_n 0, 1) := by decide +kernel
theorem dX7_standing_7 : decode cX7_standing 7 = .ok (.iload_n 1, 1) := by decide +kernel
theorem dX7_standing_8 : decode cX7_standing 8 = .ok (.invokevirtual 60, 3) := by decide +kernel
theorem dX7_standing_11 : decode cX7_standing 11 = .ok (.istore_n 3, 1) := by decide +kernel
theorem dX7_standing_12 : decode cX7_standing 12 = .ok (.iconst 0, 1) := by decide +kernel
theorem dX7_standing_13 : decode cX7_standing 13 = .ok (.istore 4, 2) := by decide +kernel
theorem dX7_standing_15 : decode cX7_standing 15 = .ok (.iload 4, 2) := by decide +kernel
theorem dX7_standing_17 : decode cX7_standing 17 = .ok (.iload_n 1, 1) := by decide +kernel
theorem dX7_standing_18 : decode cX7_standing 18 = .ok (.if_icmp .ge 22, 3) := by decide +kernel
theorem dX7_standing_21 : decode cX7_standing 21 = .ok (.aload_n 0, 1) := by decide +kernel
theorem dX7_standing_22 : decode cX7_standing 22 = .ok (.iload 4, 2) := by decide +kernel
theorem dX7_standing_24 : decode cX7_standing 24 = .ok (.invokevirtual 57, 3) := by decide +kernel
theorem dX7_standing_27 : decode cX7_standing 27 = .ok (.iload_n 2, 1) := by decide +kernel
theorem dX7_standing_28 : decode cX7_standing 28 = .ok (.if_icmp .ne 6, 3) := by decide +kernel
theorem dX7_standing_31 : decode cX7_standing 31 = .ok (.iinc 3 1, 3) := by decide +kernel
theorem dX7_standing_34 : decode cX7_standing 34 = .ok (.iinc 4 1, 3) := by decide +kernel
theorem dX7_standing_37 : decode cX7_standing 37 = .ok (.goto (-22), 3) := by decide +kernel
theorem dX7_standing_40 : decode cX7_standing 40 = .ok (.iload_n 3, 1) := by decide +kernel
theorem dX7_standing_41 : decode cX7_standing 41 = .ok (.ireturn, 1) := by decide +kernel
theorem dX7_pickers_0 : decode cX7_pickers 0 = .ok (.iconst 0, 1) := by decide +kernel
theorem dX7_pickers_1 : decode cX7_pickers 1 = .ok (.istore_n 3, 1) := by decide +kernel
theorem dX7_pickers_2 : decode cX7_pickers 2 = .ok (.iconst 0, 1) := by decide +kernel
theorem dX7_pickers_3 : decode cX7_pickers 3 = .ok (.istore 4, 2) := by decide +kernel
theorem dX7_pickers_5 : decode cX7_pickers 5 = .ok (.iload 4, 2) := by decide +kernel
theorem dX7_pickers_7 : decode cX7_pickers 7 = .ok (.aload_n 0, 1) := by decide +kernel
theorem dX7_pickers_8 : decode cX7_pickers 8 = .ok (.getfield 32, 3) := by decide +kernel
theorem dX7_pickers_11 : decode cX7_pickers 11 = .ok (.if_icmp .ge 23, 3) := by decide +kernel
theorem dX7_pickers_14 : decode cX7_pickers 14 = .ok (.aload_n 0, 1) := by decide +kernel
theorem dX7_pickers_15 : decode cX7_pickers 15 = .ok (.iload 4, 2) := by decide +kernel
theorem dX7_pickers_17 : decode cX7_pickers 17 = .ok (.iload_n 1, 1) := by decide +kernel
theorem dX7_pickers_18 : decode cX7_pickers 18 = .ok (.invokevirtual 63, 3) := by decide +kernel
theorem dX7_pickers_21 : decode cX7_pickers 21 = .ok (.iload_n 2, 1) := by decide +kernel
theorem dX7_pickers_22 : decode cX7_pickers 22 = .ok (.if_icmp .ne 6, 3) := by decide +kernel
theorem dX7_pickers_25 : decode cX7_pickers 25 = .ok (.iinc 3 1, 3) := by decide +kernel
theorem dX7_pickers_28 : decode cX7_pickers 28 = .ok (.iinc 4 1, 3) := by decide +kernel
theorem dX7_pickers_31 : decode cX7_pickers 31 = .ok (.goto (-26), 3) := by decide +kernel
theorem dX7_pickers_34 : decode cX7_pickers 34 = .ok (.iload_n 3, 1) := by decide +kernel
theorem dX7_pickers_35 : decode cX7_pickers 35 = .ok (.ireturn, 1) := by decide +kernel
theorem dX7_copy_0 : decode cX7_copy 0 = .ok (.aload_n 0, 1) := by decide +kernel
theorem dX7_copy_1 : decode cX7_copy 1 = .ok (.getfield 14, 3) := by decide +kernel
theorem dX7_copy_4 : decode cX7_copy 4 = .ok (.aload_n 1, 1) := by decide +kernel
theorem dX7_copy_5 : decode cX7_copy 5 = .ok (.getfield 14, 3) := by decide +kernel
theorem dX7_copy_8 : decode cX7_copy 8 = .ok (.invokevirtual 66, 3) := by decide +kernel
theorem dX7_copy_11 : decode cX7_copy 11 = .ok (.aload_n 0, 1) := by decide +kernel
theorem dX7_copy_12 : decode cX7_copy 12 = .ok (.getfield 20, 3) := by decide +kernel
theorem dX7_copy_15 : decode cX7_copy 15 = .ok (.aload_n 1, 1) := by decide +kernel
theorem dX7_copy_16 : decode cX7_copy 16 = .ok (.getfield 20, 3) := by decide +kernel
theorem dX7_copy_19 : decode cX7_copy 19 = .ok (.invokevirtual 66, 3) := by decide +kernel
theorem dX7_copy_22 : decode cX7_copy 22 = .ok (.aload_n 0, 1) := by decide +kernel
theorem dX7_copy_23 : decode cX7_copy 23 = .ok (.getfield 23, 3) := by decide +kernel
theorem dX7_copy_26 : decode cX7_copy 26 = .ok (.aload_n 1, 1) := by decide +kernel
theorem dX7_copy_27 : decode cX7_copy 27 = .ok (.getfield 23, 3) := by decide +kernel
theorem dX7_copy_30 : decode cX7_copy 30 = .ok (.invokevirtual 66, 3) := by decide +kernel
theorem dX7_copy_33 : decode cX7_copy 33 = .ok (.aload_n 0, 1) := by decide +kernel
theorem dX7_copy_34 : decode cX7_copy 34 = .ok (.getfield 26, 3) := by decide +kernel
theorem dX7_copy_37 : decode cX7_copy 37 = .ok (.aload_n 1, 1) := by decide +kernel
theorem dX7_copy_38 : decode cX7_copy 38 = .ok (.getfield 26, 3) := by decide +kernel
theorem dX7_copy_41 : decode cX7_copy 41 = .ok (.invokevirtual 66, 3) := by decide +kernel
theorem dX7_copy_44 : decode cX7_copy 44 = .ok (.aload_n 0, 1) := by decide +kernel
theorem dX7_copy_45 : decode cX7_copy 45 = .ok (.getfield 29, 3) := by decide +kernel
theorem dX7_copy_48 : decode cX7_copy 48 = .ok (.aload_n 1, 1) := by decide +kernel
theorem dX7_copy_49 : decode cX7_copy 49 = .ok (.getfield 29, 3) := by decide +kernel
theorem dX7_copy_52 : decode cX7_copy 52 = .ok (.invokevirtual 66, 3) := by decide +kernel
theorem dX7_copy_55 : decode cX7_copy 55 = .ok (.aload_n 0, 1) := by decide +kernel
theorem dX7_copy_56 : decode cX7_copy 56 = .ok (.aload_n 1, 1) := by decide +kernel
theorem dX7_copy_57 : decode cX7_copy 57 = .ok (.getfield 32, 3) := by decide +kernel
theorem dX7_copy_60 : decode cX7_copy 60 = .ok (.putfield 32, 3) := by decide +kernel
theorem dX7_copy_63 : decode cX7_copy 63 = .ok (.return_, 1) := by decide +kernel
theorem dX8_init_0 : decode cX8_init 0 = .ok (.aload_n 0, 1) := by decide +kernel
theorem dX8_init_1 : decode cX8_init 1 = .ok (.invokespecial 3, 3) := by decide +kernel
theorem dX8_init_4 : decode cX8_init 4 = .ok (.aload_n 0, 1) := by decide +kernel
theorem dX8_init_5 : decode cX8_init 5 = .ok (.new 9, 3) := by decide +kernel
theorem dX8_init_8 : decode cX8_init 8 = .ok (.dup, 1) := by decide +kernel
theorem dX8_init_9 : decode cX8_init 9 = .ok (.invokespecial 11, 3) := by decide +kernel
theorem dX8_init_12 : decode cX8_init 12 = .ok (.putfield 12, 3) := by decide +kernel
theorem dX8_init_15 : decode cX8_init 15 = .ok (.aload_n 0, 1) := by decide +kernel
theorem dX8_init_16 : decode cX8_init 16 = .ok (.new 18, 3) := by decide +kernel
theorem dX8_init_19 : decode cX8_init 19 = .ok (.dup, 1) := by decide +kernel
theorem dX8_init_20 : decode cX8_init 20 = .ok (.bipush 6, 2) := by decide +kernel
theorem dX8_init_22 : decode cX8_init 22 = .ok (.invokespecial 20, 3) := by decide +kernel
theorem dX8_init_25 : decode cX8_init 25 = .ok (.putfield 23, 3) := by decide +kernel
theorem dX8_init_28 : decode cX8_init 28 = .ok (.aload_n 0, 1) := by decide +kernel
theorem dX8_init_29 : decode cX8_init 29 = .ok (.new 27, 3) := by decide +kernel
theorem dX8_init_32 : decode cX8_init 32 = .ok (.dup, 1) := by decide +kernel
theorem dX8_init_33 : decode cX8_init 33 = .ok (.invokespecial 29, 3) := by decide +kernel
theorem dX8_init_36 : decode cX8_init 36 = .ok (.putfield 30, 3) := by decide +kernel
theorem dX8_init_39 : decode cX8_init 39 = .ok (.aload_n 0, 1) := by decide +kernel
theorem dX8_init_40 : decode cX8_init 40 = .ok (.bipush 30, 2) := by decide +kernel
theorem dX8_init_42 : decode cX8_init 42 = .ok (.putfield 34, 3) := by decide +kernel
theorem dX8_init_45 : decode cX8_init 45 = .ok (.return_, 1) := by decide +kernel
theorem dX8_copy_0 : decode cX8_copy 0 = .ok (.aload_n 0, 1) := by decide +kernel
theorem dX8_copy_1 : decode cX8_copy 1 = .ok (.getfield 12, 3) := by decide +kernel
theorem dX8_copy_4 : decode cX8_copy 4 = .ok (.aload_n 1, 1) := by decide +kernel
theorem dX8_copy_5 : decode cX8_copy 5 = .ok (.getfield 12, 3) := by decide +kernel
theorem dX8_copy_8 : decode cX8_copy 8 = .ok (.invokevirtual 38, 3) := by decide +kernel
theorem dX8_copy_11 : decode cX8_copy 11 = .ok (.aload_n 0, 1) := by decide +kernel
theorem dX8_copy_12 : decode cX8_copy 12 = .ok (.getfield 23, 3) := by decide +kernel
theorem dX8_copy_15 : decode cX8_copy 15 = .ok (.aload_n 1, 1) := by decide +kernel
theorem dX8_copy_16 : decode cX8_copy 16 = .ok (.getfield 23, 3) := by decide +kernel
theorem dX8_copy_19 : decode cX8_copy 19 = .ok (.invokevirtual 42, 3) := by decide +kernel
theorem dX8_copy_22 : decode cX8_copy 22 = .ok (.aload_n 0, 1) := by decide +kernel
theorem dX8_copy_23 : decode cX8_copy 23 = .ok (.getfield 30, 3) := by decide +kernel
theorem dX8_copy_26 : decode cX8_copy 26 = .ok (.aload_n 1, 1) := by decide +kernel
theorem dX8_copy_27 : decode cX8_copy 27 = .ok (.getfield 30, 3) := by decide +kernel
theorem dX8_copy_30 : decode cX8_copy 30 = .ok (.invokevirtual 45, 3) := by decide +kernel
theorem dX8_copy_33 : decode cX8_copy 33 = .ok (.aload_n 0, 1) := by decide +kernel
theorem dX8_copy_34 : decode cX8_copy 34 = .ok (.aload_n 1, 1) := by decide +kernel
theorem dX8_copy_35 : decode cX8_copy 35 = .ok (.getfield 48, 3) := by decide +kernel
theorem dX8_copy_38 : decode cX8_copy 38 = .ok (.putfield 48, 3) := by decide +kernel
theorem dX8_copy_41 : decode cX8_copy 41 = .ok (.aload_n 0, 1) := by decide +kernel
theorem dX8_copy_42 : decode cX8_copy 42 = .ok (.aload_n 1, 1) := by decide +kernel
theorem dX8_copy_43 : decode cX8_copy 43 = .ok (.getfield 34, 3) := by decide +kernel
theorem dX8_copy_46 : decode cX8_copy 46 = .ok (.putfield 34, 3) := by decide +kernel
theorem dX8_copy_49 : decode cX8_copy 49 = .ok (.return_, 1) := by decide +kernel
theorem dX9_init_0 : decode cX9_init 0 = .ok (.aload_n 0, 1) := by decide +kernel
theorem dX9_init_1 : decode cX9_init 1 = .ok (.invokespecial 1, 3) := by decide +kernel
theorem dX9_init_4 : decode cX9_init 4 = .ok (.aload_n 0, 1) := by decide +kernel
theorem dX9_init_5 : decode cX9_init 5 = .ok (.new 7, 3) := by decide +kernel
theorem dX9_init_8 : decode cX9_init 8 = .ok (.dup, 1) := by decide +kernel
theorem dX9_init_9 : decode cX9_init 9 = .ok (.invokespecial 9, 3) := by decide +kernel
theorem dX9_init_12 : decode cX9_init 12 = .ok (.putfield 10, 3) := by decide +kernel
theorem dX9_init_15 : decode cX9_init 15 = .ok (.aload_n 0, 1) := by decide +kernel
theorem dX9_init_16 : decode cX9_init 16 = .ok (.new 16, 3) := by decide +kernel
theorem dX9_init_19 : decode cX9_init 19 = .ok (.dup, 1) := by decide +kernel
theorem dX9_init_20 : decode cX9_init 20 = .ok (.invokespecial 18, 3) := by decide +kernel
theorem dX9_init_23 : decode cX9_init 23 = .ok (.putfield 19, 3) := by decide +kernel
theorem dX9_init_26 : decode cX9_init 26 = .ok (.aload_n 0, 1) := by decide +kernel
theorem dX9_init_27 : decode cX9_init 27 = .ok (.new 23, 3) := by decide +kernel
theorem dX9_init_30 : decode cX9_init 30 = .ok (.dup, 1) := by decide +kernel
theorem dX9_init_31 : decode cX9_init 31 = .ok (.invokespecial 25, 3) := by decide +kernel
theorem dX9_init_34 : decode cX9_init 34 = .ok (.putfield 26, 3) := by decide +kernel
theorem dX9_init_37 : decode cX9_init 37 = .ok (.aload_n 0, 1) := by decide +kernel
theorem dX9_init_38 : decode cX9_init 38 = .ok (.bipush 6, 2) := by decide +kernel
theorem dX9_init_40 : decode cX9_init 40 = .ok (.anewarray 30, 3) := by decide +kernel
theorem dX9_init_43 : decode cX9_init 43 = .ok (.putfield 32, 3) := by decide +kernel
theorem dX9_init_46 : decode cX9_init 46 = .ok (.aload_n 0, 1) := by decide +kernel
theorem dX9_init_47 : decode cX9_init 47 = .ok (.new 30, 3) := by decide +kernel
theorem dX9_init_50 : decode cX9_init 50 = .ok (.dup, 1) := by decide +kernel
theorem dX9_init_51 : decode cX9_init 51 = .ok (.invokespecial 36, 3) := by decide +kernel
theorem dX9_init_54 : decode cX9_init 54 = .ok (.putfield 37, 3) := by decide +kernel
theorem dX9_init_57 : decode cX9_init 57 = .ok (.aload_n 0, 1) := by decide +kernel
theorem dX9_init_58 : decode cX9_init 58 = .ok (.new 41, 3) := by decide +kernel
theorem dX9_init_61 : decode cX9_init 61 = .ok (.dup, 1) := by decide +kernel
theorem dX9_init_62 : decode cX9_init 62 = .ok (.invokespecial 43, 3) := by decide +kernel
theorem dX9_init_65 : decode cX9_init 65 = .ok (.putfield 44, 3) := by decide +kernel
theorem dX9_init_68 : decode cX9_init 68 = .ok (.aload_n 0, 1) := by decide +kernel
theorem dX9_init_69 : decode cX9_init 69 = .ok (.new 48, 3) := by decide +kernel
theorem dX9_init_72 : decode cX9_init 72 = .ok (.dup, 1) := by decide +kernel
theorem dX9_init_73 : decode cX9_init 73 = .ok (.bipush 20, 2) := by decide +kernel
theorem dX9_init_75 : decode cX9_init 75 = .ok (.invokespecial 50, 3) := by decide +kernel
theorem dX9_init_78 : decode cX9_init 78 = .ok (.putfield 53, 3) := by decide +kernel
theorem dX9_init_81 : decode cX9_init 81 = .ok (.aload_n 0, 1) := by decide +kernel
theorem dX9_init_82 : decode cX9_init 82 = .ok (.new 48, 3) := by decide +kernel
theorem dX9_init_85 : decode cX9_init 85 = .ok (.dup, 1) := by decide +kernel
theorem dX9_init_86 : decode cX9_init 86 = .ok (.bipush 20, 2) := by decide +kernel
theorem dX9_init_88 : decode cX9_init 88 = .ok (.invokespecial 50, 3) := by decide +kernel
theorem dX9_init_91 : decode cX9_init 91 = .ok (.putfield 57, 3) := by decide +kernel
theorem dX9_init_94 : decode cX9_init 94 = .ok (.iconst 0, 1) := by decide +kernel
theorem dX9_init_95 : decode cX9_init 95 = .ok (.istore_n 1, 1) := by decide +kernel
theorem dX9_init_96 : decode cX9_init 96 = .ok (.iload_n 1, 1) := by decide +kernel
theorem dX9_init_97 : decode cX9_init 97 = .ok (.aload_n 0, 1) := by decide +kernel
theorem dX9_init_98 : decode cX9_init 98 = .ok (.getfield 32, 3) := by decide +kernel
theorem dX9_init_101 : decode cX9_init 101 = .ok (.arraylength, 1) := by decide +kernel
theorem dX9_init_102 : decode cX9_init 102 = .ok (.if_icmp .ge 22, 3) := by decide +kernel
theorem dX9_init_105 : decode cX9_init 105 = .ok (.aload_n 0, 1) := by decide +kernel
theorem dX9_init_106 : decode cX9_init 106 = .ok (.getfield 32, 3) := by decide +kernel
theorem dX9_init_109 : decode cX9_init 109 = .ok (.iload_n 1, 1) := by decide +kernel
theorem dX9_init_110 : decode cX9_init 110 = .ok (.new 30, 3) := by decide +kernel
theorem dX9_init_113 : decode cX9_init 113 = .ok (.dup, 1) := by decide +kernel
theorem dX9_init_114 : decode cX9_init 114 = .ok (.invokespecial 36, 3) := by decide +kernel
theorem dX9_init_117 : decode cX9_init 117 = .ok (.aastore, 1) := by decide +kernel
theorem dX9_init_118 : decode cX9_init 118 = .ok (.iinc 1 1, 3) := by decide +kernel
theorem dX9_init_121 : decode cX9_init 121 = .ok (.goto (-25), 3) := by decide +kernel
theorem dX9_init_124 : decode cX9_init 124 = .ok (.return_, 1) := by decide +kernel
theorem dX9_add_0 : decode cX9_add 0 = .ok (.iload_n 2, 1) := by decide +kernel
theorem dX9_add_1 : decode cX9_add 1 = .ok (.iconst 2, 1) := by decide +kernel
theorem dX9_add_2 : decode cX9_add 2 = .ok (.if_icmp .lt 46, 3) := by decide +kernel
theorem dX9_add_5 : decode cX9_add 5 = .ok (.iload_n 2, 1) := by decide +kernel
theorem dX9_add_6 : decode cX9_add 6 = .ok (.iconst 5, 1) := by decide +kernel
theorem dX9_add_7 : decode cX9_add 7 = .ok (.if_icmp .gt 41, 3) := by decide +kernel
theorem dX9_add_10 : decode cX9_add 10 = .ok (.iconst 0, 1) := by decide +kernel
theorem dX9_add_11 : decode cX9_add 11 = .ok (.iload_n 1, 1) := by decide +kernel
theorem dX9_add_12 : decode cX9_add 12 = .ok (.iload_n 2, 1) := by decide +kernel
theorem dX9_add_13 : decode cX9_add 13 = .ok (.invokestatic 60, 3) := by decide +kernel
theorem dX9_add_16 : decode cX9_add 16 = .ok (.ifCond .eq 32, 3) := by decide +kernel
theorem dX9_add_19 : decode cX9_add 19 = .ok (.iconst 1, 1) := by decide +kernel
theorem dX9_add_20 : decode cX9_add 20 = .ok (.iload_n 3, 1) := by decide +kernel
theorem dX9_add_21 : decode cX9_add 21 = .ok (.iload_n 2, 1) := by decide +kernel
theorem dX9_add_22 : decode cX9_add 22 = .ok (.invokestatic 60, 3) := by decide +kernel
theorem dX9_add_25 : decode cX9_add 25 = .ok (.ifCond .eq 23, 3) := by decide +kernel
theorem dX9_add_28 : decode cX9_add 28 = .ok (.iconst 2, 1) := by decide +kernel
theorem dX9_add_29 : decode cX9_add 29 = .ok (.iload 4, 2) := by decide +kernel
theorem dX9_add_31 : decode cX9_add 31 = .ok (.iload_n 2, 1) := by decide +kernel
theorem dX9_add_32 : decode cX9_add 32 = .ok (.invokestatic 60, 3) := by decide +kernel
theorem dX9_add_35 : decode cX9_add 35 = .ok (.ifCond .eq 13, 3) := by decide +kernel
theorem dX9_add_38 : decode cX9_add 38 = .ok (.iconst 3, 1) := by decide +kernel
theorem dX9_add_39 : decode cX9_add 39 = .ok (.iload 5, 2) := by decide +kernel
theorem dX9_add_41 : decode cX9_add 41 = .ok (.iload_n 2, 1) := by decide +kernel
theorem dX9_add_42 : decode cX9_add 42 = .ok (.invokestatic 60, 3) := by decide +kernel
theorem dX9_add_45 : decode cX9_add 45 = .ok (.ifCond .ne 7, 3) := by decide +kernel
theorem dX9_add_48 : decode cX9_add 48 = .ok (.sipush (-1001), 3) := by decide +kernel
theorem dX9_add_51 : decode cX9_add 51 = .ok (.ireturn, 1) := by decide +kernel
theorem dX9_add_52 : decode cX9_add 52 = .ok (.aload_n 0, 1) := by decide +kernel
theorem dX9_add_53 : decode cX9_add 53 = .ok (.getfield 10, 3) := by decide +kernel
theorem dX9_add_56 : decode cX9_add 56 = .ok (.getfield 66, 3) := by decide +kernel
theorem dX9_add_59 : decode cX9_add 59 = .ok (.getfield 70, 3) := by decide +kernel
theorem dX9_add_62 : decode cX9_add 62 = .ok (.ifCond .le 7, 3) := by decide +kernel
theorem dX9_add_65 : decode cX9_add 65 = .ok (.sipush (-1002), 3) := by decide +kernel
theorem dX9_add_68 : decode cX9_add 68 = .ok (.ireturn, 1) := by decide +kernel
theorem dX9_add_69 : decode cX9_add 69 = .ok (.aload_n 0, 1) := by decide +kernel
theorem dX9_add_70 : decode cX9_add 70 = .ok (.getfield 10, 3) := by decide +kernel
theorem dX9_add_73 : decode cX9_add 73 = .ok (.getfield 76, 3) := by decide +kernel
theorem dX9_add_76 : decode cX9_add 76 = .ok (.getfield 80, 3) := by decide +kernel
theorem dX9_add_79 : decode cX9_add 79 = .ok (.bipush 20, 2) := by decide +kernel
theorem dX9_add_81 : decode cX9_add 81 = .ok (.if_icmp .lt 7, 3) := by decide +kernel
theorem dX9_add_84 : decode cX9_add 84 = .ok (.sipush (-1003), 3) := by decide +kernel
theorem dX9_add_87 : decode cX9_add 87 = .ok (.ireturn, 1) := by decide +kernel
theorem dX9_add_88 : decode cX9_add 88 = .ok (.aload_n 0, 1) := by decide +kernel
theorem dX9_add_89 : decode cX9_add 89 = .ok (.invokevirtual 81, 3) := by decide +kernel
theorem dX9_add_92 : decode cX9_add 92 = .ok (.aload_n 0, 1) := by decide +kernel
theorem dX9_add_93 : decode cX9_add 93 = .ok (.getfield 10, 3) := by decide +kernel
theorem dX9_add_96 : decode cX9_add 96 = .ok (.getfield 76, 3) := by decide +kernel
theorem dX9_add_99 : decode cX9_add 99 = .ok (.iload_n 1, 1) := by decide +kernel
theorem dX9_add_100 : decode cX9_add 100 = .ok (.iload_n 2, 1) := by decide +kernel
theorem dX9_add_101 : decode cX9_add 101 = .ok (.iload_n 3, 1) := by decide +kernel
theorem dX9_add_102 : decode cX9_add 102 = .ok (.iload 4, 2) := by decide +kernel
theorem dX9_add_104 : decode cX9_add 104 = .ok (.iload 5, 2) := by decide +kernel
theorem dX9_add_106 : decode cX9_add 106 = .ok (.invokevirtual 84, 3) := by decide +kernel
theorem dX9_add_109 : decode cX9_add 109 = .ok (.ireturn, 1) := by decide +kernel
theorem dX9_remove_0 : decode cX9_remove 0 = .ok (.aload_n 0, 1) := by decide +kernel
theorem dX9_remove_1 : decode cX9_remove 1 = .ok (.getfield 10, 3) := by decide +kernel
theorem dX9_remove_4 : decode cX9_remove 4 = .ok (.getfield 76, 3) := by decide +kernel
theorem dX9_remove_7 : decode cX9_remove 7 = .ok (.iload_n 1, 1) := by decide +kernel
theorem dX9_remove_8 : decode cX9_remove 8 = .ok (.invokevirtual 88, 3) := by decide +kernel
theorem dX9_remove_11 : decode cX9_remove 11 = .ok (.ifCond .ne 7, 3) := by decide +kernel
theorem dX9_remove_14 : decode cX9_remove 14 = .ok (.sipush (-1001), 3) := by decide +kernel
theorem dX9_remove_17 : decode cX9_remove 17 = .ok (.ireturn, 1) := by decide +kernel
theorem dX9_remove_18 : decode cX9_remove 18 = .ok (.aload_n 0, 1) := by decide +kernel
theorem dX9_remove_19 : decode cX9_remove 19 = .ok (.getfield 10, 3) := by decide +kernel
theorem dX9_remove_22 : decode cX9_remove 22 = .ok (.getfield 66, 3) := by decide +kernel
theorem dX9_remove_25 : decode cX9_remove 25 = .ok (.getfield 70, 3) := by decide +kernel
theorem dX9_remove_28 : decode cX9_remove 28 = .ok (.ifCond .le 7, 3) := by decide +kernel
theorem dX9_remove_31 : decode cX9_remove 31 = .ok (.sipush (-1002), 3) := by decide +kernel
theorem dX9_remove_34 : decode cX9_remove 34 = .ok (.ireturn, 1) := by decide +kernel
theorem dX9_remove_35 : decode cX9_remove 35 = .ok (.aload_n 0, 1) := by decide +kernel
theorem dX9_remove_36 : decode cX9_remove 36 = .ok (.invokevirtual 81, 3) := by decide +kernel
theorem dX9_remove_39 : decode cX9_remove 39 = .ok (.aload_n 0, 1) := by decide +kernel
theorem dX9_remove_40 : decode cX9_remove 40 = .ok (.getfield 10, 3) := by decide +kernel
theorem dX9_remove_43 : decode cX9_remove 43 = .ok (.getfield 76, 3) := by decide +kernel
theorem dX9_remove_46 : decode cX9_remove 46 = .ok (.iload_n 1, 1) := by decide +kernel
theorem dX9_remove_47 : decode cX9_remove 47 = .ok (.invokevirtual 92, 3) := by decide +kernel
theorem dX9_remove_50 : decode cX9_remove 50 = .ok (.aload_n 0, 1) := by decide +kernel
theorem dX9_remove_51 : decode cX9_remove 51 = .ok (.getfield 10, 3) := by decide +kernel
theorem dX9_remove_54 : decode cX9_remove 54 = .ok (.getfield 76, 3) := by decide +kernel
theorem dX9_remove_57 : decode cX9_remove 57 = .ok (.getfield 80, 3) := by decide +kernel
theorem dX9_remove_60 : decode cX9_remove 60 = .ok (.ireturn, 1) := by decide +kernel
theorem dX9_change_0 : decode cX9_change 0 = .ok (.aload_n 0, 1) := by decide +kernel
theorem dX9_change_1 : decode cX9_change 1 = .ok (.getfield 10, 3) := by decide +kernel
theorem dX9_change_4 : decode cX9_change 4 = .ok (.getfield 76, 3) := by decide +kernel
theorem dX9_change_7 : decode cX9_change 7 = .ok (.iload_n 1, 1) := by decide +kernel
theorem dX9_change_8 : decode cX9_change 8 = .ok (.invokevirtual 88, 3) := by decide +kernel
theorem dX9_change_11 : decode cX9_change 11 = .ok (.ifCond .eq 23, 3) := by decide +kernel
theorem dX9_change_14 : decode cX9_change 14 = .ok (.iload_n 2, 1) := by decide +kernel
theorem dX9_change_15 : decode cX9_change 15 = .ok (.iload_n 3, 1) := by decide +kernel
theorem dX9_change_16 : decode cX9_change 16 = .ok (.aload_n 0, 1) := by decide +kernel
theorem dX9_change_17 : decode cX9_change 17 = .ok (.getfield 10, 3) := by decide +kernel
theorem dX9_change_20 : decode cX9_change 20 = .ok (.getfield 76, 3) := by decide +kernel
theorem dX9_change_23 : decode cX9_change 23 = .ok (.iload_n 1, 1) := by decide +kernel
theorem dX9_change_24 : decode cX9_change 24 = .ok (.iconst 4, 1) := by decide +kernel
theorem dX9_change_25 : decode cX9_change 25 = .ok (.invokevirtual 95, 3) := by decide +kernel
theorem dX9_change_28 : decode cX9_change 28 = .ok (.invokestatic 60, 3) := by decide +kernel
theorem dX9_change_31 : decode cX9_change 31 = .ok (.ifCond .ne 7, 3) := by decide +kernel
theorem dX9_change_34 : decode cX9_change 34 = .ok (.sipush (-1001), 3) := by decide +kernel
theorem dX9_change_37 : decode cX9_change 37 = .ok (.ireturn, 1) := by decide +kernel
theorem dX9_change_38 : decode cX9_change 38 = .ok (.aload_n 0, 1) := by decide +kernel
theorem dX9_change_39 : decode cX9_change 39 = .ok (.getfield 10, 3) := by decide +kernel
theorem dX9_change_42 : decode cX9_change 42 = .ok (.getfield 66, 3) := by decide +kernel
theorem dX9_change_45 : decode cX9_change 45 = .ok (.getfield 70, 3) := by decide +kernel
theorem dX9_change_48 : decode cX9_change 48 = .ok (.ifCond .le 7, 3) := by decide +kernel
theorem dX9_change_51 : decode cX9_change 51 = .ok (.sipush (-1002), 3) := by decide +kernel
theorem dX9_change_54 : decode cX9_change 54 = .ok (.ireturn, 1) := by decide +kernel
theorem dX9_change_55 : decode cX9_change 55 = .ok (.aload_n 0, 1) := by decide +kernel
theorem dX9_change_56 : decode cX9_change 56 = .ok (.invokevirtual 81, 3) := by decide +kernel
theorem dX9_change_59 : decode cX9_change 59 = .ok (.aload_n 0, 1) := by decide +kernel
theorem dX9_change_60 : decode cX9_change 60 = .ok (.getfield 10, 3) := by decide +kernel
theorem dX9_change_63 : decode cX9_change 63 = .ok (.getfield 76, 3) := by decide +kernel
theorem dX9_change_66 : decode cX9_change 66 = .ok (.iload_n 1, 1) := by decide +kernel
theorem dX9_change_67 : decode cX9_change 67 = .ok (.iload_n 2, 1) := by decide +kernel
theorem dX9_change_68 : decode cX9_change 68 = .ok (.invokevirtual 95, 3) := by decide +kernel
theorem dX9_change_71 : decode cX9_change 71 = .ok (.istore 4, 2) := by decide +kernel
theorem dX9_change_73 : decode cX9_change 73 = .ok (.aload_n 0, 1) := by decide +kernel
theorem dX9_change_74 : decode cX9_change 74 = .ok (.getfield 10, 3) := by decide +kernel
theorem dX9_change_77 : decode cX9_change 77 = .ok (.getfield 76, 3) := by decide +kernel
theorem dX9_change_80 : decode cX9_change 80 = .ok (.iload_n 1, 1) := by decide +kernel
theorem dX9_change_81 : decode cX9_change 81 = .ok (.iload_n 2, 1) := by decide +kernel
theorem dX9_change_82 : decode cX9_change 82 = .ok (.iload_n 3, 1) := by decide +kernel
theorem dX9_change_83 : decode cX9_change 83 = .ok (.invokevirtual 99, 3) := by decide +kernel
theorem dX9_change_86 : decode cX9_change 86 = .ok (.iload 4, 2) := by decide +kernel
theorem dX9_change_88 : decode cX9_change 88 = .ok (.ireturn, 1) := by decide +kernel
theorem dX9_question_0 : decode cX9_question 0 = .ok (.aload_n 0, 1) := by decide +kernel
theorem dX9_question_1 : decode cX9_question 1 = .ok (.getfield 10, 3) := by decide +kernel
theorem dX9_question_4 : decode cX9_question 4 = .ok (.getfield 76, 3) := by decide +kernel
theorem dX9_question_7 : decode cX9_question 7 = .ok (.iload_n 1, 1) := by decide +kernel
theorem dX9_question_8 : decode cX9_question 8 = .ok (.invokevirtual 88, 3) := by decide +kernel
theorem dX9_question_11 : decode cX9_question 11 = .ok (.ifCond .eq 12, 3) := by decide +kernel
theorem dX9_question_14 : decode cX9_question 14 = .ok (.iload_n 2, 1) := by decide +kernel
theorem dX9_question_15 : decode cX9_question 15 = .ok (.ifCond .lt 8, 3) := by decide +kernel
theorem dX9_question_18 : decode cX9_question 18 = .ok (.iload_n 2, 1) := by decide +kernel
theorem dX9_question_19 : decode cX9_question 19 = .ok (.iconst 5, 1) := by decide +kernel
theorem dX9_question_20 : decode cX9_question 20 = .ok (.if_icmp .lt 7, 3) := by decide +kernel
theorem dX9_question_23 : decode cX9_question 23 = .ok (.sipush (-1001), 3) := by decide +kernel
theorem dX9_question_26 : decode cX9_question 26 = .ok (.ireturn, 1) := by decide +kernel
theorem dX9_question_27 : decode cX9_question 27 = .ok (.aload_n 0, 1) := by decide +kernel
theorem dX9_question_28 : decode cX9_question 28 = .ok (.getfield 10, 3) := by decide +kernel
theorem dX9_question_31 : decode cX9_question 31 = .ok (.getfield 76, 3) := by decide +kernel
theorem dX9_question_34 : decode cX9_question 34 = .ok (.iload_n 1, 1) := by decide +kernel
theorem dX9_question_35 : decode cX9_question 35 = .ok (.iload_n 2, 1) := by decide +kernel
theorem dX9_question_36 : decode cX9_question 36 = .ok (.invokevirtual 95, 3) := by decide +kernel
theorem dX9_question_39 : decode cX9_question 39 = .ok (.ireturn, 1) := by decide +kernel
theorem dX9_questions_0 : decode cX9_questions 0 = .ok (.aload_n 0, 1) := by decide +kernel
theorem dX9_questions_1 : decode cX9_questions 1 = .ok (.getfield 10, 3) := by decide +kernel
theorem dX9_questions_4 : decode cX9_questions 4 = .ok (.getfield 76, 3) := by decide +kernel
theorem dX9_questions_7 : decode cX9_questions 7 = .ok (.getfield 80, 3) := by decide +kernel
theorem dX9_questions_10 : decode cX9_questions 10 = .ok (.ireturn, 1) := by decide +kernel
theorem dX9_version_0 : decode cX9_version 0 = .ok (.aload_n 0, 1) := by decide +kernel
theorem dX9_version_1 : decode cX9_version 1 = .ok (.getfield 10, 3) := by decide +kernel
theorem dX9_version_4 : decode cX9_version 4 = .ok (.getfield 66, 3) := by decide +kernel
theorem dX9_version_7 : decode cX9_version 7 = .ok (.getfield 70, 3) := by decide +kernel
theorem dX9_version_10 : decode cX9_version 10 = .ok (.ifCond .le 7, 3) := by decide +kernel
theorem dX9_version_13 : decode cX9_version 13 = .ok (.sipush (-1002), 3) := by decide +kernel
theorem dX9_version_16 : decode cX9_version 16 = .ok (.ireturn, 1) := by decide +kernel
theorem dX9_version_17 : decode cX9_version 17 = .ok (.aload_n 0, 1) := by decide +kernel
theorem dX9_version_18 : decode cX9_version 18 = .ok (.getfield 10, 3) := by decide +kernel
theorem dX9_version_21 : decode cX9_version 21 = .ok (.getfield 103, 3) := by decide +kernel
theorem dX9_version_24 : decode cX9_version 24 = .ok (.bipush 6, 2) := by decide +kernel
theorem dX9_version_26 : decode cX9_version 26 = .ok (.if_icmp .lt 7, 3) := by decide +kernel
theorem dX9_version_29 : decode cX9_version 29 = .ok (.sipush (-1003), 3) := by decide +kernel
theorem dX9_version_32 : decode cX9_version 32 = .ok (.ireturn, 1) := by decide +kernel
theorem dX9_version_33 : decode cX9_version 33 = .ok (.aload_n 0, 1) := by decide +kernel
theorem dX9_version_34 : decode cX9_version 34 = .ok (.invokevirtual 81, 3) := by decide +kernel
theorem dX9_version_37 : decode cX9_version 37 = .ok (.aload_n 0, 1) := by decide +kernel
theorem dX9_version_38 : decode cX9_version 38 = .ok (.getfield 10, 3) := by decide +kernel
theorem dX9_version_41 : decode cX9_version 41 = .ok (.getfield 103, 3) := by decide +kernel
theorem dX9_version_44 : decode cX9_version 44 = .ok (.istore_n 2, 1) := by decide +kernel
theorem dX9_version_45 : decode cX9_version 45 = .ok (.aload_n 0, 1) := by decide +kernel
theorem dX9_version_46 : decode cX9_version 46 = .ok (.getfield 10, 3) := by decide +kernel
theorem dX9_version_49 : decode cX9_version 49 = .ok (.getfield 106, 3) := by decide +kernel
theorem dX9_version_52 : decode cX9_version 52 = .ok (.iload_n 2, 1) := by decide +kernel
theorem dX9_version_53 : decode cX9_version 53 = .ok (.iload_n 1, 1) := by decide +kernel
theorem dX9_version_54 : decode cX9_version 54 = .ok (.invokevirtual 109, 3) := by decide +kernel
theorem dX9_version_57 : decode cX9_version 57 = .ok (.aload_n 0, 1) := by decide +kernel
theorem dX9_version_58 : decode cX9_version 58 = .ok (.getfield 10, 3) := by decide +kernel
theorem dX9_version_61 : decode cX9_version 61 = .ok (.dup, 1) := by decide +kernel
theorem dX9_version_62 : decode cX9_version 62 = .ok (.getfield 103, 3) := by decide +kernel
theorem dX9_version_65 : decode cX9_version 65 = .ok (.iconst 1, 1) := by decide +kernel
theorem dX9_version_66 : decode cX9_version 66 = .ok (.iadd, 1) := by decide +kernel
theorem dX9_version_67 : decode cX9_version 67 = .ok (.putfield 103, 3) := by decide +kernel
theorem dX9_version_70 : decode cX9_version 70 = .ok (.iload_n 2, 1) := by decide +kernel
theorem dX9_version_71 : decode cX9_version 71 = .ok (.ireturn, 1) := by decide +kernel
theorem dX9_drop_0 : decode cX9_drop 0 = .ok (.aload_n 0, 1) := by decide +kernel
theorem dX9_drop_1 : decode cX9_drop 1 = .ok (.getfield 10, 3) := by decide +kernel
theorem dX9_drop_4 : decode cX9_drop 4 = .ok (.getfield 66, 3) := by decide +kernel
theorem dX9_drop_7 : decode cX9_drop 7 = .ok (.getfield 70, 3) := by decide +kernel
theorem dX9_drop_10 : decode cX9_drop 10 = .ok (.ifCond .gt 13, 3) := by decide +kernel
theorem dX9_drop_13 : decode cX9_drop 13 = .ok (.aload_n 0, 1) := by decide +kernel
theorem dX9_drop_14 : decode cX9_drop 14 = .ok (.getfield 10, 3) := by decide +kernel
theorem dX9_drop_17 : decode cX9_drop 17 = .ok (.getfield 103, 3) := by decide +kernel
theorem dX9_drop_20 : decode cX9_drop 20 = .ok (.ifCond .ne 7, 3) := by decide +kernel
theorem dX9_drop_23 : decode cX9_drop 23 = .ok (.ldc2_w 113, 3) := by decide +kernel
theorem dX9_drop_26 : decode cX9_drop 26 = .ok (.lreturn, 1) := by decide +kernel
theorem dX9_drop_27 : decode cX9_drop 27 = .ok (.aload_n 0, 1) := by decide +kernel
theorem dX9_drop_28 : decode cX9_drop 28 = .ok (.invokevirtual 81, 3) := by decide +kernel
theorem dX9_drop_31 : decode cX9_drop 31 = .ok (.aload_n 0, 1) := by decide +kernel
theorem dX9_drop_32 : decode cX9_drop 32 = .ok (.getfield 10, 3) := by decide +kernel
theorem dX9_drop_35 : decode cX9_drop 35 = .ok (.dup, 1) := by decide +kernel
theorem dX9_drop_36 : decode cX9_drop 36 = .ok (.getfield 103, 3) := by decide +kernel
theorem dX9_drop_39 : decode cX9_drop 39 = .ok (.iconst 1, 1) := by decide +kernel
theorem dX9_drop_40 : decode cX9_drop 40 = .ok (.isub, 1) := by decide +kernel
theorem dX9_drop_41 : decode cX9_drop 41 = .ok (.putfield 103, 3) := by decide +kernel
theorem dX9_drop_44 : decode cX9_drop 44 = .ok (.aload_n 0, 1) := by decide +kernel
theorem dX9_drop_45 : decode cX9_drop 45 = .ok (.getfield 10, 3) := by decide +kernel
theorem dX9_drop_48 : decode cX9_drop 48 = .ok (.getfield 106, 3) := by decide +kernel
theorem dX9_drop_51 : decode cX9_drop 51 = .ok (.aload_n 0, 1) := by decide +kernel
theorem dX9_drop_52 : decode cX9_drop 52 = .ok (.getfield 10, 3) := by decide +kernel
theorem dX9_drop_55 : decode cX9_drop 55 = .ok (.getfield 103, 3) := by decide +kernel
theorem dX9_drop_58 : decode cX9_drop 58 = .ok (.invokevirtual 115, 3) := by decide +kernel
theorem dX9_drop_61 : decode cX9_drop 61 = .ok (.i2l, 1) := by decide +kernel
theorem dX9_drop_62 : decode cX9_drop 62 = .ok (.lreturn, 1) := by decide +kernel
theorem dX9_versions_0 : decode cX9_versions 0 = .ok (.aload_n 0, 1) := by decide +kernel
theorem dX9_versions_1 : decode cX9_versions 1 = .ok (.getfield 10, 3) := by decide +kernel
theorem dX9_versions_4 : decode cX9_versions 4 = .ok (.getfield 103, 3) := by decide +kernel
theorem dX9_versions_7 : decode cX9_versions 7 = .ok (.ireturn, 1) := by decide +kernel
theorem dX9_at_0 : decode cX9_at 0 = .ok (.aload_n 0, 1) := by decide +kernel
theorem dX9_at_1 : decode cX9_at 1 = .ok (.iload_n 1, 1) := by decide +kernel
theorem dX9_at_2 : decode cX9_at 2 = .ok (.invokevirtual 119, 3) := by decide +kernel
theorem dX9_at_5 : decode cX9_at 5 = .ok (.astore 4, 2) := by decide +kernel
theorem dX9_at_7 : decode cX9_at 7 = .ok (.aload 4, 2) := by decide +kernel
theorem dX9_at_9 : decode cX9_at 9 = .ok (.ifnull 21, 3) := by decide +kernel
theorem dX9_at_12 : decode cX9_at 12 = .ok (.aload 4, 2) := by decide +kernel
theorem dX9_at_14 : decode cX9_at 14 = .ok (.iload_n 2, 1) := by decide +kernel
theorem dX9_at_15 : decode cX9_at 15 = .ok (.invokevirtual 123, 3) := by decide +kernel
theorem dX9_at_18 : decode cX9_at 18 = .ok (.ifCond .eq 12, 3) := by decide +kernel
theorem dX9_at_21 : decode cX9_at 21 = .ok (.iload_n 3, 1) := by decide +kernel
theorem dX9_at_22 : decode cX9_at 22 = .ok (.ifCond .lt 8, 3) := by decide +kernel
theorem dX9_at_25 : decode cX9_at 25 = .ok (.iload_n 3, 1) := by decide +kernel
theorem dX9_at_26 : decode cX9_at 26 = .ok (.iconst 3, 1) := by decide +kernel
theorem dX9_at_27 : decode cX9_at 27 = .ok (.if_icmp .le 7, 3) := by decide +kernel
theorem dX9_at_30 : decode cX9_at 30 = .ok (.sipush (-1001), 3) := by decide +kernel
theorem dX9_at_33 : decode cX9_at 33 = .ok (.ireturn, 1) := by decide +kernel
theorem dX9_at_34 : decode cX9_at 34 = .ok (.aload 4, 2) := by decide +kernel
theorem dX9_at_36 : decode cX9_at 36 = .ok (.iload_n 2, 1) := by decide +kernel
theorem dX9_at_37 : decode cX9_at 37 = .ok (.iload_n 3, 1) := by decide +kernel
theorem dX9_at_38 : decode cX9_at 38 = .ok (.invokevirtual 126, 3) := by decide +kernel
theorem dX9_at_41 : decode cX9_at 41 = .ok (.ireturn, 1) := by decide +kernel
theorem dX9_where_0 : decode cX9_where 0 = .ok (.aload_n 0, 1) := by decide +kernel
theorem dX9_where_1 : decode cX9_where 1 = .ok (.iload_n 1, 1) := by decide +kernel
theorem dX9_where_2 : decode cX9_where 2 = .ok (.invokevirtual 119, 3) := by decide +kernel
theorem dX9_where_5 : decode cX9_where 5 = .ok (.astore_n 3, 1) := by decide +kernel
theorem dX9_where_6 : decode cX9_where 6 = .ok (.aload_n 3, 1) := by decide +kernel
theorem dX9_where_7 : decode cX9_where 7 = .ok (.ifnull 17, 3) := by decide +kernel
theorem dX9_where_10 : decode cX9_where 10 = .ok (.aload_n 0, 1) := by decide +kernel
theorem dX9_where_11 : decode cX9_where 11 = .ok (.getfield 10, 3) := by decide +kernel
theorem dX9_where_14 : decode cX9_where 14 = .ok (.getfield 76, 3) := by decide +kernel
theorem dX9_where_17 : decode cX9_where 17 = .ok (.iload_n 2, 1) := by decide +kernel
theorem dX9_where_18 : decode cX9_where 18 = .ok (.invokevirtual 88, 3) := by decide +kernel
theorem dX9_where_21 : decode cX9_where 21 = .ok (.ifCond .ne 7, 3) := by decide +kernel
theorem dX9_where_24 : decode cX9_where 24 = .ok (.sipush (-1001), 3) := by decide +kernel
theorem dX9_where_27 : decode cX9_where 27 = .ok (.ireturn, 1) := by decide +kernel
theorem dX9_where_28 : decode cX9_where 28 = .ok (.aload_n 3, 1) := by decide +kernel
theorem dX9_where_29 : decode cX9_where 29 = .ok (.getfield 127, 3) := by decide +kernel
theorem dX9_where_32 : decode cX9_where 32 = .ok (.iload_n 2, 1) := by decide +kernel
theorem dX9_where_33 : decode cX9_where 33 = .ok (.invokevirtual 115, 3) := by decide +kernel
theorem dX9_where_36 : decode cX9_where 36 = .ok (.ireturn, 1) := by decide +kernel
theorem dX9_choice_0 : decode cX9_choice 0 = .ok (.aload_n 0, 1) := by decide +kernel
theorem dX9_choice_1 : decode cX9_choice 1 = .ok (.iload_n 1, 1) := by decide +kernel
theorem dX9_choice_2 : decode cX9_choice 2 = .ok (.invokevirtual 119, 3) := by decide +kernel
theorem dX9_choice_5 : decode cX9_choice 5 = .ok (.astore 4, 2) := by decide +kernel
theorem dX9_choice_7 : decode cX9_choice 7 = .ok (.aload 4, 2) := by decide +kernel
theorem dX9_choice_9 : decode cX9_choice 9 = .ok (.ifnull 27, 3) := by decide +kernel
theorem dX9_choice_12 : decode cX9_choice 12 = .ok (.aload 4, 2) := by decide +kernel
theorem dX9_choice_14 : decode cX9_choice 14 = .ok (.iload_n 2, 1) := by decide +kernel
theorem dX9_choice_15 : decode cX9_choice 15 = .ok (.invokevirtual 123, 3) := by decide +kernel
theorem dX9_choice_18 : decode cX9_choice 18 = .ok (.ifCond .eq 18, 3) := by decide +kernel
theorem dX9_choice_21 : decode cX9_choice 21 = .ok (.iload_n 3, 1) := by decide +kernel
theorem dX9_choice_22 : decode cX9_choice 22 = .ok (.ifCond .lt 14, 3) := by decide +kernel
theorem dX9_choice_25 : decode cX9_choice 25 = .ok (.iload_n 3, 1) := by decide +kernel
theorem dX9_choice_26 : decode cX9_choice 26 = .ok (.aload_n 0, 1) := by decide +kernel
theorem dX9_choice_27 : decode cX9_choice 27 = .ok (.aload 4, 2) := by decide +kernel
theorem dX9_choice_29 : decode cX9_choice 29 = .ok (.iload_n 2, 1) := by decide +kernel
theorem dX9_choice_30 : decode cX9_choice 30 = .ok (.invokevirtual 130, 3) := by decide +kernel
theorem dX9_choice_33 : decode cX9_choice 33 = .ok (.if_icmp .lt 7, 3) := by decide +kernel
theorem dX9_choice_36 : decode cX9_choice 36 = .ok (.sipush (-1001), 3) := by decide +kernel
theorem dX9_choice_39 : decode cX9_choice 39 = .ok (.ireturn, 1) := by decide +kernel
theorem dX9_choice_40 : decode cX9_choice 40 = .ok (.aload 4, 2) := by decide +kernel
theorem dX9_choice_42 : decode cX9_choice 42 = .ok (.iload_n 2, 1) := by decide +kernel
theorem dX9_choice_43 : decode cX9_choice 43 = .ok (.iload_n 3, 1) := by decide +kernel
theorem dX9_choice_44 : decode cX9_choice 44 = .ok (.invokevirtual 134, 3) := by decide +kernel
theorem dX9_choice_47 : decode cX9_choice 47 = .ok (.ireturn, 1) := by decide +kernel
theorem dX9_alike_0 : decode cX9_alike 0 = .ok (.aload_n 0, 1) := by decide +kernel
theorem dX9_alike_1 : decode cX9_alike 1 = .ok (.iload_n 1, 1) := by decide +kernel
theorem dX9_alike_2 : decode cX9_alike 2 = .ok (.invokevirtual 119, 3) := by decide +kernel
theorem dX9_alike_5 : decode cX9_alike 5 = .ok (.astore 4, 2) := by decide +kernel
theorem dX9_alike_7 : decode cX9_alike 7 = .ok (.aload_n 0, 1) := by decide +kernel
theorem dX9_alike_8 : decode cX9_alike 8 = .ok (.iload_n 2, 1) := by decide +kernel
theorem dX9_alike_9 : decode cX9_alike 9 = .ok (.invokevirtual 119, 3) := by decide +kernel
theorem dX9_alike_12 : decode cX9_alike 12 = .ok (.astore 5, 2) := by decide +kernel
theorem dX9_alike_14 : decode cX9_alike 14 = .ok (.aload 4, 2) := by decide +kernel
theorem dX9_alike_16 : decode cX9_alike 16 = .ok (.ifnull 8, 3) := by decide +kernel
theorem dX9_alike_19 : decode cX9_alike 19 = .ok (.aload 5, 2) := by decide +kernel
theorem dX9_alike_21 : decode cX9_alike 21 = .ok (.ifnonnull 7, 3) := by decide +kernel
theorem dX9_alike_24 : decode cX9_alike 24 = .ok (.sipush (-1001), 3) := by decide +kernel
theorem dX9_alike_27 : decode cX9_alike 27 = .ok (.ireturn, 1) := by decide +kernel
theorem dX9_alike_28 : decode cX9_alike 28 = .ok (.iload_n 3, 1) := by decide +kernel
theorem dX9_alike_29 : decode cX9_alike 29 = .ok (.tableswitch 73 0 2 #[27, 46, 65], 27) := by decide +kernel
theorem dX9_alike_56 : decode cX9_alike 56 = .ok (.aload 4, 2) := by decide +kernel
theorem dX9_alike_58 : decode cX9_alike 58 = .ok (.getfield 137, 3) := by decide +kernel
theorem dX9_alike_61 : decode cX9_alike 61 = .ok (.aload 5, 2) := by decide +kernel
theorem dX9_alike_63 : decode cX9_alike 63 = .ok (.getfield 137, 3) := by decide +kernel
theorem dX9_alike_66 : decode cX9_alike 66 = .ok (.aload 4, 2) := by decide +kernel
theorem dX9_alike_68 : decode cX9_alike 68 = .ok (.getfield 140, 3) := by decide +kernel
theorem dX9_alike_71 : decode cX9_alike 71 = .ok (.invokevirtual 141, 3) := by decide +kernel
theorem dX9_alike_74 : decode cX9_alike 74 = .ok (.ireturn, 1) := by decide +kernel
theorem dX9_alike_75 : decode cX9_alike 75 = .ok (.aload 4, 2) := by decide +kernel
theorem dX9_alike_77 : decode cX9_alike 77 = .ok (.getfield 145, 3) := by decide +kernel
theorem dX9_alike_80 : decode cX9_alike 80 = .ok (.aload 5, 2) := by decide +kernel
theorem dX9_alike_82 : decode cX9_alike 82 = .ok (.getfield 145, 3) := by decide +kernel
theorem dX9_alike_85 : decode cX9_alike 85 = .ok (.aload 4, 2) := by decide +kernel
theorem dX9_alike_87 : decode cX9_alike 87 = .ok (.getfield 140, 3) := by decide +kernel
theorem dX9_alike_90 : decode cX9_alike 90 = .ok (.invokevirtual 141, 3) := by decide +kernel
theorem dX9_alike_93 : decode cX9_alike 93 = .ok (.ireturn, 1) := by decide +kernel
theorem dX9_alike_94 : decode cX9_alike 94 = .ok (.aload 4, 2) := by decide +kernel
theorem dX9_alike_96 : decode cX9_alike 96 = .ok (.aload 5, 2) := by decide +kernel
theorem dX9_alike_98 : decode cX9_alike 98 = .ok (.invokevirtual 148, 3) := by decide +kernel
theorem dX9_alike_101 : decode cX9_alike 101 = .ok (.ireturn, 1) := by decide +kernel
theorem dX9_alike_102 : decode cX9_alike 102 = .ok (.sipush (-1001), 3) := by decide +kernel
theorem dX9_alike_105 : decode cX9_alike 105 = .ok (.ireturn, 1) := by decide +kernel
theorem dX9_unlike_0 : decode cX9_unlike 0 = .ok (.iload_n 2, 1) := by decide +kernel
theorem dX9_unlike_1 : decode cX9_unlike 1 = .ok (.iconst 1, 1) := by decide +kernel
theorem dX9_unlike_2 : decode cX9_unlike 2 = .ok (.if_icmp .lt 9, 3) := by decide +kernel
theorem dX9_unlike_5 : decode cX9_unlike 5 = .ok (.iload_n 2, 1) := by decide +kernel
theorem dX9_unlike_6 : decode cX9_unlike 6 = .ok (.bipush 40, 2) := by decide +kernel
theorem dX9_unlike_8 : decode cX9_unlike 8 = .ok (.if_icmp .le 7, 3) := by decide +kernel
theorem dX9_unlike_11 : decode cX9_unlike 11 = .ok (.ldc2_w 152, 3) := by decide +kernel
theorem dX9_unlike_14 : decode cX9_unlike 14 = .ok (.lreturn, 1) := by decide +kernel
theorem dX9_unlike_15 : decode cX9_unlike 15 = .ok (.iload_n 1, 1) := by decide +kernel
theorem dX9_unlike_16 : decode cX9_unlike 16 = .ok (.istore_n 3, 1) := by decide +kernel
theorem dX9_unlike_17 : decode cX9_unlike 17 = .ok (.bipush 21, 2) := by decide +kernel
theorem dX9_unlike_19 : decode cX9_unlike 19 = .ok (.istore 4, 2) := by decide +kernel
theorem dX9_unlike_21 : decode cX9_unlike 21 = .ok (.iconst 0, 1) := by decide +kernel
theorem dX9_unlike_22 : decode cX9_unlike 22 = .ok (.istore 5, 2) := by decide +kernel
theorem dX9_unlike_24 : decode cX9_unlike 24 = .ok (.iload 5, 2) := by decide +kernel
theorem dX9_unlike_26 : decode cX9_unlike 26 = .ok (.iload_n 2, 1) := by decide +kernel
theorem dX9_unlike_27 : decode cX9_unlike 27 = .ok (.if_icmp .ge 35, 3) := by decide +kernel
theorem dX9_unlike_30 : decode cX9_unlike 30 = .ok (.aload_n 0, 1) := by decide +kernel
theorem dX9_unlike_31 : decode cX9_unlike 31 = .ok (.iload_n 1, 1) := by decide +kernel
theorem dX9_unlike_32 : decode cX9_unlike 32 = .ok (.iload 5, 2) := by decide +kernel
theorem dX9_unlike_34 : decode cX9_unlike 34 = .ok (.iadd, 1) := by decide +kernel
theorem dX9_unlike_35 : decode cX9_unlike 35 = .ok (.invokevirtual 154, 3) := by decide +kernel
theorem dX9_unlike_38 : decode cX9_unlike 38 = .ok (.istore 6, 2) := by decide +kernel
theorem dX9_unlike_40 : decode cX9_unlike 40 = .ok (.iload 6, 2) := by decide +kernel
theorem dX9_unlike_42 : decode cX9_unlike 42 = .ok (.iload 4, 2) := by decide +kernel
theorem dX9_unlike_44 : decode cX9_unlike 44 = .ok (.if_icmp .ge 12, 3) := by decide +kernel
theorem dX9_unlike_47 : decode cX9_unlike 47 = .ok (.iload 6, 2) := by decide +kernel
theorem dX9_unlike_49 : decode cX9_unlike 49 = .ok (.istore 4, 2) := by decide +kernel
theorem dX9_unlike_51 : decode cX9_unlike 51 = .ok (.iload_n 1, 1) := by decide +kernel
theorem dX9_unlike_52 : decode cX9_unlike 52 = .ok (.iload 5, 2) := by decide +kernel
theorem dX9_unlike_54 : decode cX9_unlike 54 = .ok (.iadd, 1) := by decide +kernel
theorem dX9_unlike_55 : decode cX9_unlike 55 = .ok (.istore_n 3, 1) := by decide +kernel
theorem dX9_unlike_56 : decode cX9_unlike 56 = .ok (.iinc 5 1, 3) := by decide +kernel
theorem dX9_unlike_59 : decode cX9_unlike 59 = .ok (.goto (-35), 3) := by decide +kernel
theorem dX9_unlike_62 : decode cX9_unlike 62 = .ok (.iload_n 3, 1) := by decide +kernel
theorem dX9_unlike_63 : decode cX9_unlike 63 = .ok (.i2l, 1) := by decide +kernel
theorem dX9_unlike_64 : decode cX9_unlike 64 = .ok (.lreturn, 1) := by decide +kernel
theorem dX9_setLines_0 : decode cX9_setLines 0 = .ok (.iload_n 1, 1) := by decide +kernel
theorem dX9_setLines_1 : decode cX9_setLines 1 = .ok (.bipush 9, 2) := by decide +kernel
theorem dX9_setLines_3 : decode cX9_setLines 3 = .ok (.if_icmp .lt 9, 3) := by decide +kernel
theorem dX9_setLines_6 : decode cX9_setLines 6 = .ok (.iload_n 1, 1) := by decide +kernel
theorem dX9_setLines_7 : decode cX9_setLines 7 = .ok (.bipush 60, 2) := by decide +kernel
theorem dX9_setLines_9 : decode cX9_setLines 9 = .ok (.if_icmp .le 7, 3) := by decide +kernel
theorem dX9_setLines_12 : decode cX9_setLines 12 = .ok (.sipush (-1001), 3) := by decide +kernel
theorem dX9_setLines_15 : decode cX9_setLines 15 = .ok (.ireturn, 1) := by decide +kernel
theorem dX9_setLines_16 : decode cX9_setLines 16 = .ok (.aload_n 0, 1) := by decide +kernel
theorem dX9_setLines_17 : decode cX9_setLines 17 = .ok (.invokevirtual 81, 3) := by decide +kernel
theorem dX9_setLines_20 : decode cX9_setLines 20 = .ok (.aload_n 0, 1) := by decide +kernel
theorem dX9_setLines_21 : decode cX9_setLines 21 = .ok (.getfield 10, 3) := by decide +kernel
theorem dX9_setLines_24 : decode cX9_setLines 24 = .ok (.getfield 157, 3) := by decide +kernel
theorem dX9_setLines_27 : decode cX9_setLines 27 = .ok (.istore_n 2, 1) := by decide +kernel
theorem dX9_setLines_28 : decode cX9_setLines 28 = .ok (.aload_n 0, 1) := by decide +kernel
theorem dX9_setLines_29 : decode cX9_setLines 29 = .ok (.getfield 10, 3) := by decide +kernel
theorem dX9_setLines_32 : decode cX9_setLines 32 = .ok (.iload_n 1, 1) := by decide +kernel
theorem dX9_setLines_33 : decode cX9_setLines 33 = .ok (.putfield 157, 3) := by decide +kernel
theorem dX9_setLines_36 : decode cX9_setLines 36 = .ok (.iload_n 2, 1) := by decide +kernel
theorem dX9_setLines_37 : decode cX9_setLines 37 = .ok (.ireturn, 1) := by decide +kernel
theorem dX9_pages_0 : decode cX9_pages 0 = .ok (.aload_n 0, 1) := by decide +kernel
theorem dX9_pages_1 : decode cX9_pages 1 = .ok (.iload_n 1, 1) := by decide +kernel
theorem dX9_pages_2 : decode cX9_pages 2 = .ok (.invokevirtual 119, 3) := by decide +kernel
theorem dX9_pages_5 : decode cX9_pages 5 = .ok (.astore_n 2, 1) := by decide +kernel
theorem dX9_pages_6 : decode cX9_pages 6 = .ok (.aload_n 2, 1) := by decide +kernel
theorem dX9_pages_7 : decode cX9_pages 7 = .ok (.ifnonnull 9, 3) := by decide +kernel
theorem dX9_pages_10 : decode cX9_pages 10 = .ok (.sipush (-1001), 3) := by decide +kernel
theorem dX9_pages_13 : decode cX9_pages 13 = .ok (.goto 10, 3) := by decide +kernel
theorem dX9_pages_16 : decode cX9_pages 16 = .ok (.aload_n 2, 1) := by decide +kernel
theorem dX9_pages_17 : decode cX9_pages 17 = .ok (.getfield 160, 3) := by decide +kernel
theorem dX9_pages_20 : decode cX9_pages 20 = .ok (.getfield 164, 3) := by decide +kernel
theorem dX9_pages_23 : decode cX9_pages 23 = .ok (.ireturn, 1) := by decide +kernel
theorem dX9_page_0 : decode cX9_page 0 = .ok (.aload_n 0, 1) := by decide +kernel
theorem dX9_page_1 : decode cX9_page 1 = .ok (.iload_n 1, 1) := by decide +kernel
theorem dX9_page_2 : decode cX9_page 2 = .ok (.invokevirtual 119, 3) := by decide +kernel
theorem dX9_page_5 : decode cX9_page 5 = .ok (.astore 4, 2) := by decide +kernel
theorem dX9_page_7 : decode cX9_page 7 = .ok (.aload 4, 2) := by decide +kernel
theorem dX9_page_9 : decode cX9_page 9 = .ok (.ifnull 28, 3) := by decide +kernel
theorem dX9_page_12 : decode cX9_page 12 = .ok (.iload_n 2, 1) := by decide +kernel
theorem dX9_page_13 : decode cX9_page 13 = .ok (.ifCond .lt 24, 3) := by decide +kernel
theorem dX9_page_16 : decode cX9_page 16 = .ok (.iload_n 2, 1) := by decide +kernel
theorem dX9_page_17 : decode cX9_page 17 = .ok (.aload 4, 2) := by decide +kernel
theorem dX9_page_19 : decode cX9_page 19 = .ok (.getfield 160, 3) := by decide +kernel
theorem dX9_page_22 : decode cX9_page 22 = .ok (.getfield 164, 3) := by decide +kernel
theorem dX9_page_25 : decode cX9_page 25 = .ok (.if_icmp .ge 12, 3) := by decide +kernel
theorem dX9_page_28 : decode cX9_page 28 = .ok (.iload_n 3, 1) := by decide +kernel
theorem dX9_page_29 : decode cX9_page 29 = .ok (.ifCond .lt 8, 3) := by decide +kernel
theorem dX9_page_32 : decode cX9_page 32 = .ok (.iload_n 3, 1) := by decide +kernel
theorem dX9_page_33 : decode cX9_page 33 = .ok (.iconst 1, 1) := by decide +kernel
theorem dX9_page_34 : decode cX9_page 34 = .ok (.if_icmp .le 7, 3) := by decide +kernel
theorem dX9_page_37 : decode cX9_page 37 = .ok (.sipush (-1001), 3) := by decide +kernel
theorem dX9_page_40 : decode cX9_page 40 = .ok (.ireturn, 1) := by decide +kernel
theorem dX9_page_41 : decode cX9_page 41 = .ok (.iload_n 3, 1) := by decide +kernel
theorem dX9_page_42 : decode cX9_page 42 = .ok (.ifCond .ne 18, 3) := by decide +kernel
theorem dX9_page_45 : decode cX9_page 45 = .ok (.aload 4, 2) := by decide +kernel
theorem dX9_page_47 : decode cX9_page 47 = .ok (.getfield 160, 3) := by decide +kernel
theorem dX9_page_50 : decode cX9_page 50 = .ok (.getfield 169, 3) := by decide +kernel
theorem dX9_page_53 : decode cX9_page 53 = .ok (.iload_n 2, 1) := by decide +kernel
theorem dX9_page_54 : decode cX9_page 54 = .ok (.invokevirtual 115, 3) := by decide +kernel
theorem dX9_page_57 : decode cX9_page 57 = .ok (.goto 15, 3) := by decide +kernel
theorem dX9_page_60 : decode cX9_page 60 = .ok (.aload 4, 2) := by decide +kernel
theorem dX9_page_62 : decode cX9_page 62 = .ok (.getfield 160, 3) := by decide +kernel
theorem dX9_page_65 : decode cX9_page 65 = .ok (.getfield 172, 3) := by decide +kernel
theorem dX9_page_68 : decode cX9_page 68 = .ok (.iload_n 2, 1) := by decide +kernel
theorem dX9_page_69 : decode cX9_page 69 = .ok (.invokevirtual 115, 3) := by decide +kernel
theorem dX9_page_72 : decode cX9_page 72 = .ok (.ireturn, 1) := by decide +kernel
theorem dX9_type_0 : decode cX9_type 0 = .ok (.iload_n 1, 1) := by decide +kernel
theorem dX9_type_1 : decode cX9_type 1 = .ok (.bipush 32, 2) := by decide +kernel
theorem dX9_type_3 : decode cX9_type 3 = .ok (.if_icmp .lt 9, 3) := by decide +kernel
theorem dX9_type_6 : decode cX9_type 6 = .ok (.iload_n 1, 1) := by decide +kernel
theorem dX9_type_7 : decode cX9_type 7 = .ok (.bipush 126, 2) := by decide +kernel
theorem dX9_type_9 : decode cX9_type 9 = .ok (.if_icmp .le 7, 3) := by decide +kernel
theorem dX9_type_12 : decode cX9_type 12 = .ok (.sipush (-1001), 3) := by decide +kernel
theorem dX9_type_15 : decode cX9_type 15 = .ok (.ireturn, 1) := by decide +kernel
theorem dX9_type_16 : decode cX9_type 16 = .ok (.aload_n 0, 1) := by decide +kernel
theorem dX9_type_17 : decode cX9_type 17 = .ok (.getfield 175, 3) := by decide +kernel
theorem dX9_type_20 : decode cX9_type 20 = .ok (.bipush 20, 2) := by decide +kernel
theorem dX9_type_22 : decode cX9_type 22 = .ok (.if_icmp .lt 7, 3) := by decide +kernel
theorem dX9_type_25 : decode cX9_type 25 = .ok (.sipush (-1003), 3) := by decide +kernel
theorem dX9_type_28 : decode cX9_type 28 = .ok (.ireturn, 1) := by decide +kernel
theorem dX9_type_29 : decode cX9_type 29 = .ok (.aload_n 0, 1) := by decide +kernel
theorem dX9_type_30 : decode cX9_type 30 = .ok (.getfield 57, 3) := by decide +kernel
theorem dX9_type_33 : decode cX9_type 33 = .ok (.aload_n 0, 1) := by decide +kernel
theorem dX9_type_34 : decode cX9_type 34 = .ok (.getfield 175, 3) := by decide +kernel
theorem dX9_type_37 : decode cX9_type 37 = .ok (.iload_n 1, 1) := by decide +kernel
theorem dX9_type_38 : decode cX9_type 38 = .ok (.invokevirtual 109, 3) := by decide +kernel
theorem dX9_type_41 : decode cX9_type 41 = .ok (.aload_n 0, 1) := by decide +kernel
theorem dX9_type_42 : decode cX9_type 42 = .ok (.dup, 1) := by decide +kernel
theorem dX9_type_43 : decode cX9_type 43 = .ok (.getfield 175, 3) := by decide +kernel
theorem dX9_type_46 : decode cX9_type 46 = .ok (.iconst 1, 1) := by decide +kernel
theorem dX9_type_47 : decode cX9_type 47 = .ok (.iadd, 1) := by decide +kernel
theorem dX9_type_48 : decode cX9_type 48 = .ok (.putfield 175, 3) := by decide +kernel
theorem dX9_type_51 : decode cX9_type 51 = .ok (.aload_n 0, 1) := by decide +kernel
theorem dX9_type_52 : decode cX9_type 52 = .ok (.getfield 175, 3) := by decide +kernel
theorem dX9_type_55 : decode cX9_type 55 = .ok (.ireturn, 1) := by decide +kernel
theorem dX9_clear_0 : decode cX9_clear 0 = .ok (.aload_n 0, 1) := by decide +kernel
theorem dX9_clear_1 : decode cX9_clear 1 = .ok (.getfield 175, 3) := by decide +kernel
theorem dX9_clear_4 : decode cX9_clear 4 = .ok (.istore_n 1, 1) := by decide +kernel
theorem dX9_clear_5 : decode cX9_clear 5 = .ok (.aload_n 0, 1) := by decide +kernel
theorem dX9_clear_6 : decode cX9_clear 6 = .ok (.iconst 0, 1) := by decide +kernel
theorem dX9_clear_7 : decode cX9_clear 7 = .ok (.putfield 175, 3) := by decide +kernel
theorem dX9_clear_10 : decode cX9_clear 10 = .ok (.iload_n 1, 1) := by decide +kernel
theorem dX9_clear_11 : decode cX9_clear 11 = .ok (.ireturn, 1) := by decide +kernel
theorem dX9_sheet_0 : decode cX9_sheet 0 = .ok (.aload_n 0, 1) := by decide +kernel
theorem dX9_sheet_1 : decode cX9_sheet 1 = .ok (.iload_n 1, 1) := by decide +kernel
theorem dX9_sheet_2 : decode cX9_sheet 2 = .ok (.invokevirtual 119, 3) := by decide +kernel
theorem dX9_sheet_5 : decode cX9_sheet 5 = .ok (.astore_n 2, 1) := by decide +kernel
theorem dX9_sheet_6 : decode cX9_sheet 6 = .ok (.aload_n 2, 1) := by decide +kernel
theorem dX9_sheet_7 : decode cX9_sheet 7 = .ok (.ifnonnull 7, 3) := by decide +kernel
theorem dX9_sheet_10 : decode cX9_sheet 10 = .ok (.sipush (-1001), 3) := by decide +kernel
theorem dX9_sheet_13 : decode cX9_sheet 13 = .ok (.ireturn, 1) := by decide +kernel
theorem dX9_sheet_14 : decode cX9_sheet 14 = .ok (.aload_n 0, 1) := by decide +kernel
theorem dX9_sheet_15 : decode cX9_sheet 15 = .ok (.getfield 10, 3) := by decide +kernel
theorem dX9_sheet_18 : decode cX9_sheet 18 = .ok (.getfield 66, 3) := by decide +kernel
theorem dX9_sheet_21 : decode cX9_sheet 21 = .ok (.getfield 70, 3) := by decide +kernel
theorem dX9_sheet_24 : decode cX9_sheet 24 = .ok (.bipush 20, 2) := by decide +kernel
theorem dX9_sheet_26 : decode cX9_sheet 26 = .ok (.if_icmp .lt 7, 3) := by decide +kernel
theorem dX9_sheet_29 : decode cX9_sheet 29 = .ok (.sipush (-1003), 3) := by decide +kernel
theorem dX9_sheet_32 : decode cX9_sheet 32 = .ok (.ireturn, 1) := by decide +kernel
theorem dX9_sheet_33 : decode cX9_sheet 33 = .ok (.aload_n 0, 1) := by decide +kernel
theorem dX9_sheet_34 : decode cX9_sheet 34 = .ok (.aload_n 2, 1) := by decide +kernel
theorem dX9_sheet_35 : decode cX9_sheet 35 = .ok (.invokevirtual 178, 3) := by decide +kernel
theorem dX9_sheet_38 : decode cX9_sheet 38 = .ok (.istore_n 3, 1) := by decide +kernel
theorem dX9_sheet_39 : decode cX9_sheet 39 = .ok (.iload_n 3, 1) := by decide +kernel
theorem dX9_sheet_40 : decode cX9_sheet 40 = .ok (.aload_n 2, 1) := by decide +kernel
theorem dX9_sheet_41 : decode cX9_sheet 41 = .ok (.getfield 140, 3) := by decide +kernel
theorem dX9_sheet_44 : decode cX9_sheet 44 = .ok (.if_icmp .lt 11, 3) := by decide +kernel
theorem dX9_sheet_47 : decode cX9_sheet 47 = .ok (.iload_n 3, 1) := by decide +kernel
theorem dX9_sheet_48 : decode cX9_sheet 48 = .ok (.aload_n 0, 1) := by decide +kernel
theorem dX9_sheet_49 : decode cX9_sheet 49 = .ok (.getfield 175, 3) := by decide +kernel
theorem dX9_sheet_52 : decode cX9_sheet 52 = .ok (.if_icmp .ge 8, 3) := by decide +kernel
theorem dX9_sheet_55 : decode cX9_sheet 55 = .ok (.bipush (-100), 2) := by decide +kernel
theorem dX9_sheet_57 : decode cX9_sheet 57 = .ok (.iload_n 3, 1) := by decide +kernel
theorem dX9_sheet_58 : decode cX9_sheet 58 = .ok (.isub, 1) := by decide +kernel
theorem dX9_sheet_59 : decode cX9_sheet 59 = .ok (.ireturn, 1) := by decide +kernel
theorem dX9_sheet_60 : decode cX9_sheet 60 = .ok (.aload_n 0, 1) := by decide +kernel
theorem dX9_sheet_61 : decode cX9_sheet 61 = .ok (.iconst 0, 1) := by decide +kernel
theorem dX9_sheet_62 : decode cX9_sheet 62 = .ok (.putfield 175, 3) := by decide +kernel
theorem dX9_sheet_65 : decode cX9_sheet 65 = .ok (.aload_n 0, 1) := by decide +kernel
theorem dX9_sheet_66 : decode cX9_sheet 66 = .ok (.iload_n 1, 1) := by decide +kernel
theorem dX9_sheet_67 : decode cX9_sheet 67 = .ok (.aload_n 2, 1) := by decide +kernel
theorem dX9_sheet_68 : decode cX9_sheet 68 = .ok (.invokevirtual 181, 3) := by decide +kernel
theorem dX9_sheet_71 : decode cX9_sheet 71 = .ok (.ireturn, 1) := by decide +kernel
theorem dX9_guess_0 : decode cX9_guess 0 = .ok (.aload_n 0, 1) := by decide +kernel
theorem dX9_guess_1 : decode cX9_guess 1 = .ok (.iload_n 1, 1) := by decide +kernel
theorem dX9_guess_2 : decode cX9_guess 2 = .ok (.invokevirtual 119, 3) := by decide +kernel
theorem dX9_guess_5 : decode cX9_guess 5 = .ok (.astore 4, 2) := by decide +kernel
theorem dX9_guess_7 : decode cX9_guess 7 = .ok (.aload 4, 2) := by decide +kernel
theorem dX9_guess_9 : decode cX9_guess 9 = .ok (.ifnull 13, 3) := by decide +kernel
theorem dX9_guess_12 : decode cX9_guess 12 = .ok (.iload_n 3, 1) := by decide +kernel
theorem dX9_guess_13 : decode cX9_guess 13 = .ok (.ifCond .lt 9, 3) := by decide +kernel
theorem dX9_guess_16 : decode cX9_guess 16 = .ok (.iload_n 3, 1) := by decide +kernel
theorem dX9_guess_17 : decode cX9_guess 17 = .ok (.bipush 10, 2) := by decide +kernel
theorem dX9_guess_19 : decode cX9_guess 19 = .ok (.if_icmp .le 7, 3) := by decide +kernel
theorem dX9_guess_22 : decode cX9_guess 22 = .ok (.sipush (-1001), 3) := by decide +kernel
theorem dX9_guess_25 : decode cX9_guess 25 = .ok (.ireturn, 1) := by decide +kernel
theorem dX9_guess_26 : decode cX9_guess 26 = .ok (.aload_n 0, 1) := by decide +kernel
theorem dX9_guess_27 : decode cX9_guess 27 = .ok (.getfield 10, 3) := by decide +kernel
theorem dX9_guess_30 : decode cX9_guess 30 = .ok (.getfield 66, 3) := by decide +kernel
theorem dX9_guess_33 : decode cX9_guess 33 = .ok (.getfield 70, 3) := by decide +kernel
theorem dX9_guess_36 : decode cX9_guess 36 = .ok (.bipush 20, 2) := by decide +kernel
theorem dX9_guess_38 : decode cX9_guess 38 = .ok (.if_icmp .lt 7, 3) := by decide +kernel
theorem dX9_guess_41 : decode cX9_guess 41 = .ok (.sipush (-1003), 3) := by decide +kernel
theorem dX9_guess_44 : decode cX9_guess 44 = .ok (.ireturn, 1) := by decide +kernel
theorem dX9_guess_45 : decode cX9_guess 45 = .ok (.aload_n 0, 1) := by decide +kernel
theorem dX9_guess_46 : decode cX9_guess 46 = .ok (.getfield 44, 3) := by decide +kernel
theorem dX9_guess_49 : decode cX9_guess 49 = .ok (.iload_n 2, 1) := by decide +kernel
theorem dX9_guess_50 : decode cX9_guess 50 = .ok (.invokevirtual 185, 3) := by decide +kernel
theorem dX9_guess_53 : decode cX9_guess 53 = .ok (.iconst 0, 1) := by decide +kernel
theorem dX9_guess_54 : decode cX9_guess 54 = .ok (.istore 5, 2) := by decide +kernel
theorem dX9_guess_56 : decode cX9_guess 56 = .ok (.iload 5, 2) := by decide +kernel
theorem dX9_guess_58 : decode cX9_guess 58 = .ok (.aload 4, 2) := by decide +kernel
theorem dX9_guess_60 : decode cX9_guess 60 = .ok (.getfield 140, 3) := by decide +kernel
theorem dX9_guess_63 : decode cX9_guess 63 = .ok (.if_icmp .ge 71, 3) := by decide +kernel
theorem dX9_guess_66 : decode cX9_guess 66 = .ok (.aload_n 0, 1) := by decide +kernel
theorem dX9_guess_67 : decode cX9_guess 67 = .ok (.getfield 44, 3) := by decide +kernel
theorem dX9_guess_70 : decode cX9_guess 70 = .ok (.bipush 10, 2) := by decide +kernel
theorem dX9_guess_72 : decode cX9_guess 72 = .ok (.invokevirtual 188, 3) := by decide +kernel
theorem dX9_guess_75 : decode cX9_guess 75 = .ok (.iload_n 3, 1) := by decide +kernel
theorem dX9_guess_76 : decode cX9_guess 76 = .ok (.if_icmp .ge 7, 3) := by decide +kernel
theorem dX9_guess_79 : decode cX9_guess 79 = .ok (.iconst 1, 1) := by decide +kernel
theorem dX9_guess_80 : decode cX9_guess 80 = .ok (.goto 4, 3) := by decide +kernel
theorem dX9_guess_83 : decode cX9_guess 83 = .ok (.iconst 0, 1) := by decide +kernel
theorem dX9_guess_84 : decode cX9_guess 84 = .ok (.istore 6, 2) := by decide +kernel
theorem dX9_guess_86 : decode cX9_guess 86 = .ok (.aload_n 0, 1) := by decide +kernel
theorem dX9_guess_87 : decode cX9_guess 87 = .ok (.getfield 53, 3) := by decide +kernel
theorem dX9_guess_90 : decode cX9_guess 90 = .ok (.iload 5, 2) := by decide +kernel
theorem dX9_guess_92 : decode cX9_guess 92 = .ok (.iload 6, 2) := by decide +kernel
theorem dX9_guess_94 : decode cX9_guess 94 = .ok (.ifCond .eq 16, 3) := by decide +kernel
theorem dX9_guess_97 : decode cX9_guess 97 = .ok (.aload 4, 2) := by decide +kernel
theorem dX9_guess_99 : decode cX9_guess 99 = .ok (.getfield 145, 3) := by decide +kernel
theorem dX9_guess_102 : decode cX9_guess 102 = .ok (.iload 5, 2) := by decide +kernel
theorem dX9_guess_104 : decode cX9_guess 104 = .ok (.invokevirtual 115, 3) := by decide +kernel
theorem dX9_guess_107 : decode cX9_guess 107 = .ok (.goto 18, 3) := by decide +kernel
theorem dX9_guess_110 : decode cX9_guess 110 = .ok (.aload_n 0, 1) := by decide +kernel
theorem dX9_guess_111 : decode cX9_guess 111 = .ok (.getfield 44, 3) := by decide +kernel
theorem dX9_guess_114 : decode cX9_guess 114 = .ok (.aload_n 0, 1) := by decide +kernel
theorem dX9_guess_115 : decode cX9_guess 115 = .ok (.aload 4, 2) := by decide +kernel
theorem dX9_guess_117 : decode cX9_guess 117 = .ok (.iload 5, 2) := by decide +kernel
theorem dX9_guess_119 : decode cX9_guess 119 = .ok (.invokevirtual 130, 3) := by decide +kernel
theorem dX9_guess_122 : decode cX9_guess 122 = .ok (.invokevirtual 188, 3) := by decide +kernel
theorem dX9_guess_125 : decode cX9_guess 125 = .ok (.invokevirtual 109, 3) := by decide +kernel
theorem dX9_guess_128 : decode cX9_guess 128 = .ok (.iinc 5 1, 3) := by decide +kernel
theorem dX9_guess_131 : decode cX9_guess 131 = .ok (.goto (-75), 3) := by decide +kernel
theorem dX9_guess_134 : decode cX9_guess 134 = .ok (.aload_n 0, 1) := by decide +kernel
theorem dX9_guess_135 : decode cX9_guess 135 = .ok (.iload_n 1, 1) := by decide +kernel
theorem dX9_guess_136 : decode cX9_guess 136 = .ok (.aload 4, 2) := by decide +kernel
theorem dX9_guess_138 : decode cX9_guess 138 = .ok (.invokevirtual 181, 3) := by decide +kernel
theorem dX9_guess_141 : decode cX9_guess 141 = .ok (.ireturn, 1) := by decide +kernel
theorem dX9_forget_0 : decode cX9_forget 0 = .ok (.aload_n 0, 1) := by decide +kernel
theorem dX9_forget_1 : decode cX9_forget 1 = .ok (.getfield 19, 3) := by decide +kernel
theorem dX9_forget_4 : decode cX9_forget 4 = .ok (.aload_n 0, 1) := by decide +kernel
theorem dX9_forget_5 : decode cX9_forget 5 = .ok (.getfield 10, 3) := by decide +kernel
theorem dX9_forget_8 : decode cX9_forget 8 = .ok (.invokevirtual 191, 3) := by decide +kernel
theorem dX9_forget_11 : decode cX9_forget 11 = .ok (.aload_n 0, 1) := by decide +kernel
theorem dX9_forget_12 : decode cX9_forget 12 = .ok (.getfield 10, 3) := by decide +kernel
theorem dX9_forget_15 : decode cX9_forget 15 = .ok (.getfield 66, 3) := by decide +kernel
theorem dX9_forget_18 : decode cX9_forget 18 = .ok (.getfield 70, 3) := by decide +kernel
theorem dX9_forget_21 : decode cX9_forget 21 = .ok (.istore_n 1, 1) := by decide +kernel
theorem dX9_forget_22 : decode cX9_forget 22 = .ok (.aload_n 0, 1) := by decide +kernel
theorem dX9_forget_23 : decode cX9_forget 23 = .ok (.getfield 10, 3) := by decide +kernel
theorem dX9_forget_26 : decode cX9_forget 26 = .ok (.getfield 66, 3) := by decide +kernel
theorem dX9_forget_29 : decode cX9_forget 29 = .ok (.iconst 0, 1) := by decide +kernel
theorem dX9_forget_30 : decode cX9_forget 30 = .ok (.putfield 70, 3) := by decide +kernel
theorem dX9_forget_33 : decode cX9_forget 33 = .ok (.iload_n 1, 1) := by decide +kernel
theorem dX9_forget_34 : decode cX9_forget 34 = .ok (.ireturn, 1) := by decide +kernel
theorem dX9_result_0 : decode cX9_result 0 = .ok (.aload_n 0, 1) := by decide +kernel
theorem dX9_result_1 : decode cX9_result 1 = .ok (.getfield 10, 3) := by decide +kernel
theorem dX9_result_4 : decode cX9_result 4 = .ok (.getfield 66, 3) := by decide +kernel
theorem dX9_result_7 : decode cX9_result 7 = .ok (.iload_n 1, 1) := by decide +kernel
theorem dX9_result_8 : decode cX9_result 8 = .ok (.invokevirtual 195, 3) := by decide +kernel
theorem dX9_result_11 : decode cX9_result 11 = .ok (.ifCond .eq 12, 3) := by decide +kernel
theorem dX9_result_14 : decode cX9_result 14 = .ok (.iload_n 2, 1) := by decide +kernel
theorem dX9_result_15 : decode cX9_result 15 = .ok (.ifCond .lt 8, 3) := by decide +kernel
theorem dX9_result_18 : decode cX9_result 18 = .ok (.iload_n 2, 1) := by decide +kernel
theorem dX9_result_19 : decode cX9_result 19 = .ok (.iconst 4, 1) := by decide +kernel
theorem dX9_result_20 : decode cX9_result 20 = .ok (.if_icmp .le 7, 3) := by decide +kernel
theorem dX9_result_23 : decode cX9_result 23 = .ok (.sipush (-1001), 3) := by decide +kernel
theorem dX9_result_26 : decode cX9_result 26 = .ok (.ireturn, 1) := by decide +kernel
theorem dX9_result_27 : decode cX9_result 27 = .ok (.aload_n 0, 1) := by decide +kernel
theorem dX9_result_28 : decode cX9_result 28 = .ok (.getfield 10, 3) := by decide +kernel
theorem dX9_result_31 : decode cX9_result 31 = .ok (.getfield 66, 3) := by decide +kernel
theorem dX9_result_34 : decode cX9_result 34 = .ok (.iload_n 1, 1) := by decide +kernel
theorem dX9_result_35 : decode cX9_result 35 = .ok (.iload_n 2, 1) := by decide +kernel
theorem dX9_result_36 : decode cX9_result 36 = .ok (.invokevirtual 196, 3) := by decide +kernel
theorem dX9_result_39 : decode cX9_result 39 = .ok (.ireturn, 1) := by decide +kernel
theorem dX9_answer_0 : decode cX9_answer 0 = .ok (.aload_n 0, 1) := by decide +kernel
theorem dX9_answer_1 : decode cX9_answer 1 = .ok (.getfield 10, 3) := by decide +kernel
theorem dX9_answer_4 : decode cX9_answer 4 = .ok (.getfield 66, 3) := by decide +kernel
theorem dX9_answer_7 : decode cX9_answer 7 = .ok (.iload_n 1, 1) := by decide +kernel
theorem dX9_answer_8 : decode cX9_answer 8 = .ok (.invokevirtual 195, 3) := by decide +kernel
theorem dX9_answer_11 : decode cX9_answer 11 = .ok (.ifCond .eq 17, 3) := by decide +kernel
theorem dX9_answer_14 : decode cX9_answer 14 = .ok (.aload_n 0, 1) := by decide +kernel
theorem dX9_answer_15 : decode cX9_answer 15 = .ok (.getfield 10, 3) := by decide +kernel
theorem dX9_answer_18 : decode cX9_answer 18 = .ok (.getfield 76, 3) := by decide +kernel
theorem dX9_answer_21 : decode cX9_answer 21 = .ok (.iload_n 2, 1) := by decide +kernel
theorem dX9_answer_22 : decode cX9_answer 22 = .ok (.invokevirtual 88, 3) := by decide +kernel
theorem dX9_answer_25 : decode cX9_answer 25 = .ok (.ifCond .ne 7, 3) := by decide +kernel
theorem dX9_answer_28 : decode cX9_answer 28 = .ok (.sipush (-1001), 3) := by decide +kernel
theorem dX9_answer_31 : decode cX9_answer 31 = .ok (.ireturn, 1) := by decide +kernel
theorem dX9_answer_32 : decode cX9_answer 32 = .ok (.aload_n 0, 1) := by decide +kernel
theorem dX9_answer_33 : decode cX9_answer 33 = .ok (.getfield 10, 3) := by decide +kernel
theorem dX9_answer_36 : decode cX9_answer 36 = .ok (.getfield 66, 3) := by decide +kernel
theorem dX9_answer_39 : decode cX9_answer 39 = .ok (.iload_n 1, 1) := by decide +kernel
theorem dX9_answer_40 : decode cX9_answer 40 = .ok (.iload_n 2, 1) := by decide +kernel
theorem dX9_answer_41 : decode cX9_answer 41 = .ok (.invokevirtual 197, 3) := by decide +kernel
theorem dX9_answer_44 : decode cX9_answer 44 = .ok (.istore_n 3, 1) := by decide +kernel
theorem dX9_answer_45 : decode cX9_answer 45 = .ok (.iload_n 3, 1) := by decide +kernel
theorem dX9_answer_46 : decode cX9_answer 46 = .ok (.iconst (-1), 1) := by decide +kernel
theorem dX9_answer_47 : decode cX9_answer 47 = .ok (.if_icmp .ne 9, 3) := by decide +kernel
theorem dX9_answer_50 : decode cX9_answer 50 = .ok (.sipush (-1009), 3) := by decide +kernel
theorem dX9_answer_53 : decode cX9_answer 53 = .ok (.goto 4, 3) := by decide +kernel
theorem dX9_answer_56 : decode cX9_answer 56 = .ok (.iload_n 3, 1) := by decide +kernel
theorem dX9_answer_57 : decode cX9_answer 57 = .ok (.ireturn, 1) := by decide +kernel
theorem dX9_about_0 : decode cX9_about 0 = .ok (.aload_n 0, 1) := by decide +kernel
theorem dX9_about_1 : decode cX9_about 1 = .ok (.getfield 10, 3) := by decide +kernel
theorem dX9_about_4 : decode cX9_about 4 = .ok (.getfield 76, 3) := by decide +kernel
theorem dX9_about_7 : decode cX9_about 7 = .ok (.iload_n 1, 1) := by decide +kernel
theorem dX9_about_8 : decode cX9_about 8 = .ok (.invokevirtual 88, 3) := by decide +kernel
theorem dX9_about_11 : decode cX9_about 11 = .ok (.ifCond .ne 7, 3) := by decide +kernel
theorem dX9_about_14 : decode cX9_about 14 = .ok (.sipush (-1001), 3) := by decide +kernel
theorem dX9_about_17 : decode cX9_about 17 = .ok (.ireturn, 1) := by decide +kernel
theorem dX9_about_18 : decode cX9_about 18 = .ok (.aload_n 0, 1) := by decide +kernel
theorem dX9_about_19 : decode cX9_about 19 = .ok (.getfield 10, 3) := by decide +kernel
theorem dX9_about_22 : decode cX9_about 22 = .ok (.getfield 76, 3) := by decide +kernel
theorem dX9_about_25 : decode cX9_about 25 = .ok (.iload_n 1, 1) := by decide +kernel
theorem dX9_about_26 : decode cX9_about 26 = .ok (.iconst 1, 1) := by decide +kernel
theorem dX9_about_27 : decode cX9_about 27 = .ok (.invokevirtual 95, 3) := by decide +kernel
theorem dX9_about_30 : decode cX9_about 30 = .ok (.istore_n 3, 1) := by decide +kernel
theorem dX9_about_31 : decode cX9_about 31 = .ok (.aload_n 0, 1) := by decide +kernel
theorem dX9_about_32 : decode cX9_about 32 = .ok (.getfield 10, 3) := by decide +kernel
theorem dX9_about_35 : decode cX9_about 35 = .ok (.getfield 66, 3) := by decide +kernel
theorem dX9_about_38 : decode cX9_about 38 = .ok (.iload_n 1, 1) := by decide +kernel
theorem dX9_about_39 : decode cX9_about 39 = .ok (.iload_n 3, 1) := by decide +kernel
theorem dX9_about_40 : decode cX9_about 40 = .ok (.invokevirtual 200, 3) := by decide +kernel
theorem dX9_about_43 : decode cX9_about 43 = .ok (.istore 4, 2) := by decide +kernel
theorem dX9_about_45 : decode cX9_about 45 = .ok (.aload_n 0, 1) := by decide +kernel
theorem dX9_about_46 : decode cX9_about 46 = .ok (.getfield 10, 3) := by decide +kernel
theorem dX9_about_49 : decode cX9_about 49 = .ok (.getfield 66, 3) := by decide +kernel
theorem dX9_about_52 : decode cX9_about 52 = .ok (.iload_n 1, 1) := by decide +kernel
theorem dX9_about_53 : decode cX9_about 53 = .ok (.iconst (-1), 1) := by decide +kernel
theorem dX9_about_54 : decode cX9_about 54 = .ok (.invokevirtual 200, 3) := by decide +kernel
theorem dX9_about_57 : decode cX9_about 57 = .ok (.istore 5, 2) := by decide +kernel
theorem dX9_about_59 : decode cX9_about 59 = .ok (.iload_n 2, 1) := by decide +kernel
theorem dX9_about_60 : decode cX9_about 60 = .ok (.tableswitch 62 0 3 #[32, 35, 52, 55], 32) := by decide +kernel
theorem dX9_about_92 : decode cX9_about 92 = .ok (.iload 4, 2) := by decide +kernel
theorem dX9_about_94 : decode cX9_about 94 = .ok (.ireturn, 1) := by decide +kernel
theorem dX9_about_95 : decode cX9_about 95 = .ok (.aload_n 0, 1) := by decide +kernel
theorem dX9_about_96 : decode cX9_about 96 = .ok (.getfield 10, 3) := by decide +kernel
theorem dX9_about_99 : decode cX9_about 99 = .ok (.getfield 66, 3) := by decide +kernel
theorem dX9_about_102 : decode cX9_about 102 = .ok (.getfield 70, 3) := by decide +kernel
theorem dX9_about_105 : decode cX9_about 105 = .ok (.iload 4, 2) := by decide +kernel
theorem dX9_about_107 : decode cX9_about 107 = .ok (.isub, 1) := by decide +kernel
theorem dX9_about_108 : decode cX9_about 108 = .ok (.iload 5, 2) := by decide +kernel
theorem dX9_about_110 : decode cX9_about 110 = .ok (.isub, 1) := by decide +kernel
theorem dX9_about_111 : decode cX9_about 111 = .ok (.ireturn, 1) := by decide +kernel
theorem dX9_about_112 : decode cX9_about 112 = .ok (.iload 5, 2) := by decide +kernel
theorem dX9_about_114 : decode cX9_about 114 = .ok (.ireturn, 1) := by decide +kernel
theorem dX9_about_115 : decode cX9_about 115 = .ok (.aload_n 0, 1) := by decide +kernel
theorem dX9_about_116 : decode cX9_about 116 = .ok (.iload_n 1, 1) := by decide +kernel
theorem dX9_about_117 : decode cX9_about 117 = .ok (.iload_n 3, 1) := by decide +kernel
theorem dX9_about_118 : decode cX9_about 118 = .ok (.invokevirtual 203, 3) := by decide +kernel
theorem dX9_about_121 : decode cX9_about 121 = .ok (.ireturn, 1) := by decide +kernel
theorem dX9_about_122 : decode cX9_about 122 = .ok (.sipush (-1001), 3) := by decide +kernel
theorem dX9_about_125 : decode cX9_about 125 = .ok (.ireturn, 1) := by decide +kernel
theorem dX9_parting_0 : decode cX9_parting 0 = .ok (.aload_n 0, 1) := by decide +kernel
theorem dX9_parting_1 : decode cX9_parting 1 = .ok (.getfield 10, 3) := by decide +kernel
theorem dX9_parting_4 : decode cX9_parting 4 = .ok (.getfield 76, 3) := by decide +kernel
theorem dX9_parting_7 : decode cX9_parting 7 = .ok (.iload_n 1, 1) := by decide +kernel
theorem dX9_parting_8 : decode cX9_parting 8 = .ok (.invokevirtual 88, 3) := by decide +kernel
theorem dX9_parting_11 : decode cX9_parting 11 = .ok (.ifCond .ne 6, 3) := by decide +kernel
theorem dX9_parting_14 : decode cX9_parting 14 = .ok (.ldc 206, 2) := by decide +kernel
theorem dX9_parting_16 : decode cX9_parting 16 = .ok (.freturn, 1) := by decide +kernel
theorem dX9_parting_17 : decode cX9_parting 17 = .ok (.aload_n 0, 1) := by decide +kernel
theorem dX9_parting_18 : decode cX9_parting 18 = .ok (.getfield 10, 3) := by decide +kernel
theorem dX9_parting_21 : decode cX9_parting 21 = .ok (.getfield 66, 3) := by decide +kernel
theorem dX9_parting_24 : decode cX9_parting 24 = .ok (.getfield 70, 3) := by decide +kernel
theorem dX9_parting_27 : decode cX9_parting 27 = .ok (.iconst 2, 1) := by decide +kernel
theorem dX9_parting_28 : decode cX9_parting 28 = .ok (.idiv, 1) := by decide +kernel
theorem dX9_parting_29 : decode cX9_parting 29 = .ok (.istore_n 2, 1) := by decide +kernel
theorem dX9_parting_30 : decode cX9_parting 30 = .ok (.iload_n 2, 1) := by decide +kernel
theorem dX9_parting_31 : decode cX9_parting 31 = .ok (.ifCond .ne 5, 3) := by decide +kernel
theorem dX9_parting_34 : decode cX9_parting 34 = .ok (.fconst 0, 1) := by decide +kernel
theorem dX9_parting_35 : decode cX9_parting 35 = .ok (.freturn, 1) := by decide +kernel
theorem dX9_parting_36 : decode cX9_parting 36 = .ok (.aload_n 0, 1) := by decide +kernel
theorem dX9_parting_37 : decode cX9_parting 37 = .ok (.getfield 10, 3) := by decide +kernel
theorem dX9_parting_40 : decode cX9_parting 40 = .ok (.getfield 76, 3) := by decide +kernel
theorem dX9_parting_43 : decode cX9_parting 43 = .ok (.iload_n 1, 1) := by decide +kernel
theorem dX9_parting_44 : decode cX9_parting 44 = .ok (.iconst 1, 1) := by decide +kernel
theorem dX9_parting_45 : decode cX9_parting 45 = .ok (.invokevirtual 95, 3) := by decide +kernel
theorem dX9_parting_48 : decode cX9_parting 48 = .ok (.istore_n 3, 1) := by decide +kernel
theorem dX9_parting_49 : decode cX9_parting 49 = .ok (.iconst 0, 1) := by decide +kernel
theorem dX9_parting_50 : decode cX9_parting 50 = .ok (.istore 4, 2) := by decide +kernel
theorem dX9_parting_52 : decode cX9_parting 52 = .ok (.iconst 0, 1) := by decide +kernel
theorem dX9_parting_53 : decode cX9_parting 53 = .ok (.istore 5, 2) := by decide +kernel
theorem dX9_parting_55 : decode cX9_parting 55 = .ok (.iload 5, 2) := by decide +kernel
theorem dX9_parting_57 : decode cX9_parting 57 = .ok (.aload_n 0, 1) := by decide +kernel
theorem dX9_parting_58 : decode cX9_parting 58 = .ok (.getfield 10, 3) := by decide +kernel
theorem dX9_parting_61 : decode cX9_parting 61 = .ok (.getfield 66, 3) := by decide +kernel
theorem dX9_parting_64 : decode cX9_parting 64 = .ok (.getfield 70, 3) := by decide +kernel
theorem dX9_parting_67 : decode cX9_parting 67 = .ok (.if_icmp .ge 83, 3) := by decide +kernel
theorem dX9_parting_70 : decode cX9_parting 70 = .ok (.aload_n 0, 1) := by decide +kernel
theorem dX9_parting_71 : decode cX9_parting 71 = .ok (.getfield 10, 3) := by decide +kernel
theorem dX9_parting_74 : decode cX9_parting 74 = .ok (.getfield 66, 3) := by decide +kernel
theorem dX9_parting_77 : decode cX9_parting 77 = .ok (.iload 5, 2) := by decide +kernel
theorem dX9_parting_79 : decode cX9_parting 79 = .ok (.iload_n 1, 1) := by decide +kernel
theorem dX9_parting_80 : decode cX9_parting 80 = .ok (.invokevirtual 197, 3) := by decide +kernel
theorem dX9_parting_83 : decode cX9_parting 83 = .ok (.iload_n 3, 1) := by decide +kernel
theorem dX9_parting_84 : decode cX9_parting 84 = .ok (.if_icmp .ne 60, 3) := by decide +kernel
theorem dX9_parting_87 : decode cX9_parting 87 = .ok (.aload_n 0, 1) := by decide +kernel
theorem dX9_parting_88 : decode cX9_parting 88 = .ok (.getfield 10, 3) := by decide +kernel
theorem dX9_parting_91 : decode cX9_parting 91 = .ok (.getfield 66, 3) := by decide +kernel
theorem dX9_parting_94 : decode cX9_parting 94 = .ok (.iload 5, 2) := by decide +kernel
theorem dX9_parting_96 : decode cX9_parting 96 = .ok (.invokevirtual 207, 3) := by decide +kernel
theorem dX9_parting_99 : decode cX9_parting 99 = .ok (.istore 6, 2) := by decide +kernel
theorem dX9_parting_101 : decode cX9_parting 101 = .ok (.iload 4, 2) := by decide +kernel
theorem dX9_parting_103 : decode cX9_parting 103 = .ok (.iload 6, 2) := by decide +kernel
theorem dX9_parting_105 : decode cX9_parting 105 = .ok (.iload_n 2, 1) := by decide +kernel
theorem dX9_parting_106 : decode cX9_parting 106 = .ok (.if_icmp .ge 7, 3) := by decide +kernel
theorem dX9_parting_109 : decode cX9_parting 109 = .ok (.iconst 1, 1) := by decide +kernel
theorem dX9_parting_110 : decode cX9_parting 110 = .ok (.goto 4, 3) := by decide +kernel
theorem dX9_parting_113 : decode cX9_parting 113 = .ok (.iconst 0, 1) := by decide +kernel
theorem dX9_parting_114 : decode cX9_parting 114 = .ok (.iadd, 1) := by decide +kernel
theorem dX9_parting_115 : decode cX9_parting 115 = .ok (.istore 4, 2) := by decide +kernel
theorem dX9_parting_117 : decode cX9_parting 117 = .ok (.iload 4, 2) := by decide +kernel
theorem dX9_parting_119 : decode cX9_parting 119 = .ok (.iload 6, 2) := by decide +kernel
theorem dX9_parting_121 : decode cX9_parting 121 = .ok (.aload_n 0, 1) := by decide +kernel
theorem dX9_parting_122 : decode cX9_parting 122 = .ok (.getfield 10, 3) := by decide +kernel
theorem dX9_parting_125 : decode cX9_parting 125 = .ok (.getfield 66, 3) := by decide +kernel
theorem dX9_parting_128 : decode cX9_parting 128 = .ok (.getfield 70, 3) := by decide +kernel
theorem dX9_parting_131 : decode cX9_parting 131 = .ok (.iload_n 2, 1) := by decide +kernel
theorem dX9_parting_132 : decode cX9_parting 132 = .ok (.isub, 1) := by decide +kernel
theorem dX9_parting_133 : decode cX9_parting 133 = .ok (.if_icmp .lt 7, 3) := by decide +kernel
theorem dX9_parting_136 : decode cX9_parting 136 = .ok (.iconst 1, 1) := by decide +kernel
theorem dX9_parting_137 : decode cX9_parting 137 = .ok (.goto 4, 3) := by decide +kernel
theorem dX9_parting_140 : decode cX9_parting 140 = .ok (.iconst 0, 1) := by decide +kernel
theorem dX9_parting_141 : decode cX9_parting 141 = .ok (.isub, 1) := by decide +kernel
theorem dX9_parting_142 : decode cX9_parting 142 = .ok (.istore 4, 2) := by decide +kernel
theorem dX9_parting_144 : decode cX9_parting 144 = .ok (.iinc 5 1, 3) := by decide +kernel
theorem dX9_parting_147 : decode cX9_parting 147 = .ok (.goto (-92), 3) := by decide +kernel
theorem dX9_parting_150 : decode cX9_parting 150 = .ok (.iload 4, 2) := by decide +kernel
theorem dX9_parting_152 : decode cX9_parting 152 = .ok (.i2f, 1) := by decide +kernel
theorem dX9_parting_153 : decode cX9_parting 153 = .ok (.iload_n 2, 1) := by decide +kernel
theorem dX9_parting_154 : decode cX9_parting 154 = .ok (.i2f, 1) := by decide +kernel
theorem dX9_parting_155 : decode cX9_parting 155 = .ok (.fdiv, 1) := by decide +kernel
theorem dX9_parting_156 : decode cX9_parting 156 = .ok (.freturn, 1) := by decide +kernel
theorem dX9_mean_0 : decode cX9_mean 0 = .ok (.aload_n 0, 1) := by decide +kernel
theorem dX9_mean_1 : decode cX9_mean 1 = .ok (.getfield 10, 3) := by decide +kernel
theorem dX9_mean_4 : decode cX9_mean 4 = .ok (.getfield 66, 3) := by decide +kernel
theorem dX9_mean_7 : decode cX9_mean 7 = .ok (.getfield 70, 3) := by decide +kernel
theorem dX9_mean_10 : decode cX9_mean 10 = .ok (.ifCond .gt 5, 3) := by decide +kernel
theorem dX9_mean_13 : decode cX9_mean 13 = .ok (.fconst 0, 1) := by decide +kernel
theorem dX9_mean_14 : decode cX9_mean 14 = .ok (.freturn, 1) := by decide +kernel
theorem dX9_mean_15 : decode cX9_mean 15 = .ok (.iconst 0, 1) := by decide +kernel
theorem dX9_mean_16 : decode cX9_mean 16 = .ok (.istore_n 1, 1) := by decide +kernel
theorem dX9_mean_17 : decode cX9_mean 17 = .ok (.iconst 0, 1) := by decide +kernel
theorem dX9_mean_18 : decode cX9_mean 18 = .ok (.istore_n 2, 1) := by decide +kernel
theorem dX9_mean_19 : decode cX9_mean 19 = .ok (.iload_n 2, 1) := by decide +kernel
theorem dX9_mean_20 : decode cX9_mean 20 = .ok (.aload_n 0, 1) := by decide +kernel
theorem dX9_mean_21 : decode cX9_mean 21 = .ok (.getfield 10, 3) := by decide +kernel
theorem dX9_mean_24 : decode cX9_mean 24 = .ok (.getfield 66, 3) := by decide +kernel
theorem dX9_mean_27 : decode cX9_mean 27 = .ok (.getfield 70, 3) := by decide +kernel
theorem dX9_mean_30 : decode cX9_mean 30 = .ok (.if_icmp .ge 23, 3) := by decide +kernel
theorem dX9_mean_33 : decode cX9_mean 33 = .ok (.iload_n 1, 1) := by decide +kernel
theorem dX9_mean_34 : decode cX9_mean 34 = .ok (.aload_n 0, 1) := by decide +kernel
theorem dX9_mean_35 : decode cX9_mean 35 = .ok (.getfield 10, 3) := by decide +kernel
theorem dX9_mean_38 : decode cX9_mean 38 = .ok (.getfield 66, 3) := by decide +kernel
theorem dX9_mean_41 : decode cX9_mean 41 = .ok (.iload_n 2, 1) := by decide +kernel
theorem dX9_mean_42 : decode cX9_mean 42 = .ok (.invokevirtual 210, 3) := by decide +kernel
theorem dX9_mean_45 : decode cX9_mean 45 = .ok (.iadd, 1) := by decide +kernel
theorem dX9_mean_46 : decode cX9_mean 46 = .ok (.istore_n 1, 1) := by decide +kernel
theorem dX9_mean_47 : decode cX9_mean 47 = .ok (.iinc 2 1, 3) := by decide +kernel
theorem dX9_mean_50 : decode cX9_mean 50 = .ok (.goto (-31), 3) := by decide +kernel
theorem dX9_mean_53 : decode cX9_mean 53 = .ok (.iload_n 1, 1) := by decide +kernel
theorem dX9_mean_54 : decode cX9_mean 54 = .ok (.i2f, 1) := by decide +kernel
theorem dX9_mean_55 : decode cX9_mean 55 = .ok (.aload_n 0, 1) := by decide +kernel
theorem dX9_mean_56 : decode cX9_mean 56 = .ok (.getfield 10, 3) := by decide +kernel
theorem dX9_mean_59 : decode cX9_mean 59 = .ok (.getfield 66, 3) := by decide +kernel
theorem dX9_mean_62 : decode cX9_mean 62 = .ok (.getfield 70, 3) := by decide +kernel
theorem dX9_mean_65 : decode cX9_mean 65 = .ok (.i2f, 1) := by decide +kernel
theorem dX9_mean_66 : decode cX9_mean 66 = .ok (.fdiv, 1) := by decide +kernel
theorem dX9_mean_67 : decode cX9_mean 67 = .ok (.freturn, 1) := by decide +kernel
theorem dX9_sameWrong_0 : decode cX9_sameWrong 0 = .ok (.aload_n 0, 1) := by decide +kernel
theorem dX9_sameWrong_1 : decode cX9_sameWrong 1 = .ok (.getfield 10, 3) := by decide +kernel
theorem dX9_sameWrong_4 : decode cX9_sameWrong 4 = .ok (.getfield 66, 3) := by decide +kernel
theorem dX9_sameWrong_7 : decode cX9_sameWrong 7 = .ok (.iload_n 1, 1) := by decide +kernel
theorem dX9_sameWrong_8 : decode cX9_sameWrong 8 = .ok (.invokevirtual 195, 3) := by decide +kernel
theorem dX9_sameWrong_11 : decode cX9_sameWrong 11 = .ok (.ifCond .eq 17, 3) := by decide +kernel
theorem dX9_sameWrong_14 : decode cX9_sameWrong 14 = .ok (.aload_n 0, 1) := by decide +kernel
theorem dX9_sameWrong_15 : decode cX9_sameWrong 15 = .ok (.getfield 10, 3) := by decide +kernel
theorem dX9_sameWrong_18 : decode cX9_sameWrong 18 = .ok (.getfield 66, 3) := by decide +kernel
theorem dX9_sameWrong_21 : decode cX9_sameWrong 21 = .ok (.iload_n 2, 1) := by decide +kernel
theorem dX9_sameWrong_22 : decode cX9_sameWrong 22 = .ok (.invokevirtual 195, 3) := by decide +kernel
theorem dX9_sameWrong_25 : decode cX9_sameWrong 25 = .ok (.ifCond .ne 7, 3) := by decide +kernel
theorem dX9_sameWrong_28 : decode cX9_sameWrong 28 = .ok (.sipush (-1001), 3) := by decide +kernel
theorem dX9_sameWrong_31 : decode cX9_sameWrong 31 = .ok (.ireturn, 1) := by decide +kernel
theorem dX9_sameWrong_32 : decode cX9_sameWrong 32 = .ok (.aload_n 0, 1) := by decide +kernel
theorem dX9_sameWrong_33 : decode cX9_sameWrong 33 = .ok (.iload_n 1, 1) := by decide +kernel
theorem dX9_sameWrong_34 : decode cX9_sameWrong 34 = .ok (.iload_n 2, 1) := by decide +kernel
theorem dX9_sameWrong_35 : decode cX9_sameWrong 35 = .ok (.invokevirtual 213, 3) := by decide +kernel
theorem dX9_sameWrong_38 : decode cX9_sameWrong 38 = .ok (.ireturn, 1) := by decide +kernel
theorem dX9_suspects_0 : decode cX9_suspects 0 = .ok (.sipush (-1009), 3) := by decide +kernel
theorem dX9_suspects_3 : decode cX9_suspects 3 = .ok (.istore_n 1, 1) := by decide +kernel
theorem dX9_suspects_4 : decode cX9_suspects 4 = .ok (.iconst (-1), 1) := by decide +kernel
theorem dX9_suspects_5 : decode cX9_suspects 5 = .ok (.istore_n 2, 1) := by decide +kernel
theorem dX9_suspects_6 : decode cX9_suspects 6 = .ok (.iconst 0, 1) := by decide +kernel
theorem dX9_suspects_7 : decode cX9_suspects 7 = .ok (.istore_n 3, 1) := by decide +kernel
theorem dX9_suspects_8 : decode cX9_suspects 8 = .ok (.iload_n 3, 1) := by decide +kernel
theorem dX9_suspects_9 : decode cX9_suspects 9 = .ok (.aload_n 0, 1) := by decide +kernel
theorem dX9_suspects_10 : decode cX9_suspects 10 = .ok (.getfield 10, 3) := by decide +kernel
theorem dX9_suspects_13 : decode cX9_suspects 13 = .ok (.getfield 66, 3) := by decide +kernel
theorem dX9_suspects_16 : decode cX9_suspects 16 = .ok (.getfield 70, 3) := by decide +kernel
theorem dX9_suspects_19 : decode cX9_suspects 19 = .ok (.if_icmp .ge 61, 3) := by decide +kernel
theorem dX9_suspects_22 : decode cX9_suspects 22 = .ok (.iload_n 3, 1) := by decide +kernel
theorem dX9_suspects_23 : decode cX9_suspects 23 = .ok (.iconst 1, 1) := by decide +kernel
theorem dX9_suspects_24 : decode cX9_suspects 24 = .ok (.iadd, 1) := by decide +kernel
theorem dX9_suspects_25 : decode cX9_suspects 25 = .ok (.istore 4, 2) := by decide +kernel
theorem dX9_suspects_27 : decode cX9_suspects 27 = .ok (.iload 4, 2) := by decide +kernel
theorem dX9_suspects_29 : decode cX9_suspects 29 = .ok (.aload_n 0, 1) := by decide +kernel
theorem dX9_suspects_30 : decode cX9_suspects 30 = .ok (.getfield 10, 3) := by decide +kernel
theorem dX9_suspects_33 : decode cX9_suspects 33 = .ok (.getfield 66, 3) := by decide +kernel
theorem dX9_suspects_36 : decode cX9_suspects 36 = .ok (.getfield 70, 3) := by decide +kernel
theorem dX9_suspects_39 : decode cX9_suspects 39 = .ok (.if_icmp .ge 35, 3) := by decide +kernel
theorem dX9_suspects_42 : decode cX9_suspects 42 = .ok (.aload_n 0, 1) := by decide +kernel
theorem dX9_suspects_43 : decode cX9_suspects 43 = .ok (.iload_n 3, 1) := by decide +kernel
theorem dX9_suspects_44 : decode cX9_suspects 44 = .ok (.iload 4, 2) := by decide +kernel
theorem dX9_suspects_46 : decode cX9_suspects 46 = .ok (.invokevirtual 213, 3) := by decide +kernel
theorem dX9_suspects_49 : decode cX9_suspects 49 = .ok (.istore 5, 2) := by decide +kernel
theorem dX9_suspects_51 : decode cX9_suspects 51 = .ok (.iload 5, 2) := by decide +kernel
theorem dX9_suspects_53 : decode cX9_suspects 53 = .ok (.iload_n 2, 1) := by decide +kernel
theorem dX9_suspects_54 : decode cX9_suspects 54 = .ok (.if_icmp .le 14, 3) := by decide +kernel
theorem dX9_suspects_57 : decode cX9_suspects 57 = .ok (.iload 5, 2) := by decide +kernel
theorem dX9_suspects_59 : decode cX9_suspects 59 = .ok (.istore_n 2, 1) := by decide +kernel
theorem dX9_suspects_60 : decode cX9_suspects 60 = .ok (.bipush 100, 2) := by decide +kernel
theorem dX9_suspects_62 : decode cX9_suspects 62 = .ok (.iload_n 3, 1) := by decide +kernel
theorem dX9_suspects_63 : decode cX9_suspects 63 = .ok (.imul, 1) := by decide +kernel
theorem dX9_suspects_64 : decode cX9_suspects 64 = .ok (.iload 4, 2) := by decide +kernel
theorem dX9_suspects_66 : decode cX9_suspects 66 = .ok (.iadd, 1) := by decide +kernel
theorem dX9_suspects_67 : decode cX9_suspects 67 = .ok (.istore_n 1, 1) := by decide +kernel
theorem dX9_suspects_68 : decode cX9_suspects 68 = .ok (.iinc 4 1, 3) := by decide +kernel
theorem dX9_suspects_71 : decode cX9_suspects 71 = .ok (.goto (-44), 3) := by decide +kernel
theorem dX9_suspects_74 : decode cX9_suspects 74 = .ok (.iinc 3 1, 3) := by decide +kernel
theorem dX9_suspects_77 : decode cX9_suspects 77 = .ok (.goto (-69), 3) := by decide +kernel
theorem dX9_suspects_80 : decode cX9_suspects 80 = .ok (.iload_n 1, 1) := by decide +kernel
theorem dX9_suspects_81 : decode cX9_suspects 81 = .ok (.ireturn, 1) := by decide +kernel
theorem dX9_mistaken_0 : decode cX9_mistaken 0 = .ok (.aload_n 0, 1) := by decide +kernel
theorem dX9_mistaken_1 : decode cX9_mistaken 1 = .ok (.iload_n 2, 1) := by decide +kernel
theorem dX9_mistaken_2 : decode cX9_mistaken 2 = .ok (.invokevirtual 119, 3) := by decide +kernel
theorem dX9_mistaken_5 : decode cX9_mistaken 5 = .ok (.astore_n 3, 1) := by decide +kernel
theorem dX9_mistaken_6 : decode cX9_mistaken 6 = .ok (.aload_n 3, 1) := by decide +kernel
theorem dX9_mistaken_7 : decode cX9_mistaken 7 = .ok (.ifnull 17, 3) := by decide +kernel
theorem dX9_mistaken_10 : decode cX9_mistaken 10 = .ok (.aload_n 0, 1) := by decide +kernel
theorem dX9_mistaken_11 : decode cX9_mistaken 11 = .ok (.getfield 10, 3) := by decide +kernel
theorem dX9_mistaken_14 : decode cX9_mistaken 14 = .ok (.getfield 66, 3) := by decide +kernel
theorem dX9_mistaken_17 : decode cX9_mistaken 17 = .ok (.iload_n 1, 1) := by decide +kernel
theorem dX9_mistaken_18 : decode cX9_mistaken 18 = .ok (.invokevirtual 195, 3) := by decide +kernel
theorem dX9_mistaken_21 : decode cX9_mistaken 21 = .ok (.ifCond .ne 7, 3) := by decide +kernel
theorem dX9_mistaken_24 : decode cX9_mistaken 24 = .ok (.sipush (-1001), 3) := by decide +kernel
theorem dX9_mistaken_27 : decode cX9_mistaken 27 = .ok (.ireturn, 1) := by decide +kernel
theorem dX9_mistaken_28 : decode cX9_mistaken 28 = .ok (.iconst 0, 1) := by decide +kernel
theorem dX9_mistaken_29 : decode cX9_mistaken 29 = .ok (.istore 4, 2) := by decide +kernel
theorem dX9_mistaken_31 : decode cX9_mistaken 31 = .ok (.iconst 0, 1) := by decide +kernel
theorem dX9_mistaken_32 : decode cX9_mistaken 32 = .ok (.istore 5, 2) := by decide +kernel
theorem dX9_mistaken_34 : decode cX9_mistaken 34 = .ok (.iload 5, 2) := by decide +kernel
theorem dX9_mistaken_36 : decode cX9_mistaken 36 = .ok (.aload_n 3, 1) := by decide +kernel
theorem dX9_mistaken_37 : decode cX9_mistaken 37 = .ok (.getfield 140, 3) := by decide +kernel
theorem dX9_mistaken_40 : decode cX9_mistaken 40 = .ok (.if_icmp .ge 53, 3) := by decide +kernel
theorem dX9_mistaken_43 : decode cX9_mistaken 43 = .ok (.aload_n 0, 1) := by decide +kernel
theorem dX9_mistaken_44 : decode cX9_mistaken 44 = .ok (.getfield 10, 3) := by decide +kernel
theorem dX9_mistaken_47 : decode cX9_mistaken 47 = .ok (.getfield 66, 3) := by decide +kernel
theorem dX9_mistaken_50 : decode cX9_mistaken 50 = .ok (.iload_n 1, 1) := by decide +kernel
theorem dX9_mistaken_51 : decode cX9_mistaken 51 = .ok (.iload 5, 2) := by decide +kernel
theorem dX9_mistaken_53 : decode cX9_mistaken 53 = .ok (.invokevirtual 216, 3) := by decide +kernel
theorem dX9_mistaken_56 : decode cX9_mistaken 56 = .ok (.istore 6, 2) := by decide +kernel
theorem dX9_mistaken_58 : decode cX9_mistaken 58 = .ok (.iload 6, 2) := by decide +kernel
theorem dX9_mistaken_60 : decode cX9_mistaken 60 = .ok (.aload_n 3, 1) := by decide +kernel
theorem dX9_mistaken_61 : decode cX9_mistaken 61 = .ok (.getfield 145, 3) := by decide +kernel
theorem dX9_mistaken_64 : decode cX9_mistaken 64 = .ok (.iload 5, 2) := by decide +kernel
theorem dX9_mistaken_66 : decode cX9_mistaken 66 = .ok (.invokevirtual 115, 3) := by decide +kernel
theorem dX9_mistaken_69 : decode cX9_mistaken 69 = .ok (.if_icmp .ne 9, 3) := by decide +kernel
theorem dX9_mistaken_72 : decode cX9_mistaken 72 = .ok (.iinc 4 4, 3) := by decide +kernel
theorem dX9_mistaken_75 : decode cX9_mistaken 75 = .ok (.goto 12, 3) := by decide +kernel
theorem dX9_mistaken_78 : decode cX9_mistaken 78 = .ok (.iload 6, 2) := by decide +kernel
theorem dX9_mistaken_80 : decode cX9_mistaken 80 = .ok (.iconst (-1), 1) := by decide +kernel
theorem dX9_mistaken_81 : decode cX9_mistaken 81 = .ok (.if_icmp .eq 6, 3) := by decide +kernel
theorem dX9_mistaken_84 : decode cX9_mistaken 84 = .ok (.iinc 4 (-1), 3) := by decide +kernel
theorem dX9_mistaken_87 : decode cX9_mistaken 87 = .ok (.iinc 5 1, 3) := by decide +kernel
theorem dX9_mistaken_90 : decode cX9_mistaken 90 = .ok (.goto (-56), 3) := by decide +kernel
theorem dX9_mistaken_93 : decode cX9_mistaken 93 = .ok (.iload 4, 2) := by decide +kernel
theorem dX9_mistaken_95 : decode cX9_mistaken 95 = .ok (.ireturn, 1) := by decide +kernel
theorem dX9_undo_0 : decode cX9_undo 0 = .ok (.aload_n 0, 1) := by decide +kernel
theorem dX9_undo_1 : decode cX9_undo 1 = .ok (.getfield 19, 3) := by decide +kernel
theorem dX9_undo_4 : decode cX9_undo 4 = .ok (.getfield 219, 3) := by decide +kernel
theorem dX9_undo_7 : decode cX9_undo 7 = .ok (.ifCond .gt 7, 3) := by decide +kernel
theorem dX9_undo_10 : decode cX9_undo 10 = .ok (.sipush (-1009), 3) := by decide +kernel
theorem dX9_undo_13 : decode cX9_undo 13 = .ok (.ireturn, 1) := by decide +kernel
theorem dX9_undo_14 : decode cX9_undo 14 = .ok (.aload_n 0, 1) := by decide +kernel
theorem dX9_undo_15 : decode cX9_undo 15 = .ok (.getfield 19, 3) := by decide +kernel
theorem dX9_undo_18 : decode cX9_undo 18 = .ok (.aload_n 0, 1) := by decide +kernel
theorem dX9_undo_19 : decode cX9_undo 19 = .ok (.getfield 10, 3) := by decide +kernel
theorem dX9_undo_22 : decode cX9_undo 22 = .ok (.invokevirtual 220, 3) := by decide +kernel
theorem dX9_undo_25 : decode cX9_undo 25 = .ok (.aload_n 0, 1) := by decide +kernel
theorem dX9_undo_26 : decode cX9_undo 26 = .ok (.invokevirtual 223, 3) := by decide +kernel
theorem dX9_undo_29 : decode cX9_undo 29 = .ok (.aload_n 0, 1) := by decide +kernel
theorem dX9_undo_30 : decode cX9_undo 30 = .ok (.getfield 19, 3) := by decide +kernel
theorem dX9_undo_33 : decode cX9_undo 33 = .ok (.getfield 219, 3) := by decide +kernel
theorem dX9_undo_36 : decode cX9_undo 36 = .ok (.ireturn, 1) := by decide +kernel
theorem dX9_fingerprint_0 : decode cX9_fingerprint 0 = .ok (.ldc2_w 226, 3) := by decide +kernel
theorem dX9_fingerprint_3 : decode cX9_fingerprint 3 = .ok (.lstore_n 1, 1) := by decide +kernel
theorem dX9_fingerprint_4 : decode cX9_fingerprint 4 = .ok (.aload_n 0, 1) := by decide +kernel
theorem dX9_fingerprint_5 : decode cX9_fingerprint 5 = .ok (.lload_n 1, 1) := by decide +kernel
theorem dX9_fingerprint_6 : decode cX9_fingerprint 6 = .ok (.invokevirtual 228, 3) := by decide +kernel
theorem dX9_fingerprint_9 : decode cX9_fingerprint 9 = .ok (.lstore_n 1, 1) := by decide +kernel
theorem dX9_fingerprint_10 : decode cX9_fingerprint 10 = .ok (.aload_n 0, 1) := by decide +kernel
theorem dX9_fingerprint_11 : decode cX9_fingerprint 11 = .ok (.lload_n 1, 1) := by decide +kernel
theorem dX9_fingerprint_12 : decode cX9_fingerprint 12 = .ok (.invokevirtual 232, 3) := by decide +kernel
theorem dX9_fingerprint_15 : decode cX9_fingerprint 15 = .ok (.lstore_n 1, 1) := by decide +kernel
theorem dX9_fingerprint_16 : decode cX9_fingerprint 16 = .ok (.aload_n 0, 1) := by decide +kernel
theorem dX9_fingerprint_17 : decode cX9_fingerprint 17 = .ok (.lload_n 1, 1) := by decide +kernel
theorem dX9_fingerprint_18 : decode cX9_fingerprint 18 = .ok (.invokevirtual 235, 3) := by decide +kernel
theorem dX9_fingerprint_21 : decode cX9_fingerprint 21 = .ok (.lreturn, 1) := by decide +kernel
theorem dX9_beginChange_0 : decode cX9_beginChange 0 = .ok (.aload_n 0, 1) := by decide +kernel
theorem dX9_beginChange_1 : decode cX9_beginChange 1 = .ok (.getfield 19, 3) := by decide +kernel
theorem dX9_beginChange_4 : decode cX9_beginChange 4 = .ok (.aload_n 0, 1) := by decide +kernel
theorem dX9_beginChange_5 : decode cX9_beginChange 5 = .ok (.getfield 10, 3) := by decide +kernel
theorem dX9_beginChange_8 : decode cX9_beginChange 8 = .ok (.invokevirtual 191, 3) := by decide +kernel
theorem dX9_beginChange_11 : decode cX9_beginChange 11 = .ok (.aload_n 0, 1) := by decide +kernel
theorem dX9_beginChange_12 : decode cX9_beginChange 12 = .ok (.invokevirtual 223, 3) := by decide +kernel
theorem dX9_beginChange_15 : decode cX9_beginChange 15 = .ok (.return_, 1) := by decide +kernel
theorem dX9_outdatePapers_0 : decode cX9_outdatePapers 0 = .ok (.iconst 0, 1) := by decide +kernel
theorem dX9_outdatePapers_1 : decode cX9_outdatePapers 1 = .ok (.istore_n 1, 1) := by decide +kernel
theorem dX9_outdatePapers_2 : decode cX9_outdatePapers 2 = .ok (.iload_n 1, 1) := by decide +kernel
theorem dX9_outdatePapers_3 : decode cX9_outdatePapers 3 = .ok (.aload_n 0, 1) := by decide +kernel
theorem dX9_outdatePapers_4 : decode cX9_outdatePapers 4 = .ok (.getfield 32, 3) := by decide +kernel
theorem dX9_outdatePapers_7 : decode cX9_outdatePapers 7 = .ok (.arraylength, 1) := by decide +kernel
theorem dX9_outdatePapers_8 : decode cX9_outdatePapers 8 = .ok (.if_icmp .ge 25, 3) := by decide +kernel
theorem dX9_outdatePapers_11 : decode cX9_outdatePapers 11 = .ok (.aload_n 0, 1) := by decide +kernel
theorem dX9_outdatePapers_12 : decode cX9_outdatePapers 12 = .ok (.getfield 32, 3) := by decide +kernel
theorem dX9_outdatePapers_15 : decode cX9_outdatePapers 15 = .ok (.iload_n 1, 1) := by decide +kernel
theorem dX9_outdatePapers_16 : decode cX9_outdatePapers 16 = .ok (.aaload, 1) := by decide +kernel
theorem dX9_outdatePapers_17 : decode cX9_outdatePapers 17 = .ok (.astore_n 2, 1) := by decide +kernel
theorem dX9_outdatePapers_18 : decode cX9_outdatePapers 18 = .ok (.aload_n 2, 1) := by decide +kernel
theorem dX9_outdatePapers_19 : decode cX9_outdatePapers 19 = .ok (.ifnull 8, 3) := by decide +kernel
theorem dX9_outdatePapers_22 : decode cX9_outdatePapers 22 = .ok (.aload_n 2, 1) := by decide +kernel
theorem dX9_outdatePapers_23 : decode cX9_outdatePapers 23 = .ok (.iconst 0, 1) := by decide +kernel
theorem dX9_outdatePapers_24 : decode cX9_outdatePapers 24 = .ok (.putfield 238, 3) := by decide +kernel
theorem dX9_outdatePapers_27 : decode cX9_outdatePapers 27 = .ok (.iinc 1 1, 3) := by decide +kernel
theorem dX9_outdatePapers_30 : decode cX9_outdatePapers 30 = .ok (.goto (-28), 3) := by decide +kernel
theorem dX9_outdatePapers_33 : decode cX9_outdatePapers 33 = .ok (.return_, 1) := by decide +kernel
theorem dX9_paperOf_0 : decode cX9_paperOf 0 = .ok (.iload_n 1, 1) := by decide +kernel
theorem dX9_paperOf_1 : decode cX9_paperOf 1 = .ok (.ifCond .lt 23, 3) := by decide +kernel
theorem dX9_paperOf_4 : decode cX9_paperOf 4 = .ok (.iload_n 1, 1) := by decide +kernel
theorem dX9_paperOf_5 : decode cX9_paperOf 5 = .ok (.aload_n 0, 1) := by decide +kernel
theorem dX9_paperOf_6 : decode cX9_paperOf 6 = .ok (.getfield 10, 3) := by decide +kernel
theorem dX9_paperOf_9 : decode cX9_paperOf 9 = .ok (.getfield 103, 3) := by decide +kernel
theorem dX9_paperOf_12 : decode cX9_paperOf 12 = .ok (.if_icmp .ge 12, 3) := by decide +kernel
theorem dX9_paperOf_15 : decode cX9_paperOf 15 = .ok (.iload_n 1, 1) := by decide +kernel
theorem dX9_paperOf_16 : decode cX9_paperOf 16 = .ok (.aload_n 0, 1) := by decide +kernel
theorem dX9_paperOf_17 : decode cX9_paperOf 17 = .ok (.getfield 32, 3) := by decide +kernel
theorem dX9_paperOf_20 : decode cX9_paperOf 20 = .ok (.arraylength, 1) := by decide +kernel
theorem dX9_paperOf_21 : decode cX9_paperOf 21 = .ok (.if_icmp .lt 5, 3) := by decide +kernel
theorem dX9_paperOf_24 : decode cX9_paperOf 24 = .ok (.aconst_null, 1) := by decide +kernel
theorem dX9_paperOf_25 : decode cX9_paperOf 25 = .ok (.areturn, 1) := by decide +kernel
theorem dX9_paperOf_26 : decode cX9_paperOf 26 = .ok (.aload_n 0, 1) := by decide +kernel
theorem dX9_paperOf_27 : decode cX9_paperOf 27 = .ok (.getfield 32, 3) := by decide +kernel
theorem dX9_paperOf_30 : decode cX9_paperOf 30 = .ok (.iload_n 1, 1) := by decide +kernel
theorem dX9_paperOf_31 : decode cX9_paperOf 31 = .ok (.aaload, 1) := by decide +kernel
theorem dX9_paperOf_32 : decode cX9_paperOf 32 = .ok (.astore_n 2, 1) := by decide +kernel
theorem dX9_paperOf_33 : decode cX9_paperOf 33 = .ok (.aload_n 2, 1) := by decide +kernel
theorem dX9_paperOf_34 : decode cX9_paperOf 34 = .ok (.ifnull 63, 3) := by decide +kernel
theorem dX9_paperOf_37 : decode cX9_paperOf 37 = .ok (.aload_n 2, 1) := by decide +kernel
theorem dX9_paperOf_38 : decode cX9_paperOf 38 = .ok (.getfield 238, 3) := by decide +kernel
theorem dX9_paperOf_41 : decode cX9_paperOf 41 = .ok (.ifCond .ne 56, 3) := by decide +kernel
theorem dX9_paperOf_44 : decode cX9_paperOf 44 = .ok (.aload_n 0, 1) := by decide +kernel
theorem dX9_paperOf_45 : decode cX9_paperOf 45 = .ok (.getfield 26, 3) := by decide +kernel
theorem dX9_paperOf_48 : decode cX9_paperOf 48 = .ok (.aload_n 0, 1) := by decide +kernel
theorem dX9_paperOf_49 : decode cX9_paperOf 49 = .ok (.getfield 10, 3) := by decide +kernel
theorem dX9_paperOf_52 : decode cX9_paperOf 52 = .ok (.getfield 76, 3) := by decide +kernel
theorem dX9_paperOf_55 : decode cX9_paperOf 55 = .ok (.aload_n 0, 1) := by decide +kernel
theorem dX9_paperOf_56 : decode cX9_paperOf 56 = .ok (.getfield 10, 3) := by decide +kernel
theorem dX9_paperOf_59 : decode cX9_paperOf 59 = .ok (.getfield 106, 3) := by decide +kernel
theorem dX9_paperOf_62 : decode cX9_paperOf 62 = .ok (.iload_n 1, 1) := by decide +kernel
theorem dX9_paperOf_63 : decode cX9_paperOf 63 = .ok (.invokevirtual 115, 3) := by decide +kernel
theorem dX9_paperOf_66 : decode cX9_paperOf 66 = .ok (.aload_n 2, 1) := by decide +kernel
theorem dX9_paperOf_67 : decode cX9_paperOf 67 = .ok (.invokevirtual 242, 3) := by decide +kernel
theorem dX9_paperOf_70 : decode cX9_paperOf 70 = .ok (.aload_n 2, 1) := by decide +kernel
theorem dX9_paperOf_71 : decode cX9_paperOf 71 = .ok (.getfield 160, 3) := by decide +kernel
theorem dX9_paperOf_74 : decode cX9_paperOf 74 = .ok (.aload_n 0, 1) := by decide +kernel
theorem dX9_paperOf_75 : decode cX9_paperOf 75 = .ok (.getfield 10, 3) := by decide +kernel
theorem dX9_paperOf_78 : decode cX9_paperOf 78 = .ok (.getfield 76, 3) := by decide +kernel
theorem dX9_paperOf_81 : decode cX9_paperOf 81 = .ok (.aload_n 2, 1) := by decide +kernel
theorem dX9_paperOf_82 : decode cX9_paperOf 82 = .ok (.aload_n 0, 1) := by decide +kernel
theorem dX9_paperOf_83 : decode cX9_paperOf 83 = .ok (.getfield 10, 3) := by decide +kernel
theorem dX9_paperOf_86 : decode cX9_paperOf 86 = .ok (.getfield 157, 3) := by decide +kernel
theorem dX9_paperOf_89 : decode cX9_paperOf 89 = .ok (.invokevirtual 246, 3) := by decide +kernel
theorem dX9_paperOf_92 : decode cX9_paperOf 92 = .ok (.aload_n 2, 1) := by decide +kernel
theorem dX9_paperOf_93 : decode cX9_paperOf 93 = .ok (.iconst 1, 1) := by decide +kernel
theorem dX9_paperOf_94 : decode cX9_paperOf 94 = .ok (.putfield 238, 3) := by decide +kernel
theorem dX9_paperOf_97 : decode cX9_paperOf 97 = .ok (.aload_n 2, 1) := by decide +kernel
theorem dX9_paperOf_98 : decode cX9_paperOf 98 = .ok (.areturn, 1) := by decide +kernel
theorem dX9_choicesAt_0 : decode cX9_choicesAt 0 = .ok (.aload_n 0, 1) := by decide +kernel
theorem dX9_choicesAt_1 : decode cX9_choicesAt 1 = .ok (.getfield 10, 3) := by decide +kernel
theorem dX9_choicesAt_4 : decode cX9_choicesAt 4 = .ok (.getfield 76, 3) := by decide +kernel
theorem dX9_choicesAt_7 : decode cX9_choicesAt 7 = .ok (.aload_n 1, 1) := by decide +kernel
theorem dX9_choicesAt_8 : decode cX9_choicesAt 8 = .ok (.getfield 137, 3) := by decide +kernel
theorem dX9_choicesAt_11 : decode cX9_choicesAt 11 = .ok (.iload_n 2, 1) := by decide +kernel
theorem dX9_choicesAt_12 : decode cX9_choicesAt 12 = .ok (.invokevirtual 115, 3) := by decide +kernel
theorem dX9_choicesAt_15 : decode cX9_choicesAt 15 = .ok (.iconst 4, 1) := by decide +kernel
theorem dX9_choicesAt_16 : decode cX9_choicesAt 16 = .ok (.invokevirtual 95, 3) := by decide +kernel
theorem dX9_choicesAt_19 : decode cX9_choicesAt 19 = .ok (.ireturn, 1) := by decide +kernel
theorem dX9_mostSameKeys_0 : decode cX9_mostSameKeys 0 = .ok (.aload_n 0, 1) := by decide +kernel
theorem dX9_mostSameKeys_1 : decode cX9_mostSameKeys 1 = .ok (.getfield 26, 3) := by decide +kernel
theorem dX9_mostSameKeys_4 : decode cX9_mostSameKeys 4 = .ok (.aload_n 0, 1) := by decide +kernel
theorem dX9_mostSameKeys_5 : decode cX9_mostSameKeys 5 = .ok (.getfield 10, 3) := by decide +kernel
theorem dX9_mostSameKeys_8 : decode cX9_mostSameKeys 8 = .ok (.getfield 76, 3) := by decide +kernel
theorem dX9_mostSameKeys_11 : decode cX9_mostSameKeys 11 = .ok (.iload_n 1, 1) := by decide +kernel
theorem dX9_mostSameKeys_12 : decode cX9_mostSameKeys 12 = .ok (.aload_n 0, 1) := by decide +kernel
theorem dX9_mostSameKeys_13 : decode cX9_mostSameKeys 13 = .ok (.getfield 37, 3) := by decide +kernel
theorem dX9_mostSameKeys_16 : decode cX9_mostSameKeys 16 = .ok (.invokevirtual 242, 3) := by decide +kernel
theorem dX9_mostSameKeys_19 : decode cX9_mostSameKeys 19 = .ok (.iconst 0, 1) := by decide +kernel
theorem dX9_mostSameKeys_20 : decode cX9_mostSameKeys 20 = .ok (.istore_n 2, 1) := by decide +kernel
theorem dX9_mostSameKeys_21 : decode cX9_mostSameKeys 21 = .ok (.iconst 0, 1) := by decide +kernel
theorem dX9_mostSameKeys_22 : decode cX9_mostSameKeys 22 = .ok (.istore_n 3, 1) := by decide +kernel
theorem dX9_mostSameKeys_23 : decode cX9_mostSameKeys 23 = .ok (.iload_n 3, 1) := by decide +kernel
theorem dX9_mostSameKeys_24 : decode cX9_mostSameKeys 24 = .ok (.aload_n 0, 1) := by decide +kernel
theorem dX9_mostSameKeys_25 : decode cX9_mostSameKeys 25 = .ok (.getfield 10, 3) := by decide +kernel
theorem dX9_mostSameKeys_28 : decode cX9_mostSameKeys 28 = .ok (.getfield 103, 3) := by decide +kernel
theorem dX9_mostSameKeys_31 : decode cX9_mostSameKeys 31 = .ok (.if_icmp .ge 48, 3) := by decide +kernel
theorem dX9_mostSameKeys_34 : decode cX9_mostSameKeys 34 = .ok (.aload_n 0, 1) := by decide +kernel
theorem dX9_mostSameKeys_35 : decode cX9_mostSameKeys 35 = .ok (.iload_n 3, 1) := by decide +kernel
theorem dX9_mostSameKeys_36 : decode cX9_mostSameKeys 36 = .ok (.invokevirtual 119, 3) := by decide +kernel
theorem dX9_mostSameKeys_39 : decode cX9_mostSameKeys 39 = .ok (.astore 4, 2) := by decide +kernel
theorem dX9_mostSameKeys_41 : decode cX9_mostSameKeys 41 = .ok (.aload 4, 2) := by decide +kernel
theorem dX9_mostSameKeys_43 : decode cX9_mostSameKeys 43 = .ok (.ifnull 30, 3) := by decide +kernel
theorem dX9_mostSameKeys_46 : decode cX9_mostSameKeys 46 = .ok (.iload_n 2, 1) := by decide +kernel
theorem dX9_mostSameKeys_47 : decode cX9_mostSameKeys 47 = .ok (.aload 4, 2) := by decide +kernel
theorem dX9_mostSameKeys_49 : decode cX9_mostSameKeys 49 = .ok (.getfield 145, 3) := by decide +kernel
theorem dX9_mostSameKeys_52 : decode cX9_mostSameKeys 52 = .ok (.aload_n 0, 1) := by decide +kernel
theorem dX9_mostSameKeys_53 : decode cX9_mostSameKeys 53 = .ok (.getfield 37, 3) := by decide +kernel
theorem dX9_mostSameKeys_56 : decode cX9_mostSameKeys 56 = .ok (.getfield 145, 3) := by decide +kernel
theorem dX9_mostSameKeys_59 : decode cX9_mostSameKeys 59 = .ok (.aload_n 0, 1) := by decide +kernel
theorem dX9_mostSameKeys_60 : decode cX9_mostSameKeys 60 = .ok (.getfield 37, 3) := by decide +kernel
theorem dX9_mostSameKeys_63 : decode cX9_mostSameKeys 63 = .ok (.getfield 140, 3) := by decide +kernel
theorem dX9_mostSameKeys_66 : decode cX9_mostSameKeys 66 = .ok (.invokevirtual 141, 3) := by decide +kernel
theorem dX9_mostSameKeys_69 : decode cX9_mostSameKeys 69 = .ok (.invokestatic 250, 3) := by decide +kernel
theorem dX9_mostSameKeys_72 : decode cX9_mostSameKeys 72 = .ok (.istore_n 2, 1) := by decide +kernel
theorem dX9_mostSameKeys_73 : decode cX9_mostSameKeys 73 = .ok (.iinc 3 1, 3) := by decide +kernel
theorem dX9_mostSameKeys_76 : decode cX9_mostSameKeys 76 = .ok (.goto (-53), 3) := by decide +kernel
theorem dX9_mostSameKeys_79 : decode cX9_mostSameKeys 79 = .ok (.iload_n 2, 1) := by decide +kernel
theorem dX9_mostSameKeys_80 : decode cX9_mostSameKeys 80 = .ok (.ireturn, 1) := by decide +kernel
theorem dX9_readTyped_0 : decode cX9_readTyped 0 = .ok (.iconst 0, 1) := by decide +kernel
theorem dX9_readTyped_1 : decode cX9_readTyped 1 = .ok (.istore_n 2, 1) := by decide +kernel
theorem dX9_readTyped_2 : decode cX9_readTyped 2 = .ok (.iload_n 2, 1) := by decide +kernel
theorem dX9_readTyped_3 : decode cX9_readTyped 3 = .ok (.aload_n 0, 1) := by decide +kernel
theorem dX9_readTyped_4 : decode cX9_readTyped 4 = .ok (.getfield 175, 3) := by decide +kernel
theorem dX9_readTyped_7 : decode cX9_readTyped 7 = .ok (.if_icmp .ge 53, 3) := by decide +kernel
theorem dX9_readTyped_10 : decode cX9_readTyped 10 = .ok (.iload_n 2, 1) := by decide +kernel
theorem dX9_readTyped_11 : decode cX9_readTyped 11 = .ok (.aload_n 1, 1) := by decide +kernel
theorem dX9_readTyped_12 : decode cX9_readTyped 12 = .ok (.getfield 140, 3) := by decide +kernel
theorem dX9_readTyped_15 : decode cX9_readTyped 15 = .ok (.if_icmp .ge 45, 3) := by decide +kernel
theorem dX9_readTyped_18 : decode cX9_readTyped 18 = .ok (.aload_n 0, 1) := by decide +kernel
theorem dX9_readTyped_19 : decode cX9_readTyped 19 = .ok (.getfield 57, 3) := by decide +kernel
theorem dX9_readTyped_22 : decode cX9_readTyped 22 = .ok (.iload_n 2, 1) := by decide +kernel
theorem dX9_readTyped_23 : decode cX9_readTyped 23 = .ok (.invokevirtual 115, 3) := by decide +kernel
theorem dX9_readTyped_26 : decode cX9_readTyped 26 = .ok (.aload_n 0, 1) := by decide +kernel
theorem dX9_readTyped_27 : decode cX9_readTyped 27 = .ok (.aload_n 1, 1) := by decide +kernel
theorem dX9_readTyped_28 : decode cX9_readTyped 28 = .ok (.iload_n 2, 1) := by decide +kernel
theorem dX9_readTyped_29 : decode cX9_readTyped 29 = .ok (.invokevirtual 130, 3) := by decide +kernel
theorem dX9_readTyped_32 : decode cX9_readTyped 32 = .ok (.invokestatic 255, 3) := by decide +kernel
theorem dX9_readTyped_35 : decode cX9_readTyped 35 = .ok (.istore_n 3, 1) := by decide +kernel
theorem dX9_readTyped_36 : decode cX9_readTyped 36 = .ok (.iload_n 3, 1) := by decide +kernel
theorem dX9_readTyped_37 : decode cX9_readTyped 37 = .ok (.sipush (-1001), 3) := by decide +kernel
theorem dX9_readTyped_40 : decode cX9_readTyped 40 = .ok (.if_icmp .ne 5, 3) := by decide +kernel
theorem dX9_readTyped_43 : decode cX9_readTyped 43 = .ok (.iload_n 2, 1) := by decide +kernel
theorem dX9_readTyped_44 : decode cX9_readTyped 44 = .ok (.ireturn, 1) := by decide +kernel
theorem dX9_readTyped_45 : decode cX9_readTyped 45 = .ok (.aload_n 0, 1) := by decide +kernel
theorem dX9_readTyped_46 : decode cX9_readTyped 46 = .ok (.getfield 53, 3) := by decide +kernel
theorem dX9_readTyped_49 : decode cX9_readTyped 49 = .ok (.iload_n 2, 1) := by decide +kernel
theorem dX9_readTyped_50 : decode cX9_readTyped 50 = .ok (.iload_n 3, 1) := by decide +kernel
theorem dX9_readTyped_51 : decode cX9_readTyped 51 = .ok (.invokevirtual 109, 3) := by decide +kernel
theorem dX9_readTyped_54 : decode cX9_readTyped 54 = .ok (.iinc 2 1, 3) := by decide +kernel
theorem dX9_readTyped_57 : decode cX9_readTyped 57 = .ok (.goto (-55), 3) := by decide +kernel
theorem dX9_readTyped_60 : decode cX9_readTyped 60 = .ok (.iload_n 2, 1) := by decide +kernel
theorem dX9_readTyped_61 : decode cX9_readTyped 61 = .ok (.ireturn, 1) := by decide +kernel
theorem dX9_markOf_0 : decode cX9_markOf 0 = .ok (.iload_n 0, 1) := by decide +kernel
theorem dX9_markOf_1 : decode cX9_markOf 1 = .ok (.bipush 45, 2) := by decide +kernel
theorem dX9_markOf_3 : decode cX9_markOf 3 = .ok (.if_icmp .ne 5, 3) := by decide +kernel
theorem dX9_markOf_6 : decode cX9_markOf 6 = .ok (.iconst (-1), 1) := by decide +kernel
theorem dX9_markOf_7 : decode cX9_markOf 7 = .ok (.ireturn, 1) := by decide +kernel
theorem dX9_markOf_8 : decode cX9_markOf 8 = .ok (.iload_n 0, 1) := by decide +kernel
theorem dX9_markOf_9 : decode cX9_markOf 9 = .ok (.bipush 65, 2) := by decide +kernel
theorem dX9_markOf_11 : decode cX9_markOf 11 = .ok (.if_icmp .lt 18, 3) := by decide +kernel
theorem dX9_markOf_14 : decode cX9_markOf 14 = .ok (.iload_n 0, 1) := by decide +kernel
theorem dX9_markOf_15 : decode cX9_markOf 15 = .ok (.bipush 65, 2) := by decide +kernel
theorem dX9_markOf_17 : decode cX9_markOf 17 = .ok (.iload_n 1, 1) := by decide +kernel
theorem dX9_markOf_18 : decode cX9_markOf 18 = .ok (.iadd, 1) := by decide +kernel
theorem dX9_markOf_19 : decode cX9_markOf 19 = .ok (.if_icmp .ge 10, 3) := by decide +kernel
theorem dX9_markOf_22 : decode cX9_markOf 22 = .ok (.iload_n 0, 1) := by decide +kernel
theorem dX9_markOf_23 : decode cX9_markOf 23 = .ok (.bipush 65, 2) := by decide +kernel
theorem dX9_markOf_25 : decode cX9_markOf 25 = .ok (.isub, 1) := by decide +kernel
theorem dX9_markOf_26 : decode cX9_markOf 26 = .ok (.goto 6, 3) := by decide +kernel
theorem dX9_markOf_29 : decode cX9_markOf 29 = .ok (.sipush (-1001), 3) := by decide +kernel
theorem dX9_markOf_32 : decode cX9_markOf 32 = .ok (.ireturn, 1) := by decide +kernel
theorem dX9_handIn_0 : decode cX9_handIn 0 = .ok (.aload_n 0, 1) := by decide +kernel
theorem dX9_handIn_1 : decode cX9_handIn 1 = .ok (.getfield 19, 3) := by decide +kernel
theorem dX9_handIn_4 : decode cX9_handIn 4 = .ok (.aload_n 0, 1) := by decide +kernel
theorem dX9_handIn_5 : decode cX9_handIn 5 = .ok (.getfield 10, 3) := by decide +kernel
theorem dX9_handIn_8 : decode cX9_handIn 8 = .ok (.invokevirtual 191, 3) := by decide +kernel
theorem dX9_handIn_11 : decode cX9_handIn 11 = .ok (.aload_n 0, 1) := by decide +kernel
theorem dX9_handIn_12 : decode cX9_handIn 12 = .ok (.getfield 10, 3) := by decide +kernel
theorem dX9_handIn_15 : decode cX9_handIn 15 = .ok (.getfield 66, 3) := by decide +kernel
theorem dX9_handIn_18 : decode cX9_handIn 18 = .ok (.iload_n 1, 1) := by decide +kernel
theorem dX9_handIn_19 : decode cX9_handIn 19 = .ok (.aload_n 2, 1) := by decide +kernel
theorem dX9_handIn_20 : decode cX9_handIn 20 = .ok (.aload_n 0, 1) := by decide +kernel
theorem dX9_handIn_21 : decode cX9_handIn 21 = .ok (.getfield 53, 3) := by decide +kernel
theorem dX9_handIn_24 : decode cX9_handIn 24 = .ok (.invokevirtual 258, 3) := by decide +kernel
theorem dX9_handIn_27 : decode cX9_handIn 27 = .ok (.ireturn, 1) := by decide +kernel
theorem dX9_favoriteWrong_0 : decode cX9_favoriteWrong 0 = .ok (.sipush (-1009), 3) := by decide +kernel
theorem dX9_favoriteWrong_3 : decode cX9_favoriteWrong 3 = .ok (.istore_n 3, 1) := by decide +kernel
theorem dX9_favoriteWrong_4 : decode cX9_favoriteWrong 4 = .ok (.iconst 0, 1) := by decide +kernel
theorem dX9_favoriteWrong_5 : decode cX9_favoriteWrong 5 = .ok (.istore 4, 2) := by decide +kernel
theorem dX9_favoriteWrong_7 : decode cX9_favoriteWrong 7 = .ok (.iconst 0, 1) := by decide +kernel
theorem dX9_favoriteWrong_8 : decode cX9_favoriteWrong 8 = .ok (.istore 5, 2) := by decide +kernel
theorem dX9_favoriteWrong_10 : decode cX9_favoriteWrong 10 = .ok (.iload 5, 2) := by decide +kernel
theorem dX9_favoriteWrong_12 : decode cX9_favoriteWrong 12 = .ok (.aload_n 0, 1) := by decide +kernel
theorem dX9_favoriteWrong_13 : decode cX9_favoriteWrong 13 = .ok (.getfield 10, 3) := by decide +kernel
theorem dX9_favoriteWrong_16 : decode cX9_favoriteWrong 16 = .ok (.getfield 76, 3) := by decide +kernel
theorem dX9_favoriteWrong_19 : decode cX9_favoriteWrong 19 = .ok (.iload_n 1, 1) := by decide +kernel
theorem dX9_favoriteWrong_20 : decode cX9_favoriteWrong 20 = .ok (.iconst 4, 1) := by decide +kernel
theorem dX9_favoriteWrong_21 : decode cX9_favoriteWrong 21 = .ok (.invokevirtual 95, 3) := by decide +kernel
theorem dX9_favoriteWrong_24 : decode cX9_favoriteWrong 24 = .ok (.if_icmp .ge 44, 3) := by decide +kernel
theorem dX9_favoriteWrong_27 : decode cX9_favoriteWrong 27 = .ok (.aload_n 0, 1) := by decide +kernel
theorem dX9_favoriteWrong_28 : decode cX9_favoriteWrong 28 = .ok (.getfield 10, 3) := by decide +kernel
theorem dX9_favoriteWrong_31 : decode cX9_favoriteWrong 31 = .ok (.getfield 66, 3) := by decide +kernel
theorem dX9_favoriteWrong_34 : decode cX9_favoriteWrong 34 = .ok (.iload_n 1, 1) := by decide +kernel
theorem dX9_favoriteWrong_35 : decode cX9_favoriteWrong 35 = .ok (.iload 5, 2) := by decide +kernel
theorem dX9_favoriteWrong_37 : decode cX9_favoriteWrong 37 = .ok (.invokevirtual 200, 3) := by decide +kernel
theorem dX9_favoriteWrong_40 : decode cX9_favoriteWrong 40 = .ok (.istore 6, 2) := by decide +kernel
theorem dX9_favoriteWrong_42 : decode cX9_favoriteWrong 42 = .ok (.iload 5, 2) := by decide +kernel
theorem dX9_favoriteWrong_44 : decode cX9_favoriteWrong 44 = .ok (.iload_n 2, 1) := by decide +kernel
theorem dX9_favoriteWrong_45 : decode cX9_favoriteWrong 45 = .ok (.if_icmp .eq 17, 3) := by decide +kernel
theorem dX9_favoriteWrong_48 : decode cX9_favoriteWrong 48 = .ok (.iload 6, 2) := by decide +kernel
theorem dX9_favoriteWrong_50 : decode cX9_favoriteWrong 50 = .ok (.iload 4, 2) := by decide +kernel
theorem dX9_favoriteWrong_52 : decode cX9_favoriteWrong 52 = .ok (.if_icmp .le 10, 3) := by decide +kernel
theorem dX9_favoriteWrong_55 : decode cX9_favoriteWrong 55 = .ok (.iload 6, 2) := by decide +kernel
theorem dX9_favoriteWrong_57 : decode cX9_favoriteWrong 57 = .ok (.istore 4, 2) := by decide +kernel
theorem dX9_favoriteWrong_59 : decode cX9_favoriteWrong 59 = .ok (.iload 5, 2) := by decide +kernel
theorem dX9_favoriteWrong_61 : decode cX9_favoriteWrong 61 = .ok (.istore_n 3, 1) := by decide +kernel
theorem dX9_favoriteWrong_62 : decode cX9_favoriteWrong 62 = .ok (.iinc 5 1, 3) := by decide +kernel
theorem dX9_favoriteWrong_65 : decode cX9_favoriteWrong 65 = .ok (.goto (-55), 3) := by decide +kernel
theorem dX9_favoriteWrong_68 : decode cX9_favoriteWrong 68 = .ok (.iload_n 3, 1) := by decide +kernel
theorem dX9_favoriteWrong_69 : decode cX9_favoriteWrong 69 = .ok (.ireturn, 1) := by decide +kernel
theorem dX9_countSameWrong_0 : decode cX9_countSameWrong 0 = .ok (.iconst 0, 1) := by decide +kernel
theorem dX9_countSameWrong_1 : decode cX9_countSameWrong 1 = .ok (.istore_n 3, 1) := by decide +kernel
theorem dX9_countSameWrong_2 : decode cX9_countSameWrong 2 = .ok (.iconst 0, 1) := by decide +kernel
theorem dX9_countSameWrong_3 : decode cX9_countSameWrong 3 = .ok (.istore 4, 2) := by decide +kernel
theorem dX9_countSameWrong_5 : decode cX9_countSameWrong 5 = .ok (.iload 4, 2) := by decide +kernel
theorem dX9_countSameWrong_7 : decode cX9_countSameWrong 7 = .ok (.aload_n 0, 1) := by decide +kernel
theorem dX9_countSameWrong_8 : decode cX9_countSameWrong 8 = .ok (.getfield 10, 3) := by decide +kernel
theorem dX9_countSameWrong_11 : decode cX9_countSameWrong 11 = .ok (.getfield 76, 3) := by decide +kernel
theorem dX9_countSameWrong_14 : decode cX9_countSameWrong 14 = .ok (.getfield 80, 3) := by decide +kernel
theorem dX9_countSameWrong_17 : decode cX9_countSameWrong 17 = .ok (.if_icmp .ge 69, 3) := by decide +kernel
theorem dX9_countSameWrong_20 : decode cX9_countSameWrong 20 = .ok (.aload_n 0, 1) := by decide +kernel
theorem dX9_countSameWrong_21 : decode cX9_countSameWrong 21 = .ok (.getfield 10, 3) := by decide +kernel
theorem dX9_countSameWrong_24 : decode cX9_countSameWrong 24 = .ok (.getfield 66, 3) := by decide +kernel
theorem dX9_countSameWrong_27 : decode cX9_countSameWrong 27 = .ok (.iload_n 1, 1) := by decide +kernel
theorem dX9_countSameWrong_28 : decode cX9_countSameWrong 28 = .ok (.iload 4, 2) := by decide +kernel
theorem dX9_countSameWrong_30 : decode cX9_countSameWrong 30 = .ok (.invokevirtual 197, 3) := by decide +kernel
theorem dX9_countSameWrong_33 : decode cX9_countSameWrong 33 = .ok (.istore 5, 2) := by decide +kernel
theorem dX9_countSameWrong_35 : decode cX9_countSameWrong 35 = .ok (.iload 5, 2) := by decide +kernel
theorem dX9_countSameWrong_37 : decode cX9_countSameWrong 37 = .ok (.iconst (-1), 1) := by decide +kernel
theorem dX9_countSameWrong_38 : decode cX9_countSameWrong 38 = .ok (.if_icmp .eq 42, 3) := by decide +kernel
theorem dX9_countSameWrong_41 : decode cX9_countSameWrong 41 = .ok (.iload 5, 2) := by decide +kernel
theorem dX9_countSameWrong_43 : decode cX9_countSameWrong 43 = .ok (.aload_n 0, 1) := by decide +kernel
theorem dX9_countSameWrong_44 : decode cX9_countSameWrong 44 = .ok (.getfield 10, 3) := by decide +kernel
theorem dX9_countSameWrong_47 : decode cX9_countSameWrong 47 = .ok (.getfield 66, 3) := by decide +kernel
theorem dX9_countSameWrong_50 : decode cX9_countSameWrong 50 = .ok (.iload_n 2, 1) := by decide +kernel
theorem dX9_countSameWrong_51 : decode cX9_countSameWrong 51 = .ok (.iload 4, 2) := by decide +kernel
theorem dX9_countSameWrong_53 : decode cX9_countSameWrong 53 = .ok (.invokevirtual 197, 3) := by decide +kernel
theorem dX9_countSameWrong_56 : decode cX9_countSameWrong 56 = .ok (.if_icmp .ne 24, 3) := by decide +kernel
theorem dX9_countSameWrong_59 : decode cX9_countSameWrong 59 = .ok (.iload 5, 2) := by decide +kernel
theorem dX9_countSameWrong_61 : decode cX9_countSameWrong 61 = .ok (.aload_n 0, 1) := by decide +kernel
theorem dX9_countSameWrong_62 : decode cX9_countSameWrong 62 = .ok (.getfield 10, 3) := by decide +kernel
theorem dX9_countSameWrong_65 : decode cX9_countSameWrong 65 = .ok (.getfield 76, 3) := by decide +kernel
theorem dX9_countSameWrong_68 : decode cX9_countSameWrong 68 = .ok (.iload 4, 2) := by decide +kernel
theorem dX9_countSameWrong_70 : decode cX9_countSameWrong 70 = .ok (.iconst 1, 1) := by decide +kernel
theorem dX9_countSameWrong_71 : decode cX9_countSameWrong 71 = .ok (.invokevirtual 95, 3) := by decide +kernel
theorem dX9_countSameWrong_74 : decode cX9_countSameWrong 74 = .ok (.if_icmp .eq 6, 3) := by decide +kernel
theorem dX9_countSameWrong_77 : decode cX9_countSameWrong 77 = .ok (.iinc 3 1, 3) := by decide +kernel
theorem dX9_countSameWrong_80 : decode cX9_countSameWrong 80 = .ok (.iinc 4 1, 3) := by decide +kernel
theorem dX9_countSameWrong_83 : decode cX9_countSameWrong 83 = .ok (.goto (-78), 3) := by decide +kernel
theorem dX9_countSameWrong_86 : decode cX9_countSameWrong 86 = .ok (.iload_n 3, 1) := by decide +kernel
theorem dX9_countSameWrong_87 : decode cX9_countSameWrong 87 = .ok (.ireturn, 1) := by decide +kernel
theorem dX9_printQuestions_0 : decode cX9_printQuestions 0 = .ok (.ldc2_w 261, 3) := by decide +kernel
theorem dX9_printQuestions_3 : decode cX9_printQuestions 3 = .ok (.lload_n 1, 1) := by decide +kernel
theorem dX9_printQuestions_4 : decode cX9_printQuestions 4 = .ok (.lmul, 1) := by decide +kernel
theorem dX9_printQuestions_5 : decode cX9_printQuestions 5 = .ok (.aload_n 0, 1) := by decide +kernel
theorem dX9_printQuestions_6 : decode cX9_printQuestions 6 = .ok (.getfield 10, 3) := by decide +kernel
theorem dX9_printQuestions_9 : decode cX9_printQuestions 9 = .ok (.getfield 76, 3) := by decide +kernel
theorem dX9_printQuestions_12 : decode cX9_printQuestions 12 = .ok (.getfield 80, 3) := by decide +kernel
theorem dX9_printQuestions_15 : decode cX9_printQuestions 15 = .ok (.i2l, 1) := by decide +kernel
theorem dX9_printQuestions_16 : decode cX9_printQuestions 16 = .ok (.ladd, 1) := by decide +kernel
theorem dX9_printQuestions_17 : decode cX9_printQuestions 17 = .ok (.lstore_n 3, 1) := by decide +kernel
theorem dX9_printQuestions_18 : decode cX9_printQuestions 18 = .ok (.iconst 0, 1) := by decide +kernel
theorem dX9_printQuestions_19 : decode cX9_printQuestions 19 = .ok (.istore 5, 2) := by decide +kernel
theorem dX9_printQuestions_21 : decode cX9_printQuestions 21 = .ok (.iload 5, 2) := by decide +kernel
theorem dX9_printQuestions_23 : decode cX9_printQuestions 23 = .ok (.aload_n 0, 1) := by decide +kernel
theorem dX9_printQuestions_24 : decode cX9_printQuestions 24 = .ok (.getfield 10, 3) := by decide +kernel
theorem dX9_printQuestions_27 : decode cX9_printQuestions 27 = .ok (.getfield 76, 3) := by decide +kernel
theorem dX9_printQuestions_30 : decode cX9_printQuestions 30 = .ok (.getfield 80, 3) := by decide +kernel
theorem dX9_printQuestions_33 : decode cX9_printQuestions 33 = .ok (.if_icmp .ge 46, 3) := by decide +kernel
theorem dX9_printQuestions_36 : decode cX9_printQuestions 36 = .ok (.iconst 0, 1) := by decide +kernel
theorem dX9_printQuestions_37 : decode cX9_printQuestions 37 = .ok (.istore 6, 2) := by decide +kernel
theorem dX9_printQuestions_39 : decode cX9_printQuestions 39 = .ok (.iload 6, 2) := by decide +kernel
theorem dX9_printQuestions_41 : decode cX9_printQuestions 41 = .ok (.iconst 5, 1) := by decide +kernel
theorem dX9_printQuestions_42 : decode cX9_printQuestions 42 = .ok (.if_icmp .ge 31, 3) := by decide +kernel
theorem dX9_printQuestions_45 : decode cX9_printQuestions 45 = .ok (.ldc2_w 261, 3) := by decide +kernel
theorem dX9_printQuestions_48 : decode cX9_printQuestions 48 = .ok (.lload_n 3, 1) := by decide +kernel
theorem dX9_printQuestions_49 : decode cX9_printQuestions 49 = .ok (.lmul, 1) := by decide +kernel
theorem dX9_printQuestions_50 : decode cX9_printQuestions 50 = .ok (.aload_n 0, 1) := by decide +kernel
theorem dX9_printQuestions_51 : decode cX9_printQuestions 51 = .ok (.getfield 10, 3) := by decide +kernel
theorem dX9_printQuestions_54 : decode cX9_printQuestions 54 = .ok (.getfield 76, 3) := by decide +kernel
theorem dX9_printQuestions_57 : decode cX9_printQuestions 57 = .ok (.iload 5, 2) := by decide +kernel
theorem dX9_printQuestions_59 : decode cX9_printQuestions 59 = .ok (.iload 6, 2) := by decide +kernel
theorem dX9_printQuestions_61 : decode cX9_printQuestions 61 = .ok (.invokevirtual 95, 3) := by decide +kernel
theorem dX9_printQuestions_64 : decode cX9_printQuestions 64 = .ok (.i2l, 1) := by decide +kernel
theorem dX9_printQuestions_65 : decode cX9_printQuestions 65 = .ok (.ladd, 1) := by decide +kernel
theorem dX9_printQuestions_66 : decode cX9_printQuestions 66 = .ok (.lstore_n 3, 1) := by decide +kernel
theorem dX9_printQuestions_67 : decode cX9_printQuestions 67 = .ok (.iinc 6 1, 3) := by decide +kernel
theorem dX9_printQuestions_70 : decode cX9_printQuestions 70 = .ok (.goto (-31), 3) := by decide +kernel
theorem dX9_printQuestions_73 : decode cX9_printQuestions 73 = .ok (.iinc 5 1, 3) := by decide +kernel
theorem dX9_printQuestions_76 : decode cX9_printQuestions 76 = .ok (.goto (-55), 3) := by decide +kernel
theorem dX9_printQuestions_79 : decode cX9_printQuestions 79 = .ok (.lload_n 3, 1) := by decide +kernel
theorem dX9_printQuestions_80 : decode cX9_printQuestions 80 = .ok (.lreturn, 1) := by decide +kernel
theorem dX9_printVersions_0 : decode cX9_printVersions 0 = .ok (.ldc2_w 261, 3) := by decide +kernel
theorem dX9_printVersions_3 : decode cX9_printVersions 3 = .ok (.lload_n 1, 1) := by decide +kernel
theorem dX9_printVersions_4 : decode cX9_printVersions 4 = .ok (.lmul, 1) := by decide +kernel
theorem dX9_printVersions_5 : decode cX9_printVersions 5 = .ok (.aload_n 0, 1) := by decide +kernel
theorem dX9_printVersions_6 : decode cX9_printVersions 6 = .ok (.getfield 10, 3) := by decide +kernel
theorem dX9_printVersions_9 : decode cX9_printVersions 9 = .ok (.getfield 103, 3) := by decide +kernel
theorem dX9_printVersions_12 : decode cX9_printVersions 12 = .ok (.i2l, 1) := by decide +kernel
theorem dX9_printVersions_13 : decode cX9_printVersions 13 = .ok (.ladd, 1) := by decide +kernel
theorem dX9_printVersions_14 : decode cX9_printVersions 14 = .ok (.lstore_n 3, 1) := by decide +kernel
theorem dX9_printVersions_15 : decode cX9_printVersions 15 = .ok (.iconst 0, 1) := by decide +kernel
theorem dX9_printVersions_16 : decode cX9_printVersions 16 = .ok (.istore 5, 2) := by decide +kernel
theorem dX9_printVersions_18 : decode cX9_printVersions 18 = .ok (.iload 5, 2) := by decide +kernel
theorem dX9_printVersions_20 : decode cX9_printVersions 20 = .ok (.aload_n 0, 1) := by decide +kernel
theorem dX9_printVersions_21 : decode cX9_printVersions 21 = .ok (.getfield 10, 3) := by decide +kernel
theorem dX9_printVersions_24 : decode cX9_printVersions 24 = .ok (.getfield 103, 3) := by decide +kernel
theorem dX9_printVersions_27 : decode cX9_printVersions 27 = .ok (.if_icmp .ge 89, 3) := by decide +kernel
theorem dX9_printVersions_30 : decode cX9_printVersions 30 = .ok (.aload_n 0, 1) := by decide +kernel
theorem dX9_printVersions_31 : decode cX9_printVersions 31 = .ok (.iload 5, 2) := by decide +kernel
theorem dX9_printVersions_33 : decode cX9_printVersions 33 = .ok (.invokevirtual 119, 3) := by decide +kernel
theorem dX9_printVersions_36 : decode cX9_printVersions 36 = .ok (.astore 6, 2) := by decide +kernel
theorem dX9_printVersions_38 : decode cX9_printVersions 38 = .ok (.aload 6, 2) := by decide +kernel
theorem dX9_printVersions_40 : decode cX9_printVersions 40 = .ok (.ifnull 70, 3) := by decide +kernel
theorem dX9_printVersions_43 : decode cX9_printVersions 43 = .ok (.iconst 0, 1) := by decide +kernel
theorem dX9_printVersions_44 : decode cX9_printVersions 44 = .ok (.istore 7, 2) := by decide +kernel
theorem dX9_printVersions_46 : decode cX9_printVersions 46 = .ok (.iload 7, 2) := by decide +kernel
theorem dX9_printVersions_48 : decode cX9_printVersions 48 = .ok (.aload 6, 2) := by decide +kernel
theorem dX9_printVersions_50 : decode cX9_printVersions 50 = .ok (.getfield 140, 3) := by decide +kernel
theorem dX9_printVersions_53 : decode cX9_printVersions 53 = .ok (.if_icmp .ge 41, 3) := by decide +kernel
theorem dX9_printVersions_56 : decode cX9_printVersions 56 = .ok (.iconst 0, 1) := by decide +kernel
theorem dX9_printVersions_57 : decode cX9_printVersions 57 = .ok (.istore 8, 2) := by decide +kernel
theorem dX9_printVersions_59 : decode cX9_printVersions 59 = .ok (.iload 8, 2) := by decide +kernel
theorem dX9_printVersions_61 : decode cX9_printVersions 61 = .ok (.iconst 3, 1) := by decide +kernel
theorem dX9_printVersions_62 : decode cX9_printVersions 62 = .ok (.if_icmp .gt 26, 3) := by decide +kernel
theorem dX9_printVersions_65 : decode cX9_printVersions 65 = .ok (.ldc2_w 261, 3) := by decide +kernel
theorem dX9_printVersions_68 : decode cX9_printVersions 68 = .ok (.lload_n 3, 1) := by decide +kernel
theorem dX9_printVersions_69 : decode cX9_printVersions 69 = .ok (.lmul, 1) := by decide +kernel
theorem dX9_printVersions_70 : decode cX9_printVersions 70 = .ok (.aload 6, 2) := by decide +kernel
theorem dX9_printVersions_72 : decode cX9_printVersions 72 = .ok (.iload 7, 2) := by decide +kernel
theorem dX9_printVersions_74 : decode cX9_printVersions 74 = .ok (.iload 8, 2) := by decide +kernel
theorem dX9_printVersions_76 : decode cX9_printVersions 76 = .ok (.invokevirtual 126, 3) := by decide +kernel
theorem dX9_printVersions_79 : decode cX9_printVersions 79 = .ok (.i2l, 1) := by decide +kernel
theorem dX9_printVersions_80 : decode cX9_printVersions 80 = .ok (.ladd, 1) := by decide +kernel
theorem dX9_printVersions_81 : decode cX9_printVersions 81 = .ok (.lstore_n 3, 1) := by decide +kernel
theorem dX9_printVersions_82 : decode cX9_printVersions 82 = .ok (.iinc 8 1, 3) := by decide +kernel
theorem dX9_printVersions_85 : decode cX9_printVersions 85 = .ok (.goto (-26), 3) := by decide +kernel
theorem dX9_printVersions_88 : decode cX9_printVersions 88 = .ok (.iinc 7 1, 3) := by decide +kernel
theorem dX9_printVersions_91 : decode cX9_printVersions 91 = .ok (.goto (-45), 3) := by decide +kernel
theorem dX9_printVersions_94 : decode cX9_printVersions 94 = .ok (.ldc2_w 261, 3) := by decide +kernel
theorem dX9_printVersions_97 : decode cX9_printVersions 97 = .ok (.lload_n 3, 1) := by decide +kernel
theorem dX9_printVersions_98 : decode cX9_printVersions 98 = .ok (.lmul, 1) := by decide +kernel
theorem dX9_printVersions_99 : decode cX9_printVersions 99 = .ok (.aload 6, 2) := by decide +kernel
theorem dX9_printVersions_101 : decode cX9_printVersions 101 = .ok (.getfield 160, 3) := by decide +kernel
theorem dX9_printVersions_104 : decode cX9_printVersions 104 = .ok (.getfield 164, 3) := by decide +kernel
theorem dX9_printVersions_107 : decode cX9_printVersions 107 = .ok (.i2l, 1) := by decide +kernel
theorem dX9_printVersions_108 : decode cX9_printVersions 108 = .ok (.ladd, 1) := by decide +kernel
theorem dX9_printVersions_109 : decode cX9_printVersions 109 = .ok (.lstore_n 3, 1) := by decide +kernel
theorem dX9_printVersions_110 : decode cX9_printVersions 110 = .ok (.iinc 5 1, 3) := by decide +kernel
theorem dX9_printVersions_113 : decode cX9_printVersions 113 = .ok (.goto (-95), 3) := by decide +kernel
theorem dX9_printVersions_116 : decode cX9_printVersions 116 = .ok (.lload_n 3, 1) := by decide +kernel
theorem dX9_printVersions_117 : decode cX9_printVersions 117 = .ok (.lreturn, 1) := by decide +kernel
theorem dX9_printSheets_0 : decode cX9_printSheets 0 = .ok (.ldc2_w 261, 3) := by decide +kernel
theorem dX9_printSheets_3 : decode cX9_printSheets 3 = .ok (.lload_n 1, 1) := by decide +kernel
theorem dX9_printSheets_4 : decode cX9_printSheets 4 = .ok (.lmul, 1) := by decide +kernel
theorem dX9_printSheets_5 : decode cX9_printSheets 5 = .ok (.aload_n 0, 1) := by decide +kernel
theorem dX9_printSheets_6 : decode cX9_printSheets 6 = .ok (.getfield 10, 3) := by decide +kernel
theorem dX9_printSheets_9 : decode cX9_printSheets 9 = .ok (.getfield 66, 3) := by decide +kernel
theorem dX9_printSheets_12 : decode cX9_printSheets 12 = .ok (.getfield 70, 3) := by decide +kernel
theorem dX9_printSheets_15 : decode cX9_printSheets 15 = .ok (.i2l, 1) := by decide +kernel
theorem dX9_printSheets_16 : decode cX9_printSheets 16 = .ok (.ladd, 1) := by decide +kernel
theorem dX9_printSheets_17 : decode cX9_printSheets 17 = .ok (.lstore_n 3, 1) := by decide +kernel
theorem dX9_printSheets_18 : decode cX9_printSheets 18 = .ok (.iconst 0, 1) := by decide +kernel
theorem dX9_printSheets_19 : decode cX9_printSheets 19 = .ok (.istore 5, 2) := by decide +kernel
theorem dX9_printSheets_21 : decode cX9_printSheets 21 = .ok (.iload 5, 2) := by decide +kernel
theorem dX9_printSheets_23 : decode cX9_printSheets 23 = .ok (.aload_n 0, 1) := by decide +kernel
theorem dX9_printSheets_24 : decode cX9_printSheets 24 = .ok (.getfield 10, 3) := by decide +kernel
theorem dX9_printSheets_27 : decode cX9_printSheets 27 = .ok (.getfield 66, 3) := by decide +kernel
theorem dX9_printSheets_30 : decode cX9_printSheets 30 = .ok (.getfield 70, 3) := by decide +kernel
theorem dX9_printSheets_33 : decode cX9_printSheets 33 = .ok (.if_icmp .ge 108, 3) := by decide +kernel
theorem dX9_printSheets_36 : decode cX9_printSheets 36 = .ok (.iconst 0, 1) := by decide +kernel
theorem dX9_printSheets_37 : decode cX9_printSheets 37 = .ok (.istore 6, 2) := by decide +kernel
theorem dX9_printSheets_39 : decode cX9_printSheets 39 = .ok (.iload 6, 2) := by decide +kernel
theorem dX9_printSheets_41 : decode cX9_printSheets 41 = .ok (.iconst 4, 1) := by decide +kernel
theorem dX9_printSheets_42 : decode cX9_printSheets 42 = .ok (.if_icmp .gt 31, 3) := by decide +kernel
theorem dX9_printSheets_45 : decode cX9_printSheets 45 = .ok (.ldc2_w 261, 3) := by decide +kernel
theorem dX9_printSheets_48 : decode cX9_printSheets 48 = .ok (.lload_n 3, 1) := by decide +kernel
theorem dX9_printSheets_49 : decode cX9_printSheets 49 = .ok (.lmul, 1) := by decide +kernel
theorem dX9_printSheets_50 : decode cX9_printSheets 50 = .ok (.aload_n 0, 1) := by decide +kernel
theorem dX9_printSheets_51 : decode cX9_printSheets 51 = .ok (.getfield 10, 3) := by decide +kernel
theorem dX9_printSheets_54 : decode cX9_printSheets 54 = .ok (.getfield 66, 3) := by decide +kernel
theorem dX9_printSheets_57 : decode cX9_printSheets 57 = .ok (.iload 5, 2) := by decide +kernel
theorem dX9_printSheets_59 : decode cX9_printSheets 59 = .ok (.iload 6, 2) := by decide +kernel
theorem dX9_printSheets_61 : decode cX9_printSheets 61 = .ok (.invokevirtual 196, 3) := by decide +kernel
theorem dX9_printSheets_64 : decode cX9_printSheets 64 = .ok (.i2l, 1) := by decide +kernel
theorem dX9_printSheets_65 : decode cX9_printSheets 65 = .ok (.ladd, 1) := by decide +kernel
theorem dX9_printSheets_66 : decode cX9_printSheets 66 = .ok (.lstore_n 3, 1) := by decide +kernel
theorem dX9_printSheets_67 : decode cX9_printSheets 67 = .ok (.iinc 6 1, 3) := by decide +kernel
theorem dX9_printSheets_70 : decode cX9_printSheets 70 = .ok (.goto (-31), 3) := by decide +kernel
theorem dX9_printSheets_73 : decode cX9_printSheets 73 = .ok (.iconst 0, 1) := by decide +kernel
theorem dX9_printSheets_74 : decode cX9_printSheets 74 = .ok (.istore 6, 2) := by decide +kernel
theorem dX9_printSheets_76 : decode cX9_printSheets 76 = .ok (.iload 6, 2) := by decide +kernel
theorem dX9_printSheets_78 : decode cX9_printSheets 78 = .ok (.aload_n 0, 1) := by decide +kernel
theorem dX9_printSheets_79 : decode cX9_printSheets 79 = .ok (.getfield 10, 3) := by decide +kernel
theorem dX9_printSheets_82 : decode cX9_printSheets 82 = .ok (.getfield 76, 3) := by decide +kernel
theorem dX9_printSheets_85 : decode cX9_printSheets 85 = .ok (.getfield 80, 3) := by decide +kernel
theorem dX9_printSheets_88 : decode cX9_printSheets 88 = .ok (.if_icmp .ge 47, 3) := by decide +kernel
theorem dX9_printSheets_91 : decode cX9_printSheets 91 = .ok (.aload_n 0, 1) := by decide +kernel
theorem dX9_printSheets_92 : decode cX9_printSheets 92 = .ok (.getfield 10, 3) := by decide +kernel
theorem dX9_printSheets_95 : decode cX9_printSheets 95 = .ok (.getfield 66, 3) := by decide +kernel
theorem dX9_printSheets_98 : decode cX9_printSheets 98 = .ok (.iload 5, 2) := by decide +kernel
theorem dX9_printSheets_100 : decode cX9_printSheets 100 = .ok (.iload 6, 2) := by decide +kernel
theorem dX9_printSheets_102 : decode cX9_printSheets 102 = .ok (.invokevirtual 197, 3) := by decide +kernel
theorem dX9_printSheets_105 : decode cX9_printSheets 105 = .ok (.istore 7, 2) := by decide +kernel
theorem dX9_printSheets_107 : decode cX9_printSheets 107 = .ok (.ldc2_w 261, 3) := by decide +kernel
theorem dX9_printSheets_110 : decode cX9_printSheets 110 = .ok (.lload_n 3, 1) := by decide +kernel
theorem dX9_printSheets_111 : decode cX9_printSheets 111 = .ok (.lmul, 1) := by decide +kernel
theorem dX9_printSheets_112 : decode cX9_printSheets 112 = .ok (.iload 7, 2) := by decide +kernel
theorem dX9_printSheets_114 : decode cX9_printSheets 114 = .ok (.iconst (-1), 1) := by decide +kernel
theorem dX9_printSheets_115 : decode cX9_printSheets 115 = .ok (.if_icmp .ne 9, 3) := by decide +kernel
theorem dX9_printSheets_118 : decode cX9_printSheets 118 = .ok (.sipush (-1009), 3) := by decide +kernel
theorem dX9_printSheets_121 : decode cX9_printSheets 121 = .ok (.goto 5, 3) := by decide +kernel
theorem dX9_printSheets_124 : decode cX9_printSheets 124 = .ok (.iload 7, 2) := by decide +kernel
theorem dX9_printSheets_126 : decode cX9_printSheets 126 = .ok (.i2l, 1) := by decide +kernel
theorem dX9_printSheets_127 : decode cX9_printSheets 127 = .ok (.ladd, 1) := by decide +kernel
theorem dX9_printSheets_128 : decode cX9_printSheets 128 = .ok (.lstore_n 3, 1) := by decide +kernel
theorem dX9_printSheets_129 : decode cX9_printSheets 129 = .ok (.iinc 6 1, 3) := by decide +kernel
theorem dX9_printSheets_132 : decode cX9_printSheets 132 = .ok (.goto (-56), 3) := by decide +kernel
theorem dX9_printSheets_135 : decode cX9_printSheets 135 = .ok (.iinc 5 1, 3) := by decide +kernel
theorem dX9_printSheets_138 : decode cX9_printSheets 138 = .ok (.goto (-117), 3) := by decide +kernel
theorem dX9_printSheets_141 : decode cX9_printSheets 141 = .ok (.lload_n 3, 1) := by decide +kernel
theorem dX9_printSheets_142 : decode cX9_printSheets 142 = .ok (.lreturn, 1) := by decide +kernel
end
section
theorem dX10_init_0 : decode cX10_init 0 = .ok (.aload_n 0, 1) := by decide +kernel
theorem dX10_init_1 : decode cX10_init 1 = .ok (.invokespecial 1, 3) := by decide +kernel
theorem dX10_init_4 : decode cX10_init 4 = .ok (.aload_n 0, 1) := by decide +kernel
theorem dX10_init_5 : decode cX10_init 5 = .ok (.sipush 540, 3) := by decide +kernel
theorem dX10_init_8 : decode cX10_init 8 = .ok (.newarray .int, 2) := by decide +kernel
theorem dX10_init_10 : decode cX10_init 10 = .ok (.putfield 7, 3) := by decide +kernel
theorem dX10_init_13 : decode cX10_init 13 = .ok (.aload_n 0, 1) := by decide +kernel
theorem dX10_init_14 : decode cX10_init 14 = .ok (.sipush 2700, 3) := by decide +kernel
theorem dX10_init_17 : decode cX10_init 17 = .ok (.newarray .int, 2) := by decide +kernel
theorem dX10_init_19 : decode cX10_init 19 = .ok (.putfield 13, 3) := by decide +kernel
theorem dX10_init_22 : decode cX10_init 22 = .ok (.aload_n 0, 1) := by decide +kernel
theorem dX10_init_23 : decode cX10_init 23 = .ok (.bipush 20, 2) := by decide +kernel
theorem dX10_init_25 : decode cX10_init 25 = .ok (.newarray .int, 2) := by decide +kernel
theorem dX10_init_27 : decode cX10_init 27 = .ok (.putfield 16, 3) := by decide +kernel
theorem dX10_init_30 : decode cX10_init 30 = .ok (.aload_n 0, 1) := by decide +kernel
theorem dX10_init_31 : decode cX10_init 31 = .ok (.bipush 20, 2) := by decide +kernel
theorem dX10_init_33 : decode cX10_init 33 = .ok (.newarray .int, 2) := by decide +kernel
theorem dX10_init_35 : decode cX10_init 35 = .ok (.putfield 19, 3) := by decide +kernel
theorem dX10_init_38 : decode cX10_init 38 = .ok (.aload_n 0, 1) := by decide +kernel
theorem dX10_init_39 : decode cX10_init 39 = .ok (.bipush 100, 2) := by decide +kernel
theorem dX10_init_41 : decode cX10_init 41 = .ok (.newarray .int, 2) := by decide +kernel
theorem dX10_init_43 : decode cX10_init 43 = .ok (.putfield 22, 3) := by decide +kernel
theorem dX10_init_46 : decode cX10_init 46 = .ok (.aload_n 0, 1) := by decide +kernel
theorem dX10_init_47 : decode cX10_init 47 = .ok (.bipush 20, 2) := by decide +kernel
theorem dX10_init_49 : decode cX10_init 49 = .ok (.newarray .int, 2) := by decide +kernel
theorem dX10_init_51 : decode cX10_init 51 = .ok (.putfield 25, 3) := by decide +kernel
theorem dX10_init_54 : decode cX10_init 54 = .ok (.aload_n 0, 1) := by decide +kernel
theorem dX10_init_55 : decode cX10_init 55 = .ok (.bipush 20, 2) := by decide +kernel
theorem dX10_init_57 : decode cX10_init 57 = .ok (.newarray .int, 2) := by decide +kernel
theorem dX10_init_59 : decode cX10_init 59 = .ok (.putfield 28, 3) := by decide +kernel
theorem dX10_init_62 : decode cX10_init 62 = .ok (.aload_n 0, 1) := by decide +kernel
theorem dX10_init_63 : decode cX10_init 63 = .ok (.bipush 20, 2) := by decide +kernel
theorem dX10_init_65 : decode cX10_init 65 = .ok (.newarray .int, 2) := by decide +kernel
theorem dX10_init_67 : decode cX10_init 67 = .ok (.putfield 31, 3) := by decide +kernel
theorem dX10_init_70 : decode cX10_init 70 = .ok (.aload_n 0, 1) := by decide +kernel
theorem dX10_init_71 : decode cX10_init 71 = .ok (.bipush 20, 2) := by decide +kernel
theorem dX10_init_73 : decode cX10_init 73 = .ok (.newarray .int, 2) := by decide +kernel
theorem dX10_init_75 : decode cX10_init 75 = .ok (.putfield 34, 3) := by decide +kernel
theorem dX10_init_78 : decode cX10_init 78 = .ok (.aload_n 0, 1) := by decide +kernel
theorem dX10_init_79 : decode cX10_init 79 = .ok (.bipush 20, 2) := by decide +kernel
theorem dX10_init_81 : decode cX10_init 81 = .ok (.newarray .int, 2) := by decide +kernel
theorem dX10_init_83 : decode cX10_init 83 = .ok (.putfield 37, 3) := by decide +kernel
theorem dX10_init_86 : decode cX10_init 86 = .ok (.aload_n 0, 1) := by decide +kernel
theorem dX10_init_87 : decode cX10_init 87 = .ok (.bipush 20, 2) := by decide +kernel
theorem dX10_init_89 : decode cX10_init 89 = .ok (.newarray .int, 2) := by decide +kernel
theorem dX10_init_91 : decode cX10_init 91 = .ok (.putfield 40, 3) := by decide +kernel
theorem dX10_init_94 : decode cX10_init 94 = .ok (.aload_n 0, 1) := by decide +kernel
theorem dX10_init_95 : decode cX10_init 95 = .ok (.bipush 20, 2) := by decide +kernel
theorem dX10_init_97 : decode cX10_init 97 = .ok (.newarray .int, 2) := by decide +kernel
theorem dX10_init_99 : decode cX10_init 99 = .ok (.putfield 43, 3) := by decide +kernel
theorem dX10_init_102 : decode cX10_init 102 = .ok (.aload_n 0, 1) := by decide +kernel
theorem dX10_init_103 : decode cX10_init 103 = .ok (.getfield 7, 3) := by decide +kernel
theorem dX10_init_106 : decode cX10_init 106 = .ok (.iconst 2, 1) := by decide +kernel
theorem dX10_init_107 : decode cX10_init 107 = .ok (.bipush 30, 2) := by decide +kernel
theorem dX10_init_109 : decode cX10_init 109 = .ok (.iastore, 1) := by decide +kernel
theorem dX10_init_110 : decode cX10_init 110 = .ok (.return_, 1) := by decide +kernel
theorem dX10_in_0 : decode cX10_in 0 = .ok (.iload_n 0, 1) := by decide +kernel
theorem dX10_in_1 : decode cX10_in 1 = .ok (.iload_n 1, 1) := by decide +kernel
theorem dX10_in_2 : decode cX10_in 2 = .ok (.if_icmp .lt 12, 3) := by decide +kernel
theorem dX10_in_5 : decode cX10_in 5 = .ok (.iload_n 0, 1) := by decide +kernel
theorem dX10_in_6 : decode cX10_in 6 = .ok (.iload_n 2, 1) := by decide +kernel
theorem dX10_in_7 : decode cX10_in 7 = .ok (.if_icmp .gt 7, 3) := by decide +kernel
theorem dX10_in_10 : decode cX10_in 10 = .ok (.iconst 1, 1) := by decide +kernel
theorem dX10_in_11 : decode cX10_in 11 = .ok (.goto 4, 3) := by decide +kernel
theorem dX10_in_14 : decode cX10_in 14 = .ok (.iconst 0, 1) := by decide +kernel
theorem dX10_in_15 : decode cX10_in 15 = .ok (.ireturn, 1) := by decide +kernel
theorem dX10_act_0 : decode cX10_act 0 = .ok (.aload_n 0, 1) := by decide +kernel
theorem dX10_act_1 : decode cX10_act 1 = .ok (.getfield 46, 3) := by decide +kernel
theorem dX10_act_4 : decode cX10_act 4 = .ok (.iconst 5, 1) := by decide +kernel
theorem dX10_act_5 : decode cX10_act 5 = .ok (.if_icmp .ne 44, 3) := by decide +kernel
theorem dX10_act_8 : decode cX10_act 8 = .ok (.iconst 0, 1) := by decide +kernel
theorem dX10_act_9 : decode cX10_act 9 = .ok (.istore_n 1, 1) := by decide +kernel
theorem dX10_act_10 : decode cX10_act 10 = .ok (.iload_n 1, 1) := by decide +kernel
theorem dX10_act_11 : decode cX10_act 11 = .ok (.sipush 2160, 3) := by decide +kernel
theorem dX10_act_14 : decode cX10_act 14 = .ok (.if_icmp .ge 25, 3) := by decide +kernel
theorem dX10_act_17 : decode cX10_act 17 = .ok (.aload_n 0, 1) := by decide +kernel
theorem dX10_act_18 : decode cX10_act 18 = .ok (.getfield 13, 3) := by decide +kernel
theorem dX10_act_21 : decode cX10_act 21 = .ok (.iload_n 1, 1) := by decide +kernel
theorem dX10_act_22 : decode cX10_act 22 = .ok (.aload_n 0, 1) := by decide +kernel
theorem dX10_act_23 : decode cX10_act 23 = .ok (.getfield 13, 3) := by decide +kernel
theorem dX10_act_26 : decode cX10_act 26 = .ok (.iload_n 1, 1) := by decide +kernel
theorem dX10_act_27 : decode cX10_act 27 = .ok (.sipush 540, 3) := by decide +kernel
theorem dX10_act_30 : decode cX10_act 30 = .ok (.iadd, 1) := by decide +kernel
theorem dX10_act_31 : decode cX10_act 31 = .ok (.iaload, 1) := by decide +kernel
theorem dX10_act_32 : decode cX10_act 32 = .ok (.iastore, 1) := by decide +kernel
theorem dX10_act_33 : decode cX10_act 33 = .ok (.iinc 1 1, 3) := by decide +kernel
theorem dX10_act_36 : decode cX10_act 36 = .ok (.goto (-26), 3) := by decide +kernel
theorem dX10_act_39 : decode cX10_act 39 = .ok (.aload_n 0, 1) := by decide +kernel
theorem dX10_act_40 : decode cX10_act 40 = .ok (.dup, 1) := by decide +kernel
theorem dX10_act_41 : decode cX10_act 41 = .ok (.getfield 46, 3) := by decide +kernel
theorem dX10_act_44 : decode cX10_act 44 = .ok (.iconst 1, 1) := by decide +kernel
theorem dX10_act_45 : decode cX10_act 45 = .ok (.isub, 1) := by decide +kernel
theorem dX10_act_46 : decode cX10_act 46 = .ok (.putfield 46, 3) := by decide +kernel
theorem dX10_act_49 : decode cX10_act 49 = .ok (.iconst 0, 1) := by decide +kernel
theorem dX10_act_50 : decode cX10_act 50 = .ok (.istore_n 1, 1) := by decide +kernel
theorem dX10_act_51 : decode cX10_act 51 = .ok (.iload_n 1, 1) := by decide +kernel
theorem dX10_act_52 : decode cX10_act 52 = .ok (.sipush 540, 3) := by decide +kernel
theorem dX10_act_55 : decode cX10_act 55 = .ok (.if_icmp .ge 30, 3) := by decide +kernel
theorem dX10_act_58 : decode cX10_act 58 = .ok (.aload_n 0, 1) := by decide +kernel
theorem dX10_act_59 : decode cX10_act 59 = .ok (.getfield 13, 3) := by decide +kernel
theorem dX10_act_62 : decode cX10_act 62 = .ok (.sipush 540, 3) := by decide +kernel
theorem dX10_act_65 : decode cX10_act 65 = .ok (.aload_n 0, 1) := by decide +kernel
theorem dX10_act_66 : decode cX10_act 66 = .ok (.getfield 46, 3) := by decide +kernel
theorem dX10_act_69 : decode cX10_act 69 = .ok (.imul, 1) := by decide +kernel
theorem dX10_act_70 : decode cX10_act 70 = .ok (.iload_n 1, 1) := by decide +kernel
theorem dX10_act_71 : decode cX10_act 71 = .ok (.iadd, 1) := by decide +kernel
theorem dX10_act_72 : decode cX10_act 72 = .ok (.aload_n 0, 1) := by decide +kernel
theorem dX10_act_73 : decode cX10_act 73 = .ok (.getfield 7, 3) := by decide +kernel
theorem dX10_act_76 : decode cX10_act 76 = .ok (.iload_n 1, 1) := by decide +kernel
theorem dX10_act_77 : decode cX10_act 77 = .ok (.iaload, 1) := by decide +kernel
theorem dX10_act_78 : decode cX10_act 78 = .ok (.iastore, 1) := by decide +kernel
theorem dX10_act_79 : decode cX10_act 79 = .ok (.iinc 1 1, 3) := by decide +kernel
theorem dX10_act_82 : decode cX10_act 82 = .ok (.goto (-31), 3) := by decide +kernel
theorem dX10_act_85 : decode cX10_act 85 = .ok (.aload_n 0, 1) := by decide +kernel
theorem dX10_act_86 : decode cX10_act 86 = .ok (.dup, 1) := by decide +kernel
theorem dX10_act_87 : decode cX10_act 87 = .ok (.getfield 46, 3) := by decide +kernel
theorem dX10_act_90 : decode cX10_act 90 = .ok (.iconst 1, 1) := by decide +kernel
theorem dX10_act_91 : decode cX10_act 91 = .ok (.iadd, 1) := by decide +kernel
theorem dX10_act_92 : decode cX10_act 92 = .ok (.putfield 46, 3) := by decide +kernel
theorem dX10_act_95 : decode cX10_act 95 = .ok (.return_, 1) := by decide +kernel
theorem dX10_of_0 : decode cX10_of 0 = .ok (.aload_n 0, 1) := by decide +kernel
theorem dX10_of_1 : decode cX10_of 1 = .ok (.getfield 7, 3) := by decide +kernel
theorem dX10_of_4 : decode cX10_of 4 = .ok (.bipush 10, 2) := by decide +kernel
theorem dX10_of_6 : decode cX10_of 6 = .ok (.iconst 5, 1) := by decide +kernel
theorem dX10_of_7 : decode cX10_of 7 = .ok (.iload_n 1, 1) := by decide +kernel
theorem dX10_of_8 : decode cX10_of 8 = .ok (.imul, 1) := by decide +kernel
theorem dX10_of_9 : decode cX10_of 9 = .ok (.iadd, 1) := by decide +kernel
theorem dX10_of_10 : decode cX10_of 10 = .ok (.iload_n 2, 1) := by decide +kernel
theorem dX10_of_11 : decode cX10_of 11 = .ok (.iadd, 1) := by decide +kernel
theorem dX10_of_12 : decode cX10_of 12 = .ok (.iaload, 1) := by decide +kernel
theorem dX10_of_13 : decode cX10_of 13 = .ok (.ireturn, 1) := by decide +kernel
theorem dX10_isQuestion_0 : decode cX10_isQuestion 0 = .ok (.iload_n 1, 1) := by decide +kernel
theorem dX10_isQuestion_1 : decode cX10_isQuestion 1 = .ok (.iconst 0, 1) := by decide +kernel
theorem dX10_isQuestion_2 : decode cX10_isQuestion 2 = .ok (.aload_n 0, 1) := by decide +kernel
theorem dX10_isQuestion_3 : decode cX10_isQuestion 3 = .ok (.getfield 7, 3) := by decide +kernel
theorem dX10_isQuestion_6 : decode cX10_isQuestion 6 = .ok (.iconst 0, 1) := by decide +kernel
theorem dX10_isQuestion_7 : decode cX10_isQuestion 7 = .ok (.iaload, 1) := by decide +kernel
theorem dX10_isQuestion_8 : decode cX10_isQuestion 8 = .ok (.iconst 1, 1) := by decide +kernel
theorem dX10_isQuestion_9 : decode cX10_isQuestion 9 = .ok (.isub, 1) := by decide +kernel
theorem dX10_isQuestion_10 : decode cX10_isQuestion 10 = .ok (.invokestatic 50, 3) := by decide +kernel
theorem dX10_isQuestion_13 : decode cX10_isQuestion 13 = .ok (.ireturn, 1) := by decide +kernel
theorem dX10_isVersion_0 : decode cX10_isVersion 0 = .ok (.iload_n 1, 1) := by decide +kernel
theorem dX10_isVersion_1 : decode cX10_isVersion 1 = .ok (.iconst 0, 1) := by decide +kernel
theorem dX10_isVersion_2 : decode cX10_isVersion 2 = .ok (.aload_n 0, 1) := by decide +kernel
theorem dX10_isVersion_3 : decode cX10_isVersion 3 = .ok (.getfield 7, 3) := by decide +kernel
theorem dX10_isVersion_6 : decode cX10_isVersion 6 = .ok (.iconst 1, 1) := by decide +kernel
theorem dX10_isVersion_7 : decode cX10_isVersion 7 = .ok (.iaload, 1) := by decide +kernel
theorem dX10_isVersion_8 : decode cX10_isVersion 8 = .ok (.iconst 1, 1) := by decide +kernel
theorem dX10_isVersion_9 : decode cX10_isVersion 9 = .ok (.isub, 1) := by decide +kernel
theorem dX10_isVersion_10 : decode cX10_isVersion 10 = .ok (.invokestatic 50, 3) := by decide +kernel
theorem dX10_isVersion_13 : decode cX10_isVersion 13 = .ok (.ireturn, 1) := by decide +kernel
theorem dX10_isSheet_0 : decode cX10_isSheet 0 = .ok (.iload_n 1, 1) := by decide +kernel
theorem dX10_isSheet_1 : decode cX10_isSheet 1 = .ok (.iconst 0, 1) := by decide +kernel
theorem dX10_isSheet_2 : decode cX10_isSheet 2 = .ok (.aload_n 0, 1) := by decide +kernel
theorem dX10_isSheet_3 : decode cX10_isSheet 3 = .ok (.getfield 7, 3) := by decide +kernel
theorem dX10_isSheet_6 : decode cX10_isSheet 6 = .ok (.iconst 3, 1) := by decide +kernel
theorem dX10_isSheet_7 : decode cX10_isSheet 7 = .ok (.iaload, 1) := by decide +kernel
theorem dX10_isSheet_8 : decode cX10_isSheet 8 = .ok (.iconst 1, 1) := by decide +kernel
theorem dX10_isSheet_9 : decode cX10_isSheet 9 = .ok (.isub, 1) := by decide +kernel
theorem dX10_isSheet_10 : decode cX10_isSheet 10 = .ok (.invokestatic 50, 3) := by decide +kernel
theorem dX10_isSheet_13 : decode cX10_isSheet 13 = .ok (.ireturn, 1) := by decide +kernel
theorem dX10_add_0 : decode cX10_add 0 = .ok (.iload_n 1, 1) := by decide +kernel
theorem dX10_add_1 : decode cX10_add 1 = .ok (.iconst 1, 1) := by decide +kernel
theorem dX10_add_2 : decode cX10_add 2 = .ok (.bipush 9, 2) := by decide +kernel
theorem dX10_add_4 : decode cX10_add 4 = .ok (.invokestatic 50, 3) := by decide +kernel
theorem dX10_add_7 : decode cX10_add 7 = .ok (.ifCond .eq 47, 3) := by decide +kernel
theorem dX10_add_10 : decode cX10_add 10 = .ok (.iload_n 2, 1) := by decide +kernel
theorem dX10_add_11 : decode cX10_add 11 = .ok (.iconst 2, 1) := by decide +kernel
theorem dX10_add_12 : decode cX10_add 12 = .ok (.iconst 5, 1) := by decide +kernel
theorem dX10_add_13 : decode cX10_add 13 = .ok (.invokestatic 50, 3) := by decide +kernel
theorem dX10_add_16 : decode cX10_add 16 = .ok (.ifCond .eq 38, 3) := by decide +kernel
theorem dX10_add_19 : decode cX10_add 19 = .ok (.iload_n 3, 1) := by decide +kernel
theorem dX10_add_20 : decode cX10_add 20 = .ok (.iconst 0, 1) := by decide +kernel
theorem dX10_add_21 : decode cX10_add 21 = .ok (.iload_n 2, 1) := by decide +kernel
theorem dX10_add_22 : decode cX10_add 22 = .ok (.iconst 1, 1) := by decide +kernel
theorem dX10_add_23 : decode cX10_add 23 = .ok (.isub, 1) := by decide +kernel
theorem dX10_add_24 : decode cX10_add 24 = .ok (.invokestatic 50, 3) := by decide +kernel
theorem dX10_add_27 : decode cX10_add 27 = .ok (.ifCond .eq 27, 3) := by decide +kernel
theorem dX10_add_30 : decode cX10_add 30 = .ok (.iload 4, 2) := by decide +kernel
theorem dX10_add_32 : decode cX10_add 32 = .ok (.iconst 0, 1) := by decide +kernel
theorem dX10_add_33 : decode cX10_add 33 = .ok (.iconst 1, 1) := by decide +kernel
theorem dX10_add_34 : decode cX10_add 34 = .ok (.iload_n 2, 1) := by decide +kernel
theorem dX10_add_35 : decode cX10_add 35 = .ok (.ishl, 1) := by decide +kernel
theorem dX10_add_36 : decode cX10_add 36 = .ok (.iconst 1, 1) := by decide +kernel
theorem dX10_add_37 : decode cX10_add 37 = .ok (.isub, 1) := by decide +kernel
theorem dX10_add_38 : decode cX10_add 38 = .ok (.invokestatic 50, 3) := by decide +kernel
theorem dX10_add_41 : decode cX10_add 41 = .ok (.ifCond .eq 13, 3) := by decide +kernel
theorem dX10_add_44 : decode cX10_add 44 = .ok (.iload 5, 2) := by decide +kernel
theorem dX10_add_46 : decode cX10_add 46 = .ok (.iconst 0, 1) := by decide +kernel
theorem dX10_add_47 : decode cX10_add 47 = .ok (.iconst 5, 1) := by decide +kernel
theorem dX10_add_48 : decode cX10_add 48 = .ok (.invokestatic 50, 3) := by decide +kernel
theorem dX10_add_51 : decode cX10_add 51 = .ok (.ifCond .ne 7, 3) := by decide +kernel
theorem dX10_add_54 : decode cX10_add 54 = .ok (.sipush (-1001), 3) := by decide +kernel
theorem dX10_add_57 : decode cX10_add 57 = .ok (.ireturn, 1) := by decide +kernel
theorem dX10_add_58 : decode cX10_add 58 = .ok (.aload_n 0, 1) := by decide +kernel
theorem dX10_add_59 : decode cX10_add 59 = .ok (.getfield 7, 3) := by decide +kernel
theorem dX10_add_62 : decode cX10_add 62 = .ok (.iconst 3, 1) := by decide +kernel
theorem dX10_add_63 : decode cX10_add 63 = .ok (.iaload, 1) := by decide +kernel
theorem dX10_add_64 : decode cX10_add 64 = .ok (.ifCond .le 7, 3) := by decide +kernel
theorem dX10_add_67 : decode cX10_add 67 = .ok (.sipush (-1002), 3) := by decide +kernel
theorem dX10_add_70 : decode cX10_add 70 = .ok (.ireturn, 1) := by decide +kernel
theorem dX10_add_71 : decode cX10_add 71 = .ok (.aload_n 0, 1) := by decide +kernel
theorem dX10_add_72 : decode cX10_add 72 = .ok (.getfield 7, 3) := by decide +kernel
theorem dX10_add_75 : decode cX10_add 75 = .ok (.iconst 0, 1) := by decide +kernel
theorem dX10_add_76 : decode cX10_add 76 = .ok (.iaload, 1) := by decide +kernel
theorem dX10_add_77 : decode cX10_add 77 = .ok (.bipush 20, 2) := by decide +kernel
theorem dX10_add_79 : decode cX10_add 79 = .ok (.if_icmp .ne 7, 3) := by decide +kernel
theorem dX10_add_82 : decode cX10_add 82 = .ok (.sipush (-1003), 3) := by decide +kernel
theorem dX10_add_85 : decode cX10_add 85 = .ok (.ireturn, 1) := by decide +kernel
theorem dX10_add_86 : decode cX10_add 86 = .ok (.aload_n 0, 1) := by decide +kernel
theorem dX10_add_87 : decode cX10_add 87 = .ok (.invokevirtual 54, 3) := by decide +kernel
theorem dX10_add_90 : decode cX10_add 90 = .ok (.bipush 10, 2) := by decide +kernel
theorem dX10_add_92 : decode cX10_add 92 = .ok (.iconst 5, 1) := by decide +kernel
theorem dX10_add_93 : decode cX10_add 93 = .ok (.aload_n 0, 1) := by decide +kernel
theorem dX10_add_94 : decode cX10_add 94 = .ok (.getfield 7, 3) := by decide +kernel
theorem dX10_add_97 : decode cX10_add 97 = .ok (.iconst 0, 1) := by decide +kernel
theorem dX10_add_98 : decode cX10_add 98 = .ok (.iaload, 1) := by decide +kernel
theorem dX10_add_99 : decode cX10_add 99 = .ok (.imul, 1) := by decide +kernel
theorem dX10_add_100 : decode cX10_add 100 = .ok (.iadd, 1) := by decide +kernel
theorem dX10_add_101 : decode cX10_add 101 = .ok (.istore 6, 2) := by decide +kernel
theorem dX10_add_103 : decode cX10_add 103 = .ok (.aload_n 0, 1) := by decide +kernel
theorem dX10_add_104 : decode cX10_add 104 = .ok (.getfield 7, 3) := by decide +kernel
theorem dX10_add_107 : decode cX10_add 107 = .ok (.iload 6, 2) := by decide +kernel
theorem dX10_add_109 : decode cX10_add 109 = .ok (.iload_n 1, 1) := by decide +kernel
theorem dX10_add_110 : decode cX10_add 110 = .ok (.iastore, 1) := by decide +kernel
theorem dX10_add_111 : decode cX10_add 111 = .ok (.aload_n 0, 1) := by decide +kernel
theorem dX10_add_112 : decode cX10_add 112 = .ok (.getfield 7, 3) := by decide +kernel
theorem dX10_add_115 : decode cX10_add 115 = .ok (.iload 6, 2) := by decide +kernel
theorem dX10_add_117 : decode cX10_add 117 = .ok (.iconst 1, 1) := by decide +kernel
theorem dX10_add_118 : decode cX10_add 118 = .ok (.iadd, 1) := by decide +kernel
theorem dX10_add_119 : decode cX10_add 119 = .ok (.iload_n 3, 1) := by decide +kernel
theorem dX10_add_120 : decode cX10_add 120 = .ok (.iastore, 1) := by decide +kernel
theorem dX10_add_121 : decode cX10_add 121 = .ok (.aload_n 0, 1) := by decide +kernel
theorem dX10_add_122 : decode cX10_add 122 = .ok (.getfield 7, 3) := by decide +kernel
theorem dX10_add_125 : decode cX10_add 125 = .ok (.iload 6, 2) := by decide +kernel
theorem dX10_add_127 : decode cX10_add 127 = .ok (.iconst 2, 1) := by decide +kernel
theorem dX10_add_128 : decode cX10_add 128 = .ok (.iadd, 1) := by decide +kernel
theorem dX10_add_129 : decode cX10_add 129 = .ok (.iload 4, 2) := by decide +kernel
theorem dX10_add_131 : decode cX10_add 131 = .ok (.iastore, 1) := by decide +kernel
theorem dX10_add_132 : decode cX10_add 132 = .ok (.aload_n 0, 1) := by decide +kernel
theorem dX10_add_133 : decode cX10_add 133 = .ok (.getfield 7, 3) := by decide +kernel
theorem dX10_add_136 : decode cX10_add 136 = .ok (.iload 6, 2) := by decide +kernel
theorem dX10_add_138 : decode cX10_add 138 = .ok (.iconst 3, 1) := by decide +kernel
theorem dX10_add_139 : decode cX10_add 139 = .ok (.iadd, 1) := by decide +kernel
theorem dX10_add_140 : decode cX10_add 140 = .ok (.iload 5, 2) := by decide +kernel
theorem dX10_add_142 : decode cX10_add 142 = .ok (.iastore, 1) := by decide +kernel
theorem dX10_add_143 : decode cX10_add 143 = .ok (.aload_n 0, 1) := by decide +kernel
theorem dX10_add_144 : decode cX10_add 144 = .ok (.getfield 7, 3) := by decide +kernel
theorem dX10_add_147 : decode cX10_add 147 = .ok (.iload 6, 2) := by decide +kernel
theorem dX10_add_149 : decode cX10_add 149 = .ok (.iconst 4, 1) := by decide +kernel
theorem dX10_add_150 : decode cX10_add 150 = .ok (.iadd, 1) := by decide +kernel
theorem dX10_add_151 : decode cX10_add 151 = .ok (.iload_n 2, 1) := by decide +kernel
theorem dX10_add_152 : decode cX10_add 152 = .ok (.iastore, 1) := by decide +kernel
theorem dX10_add_153 : decode cX10_add 153 = .ok (.aload_n 0, 1) := by decide +kernel
theorem dX10_add_154 : decode cX10_add 154 = .ok (.getfield 7, 3) := by decide +kernel
theorem dX10_add_157 : decode cX10_add 157 = .ok (.iconst 0, 1) := by decide +kernel
theorem dX10_add_158 : decode cX10_add 158 = .ok (.dup2, 1) := by decide +kernel
theorem dX10_add_159 : decode cX10_add 159 = .ok (.iaload, 1) := by decide +kernel
theorem dX10_add_160 : decode cX10_add 160 = .ok (.iconst 1, 1) := by decide +kernel
theorem dX10_add_161 : decode cX10_add 161 = .ok (.iadd, 1) := by decide +kernel
theorem dX10_add_162 : decode cX10_add 162 = .ok (.iastore, 1) := by decide +kernel
theorem dX10_add_163 : decode cX10_add 163 = .ok (.aload_n 0, 1) := by decide +kernel
theorem dX10_add_164 : decode cX10_add 164 = .ok (.getfield 7, 3) := by decide +kernel
theorem dX10_add_167 : decode cX10_add 167 = .ok (.iconst 0, 1) := by decide +kernel
theorem dX10_add_168 : decode cX10_add 168 = .ok (.iaload, 1) := by decide +kernel
theorem dX10_add_169 : decode cX10_add 169 = .ok (.iconst 1, 1) := by decide +kernel
theorem dX10_add_170 : decode cX10_add 170 = .ok (.isub, 1) := by decide +kernel
theorem dX10_add_171 : decode cX10_add 171 = .ok (.ireturn, 1) := by decide +kernel
theorem dX10_remove_0 : decode cX10_remove 0 = .ok (.aload_n 0, 1) := by decide +kernel
theorem dX10_remove_1 : decode cX10_remove 1 = .ok (.iload_n 1, 1) := by decide +kernel
theorem dX10_remove_2 : decode cX10_remove 2 = .ok (.invokevirtual 57, 3) := by decide +kernel
theorem dX10_remove_5 : decode cX10_remove 5 = .ok (.ifCond .ne 7, 3) := by decide +kernel
theorem dX10_remove_8 : decode cX10_remove 8 = .ok (.sipush (-1001), 3) := by decide +kernel
theorem dX10_remove_11 : decode cX10_remove 11 = .ok (.ireturn, 1) := by decide +kernel
theorem dX10_remove_12 : decode cX10_remove 12 = .ok (.aload_n 0, 1) := by decide +kernel
theorem dX10_remove_13 : decode cX10_remove 13 = .ok (.getfield 7, 3) := by decide +kernel
theorem dX10_remove_16 : decode cX10_remove 16 = .ok (.iconst 3, 1) := by decide +kernel
theorem dX10_remove_17 : decode cX10_remove 17 = .ok (.iaload, 1) := by decide +kernel
theorem dX10_remove_18 : decode cX10_remove 18 = .ok (.ifCond .le 7, 3) := by decide +kernel
theorem dX10_remove_21 : decode cX10_remove 21 = .ok (.sipush (-1002), 3) := by decide +kernel
theorem dX10_remove_24 : decode cX10_remove 24 = .ok (.ireturn, 1) := by decide +kernel
theorem dX10_remove_25 : decode cX10_remove 25 = .ok (.aload_n 0, 1) := by decide +kernel
theorem dX10_remove_26 : decode cX10_remove 26 = .ok (.invokevirtual 54, 3) := by decide +kernel
theorem dX10_remove_29 : decode cX10_remove 29 = .ok (.aload_n 0, 1) := by decide +kernel
theorem dX10_remove_30 : decode cX10_remove 30 = .ok (.getfield 7, 3) := by decide +kernel
theorem dX10_remove_33 : decode cX10_remove 33 = .ok (.iconst 0, 1) := by decide +kernel
theorem dX10_remove_34 : decode cX10_remove 34 = .ok (.dup2, 1) := by decide +kernel
theorem dX10_remove_35 : decode cX10_remove 35 = .ok (.iaload, 1) := by decide +kernel
theorem dX10_remove_36 : decode cX10_remove 36 = .ok (.iconst 1, 1) := by decide +kernel
theorem dX10_remove_37 : decode cX10_remove 37 = .ok (.isub, 1) := by decide +kernel
theorem dX10_remove_38 : decode cX10_remove 38 = .ok (.iastore, 1) := by decide +kernel
theorem dX10_remove_39 : decode cX10_remove 39 = .ok (.bipush 10, 2) := by decide +kernel
theorem dX10_remove_41 : decode cX10_remove 41 = .ok (.iconst 5, 1) := by decide +kernel
theorem dX10_remove_42 : decode cX10_remove 42 = .ok (.iload_n 1, 1) := by decide +kernel
theorem dX10_remove_43 : decode cX10_remove 43 = .ok (.imul, 1) := by decide +kernel
theorem dX10_remove_44 : decode cX10_remove 44 = .ok (.iadd, 1) := by decide +kernel
theorem dX10_remove_45 : decode cX10_remove 45 = .ok (.istore_n 2, 1) := by decide +kernel
theorem dX10_remove_46 : decode cX10_remove 46 = .ok (.iload_n 2, 1) := by decide +kernel
theorem dX10_remove_47 : decode cX10_remove 47 = .ok (.bipush 10, 2) := by decide +kernel
theorem dX10_remove_49 : decode cX10_remove 49 = .ok (.iconst 5, 1) := by decide +kernel
theorem dX10_remove_50 : decode cX10_remove 50 = .ok (.aload_n 0, 1) := by decide +kernel
theorem dX10_remove_51 : decode cX10_remove 51 = .ok (.getfield 7, 3) := by decide +kernel
theorem dX10_remove_54 : decode cX10_remove 54 = .ok (.iconst 0, 1) := by decide +kernel
theorem dX10_remove_55 : decode cX10_remove 55 = .ok (.iaload, 1) := by decide +kernel
theorem dX10_remove_56 : decode cX10_remove 56 = .ok (.imul, 1) := by decide +kernel
theorem dX10_remove_57 : decode cX10_remove 57 = .ok (.iadd, 1) := by decide +kernel
theorem dX10_remove_58 : decode cX10_remove 58 = .ok (.if_icmp .ge 23, 3) := by decide +kernel
theorem dX10_remove_61 : decode cX10_remove 61 = .ok (.aload_n 0, 1) := by decide +kernel
theorem dX10_remove_62 : decode cX10_remove 62 = .ok (.getfield 7, 3) := by decide +kernel
theorem dX10_remove_65 : decode cX10_remove 65 = .ok (.iload_n 2, 1) := by decide +kernel
theorem dX10_remove_66 : decode cX10_remove 66 = .ok (.aload_n 0, 1) := by decide +kernel
theorem dX10_remove_67 : decode cX10_remove 67 = .ok (.getfield 7, 3) := by decide +kernel
theorem dX10_remove_70 : decode cX10_remove 70 = .ok (.iload_n 2, 1) := by decide +kernel
theorem dX10_remove_71 : decode cX10_remove 71 = .ok (.iconst 5, 1) := by decide +kernel
theorem dX10_remove_72 : decode cX10_remove 72 = .ok (.iadd, 1) := by decide +kernel
theorem dX10_remove_73 : decode cX10_remove 73 = .ok (.iaload, 1) := by decide +kernel
theorem dX10_remove_74 : decode cX10_remove 74 = .ok (.iastore, 1) := by decide +kernel
theorem dX10_remove_75 : decode cX10_remove 75 = .ok (.iinc 2 1, 3) := by decide +kernel
theorem dX10_remove_78 : decode cX10_remove 78 = .ok (.goto (-32), 3) := by decide +kernel
theorem dX10_remove_81 : decode cX10_remove 81 = .ok (.aload_n 0, 1) := by decide +kernel
theorem dX10_remove_82 : decode cX10_remove 82 = .ok (.getfield 7, 3) := by decide +kernel
theorem dX10_remove_85 : decode cX10_remove 85 = .ok (.iconst 0, 1) := by decide +kernel
theorem dX10_remove_86 : decode cX10_remove 86 = .ok (.iaload, 1) := by decide +kernel
theorem dX10_remove_87 : decode cX10_remove 87 = .ok (.ireturn, 1) := by decide +kernel
theorem dX10_isIn_0 : decode cX10_isIn 0 = .ok (.iload_n 2, 1) := by decide +kernel
theorem dX10_isIn_1 : decode cX10_isIn 1 = .ok (.tableswitch 65 0 2 #[27, 35, 49], 27) := by decide +kernel
theorem dX10_isIn_28 : decode cX10_isIn 28 = .ok (.iload_n 3, 1) := by decide +kernel
theorem dX10_isIn_29 : decode cX10_isIn 29 = .ok (.iconst 1, 1) := by decide +kernel
theorem dX10_isIn_30 : decode cX10_isIn 30 = .ok (.bipush 9, 2) := by decide +kernel
theorem dX10_isIn_32 : decode cX10_isIn 32 = .ok (.invokestatic 50, 3) := by decide +kernel
theorem dX10_isIn_35 : decode cX10_isIn 35 = .ok (.ireturn, 1) := by decide +kernel
theorem dX10_isIn_36 : decode cX10_isIn 36 = .ok (.iload_n 3, 1) := by decide +kernel
theorem dX10_isIn_37 : decode cX10_isIn 37 = .ok (.iconst 0, 1) := by decide +kernel
theorem dX10_isIn_38 : decode cX10_isIn 38 = .ok (.aload_n 0, 1) := by decide +kernel
theorem dX10_isIn_39 : decode cX10_isIn 39 = .ok (.iload_n 1, 1) := by decide +kernel
theorem dX10_isIn_40 : decode cX10_isIn 40 = .ok (.iconst 4, 1) := by decide +kernel
theorem dX10_isIn_41 : decode cX10_isIn 41 = .ok (.invokevirtual 61, 3) := by decide +kernel
theorem dX10_isIn_44 : decode cX10_isIn 44 = .ok (.iconst 1, 1) := by decide +kernel
theorem dX10_isIn_45 : decode cX10_isIn 45 = .ok (.isub, 1) := by decide +kernel
theorem dX10_isIn_46 : decode cX10_isIn 46 = .ok (.invokestatic 50, 3) := by decide +kernel
theorem dX10_isIn_49 : decode cX10_isIn 49 = .ok (.ireturn, 1) := by decide +kernel
theorem dX10_isIn_50 : decode cX10_isIn 50 = .ok (.iload_n 3, 1) := by decide +kernel
theorem dX10_isIn_51 : decode cX10_isIn 51 = .ok (.iconst 0, 1) := by decide +kernel
theorem dX10_isIn_52 : decode cX10_isIn 52 = .ok (.iconst 1, 1) := by decide +kernel
theorem dX10_isIn_53 : decode cX10_isIn 53 = .ok (.aload_n 0, 1) := by decide +kernel
theorem dX10_isIn_54 : decode cX10_isIn 54 = .ok (.iload_n 1, 1) := by decide +kernel
theorem dX10_isIn_55 : decode cX10_isIn 55 = .ok (.iconst 4, 1) := by decide +kernel
theorem dX10_isIn_56 : decode cX10_isIn 56 = .ok (.invokevirtual 61, 3) := by decide +kernel
theorem dX10_isIn_59 : decode cX10_isIn 59 = .ok (.ishl, 1) := by decide +kernel
theorem dX10_isIn_60 : decode cX10_isIn 60 = .ok (.iconst 1, 1) := by decide +kernel
theorem dX10_isIn_61 : decode cX10_isIn 61 = .ok (.isub, 1) := by decide +kernel
theorem dX10_isIn_62 : decode cX10_isIn 62 = .ok (.invokestatic 50, 3) := by decide +kernel
theorem dX10_isIn_65 : decode cX10_isIn 65 = .ok (.ireturn, 1) := by decide +kernel
theorem dX10_isIn_66 : decode cX10_isIn 66 = .ok (.iload_n 2, 1) := by decide +kernel
theorem dX10_isIn_67 : decode cX10_isIn 67 = .ok (.iconst 3, 1) := by decide +kernel
theorem dX10_isIn_68 : decode cX10_isIn 68 = .ok (.if_icmp .ne 16, 3) := by decide +kernel
theorem dX10_isIn_71 : decode cX10_isIn 71 = .ok (.iload_n 3, 1) := by decide +kernel
theorem dX10_isIn_72 : decode cX10_isIn 72 = .ok (.iconst 0, 1) := by decide +kernel
theorem dX10_isIn_73 : decode cX10_isIn 73 = .ok (.iconst 5, 1) := by decide +kernel
theorem dX10_isIn_74 : decode cX10_isIn 74 = .ok (.invokestatic 50, 3) := by decide +kernel
theorem dX10_isIn_77 : decode cX10_isIn 77 = .ok (.ifCond .eq 7, 3) := by decide +kernel
theorem dX10_isIn_80 : decode cX10_isIn 80 = .ok (.iconst 1, 1) := by decide +kernel
theorem dX10_isIn_81 : decode cX10_isIn 81 = .ok (.goto 4, 3) := by decide +kernel
theorem dX10_isIn_84 : decode cX10_isIn 84 = .ok (.iconst 0, 1) := by decide +kernel
theorem dX10_isIn_85 : decode cX10_isIn 85 = .ok (.ireturn, 1) := by decide +kernel
theorem dX10_sets_0 : decode cX10_sets 0 = .ok (.aload_n 0, 1) := by decide +kernel
theorem dX10_sets_1 : decode cX10_sets 1 = .ok (.invokevirtual 54, 3) := by decide +kernel
theorem dX10_sets_4 : decode cX10_sets 4 = .ok (.aload_n 0, 1) := by decide +kernel
theorem dX10_sets_5 : decode cX10_sets 5 = .ok (.getfield 7, 3) := by decide +kernel
theorem dX10_sets_8 : decode cX10_sets 8 = .ok (.iload_n 1, 1) := by decide +kernel
theorem dX10_sets_9 : decode cX10_sets 9 = .ok (.iaload, 1) := by decide +kernel
theorem dX10_sets_10 : decode cX10_sets 10 = .ok (.istore_n 3, 1) := by decide +kernel
theorem dX10_sets_11 : decode cX10_sets 11 = .ok (.aload_n 0, 1) := by decide +kernel
theorem dX10_sets_12 : decode cX10_sets 12 = .ok (.getfield 7, 3) := by decide +kernel
theorem dX10_sets_15 : decode cX10_sets 15 = .ok (.iload_n 1, 1) := by decide +kernel
theorem dX10_sets_16 : decode cX10_sets 16 = .ok (.iload_n 2, 1) := by decide +kernel
theorem dX10_sets_17 : decode cX10_sets 17 = .ok (.iastore, 1) := by decide +kernel
theorem dX10_sets_18 : decode cX10_sets 18 = .ok (.iload_n 3, 1) := by decide +kernel
theorem dX10_sets_19 : decode cX10_sets 19 = .ok (.ireturn, 1) := by decide +kernel
theorem dX10_change_0 : decode cX10_change 0 = .ok (.aload_n 0, 1) := by decide +kernel
theorem dX10_change_1 : decode cX10_change 1 = .ok (.iload_n 1, 1) := by decide +kernel
theorem dX10_change_2 : decode cX10_change 2 = .ok (.invokevirtual 57, 3) := by decide +kernel
theorem dX10_change_5 : decode cX10_change 5 = .ok (.ifCond .eq 13, 3) := by decide +kernel
theorem dX10_change_8 : decode cX10_change 8 = .ok (.aload_n 0, 1) := by decide +kernel
theorem dX10_change_9 : decode cX10_change 9 = .ok (.iload_n 1, 1) := by decide +kernel
theorem dX10_change_10 : decode cX10_change 10 = .ok (.iload_n 2, 1) := by decide +kernel
theorem dX10_change_11 : decode cX10_change 11 = .ok (.iload_n 3, 1) := by decide +kernel
theorem dX10_change_12 : decode cX10_change 12 = .ok (.invokevirtual 65, 3) := by decide +kernel
theorem dX10_change_15 : decode cX10_change 15 = .ok (.ifCond .ne 7, 3) := by decide +kernel
theorem dX10_change_18 : decode cX10_change 18 = .ok (.sipush (-1001), 3) := by decide +kernel
theorem dX10_change_21 : decode cX10_change 21 = .ok (.ireturn, 1) := by decide +kernel
theorem dX10_change_22 : decode cX10_change 22 = .ok (.aload_n 0, 1) := by decide +kernel
theorem dX10_change_23 : decode cX10_change 23 = .ok (.getfield 7, 3) := by decide +kernel
theorem dX10_change_26 : decode cX10_change 26 = .ok (.iconst 3, 1) := by decide +kernel
theorem dX10_change_27 : decode cX10_change 27 = .ok (.iaload, 1) := by decide +kernel
theorem dX10_change_28 : decode cX10_change 28 = .ok (.ifCond .le 9, 3) := by decide +kernel
theorem dX10_change_31 : decode cX10_change 31 = .ok (.sipush (-1002), 3) := by decide +kernel
theorem dX10_change_34 : decode cX10_change 34 = .ok (.goto 16, 3) := by decide +kernel
theorem dX10_change_37 : decode cX10_change 37 = .ok (.aload_n 0, 1) := by decide +kernel
theorem dX10_change_38 : decode cX10_change 38 = .ok (.bipush 10, 2) := by decide +kernel
theorem dX10_change_40 : decode cX10_change 40 = .ok (.iconst 5, 1) := by decide +kernel
theorem dX10_change_41 : decode cX10_change 41 = .ok (.iload_n 1, 1) := by decide +kernel
theorem dX10_change_42 : decode cX10_change 42 = .ok (.imul, 1) := by decide +kernel
theorem dX10_change_43 : decode cX10_change 43 = .ok (.iadd, 1) := by decide +kernel
theorem dX10_change_44 : decode cX10_change 44 = .ok (.iload_n 2, 1) := by decide +kernel
theorem dX10_change_45 : decode cX10_change 45 = .ok (.iadd, 1) := by decide +kernel
theorem dX10_change_46 : decode cX10_change 46 = .ok (.iload_n 3, 1) := by decide +kernel
theorem dX10_change_47 : decode cX10_change 47 = .ok (.invokevirtual 68, 3) := by decide +kernel
theorem dX10_change_50 : decode cX10_change 50 = .ok (.ireturn, 1) := by decide +kernel
theorem dX10_question_0 : decode cX10_question 0 = .ok (.aload_n 0, 1) := by decide +kernel
theorem dX10_question_1 : decode cX10_question 1 = .ok (.iload_n 1, 1) := by decide +kernel
theorem dX10_question_2 : decode cX10_question 2 = .ok (.invokevirtual 57, 3) := by decide +kernel
theorem dX10_question_5 : decode cX10_question 5 = .ok (.ifCond .eq 21, 3) := by decide +kernel
theorem dX10_question_8 : decode cX10_question 8 = .ok (.iload_n 2, 1) := by decide +kernel
theorem dX10_question_9 : decode cX10_question 9 = .ok (.iconst 0, 1) := by decide +kernel
theorem dX10_question_10 : decode cX10_question 10 = .ok (.iconst 4, 1) := by decide +kernel
theorem dX10_question_11 : decode cX10_question 11 = .ok (.invokestatic 50, 3) := by decide +kernel
theorem dX10_question_14 : decode cX10_question 14 = .ok (.ifCond .eq 12, 3) := by decide +kernel
theorem dX10_question_17 : decode cX10_question 17 = .ok (.aload_n 0, 1) := by decide +kernel
theorem dX10_question_18 : decode cX10_question 18 = .ok (.iload_n 1, 1) := by decide +kernel
theorem dX10_question_19 : decode cX10_question 19 = .ok (.iload_n 2, 1) := by decide +kernel
theorem dX10_question_20 : decode cX10_question 20 = .ok (.invokevirtual 61, 3) := by decide +kernel
theorem dX10_question_23 : decode cX10_question 23 = .ok (.goto 6, 3) := by decide +kernel
theorem dX10_question_26 : decode cX10_question 26 = .ok (.sipush (-1001), 3) := by decide +kernel
theorem dX10_question_29 : decode cX10_question 29 = .ok (.ireturn, 1) := by decide +kernel
theorem dX10_questions_0 : decode cX10_questions 0 = .ok (.aload_n 0, 1) := by decide +kernel
theorem dX10_questions_1 : decode cX10_questions 1 = .ok (.getfield 7, 3) := by decide +kernel
theorem dX10_questions_4 : decode cX10_questions 4 = .ok (.iconst 0, 1) := by decide +kernel
theorem dX10_questions_5 : decode cX10_questions 5 = .ok (.iaload, 1) := by decide +kernel
theorem dX10_questions_6 : decode cX10_questions 6 = .ok (.ireturn, 1) := by decide +kernel
theorem dX10_lot_0 : decode cX10_lot 0 = .ok (.aload_n 0, 1) := by decide +kernel
theorem dX10_lot_1 : decode cX10_lot 1 = .ok (.ldc 71, 2) := by decide +kernel
theorem dX10_lot_3 : decode cX10_lot 3 = .ok (.aload_n 0, 1) := by decide +kernel
theorem dX10_lot_4 : decode cX10_lot 4 = .ok (.getfield 72, 3) := by decide +kernel
theorem dX10_lot_7 : decode cX10_lot 7 = .ok (.imul, 1) := by decide +kernel
theorem dX10_lot_8 : decode cX10_lot 8 = .ok (.sipush 12345, 3) := by decide +kernel
theorem dX10_lot_11 : decode cX10_lot 11 = .ok (.iadd, 1) := by decide +kernel
theorem dX10_lot_12 : decode cX10_lot 12 = .ok (.putfield 72, 3) := by decide +kernel
theorem dX10_lot_15 : decode cX10_lot 15 = .ok (.aload_n 0, 1) := by decide +kernel
theorem dX10_lot_16 : decode cX10_lot 16 = .ok (.getfield 72, 3) := by decide +kernel
theorem dX10_lot_19 : decode cX10_lot 19 = .ok (.bipush 16, 2) := by decide +kernel
theorem dX10_lot_21 : decode cX10_lot 21 = .ok (.iushr, 1) := by decide +kernel
theorem dX10_lot_22 : decode cX10_lot 22 = .ok (.iload_n 1, 1) := by decide +kernel
theorem dX10_lot_23 : decode cX10_lot 23 = .ok (.irem, 1) := by decide +kernel
theorem dX10_lot_24 : decode cX10_lot 24 = .ok (.ireturn, 1) := by decide +kernel
theorem dX10_mixes_0 : decode cX10_mixes 0 = .ok (.aload_n 0, 1) := by decide +kernel
theorem dX10_mixes_1 : decode cX10_mixes 1 = .ok (.getfield 75, 3) := by decide +kernel
theorem dX10_mixes_4 : decode cX10_mixes 4 = .ok (.iconst 1, 1) := by decide +kernel
theorem dX10_mixes_5 : decode cX10_mixes 5 = .ok (.isub, 1) := by decide +kernel
theorem dX10_mixes_6 : decode cX10_mixes 6 = .ok (.istore_n 1, 1) := by decide +kernel
theorem dX10_mixes_7 : decode cX10_mixes 7 = .ok (.iload_n 1, 1) := by decide +kernel
theorem dX10_mixes_8 : decode cX10_mixes 8 = .ok (.ifCond .le 43, 3) := by decide +kernel
theorem dX10_mixes_11 : decode cX10_mixes 11 = .ok (.aload_n 0, 1) := by decide +kernel
theorem dX10_mixes_12 : decode cX10_mixes 12 = .ok (.iload_n 1, 1) := by decide +kernel
theorem dX10_mixes_13 : decode cX10_mixes 13 = .ok (.iconst 1, 1) := by decide +kernel
theorem dX10_mixes_14 : decode cX10_mixes 14 = .ok (.iadd, 1) := by decide +kernel
theorem dX10_mixes_15 : decode cX10_mixes 15 = .ok (.invokevirtual 78, 3) := by decide +kernel
theorem dX10_mixes_18 : decode cX10_mixes 18 = .ok (.istore_n 2, 1) := by decide +kernel
theorem dX10_mixes_19 : decode cX10_mixes 19 = .ok (.aload_n 0, 1) := by decide +kernel
theorem dX10_mixes_20 : decode cX10_mixes 20 = .ok (.getfield 25, 3) := by decide +kernel
theorem dX10_mixes_23 : decode cX10_mixes 23 = .ok (.iload_n 1, 1) := by decide +kernel
theorem dX10_mixes_24 : decode cX10_mixes 24 = .ok (.iaload, 1) := by decide +kernel
theorem dX10_mixes_25 : decode cX10_mixes 25 = .ok (.istore_n 3, 1) := by decide +kernel
theorem dX10_mixes_26 : decode cX10_mixes 26 = .ok (.aload_n 0, 1) := by decide +kernel
theorem dX10_mixes_27 : decode cX10_mixes 27 = .ok (.getfield 25, 3) := by decide +kernel
theorem dX10_mixes_30 : decode cX10_mixes 30 = .ok (.iload_n 1, 1) := by decide +kernel
theorem dX10_mixes_31 : decode cX10_mixes 31 = .ok (.aload_n 0, 1) := by decide +kernel
theorem dX10_mixes_32 : decode cX10_mixes 32 = .ok (.getfield 25, 3) := by decide +kernel
theorem dX10_mixes_35 : decode cX10_mixes 35 = .ok (.iload_n 2, 1) := by decide +kernel
theorem dX10_mixes_36 : decode cX10_mixes 36 = .ok (.iaload, 1) := by decide +kernel
theorem dX10_mixes_37 : decode cX10_mixes 37 = .ok (.iastore, 1) := by decide +kernel
theorem dX10_mixes_38 : decode cX10_mixes 38 = .ok (.aload_n 0, 1) := by decide +kernel
theorem dX10_mixes_39 : decode cX10_mixes 39 = .ok (.getfield 25, 3) := by decide +kernel
theorem dX10_mixes_42 : decode cX10_mixes 42 = .ok (.iload_n 2, 1) := by decide +kernel
theorem dX10_mixes_43 : decode cX10_mixes 43 = .ok (.iload_n 3, 1) := by decide +kernel
theorem dX10_mixes_44 : decode cX10_mixes 44 = .ok (.iastore, 1) := by decide +kernel
theorem dX10_mixes_45 : decode cX10_mixes 45 = .ok (.iinc 1 (-1), 3) := by decide +kernel
theorem dX10_mixes_48 : decode cX10_mixes 48 = .ok (.goto (-41), 3) := by decide +kernel
theorem dX10_mixes_51 : decode cX10_mixes 51 = .ok (.return_, 1) := by decide +kernel
theorem dX10_leads_0 : decode cX10_leads 0 = .ok (.iconst 1, 1) := by decide +kernel
theorem dX10_leads_1 : decode cX10_leads 1 = .ok (.istore_n 2, 1) := by decide +kernel
theorem dX10_leads_2 : decode cX10_leads 2 = .ok (.iconst 0, 1) := by decide +kernel
theorem dX10_leads_3 : decode cX10_leads 3 = .ok (.istore_n 3, 1) := by decide +kernel
theorem dX10_leads_4 : decode cX10_leads 4 = .ok (.iload_n 3, 1) := by decide +kernel
theorem dX10_leads_5 : decode cX10_leads 5 = .ok (.iload_n 1, 1) := by decide +kernel
theorem dX10_leads_6 : decode cX10_leads 6 = .ok (.if_icmp .ge 43, 3) := by decide +kernel
theorem dX10_leads_9 : decode cX10_leads 9 = .ok (.iload_n 2, 1) := by decide +kernel
theorem dX10_leads_10 : decode cX10_leads 10 = .ok (.ifCond .eq 31, 3) := by decide +kernel
theorem dX10_leads_13 : decode cX10_leads 13 = .ok (.aload_n 0, 1) := by decide +kernel
theorem dX10_leads_14 : decode cX10_leads 14 = .ok (.iload_n 1, 1) := by decide +kernel
theorem dX10_leads_15 : decode cX10_leads 15 = .ok (.iconst 3, 1) := by decide +kernel
theorem dX10_leads_16 : decode cX10_leads 16 = .ok (.invokevirtual 61, 3) := by decide +kernel
theorem dX10_leads_19 : decode cX10_leads 19 = .ok (.ifCond .eq 18, 3) := by decide +kernel
theorem dX10_leads_22 : decode cX10_leads 22 = .ok (.aload_n 0, 1) := by decide +kernel
theorem dX10_leads_23 : decode cX10_leads 23 = .ok (.iload_n 3, 1) := by decide +kernel
theorem dX10_leads_24 : decode cX10_leads 24 = .ok (.iconst 3, 1) := by decide +kernel
theorem dX10_leads_25 : decode cX10_leads 25 = .ok (.invokevirtual 61, 3) := by decide +kernel
theorem dX10_leads_28 : decode cX10_leads 28 = .ok (.aload_n 0, 1) := by decide +kernel
theorem dX10_leads_29 : decode cX10_leads 29 = .ok (.iload_n 1, 1) := by decide +kernel
theorem dX10_leads_30 : decode cX10_leads 30 = .ok (.iconst 3, 1) := by decide +kernel
theorem dX10_leads_31 : decode cX10_leads 31 = .ok (.invokevirtual 61, 3) := by decide +kernel
theorem dX10_leads_34 : decode cX10_leads 34 = .ok (.if_icmp .eq 7, 3) := by decide +kernel
theorem dX10_leads_37 : decode cX10_leads 37 = .ok (.iconst 1, 1) := by decide +kernel
theorem dX10_leads_38 : decode cX10_leads 38 = .ok (.goto 4, 3) := by decide +kernel
theorem dX10_leads_41 : decode cX10_leads 41 = .ok (.iconst 0, 1) := by decide +kernel
theorem dX10_leads_42 : decode cX10_leads 42 = .ok (.istore_n 2, 1) := by decide +kernel
theorem dX10_leads_43 : decode cX10_leads 43 = .ok (.iinc 3 1, 3) := by decide +kernel
theorem dX10_leads_46 : decode cX10_leads 46 = .ok (.goto (-42), 3) := by decide +kernel
theorem dX10_leads_49 : decode cX10_leads 49 = .ok (.iload_n 2, 1) := by decide +kernel
theorem dX10_leads_50 : decode cX10_leads 50 = .ok (.ireturn, 1) := by decide +kernel
theorem dX10_mixesChoices_0 : decode cX10_mixesChoices 0 = .ok (.aload_n 0, 1) := by decide +kernel
theorem dX10_mixesChoices_1 : decode cX10_mixesChoices 1 = .ok (.getfield 16, 3) := by decide +kernel
theorem dX10_mixesChoices_4 : decode cX10_mixesChoices 4 = .ok (.iload_n 1, 1) := by decide +kernel
theorem dX10_mixesChoices_5 : decode cX10_mixesChoices 5 = .ok (.iaload, 1) := by decide +kernel
theorem dX10_mixesChoices_6 : decode cX10_mixesChoices 6 = .ok (.istore_n 2, 1) := by decide +kernel
theorem dX10_mixesChoices_7 : decode cX10_mixesChoices 7 = .ok (.aload_n 0, 1) := by decide +kernel
theorem dX10_mixesChoices_8 : decode cX10_mixesChoices 8 = .ok (.iconst 0, 1) := by decide +kernel
theorem dX10_mixesChoices_9 : decode cX10_mixesChoices 9 = .ok (.putfield 75, 3) := by decide +kernel
theorem dX10_mixesChoices_12 : decode cX10_mixesChoices 12 = .ok (.iconst 0, 1) := by decide +kernel
theorem dX10_mixesChoices_13 : decode cX10_mixesChoices 13 = .ok (.istore_n 3, 1) := by decide +kernel
theorem dX10_mixesChoices_14 : decode cX10_mixesChoices 14 = .ok (.iload_n 3, 1) := by decide +kernel
theorem dX10_mixesChoices_15 : decode cX10_mixesChoices 15 = .ok (.aload_n 0, 1) := by decide +kernel
theorem dX10_mixesChoices_16 : decode cX10_mixesChoices 16 = .ok (.iload_n 2, 1) := by decide +kernel
theorem dX10_mixesChoices_17 : decode cX10_mixesChoices 17 = .ok (.iconst 4, 1) := by decide +kernel
theorem dX10_mixesChoices_18 : decode cX10_mixesChoices 18 = .ok (.invokevirtual 61, 3) := by decide +kernel
theorem dX10_mixesChoices_21 : decode cX10_mixesChoices 21 = .ok (.if_icmp .ge 53, 3) := by decide +kernel
theorem dX10_mixesChoices_24 : decode cX10_mixesChoices 24 = .ok (.aload_n 0, 1) := by decide +kernel
theorem dX10_mixesChoices_25 : decode cX10_mixesChoices 25 = .ok (.getfield 22, 3) := by decide +kernel
theorem dX10_mixesChoices_28 : decode cX10_mixesChoices 28 = .ok (.iconst 5, 1) := by decide +kernel
theorem dX10_mixesChoices_29 : decode cX10_mixesChoices 29 = .ok (.iload_n 1, 1) := by decide +kernel
theorem dX10_mixesChoices_30 : decode cX10_mixesChoices 30 = .ok (.imul, 1) := by decide +kernel
theorem dX10_mixesChoices_31 : decode cX10_mixesChoices 31 = .ok (.iload_n 3, 1) := by decide +kernel
theorem dX10_mixesChoices_32 : decode cX10_mixesChoices 32 = .ok (.iadd, 1) := by decide +kernel
theorem dX10_mixesChoices_33 : decode cX10_mixesChoices 33 = .ok (.iload_n 3, 1) := by decide +kernel
theorem dX10_mixesChoices_34 : decode cX10_mixesChoices 34 = .ok (.iastore, 1) := by decide +kernel
theorem dX10_mixesChoices_35 : decode cX10_mixesChoices 35 = .ok (.aload_n 0, 1) := by decide +kernel
theorem dX10_mixesChoices_36 : decode cX10_mixesChoices 36 = .ok (.iload_n 2, 1) := by decide +kernel
theorem dX10_mixesChoices_37 : decode cX10_mixesChoices 37 = .ok (.iconst 2, 1) := by decide +kernel
theorem dX10_mixesChoices_38 : decode cX10_mixesChoices 38 = .ok (.invokevirtual 61, 3) := by decide +kernel
theorem dX10_mixesChoices_41 : decode cX10_mixesChoices 41 = .ok (.iload_n 3, 1) := by decide +kernel
theorem dX10_mixesChoices_42 : decode cX10_mixesChoices 42 = .ok (.ishr, 1) := by decide +kernel
theorem dX10_mixesChoices_43 : decode cX10_mixesChoices 43 = .ok (.iconst 1, 1) := by decide +kernel
theorem dX10_mixesChoices_44 : decode cX10_mixesChoices 44 = .ok (.iand, 1) := by decide +kernel
theorem dX10_mixesChoices_45 : decode cX10_mixesChoices 45 = .ok (.ifCond .ne 23, 3) := by decide +kernel
theorem dX10_mixesChoices_48 : decode cX10_mixesChoices 48 = .ok (.aload_n 0, 1) := by decide +kernel
theorem dX10_mixesChoices_49 : decode cX10_mixesChoices 49 = .ok (.getfield 25, 3) := by decide +kernel
theorem dX10_mixesChoices_52 : decode cX10_mixesChoices 52 = .ok (.aload_n 0, 1) := by decide +kernel
theorem dX10_mixesChoices_53 : decode cX10_mixesChoices 53 = .ok (.getfield 75, 3) := by decide +kernel
theorem dX10_mixesChoices_56 : decode cX10_mixesChoices 56 = .ok (.iload_n 3, 1) := by decide +kernel
theorem dX10_mixesChoices_57 : decode cX10_mixesChoices 57 = .ok (.iastore, 1) := by decide +kernel
theorem dX10_mixesChoices_58 : decode cX10_mixesChoices 58 = .ok (.aload_n 0, 1) := by decide +kernel
theorem dX10_mixesChoices_59 : decode cX10_mixesChoices 59 = .ok (.dup, 1) := by decide +kernel
theorem dX10_mixesChoices_60 : decode cX10_mixesChoices 60 = .ok (.getfield 75, 3) := by decide +kernel
theorem dX10_mixesChoices_63 : decode cX10_mixesChoices 63 = .ok (.iconst 1, 1) := by decide +kernel
theorem dX10_mixesChoices_64 : decode cX10_mixesChoices 64 = .ok (.iadd, 1) := by decide +kernel
theorem dX10_mixesChoices_65 : decode cX10_mixesChoices 65 = .ok (.putfield 75, 3) := by decide +kernel
theorem dX10_mixesChoices_68 : decode cX10_mixesChoices 68 = .ok (.iinc 3 1, 3) := by decide +kernel
theorem dX10_mixesChoices_71 : decode cX10_mixesChoices 71 = .ok (.goto (-57), 3) := by decide +kernel
theorem dX10_mixesChoices_74 : decode cX10_mixesChoices 74 = .ok (.aload_n 0, 1) := by decide +kernel
theorem dX10_mixesChoices_75 : decode cX10_mixesChoices 75 = .ok (.invokevirtual 82, 3) := by decide +kernel
theorem dX10_mixesChoices_78 : decode cX10_mixesChoices 78 = .ok (.iconst 0, 1) := by decide +kernel
theorem dX10_mixesChoices_79 : decode cX10_mixesChoices 79 = .ok (.istore_n 3, 1) := by decide +kernel
theorem dX10_mixesChoices_80 : decode cX10_mixesChoices 80 = .ok (.iconst 0, 1) := by decide +kernel
theorem dX10_mixesChoices_81 : decode cX10_mixesChoices 81 = .ok (.istore 4, 2) := by decide +kernel
theorem dX10_mixesChoices_83 : decode cX10_mixesChoices 83 = .ok (.iload 4, 2) := by decide +kernel
theorem dX10_mixesChoices_85 : decode cX10_mixesChoices 85 = .ok (.aload_n 0, 1) := by decide +kernel
theorem dX10_mixesChoices_86 : decode cX10_mixesChoices 86 = .ok (.iload_n 2, 1) := by decide +kernel
theorem dX10_mixesChoices_87 : decode cX10_mixesChoices 87 = .ok (.iconst 4, 1) := by decide +kernel
theorem dX10_mixesChoices_88 : decode cX10_mixesChoices 88 = .ok (.invokevirtual 61, 3) := by decide +kernel
theorem dX10_mixesChoices_91 : decode cX10_mixesChoices 91 = .ok (.if_icmp .ge 80, 3) := by decide +kernel
theorem dX10_mixesChoices_94 : decode cX10_mixesChoices 94 = .ok (.aload_n 0, 1) := by decide +kernel
theorem dX10_mixesChoices_95 : decode cX10_mixesChoices 95 = .ok (.iload_n 2, 1) := by decide +kernel
theorem dX10_mixesChoices_96 : decode cX10_mixesChoices 96 = .ok (.iconst 2, 1) := by decide +kernel
theorem dX10_mixesChoices_97 : decode cX10_mixesChoices 97 = .ok (.invokevirtual 61, 3) := by decide +kernel
theorem dX10_mixesChoices_100 : decode cX10_mixesChoices 100 = .ok (.iload 4, 2) := by decide +kernel
theorem dX10_mixesChoices_102 : decode cX10_mixesChoices 102 = .ok (.ishr, 1) := by decide +kernel
theorem dX10_mixesChoices_103 : decode cX10_mixesChoices 103 = .ok (.iconst 1, 1) := by decide +kernel
theorem dX10_mixesChoices_104 : decode cX10_mixesChoices 104 = .ok (.iand, 1) := by decide +kernel
theorem dX10_mixesChoices_105 : decode cX10_mixesChoices 105 = .ok (.ifCond .ne 23, 3) := by decide +kernel
theorem dX10_mixesChoices_108 : decode cX10_mixesChoices 108 = .ok (.aload_n 0, 1) := by decide +kernel
theorem dX10_mixesChoices_109 : decode cX10_mixesChoices 109 = .ok (.getfield 22, 3) := by decide +kernel
theorem dX10_mixesChoices_112 : decode cX10_mixesChoices 112 = .ok (.iconst 5, 1) := by decide +kernel
theorem dX10_mixesChoices_113 : decode cX10_mixesChoices 113 = .ok (.iload_n 1, 1) := by decide +kernel
theorem dX10_mixesChoices_114 : decode cX10_mixesChoices 114 = .ok (.imul, 1) := by decide +kernel
theorem dX10_mixesChoices_115 : decode cX10_mixesChoices 115 = .ok (.iload 4, 2) := by decide +kernel
theorem dX10_mixesChoices_117 : decode cX10_mixesChoices 117 = .ok (.iadd, 1) := by decide +kernel
theorem dX10_mixesChoices_118 : decode cX10_mixesChoices 118 = .ok (.aload_n 0, 1) := by decide +kernel
theorem dX10_mixesChoices_119 : decode cX10_mixesChoices 119 = .ok (.getfield 25, 3) := by decide +kernel
theorem dX10_mixesChoices_122 : decode cX10_mixesChoices 122 = .ok (.iload_n 3, 1) := by decide +kernel
theorem dX10_mixesChoices_123 : decode cX10_mixesChoices 123 = .ok (.iaload, 1) := by decide +kernel
theorem dX10_mixesChoices_124 : decode cX10_mixesChoices 124 = .ok (.iastore, 1) := by decide +kernel
theorem dX10_mixesChoices_125 : decode cX10_mixesChoices 125 = .ok (.iinc 3 1, 3) := by decide +kernel
theorem dX10_mixesChoices_128 : decode cX10_mixesChoices 128 = .ok (.aload_n 0, 1) := by decide +kernel
theorem dX10_mixesChoices_129 : decode cX10_mixesChoices 129 = .ok (.getfield 19, 3) := by decide +kernel
theorem dX10_mixesChoices_132 : decode cX10_mixesChoices 132 = .ok (.iload_n 1, 1) := by decide +kernel
theorem dX10_mixesChoices_133 : decode cX10_mixesChoices 133 = .ok (.aload_n 0, 1) := by decide +kernel
theorem dX10_mixesChoices_134 : decode cX10_mixesChoices 134 = .ok (.getfield 22, 3) := by decide +kernel
theorem dX10_mixesChoices_137 : decode cX10_mixesChoices 137 = .ok (.iconst 5, 1) := by decide +kernel
theorem dX10_mixesChoices_138 : decode cX10_mixesChoices 138 = .ok (.iload_n 1, 1) := by decide +kernel
theorem dX10_mixesChoices_139 : decode cX10_mixesChoices 139 = .ok (.imul, 1) := by decide +kernel
theorem dX10_mixesChoices_140 : decode cX10_mixesChoices 140 = .ok (.iload 4, 2) := by decide +kernel
theorem dX10_mixesChoices_142 : decode cX10_mixesChoices 142 = .ok (.iadd, 1) := by decide +kernel
theorem dX10_mixesChoices_143 : decode cX10_mixesChoices 143 = .ok (.iaload, 1) := by decide +kernel
theorem dX10_mixesChoices_144 : decode cX10_mixesChoices 144 = .ok (.aload_n 0, 1) := by decide +kernel
theorem dX10_mixesChoices_145 : decode cX10_mixesChoices 145 = .ok (.iload_n 2, 1) := by decide +kernel
theorem dX10_mixesChoices_146 : decode cX10_mixesChoices 146 = .ok (.iconst 1, 1) := by decide +kernel
theorem dX10_mixesChoices_147 : decode cX10_mixesChoices 147 = .ok (.invokevirtual 61, 3) := by decide +kernel
theorem dX10_mixesChoices_150 : decode cX10_mixesChoices 150 = .ok (.if_icmp .ne 8, 3) := by decide +kernel
theorem dX10_mixesChoices_153 : decode cX10_mixesChoices 153 = .ok (.iload 4, 2) := by decide +kernel
theorem dX10_mixesChoices_155 : decode cX10_mixesChoices 155 = .ok (.goto 9, 3) := by decide +kernel
theorem dX10_mixesChoices_158 : decode cX10_mixesChoices 158 = .ok (.aload_n 0, 1) := by decide +kernel
theorem dX10_mixesChoices_159 : decode cX10_mixesChoices 159 = .ok (.getfield 19, 3) := by decide +kernel
theorem dX10_mixesChoices_162 : decode cX10_mixesChoices 162 = .ok (.iload_n 1, 1) := by decide +kernel
theorem dX10_mixesChoices_163 : decode cX10_mixesChoices 163 = .ok (.iaload, 1) := by decide +kernel
theorem dX10_mixesChoices_164 : decode cX10_mixesChoices 164 = .ok (.iastore, 1) := by decide +kernel
theorem dX10_mixesChoices_165 : decode cX10_mixesChoices 165 = .ok (.iinc 4 1, 3) := by decide +kernel
theorem dX10_mixesChoices_168 : decode cX10_mixesChoices 168 = .ok (.goto (-85), 3) := by decide +kernel
theorem dX10_mixesChoices_171 : decode cX10_mixesChoices 171 = .ok (.return_, 1) := by decide +kernel
theorem dX10_mixesAll_0 : decode cX10_mixesAll 0 = .ok (.aload_n 0, 1) := by decide +kernel
theorem dX10_mixesAll_1 : decode cX10_mixesAll 1 = .ok (.iload_n 1, 1) := by decide +kernel
theorem dX10_mixesAll_2 : decode cX10_mixesAll 2 = .ok (.putfield 72, 3) := by decide +kernel
theorem dX10_mixesAll_5 : decode cX10_mixesAll 5 = .ok (.aload_n 0, 1) := by decide +kernel
theorem dX10_mixesAll_6 : decode cX10_mixesAll 6 = .ok (.iconst 0, 1) := by decide +kernel
theorem dX10_mixesAll_7 : decode cX10_mixesAll 7 = .ok (.putfield 75, 3) := by decide +kernel
theorem dX10_mixesAll_10 : decode cX10_mixesAll 10 = .ok (.iconst 0, 1) := by decide +kernel
theorem dX10_mixesAll_11 : decode cX10_mixesAll 11 = .ok (.istore_n 2, 1) := by decide +kernel
theorem dX10_mixesAll_12 : decode cX10_mixesAll 12 = .ok (.iload_n 2, 1) := by decide +kernel
theorem dX10_mixesAll_13 : decode cX10_mixesAll 13 = .ok (.aload_n 0, 1) := by decide +kernel
theorem dX10_mixesAll_14 : decode cX10_mixesAll 14 = .ok (.getfield 7, 3) := by decide +kernel
theorem dX10_mixesAll_17 : decode cX10_mixesAll 17 = .ok (.iconst 0, 1) := by decide +kernel
theorem dX10_mixesAll_18 : decode cX10_mixesAll 18 = .ok (.iaload, 1) := by decide +kernel
theorem dX10_mixesAll_19 : decode cX10_mixesAll 19 = .ok (.if_icmp .ge 37, 3) := by decide +kernel
theorem dX10_mixesAll_22 : decode cX10_mixesAll 22 = .ok (.aload_n 0, 1) := by decide +kernel
theorem dX10_mixesAll_23 : decode cX10_mixesAll 23 = .ok (.iload_n 2, 1) := by decide +kernel
theorem dX10_mixesAll_24 : decode cX10_mixesAll 24 = .ok (.invokevirtual 85, 3) := by decide +kernel
theorem dX10_mixesAll_27 : decode cX10_mixesAll 27 = .ok (.ifCond .eq 23, 3) := by decide +kernel
theorem dX10_mixesAll_30 : decode cX10_mixesAll 30 = .ok (.aload_n 0, 1) := by decide +kernel
theorem dX10_mixesAll_31 : decode cX10_mixesAll 31 = .ok (.getfield 25, 3) := by decide +kernel
theorem dX10_mixesAll_34 : decode cX10_mixesAll 34 = .ok (.aload_n 0, 1) := by decide +kernel
theorem dX10_mixesAll_35 : decode cX10_mixesAll 35 = .ok (.getfield 75, 3) := by decide +kernel
theorem dX10_mixesAll_38 : decode cX10_mixesAll 38 = .ok (.iload_n 2, 1) := by decide +kernel
theorem dX10_mixesAll_39 : decode cX10_mixesAll 39 = .ok (.iastore, 1) := by decide +kernel
theorem dX10_mixesAll_40 : decode cX10_mixesAll 40 = .ok (.aload_n 0, 1) := by decide +kernel
theorem dX10_mixesAll_41 : decode cX10_mixesAll 41 = .ok (.dup, 1) := by decide +kernel
theorem dX10_mixesAll_42 : decode cX10_mixesAll 42 = .ok (.getfield 75, 3) := by decide +kernel
theorem dX10_mixesAll_45 : decode cX10_mixesAll 45 = .ok (.iconst 1, 1) := by decide +kernel
theorem dX10_mixesAll_46 : decode cX10_mixesAll 46 = .ok (.iadd, 1) := by decide +kernel
theorem dX10_mixesAll_47 : decode cX10_mixesAll 47 = .ok (.putfield 75, 3) := by decide +kernel
theorem dX10_mixesAll_50 : decode cX10_mixesAll 50 = .ok (.iinc 2 1, 3) := by decide +kernel
theorem dX10_mixesAll_53 : decode cX10_mixesAll 53 = .ok (.goto (-41), 3) := by decide +kernel
theorem dX10_mixesAll_56 : decode cX10_mixesAll 56 = .ok (.aload_n 0, 1) := by decide +kernel
theorem dX10_mixesAll_57 : decode cX10_mixesAll 57 = .ok (.invokevirtual 82, 3) := by decide +kernel
theorem dX10_mixesAll_60 : decode cX10_mixesAll 60 = .ok (.aload_n 0, 1) := by decide +kernel
theorem dX10_mixesAll_61 : decode cX10_mixesAll 61 = .ok (.getfield 75, 3) := by decide +kernel
theorem dX10_mixesAll_64 : decode cX10_mixesAll 64 = .ok (.istore_n 2, 1) := by decide +kernel
theorem dX10_mixesAll_65 : decode cX10_mixesAll 65 = .ok (.iconst 0, 1) := by decide +kernel
theorem dX10_mixesAll_66 : decode cX10_mixesAll 66 = .ok (.istore_n 3, 1) := by decide +kernel
theorem dX10_mixesAll_67 : decode cX10_mixesAll 67 = .ok (.iload_n 3, 1) := by decide +kernel
theorem dX10_mixesAll_68 : decode cX10_mixesAll 68 = .ok (.iload_n 2, 1) := by decide +kernel
theorem dX10_mixesAll_69 : decode cX10_mixesAll 69 = .ok (.if_icmp .ge 21, 3) := by decide +kernel
theorem dX10_mixesAll_72 : decode cX10_mixesAll 72 = .ok (.aload_n 0, 1) := by decide +kernel
theorem dX10_mixesAll_73 : decode cX10_mixesAll 73 = .ok (.getfield 28, 3) := by decide +kernel
theorem dX10_mixesAll_76 : decode cX10_mixesAll 76 = .ok (.iload_n 3, 1) := by decide +kernel
theorem dX10_mixesAll_77 : decode cX10_mixesAll 77 = .ok (.aload_n 0, 1) := by decide +kernel
theorem dX10_mixesAll_78 : decode cX10_mixesAll 78 = .ok (.getfield 25, 3) := by decide +kernel
theorem dX10_mixesAll_81 : decode cX10_mixesAll 81 = .ok (.iload_n 3, 1) := by decide +kernel
theorem dX10_mixesAll_82 : decode cX10_mixesAll 82 = .ok (.iaload, 1) := by decide +kernel
theorem dX10_mixesAll_83 : decode cX10_mixesAll 83 = .ok (.iastore, 1) := by decide +kernel
theorem dX10_mixesAll_84 : decode cX10_mixesAll 84 = .ok (.iinc 3 1, 3) := by decide +kernel
theorem dX10_mixesAll_87 : decode cX10_mixesAll 87 = .ok (.goto (-20), 3) := by decide +kernel
theorem dX10_mixesAll_90 : decode cX10_mixesAll 90 = .ok (.iconst 0, 1) := by decide +kernel
theorem dX10_mixesAll_91 : decode cX10_mixesAll 91 = .ok (.istore_n 3, 1) := by decide +kernel
theorem dX10_mixesAll_92 : decode cX10_mixesAll 92 = .ok (.iconst 0, 1) := by decide +kernel
theorem dX10_mixesAll_93 : decode cX10_mixesAll 93 = .ok (.istore 4, 2) := by decide +kernel
theorem dX10_mixesAll_95 : decode cX10_mixesAll 95 = .ok (.iload 4, 2) := by decide +kernel
theorem dX10_mixesAll_97 : decode cX10_mixesAll 97 = .ok (.iload_n 2, 1) := by decide +kernel
theorem dX10_mixesAll_98 : decode cX10_mixesAll 98 = .ok (.if_icmp .ge 137, 3) := by decide +kernel
theorem dX10_mixesAll_101 : decode cX10_mixesAll 101 = .ok (.aload_n 0, 1) := by decide +kernel
theorem dX10_mixesAll_102 : decode cX10_mixesAll 102 = .ok (.iconst 0, 1) := by decide +kernel
theorem dX10_mixesAll_103 : decode cX10_mixesAll 103 = .ok (.putfield 75, 3) := by decide +kernel
theorem dX10_mixesAll_106 : decode cX10_mixesAll 106 = .ok (.iconst 0, 1) := by decide +kernel
theorem dX10_mixesAll_107 : decode cX10_mixesAll 107 = .ok (.istore 5, 2) := by decide +kernel
theorem dX10_mixesAll_109 : decode cX10_mixesAll 109 = .ok (.iload 5, 2) := by decide +kernel
theorem dX10_mixesAll_111 : decode cX10_mixesAll 111 = .ok (.aload_n 0, 1) := by decide +kernel
theorem dX10_mixesAll_112 : decode cX10_mixesAll 112 = .ok (.getfield 7, 3) := by decide +kernel
theorem dX10_mixesAll_115 : decode cX10_mixesAll 115 = .ok (.iconst 0, 1) := by decide +kernel
theorem dX10_mixesAll_116 : decode cX10_mixesAll 116 = .ok (.iaload, 1) := by decide +kernel
theorem dX10_mixesAll_117 : decode cX10_mixesAll 117 = .ok (.if_icmp .ge 74, 3) := by decide +kernel
theorem dX10_mixesAll_120 : decode cX10_mixesAll 120 = .ok (.iload 5, 2) := by decide +kernel
theorem dX10_mixesAll_122 : decode cX10_mixesAll 122 = .ok (.aload_n 0, 1) := by decide +kernel
theorem dX10_mixesAll_123 : decode cX10_mixesAll 123 = .ok (.getfield 28, 3) := by decide +kernel
theorem dX10_mixesAll_126 : decode cX10_mixesAll 126 = .ok (.iload 4, 2) := by decide +kernel
theorem dX10_mixesAll_128 : decode cX10_mixesAll 128 = .ok (.iaload, 1) := by decide +kernel
theorem dX10_mixesAll_129 : decode cX10_mixesAll 129 = .ok (.if_icmp .eq 35, 3) := by decide +kernel
theorem dX10_mixesAll_132 : decode cX10_mixesAll 132 = .ok (.aload_n 0, 1) := by decide +kernel
theorem dX10_mixesAll_133 : decode cX10_mixesAll 133 = .ok (.iload 5, 2) := by decide +kernel
theorem dX10_mixesAll_135 : decode cX10_mixesAll 135 = .ok (.iconst 3, 1) := by decide +kernel
theorem dX10_mixesAll_136 : decode cX10_mixesAll 136 = .ok (.invokevirtual 61, 3) := by decide +kernel
theorem dX10_mixesAll_139 : decode cX10_mixesAll 139 = .ok (.ifCond .eq 46, 3) := by decide +kernel
theorem dX10_mixesAll_142 : decode cX10_mixesAll 142 = .ok (.aload_n 0, 1) := by decide +kernel
theorem dX10_mixesAll_143 : decode cX10_mixesAll 143 = .ok (.iload 5, 2) := by decide +kernel
theorem dX10_mixesAll_145 : decode cX10_mixesAll 145 = .ok (.iconst 3, 1) := by decide +kernel
theorem dX10_mixesAll_146 : decode cX10_mixesAll 146 = .ok (.invokevirtual 61, 3) := by decide +kernel
theorem dX10_mixesAll_149 : decode cX10_mixesAll 149 = .ok (.aload_n 0, 1) := by decide +kernel
theorem dX10_mixesAll_150 : decode cX10_mixesAll 150 = .ok (.aload_n 0, 1) := by decide +kernel
theorem dX10_mixesAll_151 : decode cX10_mixesAll 151 = .ok (.getfield 28, 3) := by decide +kernel
theorem dX10_mixesAll_154 : decode cX10_mixesAll 154 = .ok (.iload 4, 2) := by decide +kernel
theorem dX10_mixesAll_156 : decode cX10_mixesAll 156 = .ok (.iaload, 1) := by decide +kernel
theorem dX10_mixesAll_157 : decode cX10_mixesAll 157 = .ok (.iconst 3, 1) := by decide +kernel
theorem dX10_mixesAll_158 : decode cX10_mixesAll 158 = .ok (.invokevirtual 61, 3) := by decide +kernel
theorem dX10_mixesAll_161 : decode cX10_mixesAll 161 = .ok (.if_icmp .ne 24, 3) := by decide +kernel
theorem dX10_mixesAll_164 : decode cX10_mixesAll 164 = .ok (.aload_n 0, 1) := by decide +kernel
theorem dX10_mixesAll_165 : decode cX10_mixesAll 165 = .ok (.getfield 25, 3) := by decide +kernel
theorem dX10_mixesAll_168 : decode cX10_mixesAll 168 = .ok (.aload_n 0, 1) := by decide +kernel
theorem dX10_mixesAll_169 : decode cX10_mixesAll 169 = .ok (.getfield 75, 3) := by decide +kernel
theorem dX10_mixesAll_172 : decode cX10_mixesAll 172 = .ok (.iload 5, 2) := by decide +kernel
theorem dX10_mixesAll_174 : decode cX10_mixesAll 174 = .ok (.iastore, 1) := by decide +kernel
theorem dX10_mixesAll_175 : decode cX10_mixesAll 175 = .ok (.aload_n 0, 1) := by decide +kernel
theorem dX10_mixesAll_176 : decode cX10_mixesAll 176 = .ok (.dup, 1) := by decide +kernel
theorem dX10_mixesAll_177 : decode cX10_mixesAll 177 = .ok (.getfield 75, 3) := by decide +kernel
theorem dX10_mixesAll_180 : decode cX10_mixesAll 180 = .ok (.iconst 1, 1) := by decide +kernel
theorem dX10_mixesAll_181 : decode cX10_mixesAll 181 = .ok (.iadd, 1) := by decide +kernel
theorem dX10_mixesAll_182 : decode cX10_mixesAll 182 = .ok (.putfield 75, 3) := by decide +kernel
theorem dX10_mixesAll_185 : decode cX10_mixesAll 185 = .ok (.iinc 5 1, 3) := by decide +kernel
theorem dX10_mixesAll_188 : decode cX10_mixesAll 188 = .ok (.goto (-79), 3) := by decide +kernel
theorem dX10_mixesAll_191 : decode cX10_mixesAll 191 = .ok (.aload_n 0, 1) := by decide +kernel
theorem dX10_mixesAll_192 : decode cX10_mixesAll 192 = .ok (.invokevirtual 82, 3) := by decide +kernel
theorem dX10_mixesAll_195 : decode cX10_mixesAll 195 = .ok (.iconst 0, 1) := by decide +kernel
theorem dX10_mixesAll_196 : decode cX10_mixesAll 196 = .ok (.istore 5, 2) := by decide +kernel
theorem dX10_mixesAll_198 : decode cX10_mixesAll 198 = .ok (.iload 5, 2) := by decide +kernel
theorem dX10_mixesAll_200 : decode cX10_mixesAll 200 = .ok (.aload_n 0, 1) := by decide +kernel
theorem dX10_mixesAll_201 : decode cX10_mixesAll 201 = .ok (.getfield 75, 3) := by decide +kernel
theorem dX10_mixesAll_204 : decode cX10_mixesAll 204 = .ok (.if_icmp .ge 25, 3) := by decide +kernel
theorem dX10_mixesAll_207 : decode cX10_mixesAll 207 = .ok (.aload_n 0, 1) := by decide +kernel
theorem dX10_mixesAll_208 : decode cX10_mixesAll 208 = .ok (.getfield 16, 3) := by decide +kernel
theorem dX10_mixesAll_211 : decode cX10_mixesAll 211 = .ok (.iload_n 3, 1) := by decide +kernel
theorem dX10_mixesAll_212 : decode cX10_mixesAll 212 = .ok (.aload_n 0, 1) := by decide +kernel
theorem dX10_mixesAll_213 : decode cX10_mixesAll 213 = .ok (.getfield 25, 3) := by decide +kernel
theorem dX10_mixesAll_216 : decode cX10_mixesAll 216 = .ok (.iload 5, 2) := by decide +kernel
theorem dX10_mixesAll_218 : decode cX10_mixesAll 218 = .ok (.iaload, 1) := by decide +kernel
theorem dX10_mixesAll_219 : decode cX10_mixesAll 219 = .ok (.iastore, 1) := by decide +kernel
theorem dX10_mixesAll_220 : decode cX10_mixesAll 220 = .ok (.iinc 3 1, 3) := by decide +kernel
theorem dX10_mixesAll_223 : decode cX10_mixesAll 223 = .ok (.iinc 5 1, 3) := by decide +kernel
theorem dX10_mixesAll_226 : decode cX10_mixesAll 226 = .ok (.goto (-28), 3) := by decide +kernel
theorem dX10_mixesAll_229 : decode cX10_mixesAll 229 = .ok (.iinc 4 1, 3) := by decide +kernel
theorem dX10_mixesAll_232 : decode cX10_mixesAll 232 = .ok (.goto (-137), 3) := by decide +kernel
theorem dX10_mixesAll_235 : decode cX10_mixesAll 235 = .ok (.iconst 0, 1) := by decide +kernel
theorem dX10_mixesAll_236 : decode cX10_mixesAll 236 = .ok (.istore 4, 2) := by decide +kernel
theorem dX10_mixesAll_238 : decode cX10_mixesAll 238 = .ok (.iload 4, 2) := by decide +kernel
theorem dX10_mixesAll_240 : decode cX10_mixesAll 240 = .ok (.iload_n 3, 1) := by decide +kernel
theorem dX10_mixesAll_241 : decode cX10_mixesAll 241 = .ok (.if_icmp .ge 15, 3) := by decide +kernel
theorem dX10_mixesAll_244 : decode cX10_mixesAll 244 = .ok (.aload_n 0, 1) := by decide +kernel
theorem dX10_mixesAll_245 : decode cX10_mixesAll 245 = .ok (.iload 4, 2) := by decide +kernel
theorem dX10_mixesAll_247 : decode cX10_mixesAll 247 = .ok (.invokevirtual 88, 3) := by decide +kernel
theorem dX10_mixesAll_250 : decode cX10_mixesAll 250 = .ok (.iinc 4 1, 3) := by decide +kernel
theorem dX10_mixesAll_253 : decode cX10_mixesAll 253 = .ok (.goto (-15), 3) := by decide +kernel
theorem dX10_mixesAll_256 : decode cX10_mixesAll 256 = .ok (.return_, 1) := by decide +kernel
theorem dX10_opens_0 : decode cX10_opens 0 = .ok (.aload_n 0, 1) := by decide +kernel
theorem dX10_opens_1 : decode cX10_opens 1 = .ok (.aload_n 0, 1) := by decide +kernel
theorem dX10_opens_2 : decode cX10_opens 2 = .ok (.getfield 7, 3) := by decide +kernel
theorem dX10_opens_5 : decode cX10_opens 5 = .ok (.bipush 110, 2) := by decide +kernel
theorem dX10_opens_7 : decode cX10_opens 7 = .ok (.iload_n 1, 1) := by decide +kernel
theorem dX10_opens_8 : decode cX10_opens 8 = .ok (.iadd, 1) := by decide +kernel
theorem dX10_opens_9 : decode cX10_opens 9 = .ok (.iaload, 1) := by decide +kernel
theorem dX10_opens_10 : decode cX10_opens 10 = .ok (.invokevirtual 92, 3) := by decide +kernel
theorem dX10_opens_13 : decode cX10_opens 13 = .ok (.return_, 1) := by decide +kernel
theorem dX10_needs_0 : decode cX10_needs 0 = .ok (.iconst 0, 1) := by decide +kernel
theorem dX10_needs_1 : decode cX10_needs 1 = .ok (.istore_n 3, 1) := by decide +kernel
theorem dX10_needs_2 : decode cX10_needs 2 = .ok (.iconst 0, 1) := by decide +kernel
theorem dX10_needs_3 : decode cX10_needs 3 = .ok (.istore 4, 2) := by decide +kernel
theorem dX10_needs_5 : decode cX10_needs 5 = .ok (.iload_n 1, 1) := by decide +kernel
theorem dX10_needs_6 : decode cX10_needs 6 = .ok (.istore 5, 2) := by decide +kernel
theorem dX10_needs_8 : decode cX10_needs 8 = .ok (.iload 5, 2) := by decide +kernel
theorem dX10_needs_10 : decode cX10_needs 10 = .ok (.aload_n 0, 1) := by decide +kernel
theorem dX10_needs_11 : decode cX10_needs 11 = .ok (.getfield 7, 3) := by decide +kernel
theorem dX10_needs_14 : decode cX10_needs 14 = .ok (.iconst 0, 1) := by decide +kernel
theorem dX10_needs_15 : decode cX10_needs 15 = .ok (.iaload, 1) := by decide +kernel
theorem dX10_needs_16 : decode cX10_needs 16 = .ok (.if_icmp .ge 68, 3) := by decide +kernel
theorem dX10_needs_19 : decode cX10_needs 19 = .ok (.aload_n 0, 1) := by decide +kernel
theorem dX10_needs_20 : decode cX10_needs 20 = .ok (.aload_n 0, 1) := by decide +kernel
theorem dX10_needs_21 : decode cX10_needs 21 = .ok (.getfield 16, 3) := by decide +kernel
theorem dX10_needs_24 : decode cX10_needs 24 = .ok (.iload 5, 2) := by decide +kernel
theorem dX10_needs_26 : decode cX10_needs 26 = .ok (.iaload, 1) := by decide +kernel
theorem dX10_needs_27 : decode cX10_needs 27 = .ok (.iconst 0, 1) := by decide +kernel
theorem dX10_needs_28 : decode cX10_needs 28 = .ok (.invokevirtual 61, 3) := by decide +kernel
theorem dX10_needs_31 : decode cX10_needs 31 = .ok (.istore 6, 2) := by decide +kernel
theorem dX10_needs_33 : decode cX10_needs 33 = .ok (.iload 6, 2) := by decide +kernel
theorem dX10_needs_35 : decode cX10_needs 35 = .ok (.iload_n 2, 1) := by decide +kernel
theorem dX10_needs_36 : decode cX10_needs 36 = .ok (.if_icmp .le 6, 3) := by decide +kernel
theorem dX10_needs_39 : decode cX10_needs 39 = .ok (.bipush 99, 2) := by decide +kernel
theorem dX10_needs_41 : decode cX10_needs 41 = .ok (.ireturn, 1) := by decide +kernel
theorem dX10_needs_42 : decode cX10_needs 42 = .ok (.iload_n 3, 1) := by decide +kernel
theorem dX10_needs_43 : decode cX10_needs 43 = .ok (.iload 6, 2) := by decide +kernel
theorem dX10_needs_45 : decode cX10_needs 45 = .ok (.iload 4, 2) := by decide +kernel
theorem dX10_needs_47 : decode cX10_needs 47 = .ok (.if_icmp .le 7, 3) := by decide +kernel
theorem dX10_needs_50 : decode cX10_needs 50 = .ok (.iconst 1, 1) := by decide +kernel
theorem dX10_needs_51 : decode cX10_needs 51 = .ok (.goto 4, 3) := by decide +kernel
theorem dX10_needs_54 : decode cX10_needs 54 = .ok (.iconst 0, 1) := by decide +kernel
theorem dX10_needs_55 : decode cX10_needs 55 = .ok (.iadd, 1) := by decide +kernel
theorem dX10_needs_56 : decode cX10_needs 56 = .ok (.istore_n 3, 1) := by decide +kernel
theorem dX10_needs_57 : decode cX10_needs 57 = .ok (.iload 6, 2) := by decide +kernel
theorem dX10_needs_59 : decode cX10_needs 59 = .ok (.iload 4, 2) := by decide +kernel
theorem dX10_needs_61 : decode cX10_needs 61 = .ok (.if_icmp .le 10, 3) := by decide +kernel
theorem dX10_needs_64 : decode cX10_needs 64 = .ok (.iload_n 2, 1) := by decide +kernel
theorem dX10_needs_65 : decode cX10_needs 65 = .ok (.iload 6, 2) := by decide +kernel
theorem dX10_needs_67 : decode cX10_needs 67 = .ok (.isub, 1) := by decide +kernel
theorem dX10_needs_68 : decode cX10_needs 68 = .ok (.goto 8, 3) := by decide +kernel
theorem dX10_needs_71 : decode cX10_needs 71 = .ok (.iload 4, 2) := by decide +kernel
theorem dX10_needs_73 : decode cX10_needs 73 = .ok (.iload 6, 2) := by decide +kernel
theorem dX10_needs_75 : decode cX10_needs 75 = .ok (.isub, 1) := by decide +kernel
theorem dX10_needs_76 : decode cX10_needs 76 = .ok (.istore 4, 2) := by decide +kernel
theorem dX10_needs_78 : decode cX10_needs 78 = .ok (.iinc 5 1, 3) := by decide +kernel
theorem dX10_needs_81 : decode cX10_needs 81 = .ok (.goto (-73), 3) := by decide +kernel
theorem dX10_needs_84 : decode cX10_needs 84 = .ok (.iload_n 3, 1) := by decide +kernel
theorem dX10_needs_85 : decode cX10_needs 85 = .ok (.ireturn, 1) := by decide +kernel
theorem dX10_lays_0 : decode cX10_lays 0 = .ok (.aload_n 0, 1) := by decide +kernel
theorem dX10_lays_1 : decode cX10_lays 1 = .ok (.aload_n 0, 1) := by decide +kernel
theorem dX10_lays_2 : decode cX10_lays 2 = .ok (.iconst 0, 1) := by decide +kernel
theorem dX10_lays_3 : decode cX10_lays 3 = .ok (.aload_n 0, 1) := by decide +kernel
theorem dX10_lays_4 : decode cX10_lays 4 = .ok (.getfield 7, 3) := by decide +kernel
theorem dX10_lays_7 : decode cX10_lays 7 = .ok (.iconst 2, 1) := by decide +kernel
theorem dX10_lays_8 : decode cX10_lays 8 = .ok (.iaload, 1) := by decide +kernel
theorem dX10_lays_9 : decode cX10_lays 9 = .ok (.invokevirtual 95, 3) := by decide +kernel
theorem dX10_lays_12 : decode cX10_lays 12 = .ok (.putfield 98, 3) := by decide +kernel
theorem dX10_lays_15 : decode cX10_lays 15 = .ok (.iconst 1, 1) := by decide +kernel
theorem dX10_lays_16 : decode cX10_lays 16 = .ok (.istore_n 1, 1) := by decide +kernel
theorem dX10_lays_17 : decode cX10_lays 17 = .ok (.aload_n 0, 1) := by decide +kernel
theorem dX10_lays_18 : decode cX10_lays 18 = .ok (.iconst 0, 1) := by decide +kernel
theorem dX10_lays_19 : decode cX10_lays 19 = .ok (.iload_n 1, 1) := by decide +kernel
theorem dX10_lays_20 : decode cX10_lays 20 = .ok (.invokevirtual 95, 3) := by decide +kernel
theorem dX10_lays_23 : decode cX10_lays 23 = .ok (.aload_n 0, 1) := by decide +kernel
theorem dX10_lays_24 : decode cX10_lays 24 = .ok (.getfield 98, 3) := by decide +kernel
theorem dX10_lays_27 : decode cX10_lays 27 = .ok (.if_icmp .le 9, 3) := by decide +kernel
theorem dX10_lays_30 : decode cX10_lays 30 = .ok (.iinc 1 1, 3) := by decide +kernel
theorem dX10_lays_33 : decode cX10_lays 33 = .ok (.goto (-16), 3) := by decide +kernel
theorem dX10_lays_36 : decode cX10_lays 36 = .ok (.iconst 0, 1) := by decide +kernel
theorem dX10_lays_37 : decode cX10_lays 37 = .ok (.istore_n 2, 1) := by decide +kernel
theorem dX10_lays_38 : decode cX10_lays 38 = .ok (.iconst 0, 1) := by decide +kernel
theorem dX10_lays_39 : decode cX10_lays 39 = .ok (.istore_n 3, 1) := by decide +kernel
theorem dX10_lays_40 : decode cX10_lays 40 = .ok (.iload_n 3, 1) := by decide +kernel
theorem dX10_lays_41 : decode cX10_lays 41 = .ok (.aload_n 0, 1) := by decide +kernel
theorem dX10_lays_42 : decode cX10_lays 42 = .ok (.getfield 98, 3) := by decide +kernel
theorem dX10_lays_45 : decode cX10_lays 45 = .ok (.if_icmp .ge 81, 3) := by decide +kernel
theorem dX10_lays_48 : decode cX10_lays 48 = .ok (.iconst 0, 1) := by decide +kernel
theorem dX10_lays_49 : decode cX10_lays 49 = .ok (.istore 4, 2) := by decide +kernel
theorem dX10_lays_51 : decode cX10_lays 51 = .ok (.iconst 1, 1) := by decide +kernel
theorem dX10_lays_52 : decode cX10_lays 52 = .ok (.istore 5, 2) := by decide +kernel
theorem dX10_lays_54 : decode cX10_lays 54 = .ok (.iload 5, 2) := by decide +kernel
theorem dX10_lays_56 : decode cX10_lays 56 = .ok (.ifCond .eq 64, 3) := by decide +kernel
theorem dX10_lays_59 : decode cX10_lays 59 = .ok (.aload_n 0, 1) := by decide +kernel
theorem dX10_lays_60 : decode cX10_lays 60 = .ok (.getfield 31, 3) := by decide +kernel
theorem dX10_lays_63 : decode cX10_lays 63 = .ok (.iload_n 2, 1) := by decide +kernel
theorem dX10_lays_64 : decode cX10_lays 64 = .ok (.iload_n 3, 1) := by decide +kernel
theorem dX10_lays_65 : decode cX10_lays 65 = .ok (.iastore, 1) := by decide +kernel
theorem dX10_lays_66 : decode cX10_lays 66 = .ok (.aload_n 0, 1) := by decide +kernel
theorem dX10_lays_67 : decode cX10_lays 67 = .ok (.getfield 34, 3) := by decide +kernel
theorem dX10_lays_70 : decode cX10_lays 70 = .ok (.iload_n 2, 1) := by decide +kernel
theorem dX10_lays_71 : decode cX10_lays 71 = .ok (.iload 4, 2) := by decide +kernel
theorem dX10_lays_73 : decode cX10_lays 73 = .ok (.iastore, 1) := by decide +kernel
theorem dX10_lays_74 : decode cX10_lays 74 = .ok (.iload 4, 2) := by decide +kernel
theorem dX10_lays_76 : decode cX10_lays 76 = .ok (.aload_n 0, 1) := by decide +kernel
theorem dX10_lays_77 : decode cX10_lays 77 = .ok (.aload_n 0, 1) := by decide +kernel
theorem dX10_lays_78 : decode cX10_lays 78 = .ok (.getfield 16, 3) := by decide +kernel
theorem dX10_lays_81 : decode cX10_lays 81 = .ok (.iload_n 2, 1) := by decide +kernel
theorem dX10_lays_82 : decode cX10_lays 82 = .ok (.iaload, 1) := by decide +kernel
theorem dX10_lays_83 : decode cX10_lays 83 = .ok (.iconst 0, 1) := by decide +kernel
theorem dX10_lays_84 : decode cX10_lays 84 = .ok (.invokevirtual 61, 3) := by decide +kernel
theorem dX10_lays_87 : decode cX10_lays 87 = .ok (.iadd, 1) := by decide +kernel
theorem dX10_lays_88 : decode cX10_lays 88 = .ok (.istore 4, 2) := by decide +kernel
theorem dX10_lays_90 : decode cX10_lays 90 = .ok (.iinc 2 1, 3) := by decide +kernel
theorem dX10_lays_93 : decode cX10_lays 93 = .ok (.aload_n 0, 1) := by decide +kernel
theorem dX10_lays_94 : decode cX10_lays 94 = .ok (.iload_n 2, 1) := by decide +kernel
theorem dX10_lays_95 : decode cX10_lays 95 = .ok (.iload_n 1, 1) := by decide +kernel
theorem dX10_lays_96 : decode cX10_lays 96 = .ok (.invokevirtual 95, 3) := by decide +kernel
theorem dX10_lays_99 : decode cX10_lays 99 = .ok (.aload_n 0, 1) := by decide +kernel
theorem dX10_lays_100 : decode cX10_lays 100 = .ok (.getfield 98, 3) := by decide +kernel
theorem dX10_lays_103 : decode cX10_lays 103 = .ok (.iconst 1, 1) := by decide +kernel
theorem dX10_lays_104 : decode cX10_lays 104 = .ok (.isub, 1) := by decide +kernel
theorem dX10_lays_105 : decode cX10_lays 105 = .ok (.iload_n 3, 1) := by decide +kernel
theorem dX10_lays_106 : decode cX10_lays 106 = .ok (.isub, 1) := by decide +kernel
theorem dX10_lays_107 : decode cX10_lays 107 = .ok (.if_icmp .le 7, 3) := by decide +kernel
theorem dX10_lays_110 : decode cX10_lays 110 = .ok (.iconst 1, 1) := by decide +kernel
theorem dX10_lays_111 : decode cX10_lays 111 = .ok (.goto 4, 3) := by decide +kernel
theorem dX10_lays_114 : decode cX10_lays 114 = .ok (.iconst 0, 1) := by decide +kernel
theorem dX10_lays_115 : decode cX10_lays 115 = .ok (.istore 5, 2) := by decide +kernel
theorem dX10_lays_117 : decode cX10_lays 117 = .ok (.goto (-63), 3) := by decide +kernel
theorem dX10_lays_120 : decode cX10_lays 120 = .ok (.iinc 3 1, 3) := by decide +kernel
theorem dX10_lays_123 : decode cX10_lays 123 = .ok (.goto (-83), 3) := by decide +kernel
theorem dX10_lays_126 : decode cX10_lays 126 = .ok (.return_, 1) := by decide +kernel
theorem dX10_told_0 : decode cX10_told 0 = .ok (.iload_n 2, 1) := by decide +kernel
theorem dX10_told_1 : decode cX10_told 1 = .ok (.ifCond .ne 12, 3) := by decide +kernel
theorem dX10_told_4 : decode cX10_told 4 = .ok (.aload_n 0, 1) := by decide +kernel
theorem dX10_told_5 : decode cX10_told 5 = .ok (.getfield 16, 3) := by decide +kernel
theorem dX10_told_8 : decode cX10_told 8 = .ok (.iload_n 1, 1) := by decide +kernel
theorem dX10_told_9 : decode cX10_told 9 = .ok (.iaload, 1) := by decide +kernel
theorem dX10_told_10 : decode cX10_told 10 = .ok (.goto 37, 3) := by decide +kernel
theorem dX10_told_13 : decode cX10_told 13 = .ok (.iload_n 2, 1) := by decide +kernel
theorem dX10_told_14 : decode cX10_told 14 = .ok (.iconst 1, 1) := by decide +kernel
theorem dX10_told_15 : decode cX10_told 15 = .ok (.if_icmp .ne 12, 3) := by decide +kernel
theorem dX10_told_18 : decode cX10_told 18 = .ok (.aload_n 0, 1) := by decide +kernel
theorem dX10_told_19 : decode cX10_told 19 = .ok (.getfield 19, 3) := by decide +kernel
theorem dX10_told_22 : decode cX10_told 22 = .ok (.iload_n 1, 1) := by decide +kernel
theorem dX10_told_23 : decode cX10_told 23 = .ok (.iaload, 1) := by decide +kernel
theorem dX10_told_24 : decode cX10_told 24 = .ok (.goto 23, 3) := by decide +kernel
theorem dX10_told_27 : decode cX10_told 27 = .ok (.iload_n 2, 1) := by decide +kernel
theorem dX10_told_28 : decode cX10_told 28 = .ok (.iconst 2, 1) := by decide +kernel
theorem dX10_told_29 : decode cX10_told 29 = .ok (.if_icmp .ne 12, 3) := by decide +kernel
theorem dX10_told_32 : decode cX10_told 32 = .ok (.aload_n 0, 1) := by decide +kernel
theorem dX10_told_33 : decode cX10_told 33 = .ok (.getfield 31, 3) := by decide +kernel
theorem dX10_told_36 : decode cX10_told 36 = .ok (.iload_n 1, 1) := by decide +kernel
theorem dX10_told_37 : decode cX10_told 37 = .ok (.iaload, 1) := by decide +kernel
theorem dX10_told_38 : decode cX10_told 38 = .ok (.goto 9, 3) := by decide +kernel
theorem dX10_told_41 : decode cX10_told 41 = .ok (.aload_n 0, 1) := by decide +kernel
theorem dX10_told_42 : decode cX10_told 42 = .ok (.getfield 34, 3) := by decide +kernel
theorem dX10_told_45 : decode cX10_told 45 = .ok (.iload_n 1, 1) := by decide +kernel
theorem dX10_told_46 : decode cX10_told 46 = .ok (.iaload, 1) := by decide +kernel
theorem dX10_told_47 : decode cX10_told 47 = .ok (.ireturn, 1) := by decide +kernel
theorem dX10_version_0 : decode cX10_version 0 = .ok (.aload_n 0, 1) := by decide +kernel
theorem dX10_version_1 : decode cX10_version 1 = .ok (.getfield 7, 3) := by decide +kernel
theorem dX10_version_4 : decode cX10_version 4 = .ok (.iconst 3, 1) := by decide +kernel
theorem dX10_version_5 : decode cX10_version 5 = .ok (.iaload, 1) := by decide +kernel
theorem dX10_version_6 : decode cX10_version 6 = .ok (.ifCond .le 7, 3) := by decide +kernel
theorem dX10_version_9 : decode cX10_version 9 = .ok (.sipush (-1002), 3) := by decide +kernel
theorem dX10_version_12 : decode cX10_version 12 = .ok (.ireturn, 1) := by decide +kernel
theorem dX10_version_13 : decode cX10_version 13 = .ok (.aload_n 0, 1) := by decide +kernel
theorem dX10_version_14 : decode cX10_version 14 = .ok (.getfield 7, 3) := by decide +kernel
theorem dX10_version_17 : decode cX10_version 17 = .ok (.iconst 1, 1) := by decide +kernel
theorem dX10_version_18 : decode cX10_version 18 = .ok (.iaload, 1) := by decide +kernel
theorem dX10_version_19 : decode cX10_version 19 = .ok (.bipush 6, 2) := by decide +kernel
theorem dX10_version_21 : decode cX10_version 21 = .ok (.if_icmp .ne 7, 3) := by decide +kernel
theorem dX10_version_24 : decode cX10_version 24 = .ok (.sipush (-1003), 3) := by decide +kernel
theorem dX10_version_27 : decode cX10_version 27 = .ok (.ireturn, 1) := by decide +kernel
theorem dX10_version_28 : decode cX10_version 28 = .ok (.aload_n 0, 1) := by decide +kernel
theorem dX10_version_29 : decode cX10_version 29 = .ok (.invokevirtual 54, 3) := by decide +kernel
theorem dX10_version_32 : decode cX10_version 32 = .ok (.aload_n 0, 1) := by decide +kernel
theorem dX10_version_33 : decode cX10_version 33 = .ok (.getfield 7, 3) := by decide +kernel
theorem dX10_version_36 : decode cX10_version 36 = .ok (.bipush 110, 2) := by decide +kernel
theorem dX10_version_38 : decode cX10_version 38 = .ok (.aload_n 0, 1) := by decide +kernel
theorem dX10_version_39 : decode cX10_version 39 = .ok (.getfield 7, 3) := by decide +kernel
theorem dX10_version_42 : decode cX10_version 42 = .ok (.iconst 1, 1) := by decide +kernel
theorem dX10_version_43 : decode cX10_version 43 = .ok (.iaload, 1) := by decide +kernel
theorem dX10_version_44 : decode cX10_version 44 = .ok (.iadd, 1) := by decide +kernel
theorem dX10_version_45 : decode cX10_version 45 = .ok (.iload_n 1, 1) := by decide +kernel
theorem dX10_version_46 : decode cX10_version 46 = .ok (.iastore, 1) := by decide +kernel
theorem dX10_version_47 : decode cX10_version 47 = .ok (.aload_n 0, 1) := by decide +kernel
theorem dX10_version_48 : decode cX10_version 48 = .ok (.getfield 7, 3) := by decide +kernel
theorem dX10_version_51 : decode cX10_version 51 = .ok (.iconst 1, 1) := by decide +kernel
theorem dX10_version_52 : decode cX10_version 52 = .ok (.dup2, 1) := by decide +kernel
theorem dX10_version_53 : decode cX10_version 53 = .ok (.iaload, 1) := by decide +kernel
theorem dX10_version_54 : decode cX10_version 54 = .ok (.iconst 1, 1) := by decide +kernel
theorem dX10_version_55 : decode cX10_version 55 = .ok (.iadd, 1) := by decide +kernel
theorem dX10_version_56 : decode cX10_version 56 = .ok (.iastore, 1) := by decide +kernel
theorem dX10_version_57 : decode cX10_version 57 = .ok (.aload_n 0, 1) := by decide +kernel
theorem dX10_version_58 : decode cX10_version 58 = .ok (.getfield 7, 3) := by decide +kernel
theorem dX10_version_61 : decode cX10_version 61 = .ok (.iconst 1, 1) := by decide +kernel
theorem dX10_version_62 : decode cX10_version 62 = .ok (.iaload, 1) := by decide +kernel
theorem dX10_version_63 : decode cX10_version 63 = .ok (.iconst 1, 1) := by decide +kernel
theorem dX10_version_64 : decode cX10_version 64 = .ok (.isub, 1) := by decide +kernel
theorem dX10_version_65 : decode cX10_version 65 = .ok (.ireturn, 1) := by decide +kernel
theorem dX10_drop_0 : decode cX10_drop 0 = .ok (.aload_n 0, 1) := by decide +kernel
theorem dX10_drop_1 : decode cX10_drop 1 = .ok (.getfield 7, 3) := by decide +kernel
theorem dX10_drop_4 : decode cX10_drop 4 = .ok (.iconst 3, 1) := by decide +kernel
theorem dX10_drop_5 : decode cX10_drop 5 = .ok (.iaload, 1) := by decide +kernel
theorem dX10_drop_6 : decode cX10_drop 6 = .ok (.ifCond .gt 12, 3) := by decide +kernel
theorem dX10_drop_9 : decode cX10_drop 9 = .ok (.aload_n 0, 1) := by decide +kernel
theorem dX10_drop_10 : decode cX10_drop 10 = .ok (.getfield 7, 3) := by decide +kernel
theorem dX10_drop_13 : decode cX10_drop 13 = .ok (.iconst 1, 1) := by decide +kernel
theorem dX10_drop_14 : decode cX10_drop 14 = .ok (.iaload, 1) := by decide +kernel
theorem dX10_drop_15 : decode cX10_drop 15 = .ok (.ifCond .ne 7, 3) := by decide +kernel
theorem dX10_drop_18 : decode cX10_drop 18 = .ok (.ldc2_w 101, 3) := by decide +kernel
theorem dX10_drop_21 : decode cX10_drop 21 = .ok (.lreturn, 1) := by decide +kernel
theorem dX10_drop_22 : decode cX10_drop 22 = .ok (.aload_n 0, 1) := by decide +kernel
theorem dX10_drop_23 : decode cX10_drop 23 = .ok (.invokevirtual 54, 3) := by decide +kernel
theorem dX10_drop_26 : decode cX10_drop 26 = .ok (.aload_n 0, 1) := by decide +kernel
theorem dX10_drop_27 : decode cX10_drop 27 = .ok (.getfield 7, 3) := by decide +kernel
theorem dX10_drop_30 : decode cX10_drop 30 = .ok (.iconst 1, 1) := by decide +kernel
theorem dX10_drop_31 : decode cX10_drop 31 = .ok (.dup2, 1) := by decide +kernel
theorem dX10_drop_32 : decode cX10_drop 32 = .ok (.iaload, 1) := by decide +kernel
theorem dX10_drop_33 : decode cX10_drop 33 = .ok (.iconst 1, 1) := by decide +kernel
theorem dX10_drop_34 : decode cX10_drop 34 = .ok (.isub, 1) := by decide +kernel
theorem dX10_drop_35 : decode cX10_drop 35 = .ok (.iastore, 1) := by decide +kernel
theorem dX10_drop_36 : decode cX10_drop 36 = .ok (.aload_n 0, 1) := by decide +kernel
theorem dX10_drop_37 : decode cX10_drop 37 = .ok (.getfield 7, 3) := by decide +kernel
theorem dX10_drop_40 : decode cX10_drop 40 = .ok (.bipush 110, 2) := by decide +kernel
theorem dX10_drop_42 : decode cX10_drop 42 = .ok (.aload_n 0, 1) := by decide +kernel
theorem dX10_drop_43 : decode cX10_drop 43 = .ok (.getfield 7, 3) := by decide +kernel
theorem dX10_drop_46 : decode cX10_drop 46 = .ok (.iconst 1, 1) := by decide +kernel
theorem dX10_drop_47 : decode cX10_drop 47 = .ok (.iaload, 1) := by decide +kernel
theorem dX10_drop_48 : decode cX10_drop 48 = .ok (.iadd, 1) := by decide +kernel
theorem dX10_drop_49 : decode cX10_drop 49 = .ok (.iaload, 1) := by decide +kernel
theorem dX10_drop_50 : decode cX10_drop 50 = .ok (.i2l, 1) := by decide +kernel
theorem dX10_drop_51 : decode cX10_drop 51 = .ok (.lreturn, 1) := by decide +kernel
theorem dX10_versions_0 : decode cX10_versions 0 = .ok (.aload_n 0, 1) := by decide +kernel
theorem dX10_versions_1 : decode cX10_versions 1 = .ok (.getfield 7, 3) := by decide +kernel
theorem dX10_versions_4 : decode cX10_versions 4 = .ok (.iconst 1, 1) := by decide +kernel
theorem dX10_versions_5 : decode cX10_versions 5 = .ok (.iaload, 1) := by decide +kernel
theorem dX10_versions_6 : decode cX10_versions 6 = .ok (.ireturn, 1) := by decide +kernel
theorem dX10_at_0 : decode cX10_at 0 = .ok (.aload_n 0, 1) := by decide +kernel
theorem dX10_at_1 : decode cX10_at 1 = .ok (.iload_n 1, 1) := by decide +kernel
theorem dX10_at_2 : decode cX10_at 2 = .ok (.invokevirtual 103, 3) := by decide +kernel
theorem dX10_at_5 : decode cX10_at 5 = .ok (.ifCond .eq 20, 3) := by decide +kernel
theorem dX10_at_8 : decode cX10_at 8 = .ok (.aload_n 0, 1) := by decide +kernel
theorem dX10_at_9 : decode cX10_at 9 = .ok (.iload_n 2, 1) := by decide +kernel
theorem dX10_at_10 : decode cX10_at 10 = .ok (.invokevirtual 57, 3) := by decide +kernel
theorem dX10_at_13 : decode cX10_at 13 = .ok (.ifCond .eq 12, 3) := by decide +kernel
theorem dX10_at_16 : decode cX10_at 16 = .ok (.iload_n 3, 1) := by decide +kernel
theorem dX10_at_17 : decode cX10_at 17 = .ok (.iconst 0, 1) := by decide +kernel
theorem dX10_at_18 : decode cX10_at 18 = .ok (.iconst 3, 1) := by decide +kernel
theorem dX10_at_19 : decode cX10_at 19 = .ok (.invokestatic 50, 3) := by decide +kernel
theorem dX10_at_22 : decode cX10_at 22 = .ok (.ifCond .ne 7, 3) := by decide +kernel
theorem dX10_at_25 : decode cX10_at 25 = .ok (.sipush (-1001), 3) := by decide +kernel
theorem dX10_at_28 : decode cX10_at 28 = .ok (.ireturn, 1) := by decide +kernel
theorem dX10_at_29 : decode cX10_at 29 = .ok (.aload_n 0, 1) := by decide +kernel
theorem dX10_at_30 : decode cX10_at 30 = .ok (.iload_n 1, 1) := by decide +kernel
theorem dX10_at_31 : decode cX10_at 31 = .ok (.invokevirtual 106, 3) := by decide +kernel
theorem dX10_at_34 : decode cX10_at 34 = .ok (.aload_n 0, 1) := by decide +kernel
theorem dX10_at_35 : decode cX10_at 35 = .ok (.invokevirtual 109, 3) := by decide +kernel
theorem dX10_at_38 : decode cX10_at 38 = .ok (.aload_n 0, 1) := by decide +kernel
theorem dX10_at_39 : decode cX10_at 39 = .ok (.iload_n 2, 1) := by decide +kernel
theorem dX10_at_40 : decode cX10_at 40 = .ok (.iload_n 3, 1) := by decide +kernel
theorem dX10_at_41 : decode cX10_at 41 = .ok (.invokevirtual 112, 3) := by decide +kernel
theorem dX10_at_44 : decode cX10_at 44 = .ok (.ireturn, 1) := by decide +kernel
theorem dX10_placeOf_0 : decode cX10_placeOf 0 = .ok (.iconst 0, 1) := by decide +kernel
theorem dX10_placeOf_1 : decode cX10_placeOf 1 = .ok (.istore_n 2, 1) := by decide +kernel
theorem dX10_placeOf_2 : decode cX10_placeOf 2 = .ok (.aload_n 0, 1) := by decide +kernel
theorem dX10_placeOf_3 : decode cX10_placeOf 3 = .ok (.getfield 16, 3) := by decide +kernel
theorem dX10_placeOf_6 : decode cX10_placeOf 6 = .ok (.iload_n 2, 1) := by decide +kernel
theorem dX10_placeOf_7 : decode cX10_placeOf 7 = .ok (.iaload, 1) := by decide +kernel
theorem dX10_placeOf_8 : decode cX10_placeOf 8 = .ok (.iload_n 1, 1) := by decide +kernel
theorem dX10_placeOf_9 : decode cX10_placeOf 9 = .ok (.if_icmp .eq 9, 3) := by decide +kernel
theorem dX10_placeOf_12 : decode cX10_placeOf 12 = .ok (.iinc 2 1, 3) := by decide +kernel
theorem dX10_placeOf_15 : decode cX10_placeOf 15 = .ok (.goto (-13), 3) := by decide +kernel
theorem dX10_placeOf_18 : decode cX10_placeOf 18 = .ok (.iload_n 2, 1) := by decide +kernel
theorem dX10_placeOf_19 : decode cX10_placeOf 19 = .ok (.ireturn, 1) := by decide +kernel
theorem dX10_where_0 : decode cX10_where 0 = .ok (.aload_n 0, 1) := by decide +kernel
theorem dX10_where_1 : decode cX10_where 1 = .ok (.iload_n 1, 1) := by decide +kernel
theorem dX10_where_2 : decode cX10_where 2 = .ok (.invokevirtual 103, 3) := by decide +kernel
theorem dX10_where_5 : decode cX10_where 5 = .ok (.ifCond .eq 11, 3) := by decide +kernel
theorem dX10_where_8 : decode cX10_where 8 = .ok (.aload_n 0, 1) := by decide +kernel
theorem dX10_where_9 : decode cX10_where 9 = .ok (.iload_n 2, 1) := by decide +kernel
theorem dX10_where_10 : decode cX10_where 10 = .ok (.invokevirtual 57, 3) := by decide +kernel
theorem dX10_where_13 : decode cX10_where 13 = .ok (.ifCond .ne 7, 3) := by decide +kernel
theorem dX10_where_16 : decode cX10_where 16 = .ok (.sipush (-1001), 3) := by decide +kernel
theorem dX10_where_19 : decode cX10_where 19 = .ok (.ireturn, 1) := by decide +kernel
theorem dX10_where_20 : decode cX10_where 20 = .ok (.aload_n 0, 1) := by decide +kernel
theorem dX10_where_21 : decode cX10_where 21 = .ok (.iload_n 1, 1) := by decide +kernel
theorem dX10_where_22 : decode cX10_where 22 = .ok (.invokevirtual 106, 3) := by decide +kernel
theorem dX10_where_25 : decode cX10_where 25 = .ok (.aload_n 0, 1) := by decide +kernel
theorem dX10_where_26 : decode cX10_where 26 = .ok (.iload_n 2, 1) := by decide +kernel
theorem dX10_where_27 : decode cX10_where 27 = .ok (.invokevirtual 115, 3) := by decide +kernel
theorem dX10_where_30 : decode cX10_where 30 = .ok (.ireturn, 1) := by decide +kernel
theorem dX10_choice_0 : decode cX10_choice 0 = .ok (.aload_n 0, 1) := by decide +kernel
theorem dX10_choice_1 : decode cX10_choice 1 = .ok (.iload_n 1, 1) := by decide +kernel
theorem dX10_choice_2 : decode cX10_choice 2 = .ok (.invokevirtual 103, 3) := by decide +kernel
theorem dX10_choice_5 : decode cX10_choice 5 = .ok (.ifCond .eq 11, 3) := by decide +kernel
theorem dX10_choice_8 : decode cX10_choice 8 = .ok (.aload_n 0, 1) := by decide +kernel
theorem dX10_choice_9 : decode cX10_choice 9 = .ok (.iload_n 2, 1) := by decide +kernel
theorem dX10_choice_10 : decode cX10_choice 10 = .ok (.invokevirtual 57, 3) := by decide +kernel
theorem dX10_choice_13 : decode cX10_choice 13 = .ok (.ifCond .ne 7, 3) := by decide +kernel
theorem dX10_choice_16 : decode cX10_choice 16 = .ok (.sipush (-1001), 3) := by decide +kernel
theorem dX10_choice_19 : decode cX10_choice 19 = .ok (.ireturn, 1) := by decide +kernel
theorem dX10_choice_20 : decode cX10_choice 20 = .ok (.aload_n 0, 1) := by decide +kernel
theorem dX10_choice_21 : decode cX10_choice 21 = .ok (.iload_n 1, 1) := by decide +kernel
theorem dX10_choice_22 : decode cX10_choice 22 = .ok (.invokevirtual 106, 3) := by decide +kernel
theorem dX10_choice_25 : decode cX10_choice 25 = .ok (.iload_n 3, 1) := by decide +kernel
theorem dX10_choice_26 : decode cX10_choice 26 = .ok (.iconst 0, 1) := by decide +kernel
theorem dX10_choice_27 : decode cX10_choice 27 = .ok (.aload_n 0, 1) := by decide +kernel
theorem dX10_choice_28 : decode cX10_choice 28 = .ok (.aload_n 0, 1) := by decide +kernel
theorem dX10_choice_29 : decode cX10_choice 29 = .ok (.getfield 16, 3) := by decide +kernel
theorem dX10_choice_32 : decode cX10_choice 32 = .ok (.iload_n 2, 1) := by decide +kernel
theorem dX10_choice_33 : decode cX10_choice 33 = .ok (.iaload, 1) := by decide +kernel
theorem dX10_choice_34 : decode cX10_choice 34 = .ok (.iconst 4, 1) := by decide +kernel
theorem dX10_choice_35 : decode cX10_choice 35 = .ok (.invokevirtual 61, 3) := by decide +kernel
theorem dX10_choice_38 : decode cX10_choice 38 = .ok (.iconst 1, 1) := by decide +kernel
theorem dX10_choice_39 : decode cX10_choice 39 = .ok (.isub, 1) := by decide +kernel
theorem dX10_choice_40 : decode cX10_choice 40 = .ok (.invokestatic 50, 3) := by decide +kernel
theorem dX10_choice_43 : decode cX10_choice 43 = .ok (.ifCond .eq 16, 3) := by decide +kernel
theorem dX10_choice_46 : decode cX10_choice 46 = .ok (.aload_n 0, 1) := by decide +kernel
theorem dX10_choice_47 : decode cX10_choice 47 = .ok (.getfield 22, 3) := by decide +kernel
theorem dX10_choice_50 : decode cX10_choice 50 = .ok (.iconst 5, 1) := by decide +kernel
theorem dX10_choice_51 : decode cX10_choice 51 = .ok (.iload_n 2, 1) := by decide +kernel
theorem dX10_choice_52 : decode cX10_choice 52 = .ok (.imul, 1) := by decide +kernel
theorem dX10_choice_53 : decode cX10_choice 53 = .ok (.iload_n 3, 1) := by decide +kernel
theorem dX10_choice_54 : decode cX10_choice 54 = .ok (.iadd, 1) := by decide +kernel
theorem dX10_choice_55 : decode cX10_choice 55 = .ok (.iaload, 1) := by decide +kernel
theorem dX10_choice_56 : decode cX10_choice 56 = .ok (.goto 6, 3) := by decide +kernel
theorem dX10_choice_59 : decode cX10_choice 59 = .ok (.sipush (-1001), 3) := by decide +kernel
theorem dX10_choice_62 : decode cX10_choice 62 = .ok (.ireturn, 1) := by decide +kernel
theorem dX10_puts_0 : decode cX10_puts 0 = .ok (.iconst 0, 1) := by decide +kernel
theorem dX10_puts_1 : decode cX10_puts 1 = .ok (.istore_n 1, 1) := by decide +kernel
theorem dX10_puts_2 : decode cX10_puts 2 = .ok (.iload_n 1, 1) := by decide +kernel
theorem dX10_puts_3 : decode cX10_puts 3 = .ok (.bipush 20, 2) := by decide +kernel
theorem dX10_puts_5 : decode cX10_puts 5 = .ok (.if_icmp .ge 33, 3) := by decide +kernel
theorem dX10_puts_8 : decode cX10_puts 8 = .ok (.aload_n 0, 1) := by decide +kernel
theorem dX10_puts_9 : decode cX10_puts 9 = .ok (.getfield 37, 3) := by decide +kernel
theorem dX10_puts_12 : decode cX10_puts 12 = .ok (.iload_n 1, 1) := by decide +kernel
theorem dX10_puts_13 : decode cX10_puts 13 = .ok (.aload_n 0, 1) := by decide +kernel
theorem dX10_puts_14 : decode cX10_puts 14 = .ok (.getfield 16, 3) := by decide +kernel
theorem dX10_puts_17 : decode cX10_puts 17 = .ok (.iload_n 1, 1) := by decide +kernel
theorem dX10_puts_18 : decode cX10_puts 18 = .ok (.iaload, 1) := by decide +kernel
theorem dX10_puts_19 : decode cX10_puts 19 = .ok (.iastore, 1) := by decide +kernel
theorem dX10_puts_20 : decode cX10_puts 20 = .ok (.aload_n 0, 1) := by decide +kernel
theorem dX10_puts_21 : decode cX10_puts 21 = .ok (.getfield 40, 3) := by decide +kernel
theorem dX10_puts_24 : decode cX10_puts 24 = .ok (.iload_n 1, 1) := by decide +kernel
theorem dX10_puts_25 : decode cX10_puts 25 = .ok (.aload_n 0, 1) := by decide +kernel
theorem dX10_puts_26 : decode cX10_puts 26 = .ok (.getfield 19, 3) := by decide +kernel
theorem dX10_puts_29 : decode cX10_puts 29 = .ok (.iload_n 1, 1) := by decide +kernel
theorem dX10_puts_30 : decode cX10_puts 30 = .ok (.iaload, 1) := by decide +kernel
theorem dX10_puts_31 : decode cX10_puts 31 = .ok (.iastore, 1) := by decide +kernel
theorem dX10_puts_32 : decode cX10_puts 32 = .ok (.iinc 1 1, 3) := by decide +kernel
theorem dX10_puts_35 : decode cX10_puts 35 = .ok (.goto (-33), 3) := by decide +kernel
theorem dX10_puts_38 : decode cX10_puts 38 = .ok (.return_, 1) := by decide +kernel
theorem dX10_common_0 : decode cX10_common 0 = .ok (.iconst 0, 1) := by decide +kernel
theorem dX10_common_1 : decode cX10_common 1 = .ok (.istore_n 2, 1) := by decide +kernel
theorem dX10_common_2 : decode cX10_common 2 = .ok (.iconst 0, 1) := by decide +kernel
theorem dX10_common_3 : decode cX10_common 3 = .ok (.istore_n 3, 1) := by decide +kernel
theorem dX10_common_4 : decode cX10_common 4 = .ok (.iload_n 3, 1) := by decide +kernel
theorem dX10_common_5 : decode cX10_common 5 = .ok (.aload_n 0, 1) := by decide +kernel
theorem dX10_common_6 : decode cX10_common 6 = .ok (.getfield 7, 3) := by decide +kernel
theorem dX10_common_9 : decode cX10_common 9 = .ok (.iconst 0, 1) := by decide +kernel
theorem dX10_common_10 : decode cX10_common 10 = .ok (.iaload, 1) := by decide +kernel
theorem dX10_common_11 : decode cX10_common 11 = .ok (.if_icmp .ge 135, 3) := by decide +kernel
theorem dX10_common_14 : decode cX10_common 14 = .ok (.iload_n 1, 1) := by decide +kernel
theorem dX10_common_15 : decode cX10_common 15 = .ok (.iconst 2, 1) := by decide +kernel
theorem dX10_common_16 : decode cX10_common 16 = .ok (.if_icmp .ne 74, 3) := by decide +kernel
theorem dX10_common_19 : decode cX10_common 19 = .ok (.iconst 1, 1) := by decide +kernel
theorem dX10_common_20 : decode cX10_common 20 = .ok (.istore 4, 2) := by decide +kernel
theorem dX10_common_22 : decode cX10_common 22 = .ok (.iload 4, 2) := by decide +kernel
theorem dX10_common_24 : decode cX10_common 24 = .ok (.aload_n 0, 1) := by decide +kernel
theorem dX10_common_25 : decode cX10_common 25 = .ok (.getfield 7, 3) := by decide +kernel
theorem dX10_common_28 : decode cX10_common 28 = .ok (.iconst 0, 1) := by decide +kernel
theorem dX10_common_29 : decode cX10_common 29 = .ok (.iaload, 1) := by decide +kernel
theorem dX10_common_30 : decode cX10_common 30 = .ok (.if_icmp .ge 57, 3) := by decide +kernel
theorem dX10_common_33 : decode cX10_common 33 = .ok (.iload_n 3, 1) := by decide +kernel
theorem dX10_common_34 : decode cX10_common 34 = .ok (.ifCond .le 53, 3) := by decide +kernel
theorem dX10_common_37 : decode cX10_common 37 = .ok (.iload_n 2, 1) := by decide +kernel
theorem dX10_common_38 : decode cX10_common 38 = .ok (.aload_n 0, 1) := by decide +kernel
theorem dX10_common_39 : decode cX10_common 39 = .ok (.getfield 16, 3) := by decide +kernel
theorem dX10_common_42 : decode cX10_common 42 = .ok (.iload_n 3, 1) := by decide +kernel
theorem dX10_common_43 : decode cX10_common 43 = .ok (.iaload, 1) := by decide +kernel
theorem dX10_common_44 : decode cX10_common 44 = .ok (.aload_n 0, 1) := by decide +kernel
theorem dX10_common_45 : decode cX10_common 45 = .ok (.getfield 37, 3) := by decide +kernel
theorem dX10_common_48 : decode cX10_common 48 = .ok (.iload 4, 2) := by decide +kernel
theorem dX10_common_50 : decode cX10_common 50 = .ok (.iaload, 1) := by decide +kernel
theorem dX10_common_51 : decode cX10_common 51 = .ok (.if_icmp .ne 27, 3) := by decide +kernel
theorem dX10_common_54 : decode cX10_common 54 = .ok (.aload_n 0, 1) := by decide +kernel
theorem dX10_common_55 : decode cX10_common 55 = .ok (.getfield 16, 3) := by decide +kernel
theorem dX10_common_58 : decode cX10_common 58 = .ok (.iload_n 3, 1) := by decide +kernel
theorem dX10_common_59 : decode cX10_common 59 = .ok (.iconst 1, 1) := by decide +kernel
theorem dX10_common_60 : decode cX10_common 60 = .ok (.isub, 1) := by decide +kernel
theorem dX10_common_61 : decode cX10_common 61 = .ok (.iaload, 1) := by decide +kernel
theorem dX10_common_62 : decode cX10_common 62 = .ok (.aload_n 0, 1) := by decide +kernel
theorem dX10_common_63 : decode cX10_common 63 = .ok (.getfield 37, 3) := by decide +kernel
theorem dX10_common_66 : decode cX10_common 66 = .ok (.iload 4, 2) := by decide +kernel
theorem dX10_common_68 : decode cX10_common 68 = .ok (.iconst 1, 1) := by decide +kernel
theorem dX10_common_69 : decode cX10_common 69 = .ok (.isub, 1) := by decide +kernel
theorem dX10_common_70 : decode cX10_common 70 = .ok (.iaload, 1) := by decide +kernel
theorem dX10_common_71 : decode cX10_common 71 = .ok (.if_icmp .ne 7, 3) := by decide +kernel
theorem dX10_common_74 : decode cX10_common 74 = .ok (.iconst 1, 1) := by decide +kernel
theorem dX10_common_75 : decode cX10_common 75 = .ok (.goto 4, 3) := by decide +kernel
theorem dX10_common_78 : decode cX10_common 78 = .ok (.iconst 0, 1) := by decide +kernel
theorem dX10_common_79 : decode cX10_common 79 = .ok (.iadd, 1) := by decide +kernel
theorem dX10_common_80 : decode cX10_common 80 = .ok (.istore_n 2, 1) := by decide +kernel
theorem dX10_common_81 : decode cX10_common 81 = .ok (.iinc 4 1, 3) := by decide +kernel
theorem dX10_common_84 : decode cX10_common 84 = .ok (.goto (-62), 3) := by decide +kernel
theorem dX10_common_87 : decode cX10_common 87 = .ok (.goto 53, 3) := by decide +kernel
theorem dX10_common_90 : decode cX10_common 90 = .ok (.iload_n 2, 1) := by decide +kernel
theorem dX10_common_91 : decode cX10_common 91 = .ok (.iload_n 1, 1) := by decide +kernel
theorem dX10_common_92 : decode cX10_common 92 = .ok (.ifCond .ne 26, 3) := by decide +kernel
theorem dX10_common_95 : decode cX10_common 95 = .ok (.aload_n 0, 1) := by decide +kernel
theorem dX10_common_96 : decode cX10_common 96 = .ok (.getfield 16, 3) := by decide +kernel
theorem dX10_common_99 : decode cX10_common 99 = .ok (.iload_n 3, 1) := by decide +kernel
theorem dX10_common_100 : decode cX10_common 100 = .ok (.iaload, 1) := by decide +kernel
theorem dX10_common_101 : decode cX10_common 101 = .ok (.aload_n 0, 1) := by decide +kernel
theorem dX10_common_102 : decode cX10_common 102 = .ok (.getfield 37, 3) := by decide +kernel
theorem dX10_common_105 : decode cX10_common 105 = .ok (.iload_n 3, 1) := by decide +kernel
theorem dX10_common_106 : decode cX10_common 106 = .ok (.iaload, 1) := by decide +kernel
theorem dX10_common_107 : decode cX10_common 107 = .ok (.if_icmp .ne 7, 3) := by decide +kernel
theorem dX10_common_110 : decode cX10_common 110 = .ok (.iconst 1, 1) := by decide +kernel
theorem dX10_common_111 : decode cX10_common 111 = .ok (.goto 27, 3) := by decide +kernel
theorem dX10_common_114 : decode cX10_common 114 = .ok (.iconst 0, 1) := by decide +kernel
theorem dX10_common_115 : decode cX10_common 115 = .ok (.goto 23, 3) := by decide +kernel
theorem dX10_common_118 : decode cX10_common 118 = .ok (.aload_n 0, 1) := by decide +kernel
theorem dX10_common_119 : decode cX10_common 119 = .ok (.getfield 19, 3) := by decide +kernel
theorem dX10_common_122 : decode cX10_common 122 = .ok (.iload_n 3, 1) := by decide +kernel
theorem dX10_common_123 : decode cX10_common 123 = .ok (.iaload, 1) := by decide +kernel
theorem dX10_common_124 : decode cX10_common 124 = .ok (.aload_n 0, 1) := by decide +kernel
theorem dX10_common_125 : decode cX10_common 125 = .ok (.getfield 40, 3) := by decide +kernel
theorem dX10_common_128 : decode cX10_common 128 = .ok (.iload_n 3, 1) := by decide +kernel
theorem dX10_common_129 : decode cX10_common 129 = .ok (.iaload, 1) := by decide +kernel
theorem dX10_common_130 : decode cX10_common 130 = .ok (.if_icmp .ne 7, 3) := by decide +kernel
theorem dX10_common_133 : decode cX10_common 133 = .ok (.iconst 1, 1) := by decide +kernel
theorem dX10_common_134 : decode cX10_common 134 = .ok (.goto 4, 3) := by decide +kernel
theorem dX10_common_137 : decode cX10_common 137 = .ok (.iconst 0, 1) := by decide +kernel
theorem dX10_common_138 : decode cX10_common 138 = .ok (.iadd, 1) := by decide +kernel
theorem dX10_common_139 : decode cX10_common 139 = .ok (.istore_n 2, 1) := by decide +kernel
theorem dX10_common_140 : decode cX10_common 140 = .ok (.iinc 3 1, 3) := by decide +kernel
theorem dX10_common_143 : decode cX10_common 143 = .ok (.goto (-139), 3) := by decide +kernel
theorem dX10_common_146 : decode cX10_common 146 = .ok (.iload_n 2, 1) := by decide +kernel
theorem dX10_common_147 : decode cX10_common 147 = .ok (.ireturn, 1) := by decide +kernel
theorem dX10_alike_0 : decode cX10_alike 0 = .ok (.aload_n 0, 1) := by decide +kernel
theorem dX10_alike_1 : decode cX10_alike 1 = .ok (.iload_n 1, 1) := by decide +kernel
theorem dX10_alike_2 : decode cX10_alike 2 = .ok (.invokevirtual 103, 3) := by decide +kernel
theorem dX10_alike_5 : decode cX10_alike 5 = .ok (.ifCond .eq 20, 3) := by decide +kernel
theorem dX10_alike_8 : decode cX10_alike 8 = .ok (.aload_n 0, 1) := by decide +kernel
theorem dX10_alike_9 : decode cX10_alike 9 = .ok (.iload_n 2, 1) := by decide +kernel
theorem dX10_alike_10 : decode cX10_alike 10 = .ok (.invokevirtual 103, 3) := by decide +kernel
theorem dX10_alike_13 : decode cX10_alike 13 = .ok (.ifCond .eq 12, 3) := by decide +kernel
theorem dX10_alike_16 : decode cX10_alike 16 = .ok (.iload_n 3, 1) := by decide +kernel
theorem dX10_alike_17 : decode cX10_alike 17 = .ok (.iconst 0, 1) := by decide +kernel
theorem dX10_alike_18 : decode cX10_alike 18 = .ok (.iconst 2, 1) := by decide +kernel
theorem dX10_alike_19 : decode cX10_alike 19 = .ok (.invokestatic 50, 3) := by decide +kernel
theorem dX10_alike_22 : decode cX10_alike 22 = .ok (.ifCond .ne 7, 3) := by decide +kernel
theorem dX10_alike_25 : decode cX10_alike 25 = .ok (.sipush (-1001), 3) := by decide +kernel
theorem dX10_alike_28 : decode cX10_alike 28 = .ok (.ireturn, 1) := by decide +kernel
theorem dX10_alike_29 : decode cX10_alike 29 = .ok (.aload_n 0, 1) := by decide +kernel
theorem dX10_alike_30 : decode cX10_alike 30 = .ok (.iload_n 1, 1) := by decide +kernel
theorem dX10_alike_31 : decode cX10_alike 31 = .ok (.invokevirtual 106, 3) := by decide +kernel
theorem dX10_alike_34 : decode cX10_alike 34 = .ok (.aload_n 0, 1) := by decide +kernel
theorem dX10_alike_35 : decode cX10_alike 35 = .ok (.invokevirtual 118, 3) := by decide +kernel
theorem dX10_alike_38 : decode cX10_alike 38 = .ok (.aload_n 0, 1) := by decide +kernel
theorem dX10_alike_39 : decode cX10_alike 39 = .ok (.iload_n 2, 1) := by decide +kernel
theorem dX10_alike_40 : decode cX10_alike 40 = .ok (.invokevirtual 106, 3) := by decide +kernel
theorem dX10_alike_43 : decode cX10_alike 43 = .ok (.aload_n 0, 1) := by decide +kernel
theorem dX10_alike_44 : decode cX10_alike 44 = .ok (.iload_n 3, 1) := by decide +kernel
theorem dX10_alike_45 : decode cX10_alike 45 = .ok (.invokevirtual 121, 3) := by decide +kernel
theorem dX10_alike_48 : decode cX10_alike 48 = .ok (.ireturn, 1) := by decide +kernel
theorem dX10_unlike_0 : decode cX10_unlike 0 = .ok (.iload_n 2, 1) := by decide +kernel
theorem dX10_unlike_1 : decode cX10_unlike 1 = .ok (.iconst 1, 1) := by decide +kernel
theorem dX10_unlike_2 : decode cX10_unlike 2 = .ok (.bipush 40, 2) := by decide +kernel
theorem dX10_unlike_4 : decode cX10_unlike 4 = .ok (.invokestatic 50, 3) := by decide +kernel
theorem dX10_unlike_7 : decode cX10_unlike 7 = .ok (.ifCond .ne 7, 3) := by decide +kernel
theorem dX10_unlike_10 : decode cX10_unlike 10 = .ok (.ldc2_w 124, 3) := by decide +kernel
theorem dX10_unlike_13 : decode cX10_unlike 13 = .ok (.lreturn, 1) := by decide +kernel
theorem dX10_unlike_14 : decode cX10_unlike 14 = .ok (.iload_n 1, 1) := by decide +kernel
theorem dX10_unlike_15 : decode cX10_unlike 15 = .ok (.istore_n 3, 1) := by decide +kernel
theorem dX10_unlike_16 : decode cX10_unlike 16 = .ok (.bipush 99, 2) := by decide +kernel
theorem dX10_unlike_18 : decode cX10_unlike 18 = .ok (.istore 4, 2) := by decide +kernel
theorem dX10_unlike_20 : decode cX10_unlike 20 = .ok (.iconst 0, 1) := by decide +kernel
theorem dX10_unlike_21 : decode cX10_unlike 21 = .ok (.istore 5, 2) := by decide +kernel
theorem dX10_unlike_23 : decode cX10_unlike 23 = .ok (.iload 5, 2) := by decide +kernel
theorem dX10_unlike_25 : decode cX10_unlike 25 = .ok (.iload_n 2, 1) := by decide +kernel
theorem dX10_unlike_26 : decode cX10_unlike 26 = .ok (.if_icmp .ge 104, 3) := by decide +kernel
theorem dX10_unlike_29 : decode cX10_unlike 29 = .ok (.aload_n 0, 1) := by decide +kernel
theorem dX10_unlike_30 : decode cX10_unlike 30 = .ok (.iload_n 1, 1) := by decide +kernel
theorem dX10_unlike_31 : decode cX10_unlike 31 = .ok (.iload 5, 2) := by decide +kernel
theorem dX10_unlike_33 : decode cX10_unlike 33 = .ok (.iadd, 1) := by decide +kernel
theorem dX10_unlike_34 : decode cX10_unlike 34 = .ok (.invokevirtual 92, 3) := by decide +kernel
theorem dX10_unlike_37 : decode cX10_unlike 37 = .ok (.aload_n 0, 1) := by decide +kernel
theorem dX10_unlike_38 : decode cX10_unlike 38 = .ok (.invokevirtual 118, 3) := by decide +kernel
theorem dX10_unlike_41 : decode cX10_unlike 41 = .ok (.iconst 0, 1) := by decide +kernel
theorem dX10_unlike_42 : decode cX10_unlike 42 = .ok (.istore 6, 2) := by decide +kernel
theorem dX10_unlike_44 : decode cX10_unlike 44 = .ok (.iconst 0, 1) := by decide +kernel
theorem dX10_unlike_45 : decode cX10_unlike 45 = .ok (.istore 7, 2) := by decide +kernel
theorem dX10_unlike_47 : decode cX10_unlike 47 = .ok (.iload 7, 2) := by decide +kernel
theorem dX10_unlike_49 : decode cX10_unlike 49 = .ok (.aload_n 0, 1) := by decide +kernel
theorem dX10_unlike_50 : decode cX10_unlike 50 = .ok (.getfield 7, 3) := by decide +kernel
theorem dX10_unlike_53 : decode cX10_unlike 53 = .ok (.iconst 1, 1) := by decide +kernel
theorem dX10_unlike_54 : decode cX10_unlike 54 = .ok (.iaload, 1) := by decide +kernel
theorem dX10_unlike_55 : decode cX10_unlike 55 = .ok (.if_icmp .ge 37, 3) := by decide +kernel
theorem dX10_unlike_58 : decode cX10_unlike 58 = .ok (.aload_n 0, 1) := by decide +kernel
theorem dX10_unlike_59 : decode cX10_unlike 59 = .ok (.iload 7, 2) := by decide +kernel
theorem dX10_unlike_61 : decode cX10_unlike 61 = .ok (.invokevirtual 106, 3) := by decide +kernel
theorem dX10_unlike_64 : decode cX10_unlike 64 = .ok (.aload_n 0, 1) := by decide +kernel
theorem dX10_unlike_65 : decode cX10_unlike 65 = .ok (.iconst 1, 1) := by decide +kernel
theorem dX10_unlike_66 : decode cX10_unlike 66 = .ok (.invokevirtual 121, 3) := by decide +kernel
theorem dX10_unlike_69 : decode cX10_unlike 69 = .ok (.iload 6, 2) := by decide +kernel
theorem dX10_unlike_71 : decode cX10_unlike 71 = .ok (.if_icmp .le 11, 3) := by decide +kernel
theorem dX10_unlike_74 : decode cX10_unlike 74 = .ok (.aload_n 0, 1) := by decide +kernel
theorem dX10_unlike_75 : decode cX10_unlike 75 = .ok (.iconst 1, 1) := by decide +kernel
theorem dX10_unlike_76 : decode cX10_unlike 76 = .ok (.invokevirtual 121, 3) := by decide +kernel
theorem dX10_unlike_79 : decode cX10_unlike 79 = .ok (.goto 5, 3) := by decide +kernel
theorem dX10_unlike_82 : decode cX10_unlike 82 = .ok (.iload 6, 2) := by decide +kernel
theorem dX10_unlike_84 : decode cX10_unlike 84 = .ok (.istore 6, 2) := by decide +kernel
theorem dX10_unlike_86 : decode cX10_unlike 86 = .ok (.iinc 7 1, 3) := by decide +kernel
theorem dX10_unlike_89 : decode cX10_unlike 89 = .ok (.goto (-42), 3) := by decide +kernel
theorem dX10_unlike_92 : decode cX10_unlike 92 = .ok (.iload 6, 2) := by decide +kernel
theorem dX10_unlike_94 : decode cX10_unlike 94 = .ok (.iload 4, 2) := by decide +kernel
theorem dX10_unlike_96 : decode cX10_unlike 96 = .ok (.if_icmp .ge 10, 3) := by decide +kernel
theorem dX10_unlike_99 : decode cX10_unlike 99 = .ok (.iload_n 1, 1) := by decide +kernel
theorem dX10_unlike_100 : decode cX10_unlike 100 = .ok (.iload 5, 2) := by decide +kernel
theorem dX10_unlike_102 : decode cX10_unlike 102 = .ok (.iadd, 1) := by decide +kernel
theorem dX10_unlike_103 : decode cX10_unlike 103 = .ok (.goto 4, 3) := by decide +kernel
theorem dX10_unlike_106 : decode cX10_unlike 106 = .ok (.iload_n 3, 1) := by decide +kernel
theorem dX10_unlike_107 : decode cX10_unlike 107 = .ok (.istore_n 3, 1) := by decide +kernel
theorem dX10_unlike_108 : decode cX10_unlike 108 = .ok (.iload 6, 2) := by decide +kernel
theorem dX10_unlike_110 : decode cX10_unlike 110 = .ok (.iload 4, 2) := by decide +kernel
theorem dX10_unlike_112 : decode cX10_unlike 112 = .ok (.if_icmp .ge 8, 3) := by decide +kernel
theorem dX10_unlike_115 : decode cX10_unlike 115 = .ok (.iload 6, 2) := by decide +kernel
theorem dX10_unlike_117 : decode cX10_unlike 117 = .ok (.goto 5, 3) := by decide +kernel
theorem dX10_unlike_120 : decode cX10_unlike 120 = .ok (.iload 4, 2) := by decide +kernel
theorem dX10_unlike_122 : decode cX10_unlike 122 = .ok (.istore 4, 2) := by decide +kernel
theorem dX10_unlike_124 : decode cX10_unlike 124 = .ok (.iinc 5 1, 3) := by decide +kernel
theorem dX10_unlike_127 : decode cX10_unlike 127 = .ok (.goto (-104), 3) := by decide +kernel
theorem dX10_unlike_130 : decode cX10_unlike 130 = .ok (.iload_n 3, 1) := by decide +kernel
theorem dX10_unlike_131 : decode cX10_unlike 131 = .ok (.i2l, 1) := by decide +kernel
theorem dX10_unlike_132 : decode cX10_unlike 132 = .ok (.lreturn, 1) := by decide +kernel
theorem dX10_setLines_0 : decode cX10_setLines 0 = .ok (.iload_n 1, 1) := by decide +kernel
theorem dX10_setLines_1 : decode cX10_setLines 1 = .ok (.bipush 9, 2) := by decide +kernel
theorem dX10_setLines_3 : decode cX10_setLines 3 = .ok (.bipush 60, 2) := by decide +kernel
theorem dX10_setLines_5 : decode cX10_setLines 5 = .ok (.invokestatic 50, 3) := by decide +kernel
theorem dX10_setLines_8 : decode cX10_setLines 8 = .ok (.ifCond .eq 12, 3) := by decide +kernel
theorem dX10_setLines_11 : decode cX10_setLines 11 = .ok (.aload_n 0, 1) := by decide +kernel
theorem dX10_setLines_12 : decode cX10_setLines 12 = .ok (.iconst 2, 1) := by decide +kernel
theorem dX10_setLines_13 : decode cX10_setLines 13 = .ok (.iload_n 1, 1) := by decide +kernel
theorem dX10_setLines_14 : decode cX10_setLines 14 = .ok (.invokevirtual 68, 3) := by decide +kernel
theorem dX10_setLines_17 : decode cX10_setLines 17 = .ok (.goto 6, 3) := by decide +kernel
theorem dX10_setLines_20 : decode cX10_setLines 20 = .ok (.sipush (-1001), 3) := by decide +kernel
theorem dX10_setLines_23 : decode cX10_setLines 23 = .ok (.ireturn, 1) := by decide +kernel
theorem dX10_pages_0 : decode cX10_pages 0 = .ok (.aload_n 0, 1) := by decide +kernel
theorem dX10_pages_1 : decode cX10_pages 1 = .ok (.iload_n 1, 1) := by decide +kernel
theorem dX10_pages_2 : decode cX10_pages 2 = .ok (.invokevirtual 103, 3) := by decide +kernel
theorem dX10_pages_5 : decode cX10_pages 5 = .ok (.ifCond .ne 7, 3) := by decide +kernel
theorem dX10_pages_8 : decode cX10_pages 8 = .ok (.sipush (-1001), 3) := by decide +kernel
theorem dX10_pages_11 : decode cX10_pages 11 = .ok (.ireturn, 1) := by decide +kernel
theorem dX10_pages_12 : decode cX10_pages 12 = .ok (.aload_n 0, 1) := by decide +kernel
theorem dX10_pages_13 : decode cX10_pages 13 = .ok (.iload_n 1, 1) := by decide +kernel
theorem dX10_pages_14 : decode cX10_pages 14 = .ok (.invokevirtual 106, 3) := by decide +kernel
theorem dX10_pages_17 : decode cX10_pages 17 = .ok (.aload_n 0, 1) := by decide +kernel
theorem dX10_pages_18 : decode cX10_pages 18 = .ok (.invokevirtual 109, 3) := by decide +kernel
theorem dX10_pages_21 : decode cX10_pages 21 = .ok (.aload_n 0, 1) := by decide +kernel
theorem dX10_pages_22 : decode cX10_pages 22 = .ok (.getfield 98, 3) := by decide +kernel
theorem dX10_pages_25 : decode cX10_pages 25 = .ok (.ireturn, 1) := by decide +kernel
theorem dX10_page_0 : decode cX10_page 0 = .ok (.aload_n 0, 1) := by decide +kernel
theorem dX10_page_1 : decode cX10_page 1 = .ok (.iload_n 1, 1) := by decide +kernel
theorem dX10_page_2 : decode cX10_page 2 = .ok (.invokevirtual 103, 3) := by decide +kernel
theorem dX10_page_5 : decode cX10_page 5 = .ok (.ifCond .eq 12, 3) := by decide +kernel
theorem dX10_page_8 : decode cX10_page 8 = .ok (.iload_n 3, 1) := by decide +kernel
theorem dX10_page_9 : decode cX10_page 9 = .ok (.iconst 0, 1) := by decide +kernel
theorem dX10_page_10 : decode cX10_page 10 = .ok (.iconst 1, 1) := by decide +kernel
theorem dX10_page_11 : decode cX10_page 11 = .ok (.invokestatic 50, 3) := by decide +kernel
theorem dX10_page_14 : decode cX10_page 14 = .ok (.ifCond .ne 7, 3) := by decide +kernel
theorem dX10_page_17 : decode cX10_page 17 = .ok (.sipush (-1001), 3) := by decide +kernel
theorem dX10_page_20 : decode cX10_page 20 = .ok (.ireturn, 1) := by decide +kernel
theorem dX10_page_21 : decode cX10_page 21 = .ok (.aload_n 0, 1) := by decide +kernel
theorem dX10_page_22 : decode cX10_page 22 = .ok (.iload_n 1, 1) := by decide +kernel
theorem dX10_page_23 : decode cX10_page 23 = .ok (.invokevirtual 106, 3) := by decide +kernel
theorem dX10_page_26 : decode cX10_page 26 = .ok (.aload_n 0, 1) := by decide +kernel
theorem dX10_page_27 : decode cX10_page 27 = .ok (.invokevirtual 109, 3) := by decide +kernel
theorem dX10_page_30 : decode cX10_page 30 = .ok (.iconst 0, 1) := by decide +kernel
theorem dX10_page_31 : decode cX10_page 31 = .ok (.istore 4, 2) := by decide +kernel
theorem dX10_page_33 : decode cX10_page 33 = .ok (.iconst 0, 1) := by decide +kernel
theorem dX10_page_34 : decode cX10_page 34 = .ok (.istore 5, 2) := by decide +kernel
theorem dX10_page_36 : decode cX10_page 36 = .ok (.iconst 0, 1) := by decide +kernel
theorem dX10_page_37 : decode cX10_page 37 = .ok (.istore 6, 2) := by decide +kernel
theorem dX10_page_39 : decode cX10_page 39 = .ok (.iload 6, 2) := by decide +kernel
theorem dX10_page_41 : decode cX10_page 41 = .ok (.aload_n 0, 1) := by decide +kernel
theorem dX10_page_42 : decode cX10_page 42 = .ok (.getfield 7, 3) := by decide +kernel
theorem dX10_page_45 : decode cX10_page 45 = .ok (.iconst 0, 1) := by decide +kernel
theorem dX10_page_46 : decode cX10_page 46 = .ok (.iaload, 1) := by decide +kernel
theorem dX10_page_47 : decode cX10_page 47 = .ok (.if_icmp .ge 40, 3) := by decide +kernel
theorem dX10_page_50 : decode cX10_page 50 = .ok (.aload_n 0, 1) := by decide +kernel
theorem dX10_page_51 : decode cX10_page 51 = .ok (.getfield 31, 3) := by decide +kernel
theorem dX10_page_54 : decode cX10_page 54 = .ok (.iload 6, 2) := by decide +kernel
theorem dX10_page_56 : decode cX10_page 56 = .ok (.iaload, 1) := by decide +kernel
theorem dX10_page_57 : decode cX10_page 57 = .ok (.iload_n 2, 1) := by decide +kernel
theorem dX10_page_58 : decode cX10_page 58 = .ok (.if_icmp .ne 23, 3) := by decide +kernel
theorem dX10_page_61 : decode cX10_page 61 = .ok (.iinc 4 1, 3) := by decide +kernel
theorem dX10_page_64 : decode cX10_page 64 = .ok (.iload 5, 2) := by decide +kernel
theorem dX10_page_66 : decode cX10_page 66 = .ok (.aload_n 0, 1) := by decide +kernel
theorem dX10_page_67 : decode cX10_page 67 = .ok (.aload_n 0, 1) := by decide +kernel
theorem dX10_page_68 : decode cX10_page 68 = .ok (.getfield 16, 3) := by decide +kernel
theorem dX10_page_71 : decode cX10_page 71 = .ok (.iload 6, 2) := by decide +kernel
theorem dX10_page_73 : decode cX10_page 73 = .ok (.iaload, 1) := by decide +kernel
theorem dX10_page_74 : decode cX10_page 74 = .ok (.iconst 0, 1) := by decide +kernel
theorem dX10_page_75 : decode cX10_page 75 = .ok (.invokevirtual 61, 3) := by decide +kernel
theorem dX10_page_78 : decode cX10_page 78 = .ok (.iadd, 1) := by decide +kernel
theorem dX10_page_79 : decode cX10_page 79 = .ok (.istore 5, 2) := by decide +kernel
theorem dX10_page_81 : decode cX10_page 81 = .ok (.iinc 6 1, 3) := by decide +kernel
theorem dX10_page_84 : decode cX10_page 84 = .ok (.goto (-45), 3) := by decide +kernel
theorem dX10_page_87 : decode cX10_page 87 = .ok (.iload_n 2, 1) := by decide +kernel
theorem dX10_page_88 : decode cX10_page 88 = .ok (.iconst 0, 1) := by decide +kernel
theorem dX10_page_89 : decode cX10_page 89 = .ok (.aload_n 0, 1) := by decide +kernel
theorem dX10_page_90 : decode cX10_page 90 = .ok (.getfield 98, 3) := by decide +kernel
theorem dX10_page_93 : decode cX10_page 93 = .ok (.iconst 1, 1) := by decide +kernel
theorem dX10_page_94 : decode cX10_page 94 = .ok (.isub, 1) := by decide +kernel
theorem dX10_page_95 : decode cX10_page 95 = .ok (.invokestatic 50, 3) := by decide +kernel
theorem dX10_page_98 : decode cX10_page 98 = .ok (.ifCond .ne 9, 3) := by decide +kernel
theorem dX10_page_101 : decode cX10_page 101 = .ok (.sipush (-1001), 3) := by decide +kernel
theorem dX10_page_104 : decode cX10_page 104 = .ok (.goto 14, 3) := by decide +kernel
theorem dX10_page_107 : decode cX10_page 107 = .ok (.iload_n 3, 1) := by decide +kernel
theorem dX10_page_108 : decode cX10_page 108 = .ok (.ifCond .ne 8, 3) := by decide +kernel
theorem dX10_page_111 : decode cX10_page 111 = .ok (.iload 4, 2) := by decide +kernel
theorem dX10_page_113 : decode cX10_page 113 = .ok (.goto 5, 3) := by decide +kernel
theorem dX10_page_116 : decode cX10_page 116 = .ok (.iload 5, 2) := by decide +kernel
theorem dX10_page_118 : decode cX10_page 118 = .ok (.ireturn, 1) := by decide +kernel
theorem dX10_type_0 : decode cX10_type 0 = .ok (.iload_n 1, 1) := by decide +kernel
theorem dX10_type_1 : decode cX10_type 1 = .ok (.bipush 32, 2) := by decide +kernel
theorem dX10_type_3 : decode cX10_type 3 = .ok (.bipush 126, 2) := by decide +kernel
theorem dX10_type_5 : decode cX10_type 5 = .ok (.invokestatic 50, 3) := by decide +kernel
theorem dX10_type_8 : decode cX10_type 8 = .ok (.ifCond .ne 7, 3) := by decide +kernel
theorem dX10_type_11 : decode cX10_type 11 = .ok (.sipush (-1001), 3) := by decide +kernel
theorem dX10_type_14 : decode cX10_type 14 = .ok (.ireturn, 1) := by decide +kernel
theorem dX10_type_15 : decode cX10_type 15 = .ok (.aload_n 0, 1) := by decide +kernel
theorem dX10_type_16 : decode cX10_type 16 = .ok (.getfield 126, 3) := by decide +kernel
theorem dX10_type_19 : decode cX10_type 19 = .ok (.bipush 20, 2) := by decide +kernel
theorem dX10_type_21 : decode cX10_type 21 = .ok (.if_icmp .ne 7, 3) := by decide +kernel
theorem dX10_type_24 : decode cX10_type 24 = .ok (.sipush (-1003), 3) := by decide +kernel
theorem dX10_type_27 : decode cX10_type 27 = .ok (.ireturn, 1) := by decide +kernel
theorem dX10_type_28 : decode cX10_type 28 = .ok (.aload_n 0, 1) := by decide +kernel
theorem dX10_type_29 : decode cX10_type 29 = .ok (.getfield 43, 3) := by decide +kernel
theorem dX10_type_32 : decode cX10_type 32 = .ok (.aload_n 0, 1) := by decide +kernel
theorem dX10_type_33 : decode cX10_type 33 = .ok (.getfield 126, 3) := by decide +kernel
theorem dX10_type_36 : decode cX10_type 36 = .ok (.iload_n 1, 1) := by decide +kernel
theorem dX10_type_37 : decode cX10_type 37 = .ok (.iastore, 1) := by decide +kernel
theorem dX10_type_38 : decode cX10_type 38 = .ok (.aload_n 0, 1) := by decide +kernel
theorem dX10_type_39 : decode cX10_type 39 = .ok (.dup, 1) := by decide +kernel
theorem dX10_type_40 : decode cX10_type 40 = .ok (.getfield 126, 3) := by decide +kernel
theorem dX10_type_43 : decode cX10_type 43 = .ok (.iconst 1, 1) := by decide +kernel
theorem dX10_type_44 : decode cX10_type 44 = .ok (.iadd, 1) := by decide +kernel
theorem dX10_type_45 : decode cX10_type 45 = .ok (.putfield 126, 3) := by decide +kernel
theorem dX10_type_48 : decode cX10_type 48 = .ok (.aload_n 0, 1) := by decide +kernel
theorem dX10_type_49 : decode cX10_type 49 = .ok (.getfield 126, 3) := by decide +kernel
theorem dX10_type_52 : decode cX10_type 52 = .ok (.ireturn, 1) := by decide +kernel
theorem dX10_clear_0 : decode cX10_clear 0 = .ok (.aload_n 0, 1) := by decide +kernel
theorem dX10_clear_1 : decode cX10_clear 1 = .ok (.getfield 126, 3) := by decide +kernel
theorem dX10_clear_4 : decode cX10_clear 4 = .ok (.istore_n 1, 1) := by decide +kernel
theorem dX10_clear_5 : decode cX10_clear 5 = .ok (.aload_n 0, 1) := by decide +kernel
theorem dX10_clear_6 : decode cX10_clear 6 = .ok (.iconst 0, 1) := by decide +kernel
theorem dX10_clear_7 : decode cX10_clear 7 = .ok (.putfield 126, 3) := by decide +kernel
theorem dX10_clear_10 : decode cX10_clear 10 = .ok (.iload_n 1, 1) := by decide +kernel
theorem dX10_clear_11 : decode cX10_clear 11 = .ok (.ireturn, 1) := by decide +kernel
theorem dX10_sheetAt_0 : decode cX10_sheetAt 0 = .ok (.bipush 116, 2) := by decide +kernel
theorem dX10_sheetAt_2 : decode cX10_sheetAt 2 = .ok (.bipush 21, 2) := by decide +kernel
theorem dX10_sheetAt_4 : decode cX10_sheetAt 4 = .ok (.iload_n 0, 1) := by decide +kernel
theorem dX10_sheetAt_5 : decode cX10_sheetAt 5 = .ok (.imul, 1) := by decide +kernel
theorem dX10_sheetAt_6 : decode cX10_sheetAt 6 = .ok (.iadd, 1) := by decide +kernel
theorem dX10_sheetAt_7 : decode cX10_sheetAt 7 = .ok (.ireturn, 1) := by decide +kernel
theorem dX10_wrongAt_0 : decode cX10_wrongAt 0 = .ok (.iconst 0, 1) := by decide +kernel
theorem dX10_wrongAt_1 : decode cX10_wrongAt 1 = .ok (.istore_n 1, 1) := by decide +kernel
theorem dX10_wrongAt_2 : decode cX10_wrongAt 2 = .ok (.iload_n 1, 1) := by decide +kernel
theorem dX10_wrongAt_3 : decode cX10_wrongAt 3 = .ok (.aload_n 0, 1) := by decide +kernel
theorem dX10_wrongAt_4 : decode cX10_wrongAt 4 = .ok (.getfield 126, 3) := by decide +kernel
theorem dX10_wrongAt_7 : decode cX10_wrongAt 7 = .ok (.if_icmp .ge 61, 3) := by decide +kernel
theorem dX10_wrongAt_10 : decode cX10_wrongAt 10 = .ok (.iload_n 1, 1) := by decide +kernel
theorem dX10_wrongAt_11 : decode cX10_wrongAt 11 = .ok (.aload_n 0, 1) := by decide +kernel
theorem dX10_wrongAt_12 : decode cX10_wrongAt 12 = .ok (.getfield 7, 3) := by decide +kernel
theorem dX10_wrongAt_15 : decode cX10_wrongAt 15 = .ok (.iconst 0, 1) := by decide +kernel
theorem dX10_wrongAt_16 : decode cX10_wrongAt 16 = .ok (.iaload, 1) := by decide +kernel
theorem dX10_wrongAt_17 : decode cX10_wrongAt 17 = .ok (.if_icmp .ge 43, 3) := by decide +kernel
theorem dX10_wrongAt_20 : decode cX10_wrongAt 20 = .ok (.aload_n 0, 1) := by decide +kernel
theorem dX10_wrongAt_21 : decode cX10_wrongAt 21 = .ok (.getfield 43, 3) := by decide +kernel
theorem dX10_wrongAt_24 : decode cX10_wrongAt 24 = .ok (.iload_n 1, 1) := by decide +kernel
theorem dX10_wrongAt_25 : decode cX10_wrongAt 25 = .ok (.iaload, 1) := by decide +kernel
theorem dX10_wrongAt_26 : decode cX10_wrongAt 26 = .ok (.bipush 45, 2) := by decide +kernel
theorem dX10_wrongAt_28 : decode cX10_wrongAt 28 = .ok (.if_icmp .eq 34, 3) := by decide +kernel
theorem dX10_wrongAt_31 : decode cX10_wrongAt 31 = .ok (.aload_n 0, 1) := by decide +kernel
theorem dX10_wrongAt_32 : decode cX10_wrongAt 32 = .ok (.getfield 43, 3) := by decide +kernel
theorem dX10_wrongAt_35 : decode cX10_wrongAt 35 = .ok (.iload_n 1, 1) := by decide +kernel
theorem dX10_wrongAt_36 : decode cX10_wrongAt 36 = .ok (.iaload, 1) := by decide +kernel
theorem dX10_wrongAt_37 : decode cX10_wrongAt 37 = .ok (.bipush 65, 2) := by decide +kernel
theorem dX10_wrongAt_39 : decode cX10_wrongAt 39 = .ok (.isub, 1) := by decide +kernel
theorem dX10_wrongAt_40 : decode cX10_wrongAt 40 = .ok (.iconst 0, 1) := by decide +kernel
theorem dX10_wrongAt_41 : decode cX10_wrongAt 41 = .ok (.aload_n 0, 1) := by decide +kernel
theorem dX10_wrongAt_42 : decode cX10_wrongAt 42 = .ok (.aload_n 0, 1) := by decide +kernel
theorem dX10_wrongAt_43 : decode cX10_wrongAt 43 = .ok (.getfield 16, 3) := by decide +kernel
theorem dX10_wrongAt_46 : decode cX10_wrongAt 46 = .ok (.iload_n 1, 1) := by decide +kernel
theorem dX10_wrongAt_47 : decode cX10_wrongAt 47 = .ok (.iaload, 1) := by decide +kernel
theorem dX10_wrongAt_48 : decode cX10_wrongAt 48 = .ok (.iconst 4, 1) := by decide +kernel
theorem dX10_wrongAt_49 : decode cX10_wrongAt 49 = .ok (.invokevirtual 61, 3) := by decide +kernel
theorem dX10_wrongAt_52 : decode cX10_wrongAt 52 = .ok (.iconst 1, 1) := by decide +kernel
theorem dX10_wrongAt_53 : decode cX10_wrongAt 53 = .ok (.isub, 1) := by decide +kernel
theorem dX10_wrongAt_54 : decode cX10_wrongAt 54 = .ok (.invokestatic 50, 3) := by decide +kernel
theorem dX10_wrongAt_57 : decode cX10_wrongAt 57 = .ok (.ifCond .ne 5, 3) := by decide +kernel
theorem dX10_wrongAt_60 : decode cX10_wrongAt 60 = .ok (.iload_n 1, 1) := by decide +kernel
theorem dX10_wrongAt_61 : decode cX10_wrongAt 61 = .ok (.ireturn, 1) := by decide +kernel
theorem dX10_wrongAt_62 : decode cX10_wrongAt 62 = .ok (.iinc 1 1, 3) := by decide +kernel
theorem dX10_wrongAt_65 : decode cX10_wrongAt 65 = .ok (.goto (-63), 3) := by decide +kernel
theorem dX10_wrongAt_68 : decode cX10_wrongAt 68 = .ok (.aload_n 0, 1) := by decide +kernel
theorem dX10_wrongAt_69 : decode cX10_wrongAt 69 = .ok (.getfield 126, 3) := by decide +kernel
theorem dX10_wrongAt_72 : decode cX10_wrongAt 72 = .ok (.aload_n 0, 1) := by decide +kernel
theorem dX10_wrongAt_73 : decode cX10_wrongAt 73 = .ok (.getfield 7, 3) := by decide +kernel
theorem dX10_wrongAt_76 : decode cX10_wrongAt 76 = .ok (.iconst 0, 1) := by decide +kernel
theorem dX10_wrongAt_77 : decode cX10_wrongAt 77 = .ok (.iaload, 1) := by decide +kernel
theorem dX10_wrongAt_78 : decode cX10_wrongAt 78 = .ok (.if_icmp .ge 10, 3) := by decide +kernel
theorem dX10_wrongAt_81 : decode cX10_wrongAt 81 = .ok (.aload_n 0, 1) := by decide +kernel
theorem dX10_wrongAt_82 : decode cX10_wrongAt 82 = .ok (.getfield 126, 3) := by decide +kernel
theorem dX10_wrongAt_85 : decode cX10_wrongAt 85 = .ok (.goto 4, 3) := by decide +kernel
theorem dX10_wrongAt_88 : decode cX10_wrongAt 88 = .ok (.iconst (-1), 1) := by decide +kernel
theorem dX10_wrongAt_89 : decode cX10_wrongAt 89 = .ok (.ireturn, 1) := by decide +kernel
theorem dX10_sheet_0 : decode cX10_sheet 0 = .ok (.aload_n 0, 1) := by decide +kernel
theorem dX10_sheet_1 : decode cX10_sheet 1 = .ok (.iload_n 1, 1) := by decide +kernel
theorem dX10_sheet_2 : decode cX10_sheet 2 = .ok (.invokevirtual 103, 3) := by decide +kernel
theorem dX10_sheet_5 : decode cX10_sheet 5 = .ok (.ifCond .ne 7, 3) := by decide +kernel
theorem dX10_sheet_8 : decode cX10_sheet 8 = .ok (.sipush (-1001), 3) := by decide +kernel
theorem dX10_sheet_11 : decode cX10_sheet 11 = .ok (.ireturn, 1) := by decide +kernel
theorem dX10_sheet_12 : decode cX10_sheet 12 = .ok (.aload_n 0, 1) := by decide +kernel
theorem dX10_sheet_13 : decode cX10_sheet 13 = .ok (.getfield 7, 3) := by decide +kernel
theorem dX10_sheet_16 : decode cX10_sheet 16 = .ok (.iconst 3, 1) := by decide +kernel
theorem dX10_sheet_17 : decode cX10_sheet 17 = .ok (.iaload, 1) := by decide +kernel
theorem dX10_sheet_18 : decode cX10_sheet 18 = .ok (.bipush 20, 2) := by decide +kernel
theorem dX10_sheet_20 : decode cX10_sheet 20 = .ok (.if_icmp .ne 7, 3) := by decide +kernel
theorem dX10_sheet_23 : decode cX10_sheet 23 = .ok (.sipush (-1003), 3) := by decide +kernel
theorem dX10_sheet_26 : decode cX10_sheet 26 = .ok (.ireturn, 1) := by decide +kernel
theorem dX10_sheet_27 : decode cX10_sheet 27 = .ok (.aload_n 0, 1) := by decide +kernel
theorem dX10_sheet_28 : decode cX10_sheet 28 = .ok (.iload_n 1, 1) := by decide +kernel
theorem dX10_sheet_29 : decode cX10_sheet 29 = .ok (.invokevirtual 106, 3) := by decide +kernel
theorem dX10_sheet_32 : decode cX10_sheet 32 = .ok (.aload_n 0, 1) := by decide +kernel
theorem dX10_sheet_33 : decode cX10_sheet 33 = .ok (.invokevirtual 129, 3) := by decide +kernel
theorem dX10_sheet_36 : decode cX10_sheet 36 = .ok (.istore_n 2, 1) := by decide +kernel
theorem dX10_sheet_37 : decode cX10_sheet 37 = .ok (.iload_n 2, 1) := by decide +kernel
theorem dX10_sheet_38 : decode cX10_sheet 38 = .ok (.ifCond .lt 8, 3) := by decide +kernel
theorem dX10_sheet_41 : decode cX10_sheet 41 = .ok (.bipush (-100), 2) := by decide +kernel
theorem dX10_sheet_43 : decode cX10_sheet 43 = .ok (.iload_n 2, 1) := by decide +kernel
theorem dX10_sheet_44 : decode cX10_sheet 44 = .ok (.isub, 1) := by decide +kernel
theorem dX10_sheet_45 : decode cX10_sheet 45 = .ok (.ireturn, 1) := by decide +kernel
theorem dX10_sheet_46 : decode cX10_sheet 46 = .ok (.aload_n 0, 1) := by decide +kernel
theorem dX10_sheet_47 : decode cX10_sheet 47 = .ok (.invokevirtual 54, 3) := by decide +kernel
theorem dX10_sheet_50 : decode cX10_sheet 50 = .ok (.aload_n 0, 1) := by decide +kernel
theorem dX10_sheet_51 : decode cX10_sheet 51 = .ok (.getfield 7, 3) := by decide +kernel
theorem dX10_sheet_54 : decode cX10_sheet 54 = .ok (.iconst 3, 1) := by decide +kernel
theorem dX10_sheet_55 : decode cX10_sheet 55 = .ok (.iaload, 1) := by decide +kernel
theorem dX10_sheet_56 : decode cX10_sheet 56 = .ok (.invokestatic 133, 3) := by decide +kernel
theorem dX10_sheet_59 : decode cX10_sheet 59 = .ok (.istore_n 3, 1) := by decide +kernel
theorem dX10_sheet_60 : decode cX10_sheet 60 = .ok (.aload_n 0, 1) := by decide +kernel
theorem dX10_sheet_61 : decode cX10_sheet 61 = .ok (.getfield 7, 3) := by decide +kernel
theorem dX10_sheet_64 : decode cX10_sheet 64 = .ok (.iload_n 3, 1) := by decide +kernel
theorem dX10_sheet_65 : decode cX10_sheet 65 = .ok (.iload_n 1, 1) := by decide +kernel
theorem dX10_sheet_66 : decode cX10_sheet 66 = .ok (.iastore, 1) := by decide +kernel
theorem dX10_sheet_67 : decode cX10_sheet 67 = .ok (.iconst 0, 1) := by decide +kernel
theorem dX10_sheet_68 : decode cX10_sheet 68 = .ok (.istore 4, 2) := by decide +kernel
theorem dX10_sheet_70 : decode cX10_sheet 70 = .ok (.iload 4, 2) := by decide +kernel
theorem dX10_sheet_72 : decode cX10_sheet 72 = .ok (.aload_n 0, 1) := by decide +kernel
theorem dX10_sheet_73 : decode cX10_sheet 73 = .ok (.getfield 7, 3) := by decide +kernel
theorem dX10_sheet_76 : decode cX10_sheet 76 = .ok (.iconst 0, 1) := by decide +kernel
theorem dX10_sheet_77 : decode cX10_sheet 77 = .ok (.iaload, 1) := by decide +kernel
theorem dX10_sheet_78 : decode cX10_sheet 78 = .ok (.if_icmp .ge 48, 3) := by decide +kernel
theorem dX10_sheet_81 : decode cX10_sheet 81 = .ok (.aload_n 0, 1) := by decide +kernel
theorem dX10_sheet_82 : decode cX10_sheet 82 = .ok (.getfield 7, 3) := by decide +kernel
theorem dX10_sheet_85 : decode cX10_sheet 85 = .ok (.iload_n 3, 1) := by decide +kernel
theorem dX10_sheet_86 : decode cX10_sheet 86 = .ok (.iconst 1, 1) := by decide +kernel
theorem dX10_sheet_87 : decode cX10_sheet 87 = .ok (.iadd, 1) := by decide +kernel
theorem dX10_sheet_88 : decode cX10_sheet 88 = .ok (.iload 4, 2) := by decide +kernel
theorem dX10_sheet_90 : decode cX10_sheet 90 = .ok (.iadd, 1) := by decide +kernel
theorem dX10_sheet_91 : decode cX10_sheet 91 = .ok (.aload_n 0, 1) := by decide +kernel
theorem dX10_sheet_92 : decode cX10_sheet 92 = .ok (.getfield 43, 3) := by decide +kernel
theorem dX10_sheet_95 : decode cX10_sheet 95 = .ok (.iload 4, 2) := by decide +kernel
theorem dX10_sheet_97 : decode cX10_sheet 97 = .ok (.iaload, 1) := by decide +kernel
theorem dX10_sheet_98 : decode cX10_sheet 98 = .ok (.bipush 45, 2) := by decide +kernel
theorem dX10_sheet_100 : decode cX10_sheet 100 = .ok (.if_icmp .ne 9, 3) := by decide +kernel
theorem dX10_sheet_103 : decode cX10_sheet 103 = .ok (.sipush (-1009), 3) := by decide +kernel
theorem dX10_sheet_106 : decode cX10_sheet 106 = .ok (.goto 13, 3) := by decide +kernel
theorem dX10_sheet_109 : decode cX10_sheet 109 = .ok (.aload_n 0, 1) := by decide +kernel
theorem dX10_sheet_110 : decode cX10_sheet 110 = .ok (.getfield 43, 3) := by decide +kernel
theorem dX10_sheet_113 : decode cX10_sheet 113 = .ok (.iload 4, 2) := by decide +kernel
theorem dX10_sheet_115 : decode cX10_sheet 115 = .ok (.iaload, 1) := by decide +kernel
theorem dX10_sheet_116 : decode cX10_sheet 116 = .ok (.bipush 65, 2) := by decide +kernel
theorem dX10_sheet_118 : decode cX10_sheet 118 = .ok (.isub, 1) := by decide +kernel
theorem dX10_sheet_119 : decode cX10_sheet 119 = .ok (.iastore, 1) := by decide +kernel
theorem dX10_sheet_120 : decode cX10_sheet 120 = .ok (.iinc 4 1, 3) := by decide +kernel
theorem dX10_sheet_123 : decode cX10_sheet 123 = .ok (.goto (-53), 3) := by decide +kernel
theorem dX10_sheet_126 : decode cX10_sheet 126 = .ok (.aload_n 0, 1) := by decide +kernel
theorem dX10_sheet_127 : decode cX10_sheet 127 = .ok (.iconst 0, 1) := by decide +kernel
theorem dX10_sheet_128 : decode cX10_sheet 128 = .ok (.putfield 126, 3) := by decide +kernel
theorem dX10_sheet_131 : decode cX10_sheet 131 = .ok (.aload_n 0, 1) := by decide +kernel
theorem dX10_sheet_132 : decode cX10_sheet 132 = .ok (.getfield 7, 3) := by decide +kernel
theorem dX10_sheet_135 : decode cX10_sheet 135 = .ok (.iconst 3, 1) := by decide +kernel
theorem dX10_sheet_136 : decode cX10_sheet 136 = .ok (.dup2, 1) := by decide +kernel
theorem dX10_sheet_137 : decode cX10_sheet 137 = .ok (.iaload, 1) := by decide +kernel
theorem dX10_sheet_138 : decode cX10_sheet 138 = .ok (.iconst 1, 1) := by decide +kernel
theorem dX10_sheet_139 : decode cX10_sheet 139 = .ok (.iadd, 1) := by decide +kernel
theorem dX10_sheet_140 : decode cX10_sheet 140 = .ok (.iastore, 1) := by decide +kernel
theorem dX10_sheet_141 : decode cX10_sheet 141 = .ok (.aload_n 0, 1) := by decide +kernel
theorem dX10_sheet_142 : decode cX10_sheet 142 = .ok (.getfield 7, 3) := by decide +kernel
theorem dX10_sheet_145 : decode cX10_sheet 145 = .ok (.iconst 3, 1) := by decide +kernel
theorem dX10_sheet_146 : decode cX10_sheet 146 = .ok (.iaload, 1) := by decide +kernel
theorem dX10_sheet_147 : decode cX10_sheet 147 = .ok (.iconst 1, 1) := by decide +kernel
theorem dX10_sheet_148 : decode cX10_sheet 148 = .ok (.isub, 1) := by decide +kernel
theorem dX10_sheet_149 : decode cX10_sheet 149 = .ok (.ireturn, 1) := by decide +kernel
theorem dX10_guess_0 : decode cX10_guess 0 = .ok (.aload_n 0, 1) := by decide +kernel
theorem dX10_guess_1 : decode cX10_guess 1 = .ok (.iload_n 1, 1) := by decide +kernel
theorem dX10_guess_2 : decode cX10_guess 2 = .ok (.invokevirtual 103, 3) := by decide +kernel
theorem dX10_guess_5 : decode cX10_guess 5 = .ok (.ifCond .eq 13, 3) := by decide +kernel
theorem dX10_guess_8 : decode cX10_guess 8 = .ok (.iload_n 3, 1) := by decide +kernel
theorem dX10_guess_9 : decode cX10_guess 9 = .ok (.iconst 0, 1) := by decide +kernel
theorem dX10_guess_10 : decode cX10_guess 10 = .ok (.bipush 10, 2) := by decide +kernel
theorem dX10_guess_12 : decode cX10_guess 12 = .ok (.invokestatic 50, 3) := by decide +kernel
theorem dX10_guess_15 : decode cX10_guess 15 = .ok (.ifCond .ne 7, 3) := by decide +kernel
theorem dX10_guess_18 : decode cX10_guess 18 = .ok (.sipush (-1001), 3) := by decide +kernel
theorem dX10_guess_21 : decode cX10_guess 21 = .ok (.ireturn, 1) := by decide +kernel
theorem dX10_guess_22 : decode cX10_guess 22 = .ok (.aload_n 0, 1) := by decide +kernel
theorem dX10_guess_23 : decode cX10_guess 23 = .ok (.getfield 7, 3) := by decide +kernel
theorem dX10_guess_26 : decode cX10_guess 26 = .ok (.iconst 3, 1) := by decide +kernel
theorem dX10_guess_27 : decode cX10_guess 27 = .ok (.iaload, 1) := by decide +kernel
theorem dX10_guess_28 : decode cX10_guess 28 = .ok (.bipush 20, 2) := by decide +kernel
theorem dX10_guess_30 : decode cX10_guess 30 = .ok (.if_icmp .ne 7, 3) := by decide +kernel
theorem dX10_guess_33 : decode cX10_guess 33 = .ok (.sipush (-1003), 3) := by decide +kernel
theorem dX10_guess_36 : decode cX10_guess 36 = .ok (.ireturn, 1) := by decide +kernel
theorem dX10_guess_37 : decode cX10_guess 37 = .ok (.aload_n 0, 1) := by decide +kernel
theorem dX10_guess_38 : decode cX10_guess 38 = .ok (.invokevirtual 54, 3) := by decide +kernel
theorem dX10_guess_41 : decode cX10_guess 41 = .ok (.aload_n 0, 1) := by decide +kernel
theorem dX10_guess_42 : decode cX10_guess 42 = .ok (.iload_n 1, 1) := by decide +kernel
theorem dX10_guess_43 : decode cX10_guess 43 = .ok (.invokevirtual 106, 3) := by decide +kernel
theorem dX10_guess_46 : decode cX10_guess 46 = .ok (.aload_n 0, 1) := by decide +kernel
theorem dX10_guess_47 : decode cX10_guess 47 = .ok (.getfield 7, 3) := by decide +kernel
theorem dX10_guess_50 : decode cX10_guess 50 = .ok (.iconst 3, 1) := by decide +kernel
theorem dX10_guess_51 : decode cX10_guess 51 = .ok (.iaload, 1) := by decide +kernel
theorem dX10_guess_52 : decode cX10_guess 52 = .ok (.invokestatic 133, 3) := by decide +kernel
theorem dX10_guess_55 : decode cX10_guess 55 = .ok (.istore 4, 2) := by decide +kernel
theorem dX10_guess_57 : decode cX10_guess 57 = .ok (.aload_n 0, 1) := by decide +kernel
theorem dX10_guess_58 : decode cX10_guess 58 = .ok (.getfield 7, 3) := by decide +kernel
theorem dX10_guess_61 : decode cX10_guess 61 = .ok (.iload 4, 2) := by decide +kernel
theorem dX10_guess_63 : decode cX10_guess 63 = .ok (.iload_n 1, 1) := by decide +kernel
theorem dX10_guess_64 : decode cX10_guess 64 = .ok (.iastore, 1) := by decide +kernel
theorem dX10_guess_65 : decode cX10_guess 65 = .ok (.aload_n 0, 1) := by decide +kernel
theorem dX10_guess_66 : decode cX10_guess 66 = .ok (.iload_n 2, 1) := by decide +kernel
theorem dX10_guess_67 : decode cX10_guess 67 = .ok (.putfield 72, 3) := by decide +kernel
theorem dX10_guess_70 : decode cX10_guess 70 = .ok (.iconst 0, 1) := by decide +kernel
theorem dX10_guess_71 : decode cX10_guess 71 = .ok (.istore 5, 2) := by decide +kernel
theorem dX10_guess_73 : decode cX10_guess 73 = .ok (.iload 5, 2) := by decide +kernel
theorem dX10_guess_75 : decode cX10_guess 75 = .ok (.aload_n 0, 1) := by decide +kernel
theorem dX10_guess_76 : decode cX10_guess 76 = .ok (.getfield 7, 3) := by decide +kernel
theorem dX10_guess_79 : decode cX10_guess 79 = .ok (.iconst 0, 1) := by decide +kernel
theorem dX10_guess_80 : decode cX10_guess 80 = .ok (.iaload, 1) := by decide +kernel
theorem dX10_guess_81 : decode cX10_guess 81 = .ok (.if_icmp .ge 69, 3) := by decide +kernel
theorem dX10_guess_84 : decode cX10_guess 84 = .ok (.aload_n 0, 1) := by decide +kernel
theorem dX10_guess_85 : decode cX10_guess 85 = .ok (.bipush 10, 2) := by decide +kernel
theorem dX10_guess_87 : decode cX10_guess 87 = .ok (.invokevirtual 78, 3) := by decide +kernel
theorem dX10_guess_90 : decode cX10_guess 90 = .ok (.iload_n 3, 1) := by decide +kernel
theorem dX10_guess_91 : decode cX10_guess 91 = .ok (.if_icmp .ge 7, 3) := by decide +kernel
theorem dX10_guess_94 : decode cX10_guess 94 = .ok (.iconst 1, 1) := by decide +kernel
theorem dX10_guess_95 : decode cX10_guess 95 = .ok (.goto 4, 3) := by decide +kernel
theorem dX10_guess_98 : decode cX10_guess 98 = .ok (.iconst 0, 1) := by decide +kernel
theorem dX10_guess_99 : decode cX10_guess 99 = .ok (.istore 6, 2) := by decide +kernel
theorem dX10_guess_101 : decode cX10_guess 101 = .ok (.aload_n 0, 1) := by decide +kernel
theorem dX10_guess_102 : decode cX10_guess 102 = .ok (.getfield 7, 3) := by decide +kernel
theorem dX10_guess_105 : decode cX10_guess 105 = .ok (.iload 4, 2) := by decide +kernel
theorem dX10_guess_107 : decode cX10_guess 107 = .ok (.iconst 1, 1) := by decide +kernel
theorem dX10_guess_108 : decode cX10_guess 108 = .ok (.iadd, 1) := by decide +kernel
theorem dX10_guess_109 : decode cX10_guess 109 = .ok (.iload 5, 2) := by decide +kernel
theorem dX10_guess_111 : decode cX10_guess 111 = .ok (.iadd, 1) := by decide +kernel
theorem dX10_guess_112 : decode cX10_guess 112 = .ok (.iload 6, 2) := by decide +kernel
theorem dX10_guess_114 : decode cX10_guess 114 = .ok (.ifCond .eq 13, 3) := by decide +kernel
theorem dX10_guess_117 : decode cX10_guess 117 = .ok (.aload_n 0, 1) := by decide +kernel
theorem dX10_guess_118 : decode cX10_guess 118 = .ok (.getfield 19, 3) := by decide +kernel
theorem dX10_guess_121 : decode cX10_guess 121 = .ok (.iload 5, 2) := by decide +kernel
theorem dX10_guess_123 : decode cX10_guess 123 = .ok (.iaload, 1) := by decide +kernel
theorem dX10_guess_124 : decode cX10_guess 124 = .ok (.goto 19, 3) := by decide +kernel
theorem dX10_guess_127 : decode cX10_guess 127 = .ok (.aload_n 0, 1) := by decide +kernel
theorem dX10_guess_128 : decode cX10_guess 128 = .ok (.aload_n 0, 1) := by decide +kernel
theorem dX10_guess_129 : decode cX10_guess 129 = .ok (.aload_n 0, 1) := by decide +kernel
theorem dX10_guess_130 : decode cX10_guess 130 = .ok (.getfield 16, 3) := by decide +kernel
theorem dX10_guess_133 : decode cX10_guess 133 = .ok (.iload 5, 2) := by decide +kernel
theorem dX10_guess_135 : decode cX10_guess 135 = .ok (.iaload, 1) := by decide +kernel
theorem dX10_guess_136 : decode cX10_guess 136 = .ok (.iconst 4, 1) := by decide +kernel
theorem dX10_guess_137 : decode cX10_guess 137 = .ok (.invokevirtual 61, 3) := by decide +kernel
theorem dX10_guess_140 : decode cX10_guess 140 = .ok (.invokevirtual 78, 3) := by decide +kernel
theorem dX10_guess_143 : decode cX10_guess 143 = .ok (.iastore, 1) := by decide +kernel
theorem dX10_guess_144 : decode cX10_guess 144 = .ok (.iinc 5 1, 3) := by decide +kernel
theorem dX10_guess_147 : decode cX10_guess 147 = .ok (.goto (-74), 3) := by decide +kernel
theorem dX10_guess_150 : decode cX10_guess 150 = .ok (.aload_n 0, 1) := by decide +kernel
theorem dX10_guess_151 : decode cX10_guess 151 = .ok (.getfield 7, 3) := by decide +kernel
theorem dX10_guess_154 : decode cX10_guess 154 = .ok (.iconst 3, 1) := by decide +kernel
theorem dX10_guess_155 : decode cX10_guess 155 = .ok (.dup2, 1) := by decide +kernel
theorem dX10_guess_156 : decode cX10_guess 156 = .ok (.iaload, 1) := by decide +kernel
theorem dX10_guess_157 : decode cX10_guess 157 = .ok (.iconst 1, 1) := by decide +kernel
theorem dX10_guess_158 : decode cX10_guess 158 = .ok (.iadd, 1) := by decide +kernel
theorem dX10_guess_159 : decode cX10_guess 159 = .ok (.iastore, 1) := by decide +kernel
theorem dX10_guess_160 : decode cX10_guess 160 = .ok (.aload_n 0, 1) := by decide +kernel
theorem dX10_guess_161 : decode cX10_guess 161 = .ok (.getfield 7, 3) := by decide +kernel
theorem dX10_guess_164 : decode cX10_guess 164 = .ok (.iconst 3, 1) := by decide +kernel
theorem dX10_guess_165 : decode cX10_guess 165 = .ok (.iaload, 1) := by decide +kernel
theorem dX10_guess_166 : decode cX10_guess 166 = .ok (.iconst 1, 1) := by decide +kernel
theorem dX10_guess_167 : decode cX10_guess 167 = .ok (.isub, 1) := by decide +kernel
theorem dX10_guess_168 : decode cX10_guess 168 = .ok (.ireturn, 1) := by decide +kernel
theorem dX10_forget_0 : decode cX10_forget 0 = .ok (.aload_n 0, 1) := by decide +kernel
theorem dX10_forget_1 : decode cX10_forget 1 = .ok (.invokevirtual 54, 3) := by decide +kernel
theorem dX10_forget_4 : decode cX10_forget 4 = .ok (.aload_n 0, 1) := by decide +kernel
theorem dX10_forget_5 : decode cX10_forget 5 = .ok (.getfield 7, 3) := by decide +kernel
theorem dX10_forget_8 : decode cX10_forget 8 = .ok (.iconst 3, 1) := by decide +kernel
theorem dX10_forget_9 : decode cX10_forget 9 = .ok (.iaload, 1) := by decide +kernel
theorem dX10_forget_10 : decode cX10_forget 10 = .ok (.istore_n 1, 1) := by decide +kernel
theorem dX10_forget_11 : decode cX10_forget 11 = .ok (.aload_n 0, 1) := by decide +kernel
theorem dX10_forget_12 : decode cX10_forget 12 = .ok (.getfield 7, 3) := by decide +kernel
theorem dX10_forget_15 : decode cX10_forget 15 = .ok (.iconst 3, 1) := by decide +kernel
theorem dX10_forget_16 : decode cX10_forget 16 = .ok (.iconst 0, 1) := by decide +kernel
theorem dX10_forget_17 : decode cX10_forget 17 = .ok (.iastore, 1) := by decide +kernel
theorem dX10_forget_18 : decode cX10_forget 18 = .ok (.iload_n 1, 1) := by decide +kernel
theorem dX10_forget_19 : decode cX10_forget 19 = .ok (.ireturn, 1) := by decide +kernel
theorem dX10_counts_0 : decode cX10_counts 0 = .ok (.iconst 0, 1) := by decide +kernel
theorem dX10_counts_1 : decode cX10_counts 1 = .ok (.istore_n 2, 1) := by decide +kernel
theorem dX10_counts_2 : decode cX10_counts 2 = .ok (.iconst 0, 1) := by decide +kernel
theorem dX10_counts_3 : decode cX10_counts 3 = .ok (.istore_n 3, 1) := by decide +kernel
theorem dX10_counts_4 : decode cX10_counts 4 = .ok (.iload_n 3, 1) := by decide +kernel
theorem dX10_counts_5 : decode cX10_counts 5 = .ok (.aload_n 0, 1) := by decide +kernel
theorem dX10_counts_6 : decode cX10_counts 6 = .ok (.getfield 7, 3) := by decide +kernel
theorem dX10_counts_9 : decode cX10_counts 9 = .ok (.iconst 0, 1) := by decide +kernel
theorem dX10_counts_10 : decode cX10_counts 10 = .ok (.iaload, 1) := by decide +kernel
theorem dX10_counts_11 : decode cX10_counts 11 = .ok (.if_icmp .ge 56, 3) := by decide +kernel
theorem dX10_counts_14 : decode cX10_counts 14 = .ok (.aload_n 0, 1) := by decide +kernel
theorem dX10_counts_15 : decode cX10_counts 15 = .ok (.getfield 7, 3) := by decide +kernel
theorem dX10_counts_18 : decode cX10_counts 18 = .ok (.iload_n 1, 1) := by decide +kernel
theorem dX10_counts_19 : decode cX10_counts 19 = .ok (.invokestatic 133, 3) := by decide +kernel
theorem dX10_counts_22 : decode cX10_counts 22 = .ok (.iconst 1, 1) := by decide +kernel
theorem dX10_counts_23 : decode cX10_counts 23 = .ok (.iadd, 1) := by decide +kernel
theorem dX10_counts_24 : decode cX10_counts 24 = .ok (.iload_n 3, 1) := by decide +kernel
theorem dX10_counts_25 : decode cX10_counts 25 = .ok (.iadd, 1) := by decide +kernel
theorem dX10_counts_26 : decode cX10_counts 26 = .ok (.iaload, 1) := by decide +kernel
theorem dX10_counts_27 : decode cX10_counts 27 = .ok (.istore 4, 2) := by decide +kernel
theorem dX10_counts_29 : decode cX10_counts 29 = .ok (.iload_n 2, 1) := by decide +kernel
theorem dX10_counts_30 : decode cX10_counts 30 = .ok (.iload 4, 2) := by decide +kernel
theorem dX10_counts_32 : decode cX10_counts 32 = .ok (.sipush (-1009), 3) := by decide +kernel
theorem dX10_counts_35 : decode cX10_counts 35 = .ok (.if_icmp .ne 7, 3) := by decide +kernel
theorem dX10_counts_38 : decode cX10_counts 38 = .ok (.iconst 0, 1) := by decide +kernel
theorem dX10_counts_39 : decode cX10_counts 39 = .ok (.goto 20, 3) := by decide +kernel
theorem dX10_counts_42 : decode cX10_counts 42 = .ok (.iload 4, 2) := by decide +kernel
theorem dX10_counts_44 : decode cX10_counts 44 = .ok (.aload_n 0, 1) := by decide +kernel
theorem dX10_counts_45 : decode cX10_counts 45 = .ok (.getfield 19, 3) := by decide +kernel
theorem dX10_counts_48 : decode cX10_counts 48 = .ok (.iload_n 3, 1) := by decide +kernel
theorem dX10_counts_49 : decode cX10_counts 49 = .ok (.iaload, 1) := by decide +kernel
theorem dX10_counts_50 : decode cX10_counts 50 = .ok (.if_icmp .ne 8, 3) := by decide +kernel
theorem dX10_counts_53 : decode cX10_counts 53 = .ok (.bipush 100, 2) := by decide +kernel
theorem dX10_counts_55 : decode cX10_counts 55 = .ok (.goto 4, 3) := by decide +kernel
theorem dX10_counts_58 : decode cX10_counts 58 = .ok (.iconst 1, 1) := by decide +kernel
theorem dX10_counts_59 : decode cX10_counts 59 = .ok (.iadd, 1) := by decide +kernel
theorem dX10_counts_60 : decode cX10_counts 60 = .ok (.istore_n 2, 1) := by decide +kernel
theorem dX10_counts_61 : decode cX10_counts 61 = .ok (.iinc 3 1, 3) := by decide +kernel
theorem dX10_counts_64 : decode cX10_counts 64 = .ok (.goto (-60), 3) := by decide +kernel
theorem dX10_counts_67 : decode cX10_counts 67 = .ok (.iload_n 2, 1) := by decide +kernel
theorem dX10_counts_68 : decode cX10_counts 68 = .ok (.ireturn, 1) := by decide +kernel
theorem dX10_countsOwn_0 : decode cX10_countsOwn 0 = .ok (.aload_n 0, 1) := by decide +kernel
theorem dX10_countsOwn_1 : decode cX10_countsOwn 1 = .ok (.aload_n 0, 1) := by decide +kernel
theorem dX10_countsOwn_2 : decode cX10_countsOwn 2 = .ok (.getfield 7, 3) := by decide +kernel
theorem dX10_countsOwn_5 : decode cX10_countsOwn 5 = .ok (.iload_n 1, 1) := by decide +kernel
theorem dX10_countsOwn_6 : decode cX10_countsOwn 6 = .ok (.invokestatic 133, 3) := by decide +kernel
theorem dX10_countsOwn_9 : decode cX10_countsOwn 9 = .ok (.iaload, 1) := by decide +kernel
theorem dX10_countsOwn_10 : decode cX10_countsOwn 10 = .ok (.invokevirtual 106, 3) := by decide +kernel
theorem dX10_countsOwn_13 : decode cX10_countsOwn 13 = .ok (.aload_n 0, 1) := by decide +kernel
theorem dX10_countsOwn_14 : decode cX10_countsOwn 14 = .ok (.iload_n 1, 1) := by decide +kernel
theorem dX10_countsOwn_15 : decode cX10_countsOwn 15 = .ok (.invokevirtual 136, 3) := by decide +kernel
theorem dX10_countsOwn_18 : decode cX10_countsOwn 18 = .ok (.ireturn, 1) := by decide +kernel
theorem dX10_pointsBy_0 : decode cX10_pointsBy 0 = .ok (.iconst 4, 1) := by decide +kernel
theorem dX10_pointsBy_1 : decode cX10_pointsBy 1 = .ok (.iload_n 0, 1) := by decide +kernel
theorem dX10_pointsBy_2 : decode cX10_pointsBy 2 = .ok (.bipush 100, 2) := by decide +kernel
theorem dX10_pointsBy_4 : decode cX10_pointsBy 4 = .ok (.idiv, 1) := by decide +kernel
theorem dX10_pointsBy_5 : decode cX10_pointsBy 5 = .ok (.imul, 1) := by decide +kernel
theorem dX10_pointsBy_6 : decode cX10_pointsBy 6 = .ok (.iload_n 0, 1) := by decide +kernel
theorem dX10_pointsBy_7 : decode cX10_pointsBy 7 = .ok (.bipush 100, 2) := by decide +kernel
theorem dX10_pointsBy_9 : decode cX10_pointsBy 9 = .ok (.irem, 1) := by decide +kernel
theorem dX10_pointsBy_10 : decode cX10_pointsBy 10 = .ok (.isub, 1) := by decide +kernel
theorem dX10_pointsBy_11 : decode cX10_pointsBy 11 = .ok (.ireturn, 1) := by decide +kernel
theorem dX10_points_0 : decode cX10_points 0 = .ok (.aload_n 0, 1) := by decide +kernel
theorem dX10_points_1 : decode cX10_points 1 = .ok (.iload_n 1, 1) := by decide +kernel
theorem dX10_points_2 : decode cX10_points 2 = .ok (.invokevirtual 139, 3) := by decide +kernel
theorem dX10_points_5 : decode cX10_points 5 = .ok (.invokestatic 142, 3) := by decide +kernel
theorem dX10_points_8 : decode cX10_points 8 = .ok (.ireturn, 1) := by decide +kernel
theorem dX10_rank_0 : decode cX10_rank 0 = .ok (.aload_n 0, 1) := by decide +kernel
theorem dX10_rank_1 : decode cX10_rank 1 = .ok (.iload_n 1, 1) := by decide +kernel
theorem dX10_rank_2 : decode cX10_rank 2 = .ok (.invokevirtual 145, 3) := by decide +kernel
theorem dX10_rank_5 : decode cX10_rank 5 = .ok (.istore_n 2, 1) := by decide +kernel
theorem dX10_rank_6 : decode cX10_rank 6 = .ok (.iconst 1, 1) := by decide +kernel
theorem dX10_rank_7 : decode cX10_rank 7 = .ok (.istore_n 3, 1) := by decide +kernel
theorem dX10_rank_8 : decode cX10_rank 8 = .ok (.iconst 0, 1) := by decide +kernel
theorem dX10_rank_9 : decode cX10_rank 9 = .ok (.istore 4, 2) := by decide +kernel
theorem dX10_rank_11 : decode cX10_rank 11 = .ok (.iload 4, 2) := by decide +kernel
theorem dX10_rank_13 : decode cX10_rank 13 = .ok (.aload_n 0, 1) := by decide +kernel
theorem dX10_rank_14 : decode cX10_rank 14 = .ok (.getfield 7, 3) := by decide +kernel
theorem dX10_rank_17 : decode cX10_rank 17 = .ok (.iconst 3, 1) := by decide +kernel
theorem dX10_rank_18 : decode cX10_rank 18 = .ok (.iaload, 1) := by decide +kernel
theorem dX10_rank_19 : decode cX10_rank 19 = .ok (.if_icmp .ge 27, 3) := by decide +kernel
theorem dX10_rank_22 : decode cX10_rank 22 = .ok (.iload_n 3, 1) := by decide +kernel
theorem dX10_rank_23 : decode cX10_rank 23 = .ok (.aload_n 0, 1) := by decide +kernel
theorem dX10_rank_24 : decode cX10_rank 24 = .ok (.iload 4, 2) := by decide +kernel
theorem dX10_rank_26 : decode cX10_rank 26 = .ok (.invokevirtual 145, 3) := by decide +kernel
theorem dX10_rank_29 : decode cX10_rank 29 = .ok (.iload_n 2, 1) := by decide +kernel
theorem dX10_rank_30 : decode cX10_rank 30 = .ok (.if_icmp .le 7, 3) := by decide +kernel
theorem dX10_rank_33 : decode cX10_rank 33 = .ok (.iconst 1, 1) := by decide +kernel
theorem dX10_rank_34 : decode cX10_rank 34 = .ok (.goto 4, 3) := by decide +kernel
theorem dX10_rank_37 : decode cX10_rank 37 = .ok (.iconst 0, 1) := by decide +kernel
theorem dX10_rank_38 : decode cX10_rank 38 = .ok (.iadd, 1) := by decide +kernel
theorem dX10_rank_39 : decode cX10_rank 39 = .ok (.istore_n 3, 1) := by decide +kernel
theorem dX10_rank_40 : decode cX10_rank 40 = .ok (.iinc 4 1, 3) := by decide +kernel
theorem dX10_rank_43 : decode cX10_rank 43 = .ok (.goto (-32), 3) := by decide +kernel
theorem dX10_rank_46 : decode cX10_rank 46 = .ok (.iload_n 3, 1) := by decide +kernel
theorem dX10_rank_47 : decode cX10_rank 47 = .ok (.ireturn, 1) := by decide +kernel
theorem dX10_resultOf_0 : decode cX10_resultOf 0 = .ok (.iload_n 2, 1) := by decide +kernel
theorem dX10_resultOf_1 : decode cX10_resultOf 1 = .ok (.tableswitch 65 0 3 #[31, 41, 47, 56], 31) := by decide +kernel
theorem dX10_resultOf_32 : decode cX10_resultOf 32 = .ok (.aload_n 0, 1) := by decide +kernel
theorem dX10_resultOf_33 : decode cX10_resultOf 33 = .ok (.getfield 7, 3) := by decide +kernel
theorem dX10_resultOf_36 : decode cX10_resultOf 36 = .ok (.iload_n 1, 1) := by decide +kernel
theorem dX10_resultOf_37 : decode cX10_resultOf 37 = .ok (.invokestatic 133, 3) := by decide +kernel
theorem dX10_resultOf_40 : decode cX10_resultOf 40 = .ok (.iaload, 1) := by decide +kernel
theorem dX10_resultOf_41 : decode cX10_resultOf 41 = .ok (.ireturn, 1) := by decide +kernel
theorem dX10_resultOf_42 : decode cX10_resultOf 42 = .ok (.aload_n 0, 1) := by decide +kernel
theorem dX10_resultOf_43 : decode cX10_resultOf 43 = .ok (.iload_n 1, 1) := by decide +kernel
theorem dX10_resultOf_44 : decode cX10_resultOf 44 = .ok (.invokevirtual 145, 3) := by decide +kernel
theorem dX10_resultOf_47 : decode cX10_resultOf 47 = .ok (.ireturn, 1) := by decide +kernel
theorem dX10_resultOf_48 : decode cX10_resultOf 48 = .ok (.aload_n 0, 1) := by decide +kernel
theorem dX10_resultOf_49 : decode cX10_resultOf 49 = .ok (.iload_n 1, 1) := by decide +kernel
theorem dX10_resultOf_50 : decode cX10_resultOf 50 = .ok (.invokevirtual 139, 3) := by decide +kernel
theorem dX10_resultOf_53 : decode cX10_resultOf 53 = .ok (.bipush 100, 2) := by decide +kernel
theorem dX10_resultOf_55 : decode cX10_resultOf 55 = .ok (.idiv, 1) := by decide +kernel
theorem dX10_resultOf_56 : decode cX10_resultOf 56 = .ok (.ireturn, 1) := by decide +kernel
theorem dX10_resultOf_57 : decode cX10_resultOf 57 = .ok (.aload_n 0, 1) := by decide +kernel
theorem dX10_resultOf_58 : decode cX10_resultOf 58 = .ok (.iload_n 1, 1) := by decide +kernel
theorem dX10_resultOf_59 : decode cX10_resultOf 59 = .ok (.invokevirtual 139, 3) := by decide +kernel
theorem dX10_resultOf_62 : decode cX10_resultOf 62 = .ok (.bipush 100, 2) := by decide +kernel
theorem dX10_resultOf_64 : decode cX10_resultOf 64 = .ok (.irem, 1) := by decide +kernel
theorem dX10_resultOf_65 : decode cX10_resultOf 65 = .ok (.ireturn, 1) := by decide +kernel
theorem dX10_resultOf_66 : decode cX10_resultOf 66 = .ok (.aload_n 0, 1) := by decide +kernel
theorem dX10_resultOf_67 : decode cX10_resultOf 67 = .ok (.iload_n 1, 1) := by decide +kernel
theorem dX10_resultOf_68 : decode cX10_resultOf 68 = .ok (.invokevirtual 148, 3) := by decide +kernel
theorem dX10_resultOf_71 : decode cX10_resultOf 71 = .ok (.ireturn, 1) := by decide +kernel
theorem dX10_result_0 : decode cX10_result 0 = .ok (.aload_n 0, 1) := by decide +kernel
theorem dX10_result_1 : decode cX10_result 1 = .ok (.iload_n 1, 1) := by decide +kernel
theorem dX10_result_2 : decode cX10_result 2 = .ok (.invokevirtual 151, 3) := by decide +kernel
theorem dX10_result_5 : decode cX10_result 5 = .ok (.ifCond .eq 21, 3) := by decide +kernel
theorem dX10_result_8 : decode cX10_result 8 = .ok (.iload_n 2, 1) := by decide +kernel
theorem dX10_result_9 : decode cX10_result 9 = .ok (.iconst 0, 1) := by decide +kernel
theorem dX10_result_10 : decode cX10_result 10 = .ok (.iconst 4, 1) := by decide +kernel
theorem dX10_result_11 : decode cX10_result 11 = .ok (.invokestatic 50, 3) := by decide +kernel
theorem dX10_result_14 : decode cX10_result 14 = .ok (.ifCond .eq 12, 3) := by decide +kernel
theorem dX10_result_17 : decode cX10_result 17 = .ok (.aload_n 0, 1) := by decide +kernel
theorem dX10_result_18 : decode cX10_result 18 = .ok (.iload_n 1, 1) := by decide +kernel
theorem dX10_result_19 : decode cX10_result 19 = .ok (.iload_n 2, 1) := by decide +kernel
theorem dX10_result_20 : decode cX10_result 20 = .ok (.invokevirtual 154, 3) := by decide +kernel
theorem dX10_result_23 : decode cX10_result 23 = .ok (.goto 6, 3) := by decide +kernel
theorem dX10_result_26 : decode cX10_result 26 = .ok (.sipush (-1001), 3) := by decide +kernel
theorem dX10_result_29 : decode cX10_result 29 = .ok (.ireturn, 1) := by decide +kernel
theorem dX10_answerOf_0 : decode cX10_answerOf 0 = .ok (.aload_n 0, 1) := by decide +kernel
theorem dX10_answerOf_1 : decode cX10_answerOf 1 = .ok (.aload_n 0, 1) := by decide +kernel
theorem dX10_answerOf_2 : decode cX10_answerOf 2 = .ok (.getfield 7, 3) := by decide +kernel
theorem dX10_answerOf_5 : decode cX10_answerOf 5 = .ok (.iload_n 1, 1) := by decide +kernel
theorem dX10_answerOf_6 : decode cX10_answerOf 6 = .ok (.invokestatic 133, 3) := by decide +kernel
theorem dX10_answerOf_9 : decode cX10_answerOf 9 = .ok (.iaload, 1) := by decide +kernel
theorem dX10_answerOf_10 : decode cX10_answerOf 10 = .ok (.invokevirtual 106, 3) := by decide +kernel
theorem dX10_answerOf_13 : decode cX10_answerOf 13 = .ok (.aload_n 0, 1) := by decide +kernel
theorem dX10_answerOf_14 : decode cX10_answerOf 14 = .ok (.iload_n 2, 1) := by decide +kernel
theorem dX10_answerOf_15 : decode cX10_answerOf 15 = .ok (.invokevirtual 115, 3) := by decide +kernel
theorem dX10_answerOf_18 : decode cX10_answerOf 18 = .ok (.istore_n 3, 1) := by decide +kernel
theorem dX10_answerOf_19 : decode cX10_answerOf 19 = .ok (.aload_n 0, 1) := by decide +kernel
theorem dX10_answerOf_20 : decode cX10_answerOf 20 = .ok (.getfield 7, 3) := by decide +kernel
theorem dX10_answerOf_23 : decode cX10_answerOf 23 = .ok (.iload_n 1, 1) := by decide +kernel
theorem dX10_answerOf_24 : decode cX10_answerOf 24 = .ok (.invokestatic 133, 3) := by decide +kernel
theorem dX10_answerOf_27 : decode cX10_answerOf 27 = .ok (.iconst 1, 1) := by decide +kernel
theorem dX10_answerOf_28 : decode cX10_answerOf 28 = .ok (.iadd, 1) := by decide +kernel
theorem dX10_answerOf_29 : decode cX10_answerOf 29 = .ok (.iload_n 3, 1) := by decide +kernel
theorem dX10_answerOf_30 : decode cX10_answerOf 30 = .ok (.iadd, 1) := by decide +kernel
theorem dX10_answerOf_31 : decode cX10_answerOf 31 = .ok (.iaload, 1) := by decide +kernel
theorem dX10_answerOf_32 : decode cX10_answerOf 32 = .ok (.istore 4, 2) := by decide +kernel
theorem dX10_answerOf_34 : decode cX10_answerOf 34 = .ok (.iload 4, 2) := by decide +kernel
theorem dX10_answerOf_36 : decode cX10_answerOf 36 = .ok (.sipush (-1009), 3) := by decide +kernel
theorem dX10_answerOf_39 : decode cX10_answerOf 39 = .ok (.if_icmp .ne 9, 3) := by decide +kernel
theorem dX10_answerOf_42 : decode cX10_answerOf 42 = .ok (.sipush (-1009), 3) := by decide +kernel
theorem dX10_answerOf_45 : decode cX10_answerOf 45 = .ok (.goto 14, 3) := by decide +kernel
theorem dX10_answerOf_48 : decode cX10_answerOf 48 = .ok (.aload_n 0, 1) := by decide +kernel
theorem dX10_answerOf_49 : decode cX10_answerOf 49 = .ok (.getfield 22, 3) := by decide +kernel
theorem dX10_answerOf_52 : decode cX10_answerOf 52 = .ok (.iconst 5, 1) := by decide +kernel
theorem dX10_answerOf_53 : decode cX10_answerOf 53 = .ok (.iload_n 3, 1) := by decide +kernel
theorem dX10_answerOf_54 : decode cX10_answerOf 54 = .ok (.imul, 1) := by decide +kernel
theorem dX10_answerOf_55 : decode cX10_answerOf 55 = .ok (.iload 4, 2) := by decide +kernel
theorem dX10_answerOf_57 : decode cX10_answerOf 57 = .ok (.iadd, 1) := by decide +kernel
theorem dX10_answerOf_58 : decode cX10_answerOf 58 = .ok (.iaload, 1) := by decide +kernel
theorem dX10_answerOf_59 : decode cX10_answerOf 59 = .ok (.ireturn, 1) := by decide +kernel
theorem dX10_answer_0 : decode cX10_answer 0 = .ok (.aload_n 0, 1) := by decide +kernel
theorem dX10_answer_1 : decode cX10_answer 1 = .ok (.iload_n 1, 1) := by decide +kernel
theorem dX10_answer_2 : decode cX10_answer 2 = .ok (.invokevirtual 151, 3) := by decide +kernel
theorem dX10_answer_5 : decode cX10_answer 5 = .ok (.ifCond .eq 20, 3) := by decide +kernel
theorem dX10_answer_8 : decode cX10_answer 8 = .ok (.aload_n 0, 1) := by decide +kernel
theorem dX10_answer_9 : decode cX10_answer 9 = .ok (.iload_n 2, 1) := by decide +kernel
theorem dX10_answer_10 : decode cX10_answer 10 = .ok (.invokevirtual 57, 3) := by decide +kernel
theorem dX10_answer_13 : decode cX10_answer 13 = .ok (.ifCond .eq 12, 3) := by decide +kernel
theorem dX10_answer_16 : decode cX10_answer 16 = .ok (.aload_n 0, 1) := by decide +kernel
theorem dX10_answer_17 : decode cX10_answer 17 = .ok (.iload_n 1, 1) := by decide +kernel
theorem dX10_answer_18 : decode cX10_answer 18 = .ok (.iload_n 2, 1) := by decide +kernel
theorem dX10_answer_19 : decode cX10_answer 19 = .ok (.invokevirtual 157, 3) := by decide +kernel
theorem dX10_answer_22 : decode cX10_answer 22 = .ok (.goto 6, 3) := by decide +kernel
theorem dX10_answer_25 : decode cX10_answer 25 = .ok (.sipush (-1001), 3) := by decide +kernel
theorem dX10_answer_28 : decode cX10_answer 28 = .ok (.ireturn, 1) := by decide +kernel
theorem dX10_taken_0 : decode cX10_taken 0 = .ok (.iconst 0, 1) := by decide +kernel
theorem dX10_taken_1 : decode cX10_taken 1 = .ok (.istore_n 3, 1) := by decide +kernel
theorem dX10_taken_2 : decode cX10_taken 2 = .ok (.iconst 0, 1) := by decide +kernel
theorem dX10_taken_3 : decode cX10_taken 3 = .ok (.istore 4, 2) := by decide +kernel
theorem dX10_taken_5 : decode cX10_taken 5 = .ok (.iload 4, 2) := by decide +kernel
theorem dX10_taken_7 : decode cX10_taken 7 = .ok (.aload_n 0, 1) := by decide +kernel
theorem dX10_taken_8 : decode cX10_taken 8 = .ok (.getfield 7, 3) := by decide +kernel
theorem dX10_taken_11 : decode cX10_taken 11 = .ok (.iconst 3, 1) := by decide +kernel
theorem dX10_taken_12 : decode cX10_taken 12 = .ok (.iaload, 1) := by decide +kernel
theorem dX10_taken_13 : decode cX10_taken 13 = .ok (.if_icmp .ge 28, 3) := by decide +kernel
theorem dX10_taken_16 : decode cX10_taken 16 = .ok (.iload_n 3, 1) := by decide +kernel
theorem dX10_taken_17 : decode cX10_taken 17 = .ok (.aload_n 0, 1) := by decide +kernel
theorem dX10_taken_18 : decode cX10_taken 18 = .ok (.iload 4, 2) := by decide +kernel
theorem dX10_taken_20 : decode cX10_taken 20 = .ok (.iload_n 1, 1) := by decide +kernel
theorem dX10_taken_21 : decode cX10_taken 21 = .ok (.invokevirtual 157, 3) := by decide +kernel
theorem dX10_taken_24 : decode cX10_taken 24 = .ok (.iload_n 2, 1) := by decide +kernel
theorem dX10_taken_25 : decode cX10_taken 25 = .ok (.if_icmp .ne 7, 3) := by decide +kernel
theorem dX10_taken_28 : decode cX10_taken 28 = .ok (.iconst 1, 1) := by decide +kernel
theorem dX10_taken_29 : decode cX10_taken 29 = .ok (.goto 4, 3) := by decide +kernel
theorem dX10_taken_32 : decode cX10_taken 32 = .ok (.iconst 0, 1) := by decide +kernel
theorem dX10_taken_33 : decode cX10_taken 33 = .ok (.iadd, 1) := by decide +kernel
theorem dX10_taken_34 : decode cX10_taken 34 = .ok (.istore_n 3, 1) := by decide +kernel
theorem dX10_taken_35 : decode cX10_taken 35 = .ok (.iinc 4 1, 3) := by decide +kernel
theorem dX10_taken_38 : decode cX10_taken 38 = .ok (.goto (-33), 3) := by decide +kernel
theorem dX10_taken_41 : decode cX10_taken 41 = .ok (.iload_n 3, 1) := by decide +kernel
theorem dX10_taken_42 : decode cX10_taken 42 = .ok (.ireturn, 1) := by decide +kernel
theorem dX10_about_0 : decode cX10_about 0 = .ok (.aload_n 0, 1) := by decide +kernel
theorem dX10_about_1 : decode cX10_about 1 = .ok (.iload_n 1, 1) := by decide +kernel
theorem dX10_about_2 : decode cX10_about 2 = .ok (.invokevirtual 57, 3) := by decide +kernel
theorem dX10_about_5 : decode cX10_about 5 = .ok (.ifCond .eq 12, 3) := by decide +kernel
theorem dX10_about_8 : decode cX10_about 8 = .ok (.iload_n 2, 1) := by decide +kernel
theorem dX10_about_9 : decode cX10_about 9 = .ok (.iconst 0, 1) := by decide +kernel
theorem dX10_about_10 : decode cX10_about 10 = .ok (.iconst 3, 1) := by decide +kernel
theorem dX10_about_11 : decode cX10_about 11 = .ok (.invokestatic 50, 3) := by decide +kernel
theorem dX10_about_14 : decode cX10_about 14 = .ok (.ifCond .ne 7, 3) := by decide +kernel
theorem dX10_about_17 : decode cX10_about 17 = .ok (.sipush (-1001), 3) := by decide +kernel
theorem dX10_about_20 : decode cX10_about 20 = .ok (.ireturn, 1) := by decide +kernel
theorem dX10_about_21 : decode cX10_about 21 = .ok (.aload_n 0, 1) := by decide +kernel
theorem dX10_about_22 : decode cX10_about 22 = .ok (.iload_n 1, 1) := by decide +kernel
theorem dX10_about_23 : decode cX10_about 23 = .ok (.aload_n 0, 1) := by decide +kernel
theorem dX10_about_24 : decode cX10_about 24 = .ok (.iload_n 1, 1) := by decide +kernel
theorem dX10_about_25 : decode cX10_about 25 = .ok (.iconst 1, 1) := by decide +kernel
theorem dX10_about_26 : decode cX10_about 26 = .ok (.invokevirtual 61, 3) := by decide +kernel
theorem dX10_about_29 : decode cX10_about 29 = .ok (.invokevirtual 160, 3) := by decide +kernel
theorem dX10_about_32 : decode cX10_about 32 = .ok (.istore_n 3, 1) := by decide +kernel
theorem dX10_about_33 : decode cX10_about 33 = .ok (.aload_n 0, 1) := by decide +kernel
theorem dX10_about_34 : decode cX10_about 34 = .ok (.iload_n 1, 1) := by decide +kernel
theorem dX10_about_35 : decode cX10_about 35 = .ok (.sipush (-1009), 3) := by decide +kernel
theorem dX10_about_38 : decode cX10_about 38 = .ok (.invokevirtual 160, 3) := by decide +kernel
theorem dX10_about_41 : decode cX10_about 41 = .ok (.istore 4, 2) := by decide +kernel
theorem dX10_about_43 : decode cX10_about 43 = .ok (.sipush (-1009), 3) := by decide +kernel
theorem dX10_about_46 : decode cX10_about 46 = .ok (.istore 5, 2) := by decide +kernel
theorem dX10_about_48 : decode cX10_about 48 = .ok (.iconst 0, 1) := by decide +kernel
theorem dX10_about_49 : decode cX10_about 49 = .ok (.istore 6, 2) := by decide +kernel
theorem dX10_about_51 : decode cX10_about 51 = .ok (.iconst 0, 1) := by decide +kernel
theorem dX10_about_52 : decode cX10_about 52 = .ok (.istore 7, 2) := by decide +kernel
theorem dX10_about_54 : decode cX10_about 54 = .ok (.iload 7, 2) := by decide +kernel
theorem dX10_about_56 : decode cX10_about 56 = .ok (.aload_n 0, 1) := by decide +kernel
theorem dX10_about_57 : decode cX10_about 57 = .ok (.iload_n 1, 1) := by decide +kernel
theorem dX10_about_58 : decode cX10_about 58 = .ok (.iconst 4, 1) := by decide +kernel
theorem dX10_about_59 : decode cX10_about 59 = .ok (.invokevirtual 61, 3) := by decide +kernel
theorem dX10_about_62 : decode cX10_about 62 = .ok (.if_icmp .ge 65, 3) := by decide +kernel
theorem dX10_about_65 : decode cX10_about 65 = .ok (.iload 7, 2) := by decide +kernel
theorem dX10_about_67 : decode cX10_about 67 = .ok (.aload_n 0, 1) := by decide +kernel
theorem dX10_about_68 : decode cX10_about 68 = .ok (.iload_n 1, 1) := by decide +kernel
theorem dX10_about_69 : decode cX10_about 69 = .ok (.iconst 1, 1) := by decide +kernel
theorem dX10_about_70 : decode cX10_about 70 = .ok (.invokevirtual 61, 3) := by decide +kernel
theorem dX10_about_73 : decode cX10_about 73 = .ok (.if_icmp .ne 7, 3) := by decide +kernel
theorem dX10_about_76 : decode cX10_about 76 = .ok (.iconst 0, 1) := by decide +kernel
theorem dX10_about_77 : decode cX10_about 77 = .ok (.goto 10, 3) := by decide +kernel
theorem dX10_about_80 : decode cX10_about 80 = .ok (.aload_n 0, 1) := by decide +kernel
theorem dX10_about_81 : decode cX10_about 81 = .ok (.iload_n 1, 1) := by decide +kernel
theorem dX10_about_82 : decode cX10_about 82 = .ok (.iload 7, 2) := by decide +kernel
theorem dX10_about_84 : decode cX10_about 84 = .ok (.invokevirtual 160, 3) := by decide +kernel
theorem dX10_about_87 : decode cX10_about 87 = .ok (.istore 8, 2) := by decide +kernel
theorem dX10_about_89 : decode cX10_about 89 = .ok (.iload 8, 2) := by decide +kernel
theorem dX10_about_91 : decode cX10_about 91 = .ok (.iload 6, 2) := by decide +kernel
theorem dX10_about_93 : decode cX10_about 93 = .ok (.if_icmp .le 8, 3) := by decide +kernel
theorem dX10_about_96 : decode cX10_about 96 = .ok (.iload 7, 2) := by decide +kernel
theorem dX10_about_98 : decode cX10_about 98 = .ok (.goto 5, 3) := by decide +kernel
theorem dX10_about_101 : decode cX10_about 101 = .ok (.iload 5, 2) := by decide +kernel
theorem dX10_about_103 : decode cX10_about 103 = .ok (.istore 5, 2) := by decide +kernel
theorem dX10_about_105 : decode cX10_about 105 = .ok (.iload 8, 2) := by decide +kernel
theorem dX10_about_107 : decode cX10_about 107 = .ok (.iload 6, 2) := by decide +kernel
theorem dX10_about_109 : decode cX10_about 109 = .ok (.if_icmp .le 8, 3) := by decide +kernel
theorem dX10_about_112 : decode cX10_about 112 = .ok (.iload 8, 2) := by decide +kernel
theorem dX10_about_114 : decode cX10_about 114 = .ok (.goto 5, 3) := by decide +kernel
theorem dX10_about_117 : decode cX10_about 117 = .ok (.iload 6, 2) := by decide +kernel
theorem dX10_about_119 : decode cX10_about 119 = .ok (.istore 6, 2) := by decide +kernel
theorem dX10_about_121 : decode cX10_about 121 = .ok (.iinc 7 1, 3) := by decide +kernel
theorem dX10_about_124 : decode cX10_about 124 = .ok (.goto (-70), 3) := by decide +kernel
theorem dX10_about_127 : decode cX10_about 127 = .ok (.iload_n 2, 1) := by decide +kernel
theorem dX10_about_128 : decode cX10_about 128 = .ok (.ifCond .ne 7, 3) := by decide +kernel
theorem dX10_about_131 : decode cX10_about 131 = .ok (.iload_n 3, 1) := by decide +kernel
theorem dX10_about_132 : decode cX10_about 132 = .ok (.goto 34, 3) := by decide +kernel
theorem dX10_about_135 : decode cX10_about 135 = .ok (.iload_n 2, 1) := by decide +kernel
theorem dX10_about_136 : decode cX10_about 136 = .ok (.iconst 1, 1) := by decide +kernel
theorem dX10_about_137 : decode cX10_about 137 = .ok (.if_icmp .ne 17, 3) := by decide +kernel
theorem dX10_about_140 : decode cX10_about 140 = .ok (.aload_n 0, 1) := by decide +kernel
theorem dX10_about_141 : decode cX10_about 141 = .ok (.getfield 7, 3) := by decide +kernel
theorem dX10_about_144 : decode cX10_about 144 = .ok (.iconst 3, 1) := by decide +kernel
theorem dX10_about_145 : decode cX10_about 145 = .ok (.iaload, 1) := by decide +kernel
theorem dX10_about_146 : decode cX10_about 146 = .ok (.iload_n 3, 1) := by decide +kernel
theorem dX10_about_147 : decode cX10_about 147 = .ok (.isub, 1) := by decide +kernel
theorem dX10_about_148 : decode cX10_about 148 = .ok (.iload 4, 2) := by decide +kernel
theorem dX10_about_150 : decode cX10_about 150 = .ok (.isub, 1) := by decide +kernel
theorem dX10_about_151 : decode cX10_about 151 = .ok (.goto 15, 3) := by decide +kernel
theorem dX10_about_154 : decode cX10_about 154 = .ok (.iload_n 2, 1) := by decide +kernel
theorem dX10_about_155 : decode cX10_about 155 = .ok (.iconst 2, 1) := by decide +kernel
theorem dX10_about_156 : decode cX10_about 156 = .ok (.if_icmp .ne 8, 3) := by decide +kernel
theorem dX10_about_159 : decode cX10_about 159 = .ok (.iload 4, 2) := by decide +kernel
theorem dX10_about_161 : decode cX10_about 161 = .ok (.goto 5, 3) := by decide +kernel
theorem dX10_about_164 : decode cX10_about 164 = .ok (.iload 5, 2) := by decide +kernel
theorem dX10_about_166 : decode cX10_about 166 = .ok (.ireturn, 1) := by decide +kernel
theorem dX10_parting_0 : decode cX10_parting 0 = .ok (.aload_n 0, 1) := by decide +kernel
theorem dX10_parting_1 : decode cX10_parting 1 = .ok (.iload_n 1, 1) := by decide +kernel
theorem dX10_parting_2 : decode cX10_parting 2 = .ok (.invokevirtual 57, 3) := by decide +kernel
theorem dX10_parting_5 : decode cX10_parting 5 = .ok (.ifCond .ne 6, 3) := by decide +kernel
theorem dX10_parting_8 : decode cX10_parting 8 = .ok (.ldc 163, 2) := by decide +kernel
theorem dX10_parting_10 : decode cX10_parting 10 = .ok (.freturn, 1) := by decide +kernel
theorem dX10_parting_11 : decode cX10_parting 11 = .ok (.aload_n 0, 1) := by decide +kernel
theorem dX10_parting_12 : decode cX10_parting 12 = .ok (.getfield 7, 3) := by decide +kernel
theorem dX10_parting_15 : decode cX10_parting 15 = .ok (.iconst 3, 1) := by decide +kernel
theorem dX10_parting_16 : decode cX10_parting 16 = .ok (.iaload, 1) := by decide +kernel
theorem dX10_parting_17 : decode cX10_parting 17 = .ok (.iconst 2, 1) := by decide +kernel
theorem dX10_parting_18 : decode cX10_parting 18 = .ok (.idiv, 1) := by decide +kernel
theorem dX10_parting_19 : decode cX10_parting 19 = .ok (.istore_n 2, 1) := by decide +kernel
theorem dX10_parting_20 : decode cX10_parting 20 = .ok (.iconst 0, 1) := by decide +kernel
theorem dX10_parting_21 : decode cX10_parting 21 = .ok (.istore_n 3, 1) := by decide +kernel
theorem dX10_parting_22 : decode cX10_parting 22 = .ok (.iconst 0, 1) := by decide +kernel
theorem dX10_parting_23 : decode cX10_parting 23 = .ok (.istore 4, 2) := by decide +kernel
theorem dX10_parting_25 : decode cX10_parting 25 = .ok (.iload 4, 2) := by decide +kernel
theorem dX10_parting_27 : decode cX10_parting 27 = .ok (.aload_n 0, 1) := by decide +kernel
theorem dX10_parting_28 : decode cX10_parting 28 = .ok (.getfield 7, 3) := by decide +kernel
theorem dX10_parting_31 : decode cX10_parting 31 = .ok (.iconst 3, 1) := by decide +kernel
theorem dX10_parting_32 : decode cX10_parting 32 = .ok (.iaload, 1) := by decide +kernel
theorem dX10_parting_33 : decode cX10_parting 33 = .ok (.if_icmp .ge 130, 3) := by decide +kernel
theorem dX10_parting_36 : decode cX10_parting 36 = .ok (.iconst 0, 1) := by decide +kernel
theorem dX10_parting_37 : decode cX10_parting 37 = .ok (.istore 5, 2) := by decide +kernel
theorem dX10_parting_39 : decode cX10_parting 39 = .ok (.iconst 0, 1) := by decide +kernel
theorem dX10_parting_40 : decode cX10_parting 40 = .ok (.istore 6, 2) := by decide +kernel
theorem dX10_parting_42 : decode cX10_parting 42 = .ok (.iload 6, 2) := by decide +kernel
theorem dX10_parting_44 : decode cX10_parting 44 = .ok (.aload_n 0, 1) := by decide +kernel
theorem dX10_parting_45 : decode cX10_parting 45 = .ok (.getfield 7, 3) := by decide +kernel
theorem dX10_parting_48 : decode cX10_parting 48 = .ok (.iconst 3, 1) := by decide +kernel
theorem dX10_parting_49 : decode cX10_parting 49 = .ok (.iaload, 1) := by decide +kernel
theorem dX10_parting_50 : decode cX10_parting 50 = .ok (.if_icmp .ge 56, 3) := by decide +kernel
theorem dX10_parting_53 : decode cX10_parting 53 = .ok (.iload 5, 2) := by decide +kernel
theorem dX10_parting_55 : decode cX10_parting 55 = .ok (.aload_n 0, 1) := by decide +kernel
theorem dX10_parting_56 : decode cX10_parting 56 = .ok (.iload 6, 2) := by decide +kernel
theorem dX10_parting_58 : decode cX10_parting 58 = .ok (.invokevirtual 145, 3) := by decide +kernel
theorem dX10_parting_61 : decode cX10_parting 61 = .ok (.aload_n 0, 1) := by decide +kernel
theorem dX10_parting_62 : decode cX10_parting 62 = .ok (.iload 4, 2) := by decide +kernel
theorem dX10_parting_64 : decode cX10_parting 64 = .ok (.invokevirtual 145, 3) := by decide +kernel
theorem dX10_parting_67 : decode cX10_parting 67 = .ok (.if_icmp .gt 25, 3) := by decide +kernel
theorem dX10_parting_70 : decode cX10_parting 70 = .ok (.aload_n 0, 1) := by decide +kernel
theorem dX10_parting_71 : decode cX10_parting 71 = .ok (.iload 6, 2) := by decide +kernel
theorem dX10_parting_73 : decode cX10_parting 73 = .ok (.invokevirtual 145, 3) := by decide +kernel
theorem dX10_parting_76 : decode cX10_parting 76 = .ok (.aload_n 0, 1) := by decide +kernel
theorem dX10_parting_77 : decode cX10_parting 77 = .ok (.iload 4, 2) := by decide +kernel
theorem dX10_parting_79 : decode cX10_parting 79 = .ok (.invokevirtual 145, 3) := by decide +kernel
theorem dX10_parting_82 : decode cX10_parting 82 = .ok (.if_icmp .ne 14, 3) := by decide +kernel
theorem dX10_parting_85 : decode cX10_parting 85 = .ok (.iload 6, 2) := by decide +kernel
theorem dX10_parting_87 : decode cX10_parting 87 = .ok (.iload 4, 2) := by decide +kernel
theorem dX10_parting_89 : decode cX10_parting 89 = .ok (.if_icmp .ge 7, 3) := by decide +kernel
theorem dX10_parting_92 : decode cX10_parting 92 = .ok (.iconst 1, 1) := by decide +kernel
theorem dX10_parting_93 : decode cX10_parting 93 = .ok (.goto 4, 3) := by decide +kernel
theorem dX10_parting_96 : decode cX10_parting 96 = .ok (.iconst 0, 1) := by decide +kernel
theorem dX10_parting_97 : decode cX10_parting 97 = .ok (.iadd, 1) := by decide +kernel
theorem dX10_parting_98 : decode cX10_parting 98 = .ok (.istore 5, 2) := by decide +kernel
theorem dX10_parting_100 : decode cX10_parting 100 = .ok (.iinc 6 1, 3) := by decide +kernel
theorem dX10_parting_103 : decode cX10_parting 103 = .ok (.goto (-61), 3) := by decide +kernel
theorem dX10_parting_106 : decode cX10_parting 106 = .ok (.aload_n 0, 1) := by decide +kernel
theorem dX10_parting_107 : decode cX10_parting 107 = .ok (.iload 4, 2) := by decide +kernel
theorem dX10_parting_109 : decode cX10_parting 109 = .ok (.iload_n 1, 1) := by decide +kernel
theorem dX10_parting_110 : decode cX10_parting 110 = .ok (.invokevirtual 157, 3) := by decide +kernel
theorem dX10_parting_113 : decode cX10_parting 113 = .ok (.aload_n 0, 1) := by decide +kernel
theorem dX10_parting_114 : decode cX10_parting 114 = .ok (.iload_n 1, 1) := by decide +kernel
theorem dX10_parting_115 : decode cX10_parting 115 = .ok (.iconst 1, 1) := by decide +kernel
theorem dX10_parting_116 : decode cX10_parting 116 = .ok (.invokevirtual 61, 3) := by decide +kernel
theorem dX10_parting_119 : decode cX10_parting 119 = .ok (.if_icmp .ne 38, 3) := by decide +kernel
theorem dX10_parting_122 : decode cX10_parting 122 = .ok (.iload_n 3, 1) := by decide +kernel
theorem dX10_parting_123 : decode cX10_parting 123 = .ok (.iload 5, 2) := by decide +kernel
theorem dX10_parting_125 : decode cX10_parting 125 = .ok (.iload_n 2, 1) := by decide +kernel
theorem dX10_parting_126 : decode cX10_parting 126 = .ok (.if_icmp .ge 7, 3) := by decide +kernel
theorem dX10_parting_129 : decode cX10_parting 129 = .ok (.iconst 1, 1) := by decide +kernel
theorem dX10_parting_130 : decode cX10_parting 130 = .ok (.goto 4, 3) := by decide +kernel
theorem dX10_parting_133 : decode cX10_parting 133 = .ok (.iconst 0, 1) := by decide +kernel
theorem dX10_parting_134 : decode cX10_parting 134 = .ok (.iadd, 1) := by decide +kernel
theorem dX10_parting_135 : decode cX10_parting 135 = .ok (.istore_n 3, 1) := by decide +kernel
theorem dX10_parting_136 : decode cX10_parting 136 = .ok (.iload_n 3, 1) := by decide +kernel
theorem dX10_parting_137 : decode cX10_parting 137 = .ok (.iload 5, 2) := by decide +kernel
theorem dX10_parting_139 : decode cX10_parting 139 = .ok (.aload_n 0, 1) := by decide +kernel
theorem dX10_parting_140 : decode cX10_parting 140 = .ok (.getfield 7, 3) := by decide +kernel
theorem dX10_parting_143 : decode cX10_parting 143 = .ok (.iconst 3, 1) := by decide +kernel
theorem dX10_parting_144 : decode cX10_parting 144 = .ok (.iaload, 1) := by decide +kernel
theorem dX10_parting_145 : decode cX10_parting 145 = .ok (.iload_n 2, 1) := by decide +kernel
theorem dX10_parting_146 : decode cX10_parting 146 = .ok (.isub, 1) := by decide +kernel
theorem dX10_parting_147 : decode cX10_parting 147 = .ok (.if_icmp .lt 7, 3) := by decide +kernel
theorem dX10_parting_150 : decode cX10_parting 150 = .ok (.iconst 1, 1) := by decide +kernel
theorem dX10_parting_151 : decode cX10_parting 151 = .ok (.goto 4, 3) := by decide +kernel
theorem dX10_parting_154 : decode cX10_parting 154 = .ok (.iconst 0, 1) := by decide +kernel
theorem dX10_parting_155 : decode cX10_parting 155 = .ok (.isub, 1) := by decide +kernel
theorem dX10_parting_156 : decode cX10_parting 156 = .ok (.istore_n 3, 1) := by decide +kernel
theorem dX10_parting_157 : decode cX10_parting 157 = .ok (.iinc 4 1, 3) := by decide +kernel
theorem dX10_parting_160 : decode cX10_parting 160 = .ok (.goto (-135), 3) := by decide +kernel
theorem dX10_parting_163 : decode cX10_parting 163 = .ok (.iload_n 2, 1) := by decide +kernel
theorem dX10_parting_164 : decode cX10_parting 164 = .ok (.ifCond .ne 7, 3) := by decide +kernel
theorem dX10_parting_167 : decode cX10_parting 167 = .ok (.fconst 0, 1) := by decide +kernel
theorem dX10_parting_168 : decode cX10_parting 168 = .ok (.goto 8, 3) := by decide +kernel
theorem dX10_parting_171 : decode cX10_parting 171 = .ok (.iload_n 3, 1) := by decide +kernel
theorem dX10_parting_172 : decode cX10_parting 172 = .ok (.i2f, 1) := by decide +kernel
theorem dX10_parting_173 : decode cX10_parting 173 = .ok (.iload_n 2, 1) := by decide +kernel
theorem dX10_parting_174 : decode cX10_parting 174 = .ok (.i2f, 1) := by decide +kernel
theorem dX10_parting_175 : decode cX10_parting 175 = .ok (.fdiv, 1) := by decide +kernel
theorem dX10_parting_176 : decode cX10_parting 176 = .ok (.freturn, 1) := by decide +kernel
theorem dX10_mean_0 : decode cX10_mean 0 = .ok (.iconst 0, 1) := by decide +kernel
theorem dX10_mean_1 : decode cX10_mean 1 = .ok (.istore_n 1, 1) := by decide +kernel
theorem dX10_mean_2 : decode cX10_mean 2 = .ok (.iconst 0, 1) := by decide +kernel
theorem dX10_mean_3 : decode cX10_mean 3 = .ok (.istore_n 2, 1) := by decide +kernel
theorem dX10_mean_4 : decode cX10_mean 4 = .ok (.iload_n 2, 1) := by decide +kernel
theorem dX10_mean_5 : decode cX10_mean 5 = .ok (.aload_n 0, 1) := by decide +kernel
theorem dX10_mean_6 : decode cX10_mean 6 = .ok (.getfield 7, 3) := by decide +kernel
theorem dX10_mean_9 : decode cX10_mean 9 = .ok (.iconst 3, 1) := by decide +kernel
theorem dX10_mean_10 : decode cX10_mean 10 = .ok (.iaload, 1) := by decide +kernel
theorem dX10_mean_11 : decode cX10_mean 11 = .ok (.if_icmp .ge 17, 3) := by decide +kernel
theorem dX10_mean_14 : decode cX10_mean 14 = .ok (.iload_n 1, 1) := by decide +kernel
theorem dX10_mean_15 : decode cX10_mean 15 = .ok (.aload_n 0, 1) := by decide +kernel
theorem dX10_mean_16 : decode cX10_mean 16 = .ok (.iload_n 2, 1) := by decide +kernel
theorem dX10_mean_17 : decode cX10_mean 17 = .ok (.invokevirtual 145, 3) := by decide +kernel
theorem dX10_mean_20 : decode cX10_mean 20 = .ok (.iadd, 1) := by decide +kernel
theorem dX10_mean_21 : decode cX10_mean 21 = .ok (.istore_n 1, 1) := by decide +kernel
theorem dX10_mean_22 : decode cX10_mean 22 = .ok (.iinc 2 1, 3) := by decide +kernel
theorem dX10_mean_25 : decode cX10_mean 25 = .ok (.goto (-21), 3) := by decide +kernel
theorem dX10_mean_28 : decode cX10_mean 28 = .ok (.aload_n 0, 1) := by decide +kernel
theorem dX10_mean_29 : decode cX10_mean 29 = .ok (.getfield 7, 3) := by decide +kernel
theorem dX10_mean_32 : decode cX10_mean 32 = .ok (.iconst 3, 1) := by decide +kernel
theorem dX10_mean_33 : decode cX10_mean 33 = .ok (.iaload, 1) := by decide +kernel
theorem dX10_mean_34 : decode cX10_mean 34 = .ok (.ifCond .ne 7, 3) := by decide +kernel
theorem dX10_mean_37 : decode cX10_mean 37 = .ok (.fconst 0, 1) := by decide +kernel
theorem dX10_mean_38 : decode cX10_mean 38 = .ok (.goto 13, 3) := by decide +kernel
theorem dX10_mean_41 : decode cX10_mean 41 = .ok (.iload_n 1, 1) := by decide +kernel
theorem dX10_mean_42 : decode cX10_mean 42 = .ok (.i2f, 1) := by decide +kernel
theorem dX10_mean_43 : decode cX10_mean 43 = .ok (.aload_n 0, 1) := by decide +kernel
theorem dX10_mean_44 : decode cX10_mean 44 = .ok (.getfield 7, 3) := by decide +kernel
theorem dX10_mean_47 : decode cX10_mean 47 = .ok (.iconst 3, 1) := by decide +kernel
theorem dX10_mean_48 : decode cX10_mean 48 = .ok (.iaload, 1) := by decide +kernel
theorem dX10_mean_49 : decode cX10_mean 49 = .ok (.i2f, 1) := by decide +kernel
theorem dX10_mean_50 : decode cX10_mean 50 = .ok (.fdiv, 1) := by decide +kernel
theorem dX10_mean_51 : decode cX10_mean 51 = .ok (.freturn, 1) := by decide +kernel
theorem dX10_shared_0 : decode cX10_shared 0 = .ok (.iconst 0, 1) := by decide +kernel
theorem dX10_shared_1 : decode cX10_shared 1 = .ok (.istore_n 3, 1) := by decide +kernel
theorem dX10_shared_2 : decode cX10_shared 2 = .ok (.iconst 0, 1) := by decide +kernel
theorem dX10_shared_3 : decode cX10_shared 3 = .ok (.istore 4, 2) := by decide +kernel
theorem dX10_shared_5 : decode cX10_shared 5 = .ok (.iload 4, 2) := by decide +kernel
theorem dX10_shared_7 : decode cX10_shared 7 = .ok (.aload_n 0, 1) := by decide +kernel
theorem dX10_shared_8 : decode cX10_shared 8 = .ok (.getfield 7, 3) := by decide +kernel
theorem dX10_shared_11 : decode cX10_shared 11 = .ok (.iconst 0, 1) := by decide +kernel
theorem dX10_shared_12 : decode cX10_shared 12 = .ok (.iaload, 1) := by decide +kernel
theorem dX10_shared_13 : decode cX10_shared 13 = .ok (.if_icmp .ge 58, 3) := by decide +kernel
theorem dX10_shared_16 : decode cX10_shared 16 = .ok (.aload_n 0, 1) := by decide +kernel
theorem dX10_shared_17 : decode cX10_shared 17 = .ok (.iload_n 1, 1) := by decide +kernel
theorem dX10_shared_18 : decode cX10_shared 18 = .ok (.iload 4, 2) := by decide +kernel
theorem dX10_shared_20 : decode cX10_shared 20 = .ok (.invokevirtual 157, 3) := by decide +kernel
theorem dX10_shared_23 : decode cX10_shared 23 = .ok (.istore 5, 2) := by decide +kernel
theorem dX10_shared_25 : decode cX10_shared 25 = .ok (.iload_n 3, 1) := by decide +kernel
theorem dX10_shared_26 : decode cX10_shared 26 = .ok (.iload 5, 2) := by decide +kernel
theorem dX10_shared_28 : decode cX10_shared 28 = .ok (.sipush (-1009), 3) := by decide +kernel
theorem dX10_shared_31 : decode cX10_shared 31 = .ok (.if_icmp .eq 31, 3) := by decide +kernel
theorem dX10_shared_34 : decode cX10_shared 34 = .ok (.iload 5, 2) := by decide +kernel
theorem dX10_shared_36 : decode cX10_shared 36 = .ok (.aload_n 0, 1) := by decide +kernel
theorem dX10_shared_37 : decode cX10_shared 37 = .ok (.iload 4, 2) := by decide +kernel
theorem dX10_shared_39 : decode cX10_shared 39 = .ok (.iconst 1, 1) := by decide +kernel
theorem dX10_shared_40 : decode cX10_shared 40 = .ok (.invokevirtual 61, 3) := by decide +kernel
theorem dX10_shared_43 : decode cX10_shared 43 = .ok (.if_icmp .eq 19, 3) := by decide +kernel
theorem dX10_shared_46 : decode cX10_shared 46 = .ok (.iload 5, 2) := by decide +kernel
theorem dX10_shared_48 : decode cX10_shared 48 = .ok (.aload_n 0, 1) := by decide +kernel
theorem dX10_shared_49 : decode cX10_shared 49 = .ok (.iload_n 2, 1) := by decide +kernel
theorem dX10_shared_50 : decode cX10_shared 50 = .ok (.iload 4, 2) := by decide +kernel
theorem dX10_shared_52 : decode cX10_shared 52 = .ok (.invokevirtual 157, 3) := by decide +kernel
theorem dX10_shared_55 : decode cX10_shared 55 = .ok (.if_icmp .ne 7, 3) := by decide +kernel
theorem dX10_shared_58 : decode cX10_shared 58 = .ok (.iconst 1, 1) := by decide +kernel
theorem dX10_shared_59 : decode cX10_shared 59 = .ok (.goto 4, 3) := by decide +kernel
theorem dX10_shared_62 : decode cX10_shared 62 = .ok (.iconst 0, 1) := by decide +kernel
theorem dX10_shared_63 : decode cX10_shared 63 = .ok (.iadd, 1) := by decide +kernel
theorem dX10_shared_64 : decode cX10_shared 64 = .ok (.istore_n 3, 1) := by decide +kernel
theorem dX10_shared_65 : decode cX10_shared 65 = .ok (.iinc 4 1, 3) := by decide +kernel
theorem dX10_shared_68 : decode cX10_shared 68 = .ok (.goto (-63), 3) := by decide +kernel
theorem dX10_shared_71 : decode cX10_shared 71 = .ok (.iload_n 3, 1) := by decide +kernel
theorem dX10_shared_72 : decode cX10_shared 72 = .ok (.ireturn, 1) := by decide +kernel
theorem dX10_sameWrong_0 : decode cX10_sameWrong 0 = .ok (.aload_n 0, 1) := by decide +kernel
theorem dX10_sameWrong_1 : decode cX10_sameWrong 1 = .ok (.iload_n 1, 1) := by decide +kernel
theorem dX10_sameWrong_2 : decode cX10_sameWrong 2 = .ok (.invokevirtual 151, 3) := by decide +kernel
theorem dX10_sameWrong_5 : decode cX10_sameWrong 5 = .ok (.ifCond .eq 20, 3) := by decide +kernel
theorem dX10_sameWrong_8 : decode cX10_sameWrong 8 = .ok (.aload_n 0, 1) := by decide +kernel
theorem dX10_sameWrong_9 : decode cX10_sameWrong 9 = .ok (.iload_n 2, 1) := by decide +kernel
theorem dX10_sameWrong_10 : decode cX10_sameWrong 10 = .ok (.invokevirtual 151, 3) := by decide +kernel
theorem dX10_sameWrong_13 : decode cX10_sameWrong 13 = .ok (.ifCond .eq 12, 3) := by decide +kernel
theorem dX10_sameWrong_16 : decode cX10_sameWrong 16 = .ok (.aload_n 0, 1) := by decide +kernel
theorem dX10_sameWrong_17 : decode cX10_sameWrong 17 = .ok (.iload_n 1, 1) := by decide +kernel
theorem dX10_sameWrong_18 : decode cX10_sameWrong 18 = .ok (.iload_n 2, 1) := by decide +kernel
theorem dX10_sameWrong_19 : decode cX10_sameWrong 19 = .ok (.invokevirtual 164, 3) := by decide +kernel
theorem dX10_sameWrong_22 : decode cX10_sameWrong 22 = .ok (.goto 6, 3) := by decide +kernel
theorem dX10_sameWrong_25 : decode cX10_sameWrong 25 = .ok (.sipush (-1001), 3) := by decide +kernel
theorem dX10_sameWrong_28 : decode cX10_sameWrong 28 = .ok (.ireturn, 1) := by decide +kernel
theorem dX10_suspects_0 : decode cX10_suspects 0 = .ok (.sipush (-1009), 3) := by decide +kernel
theorem dX10_suspects_3 : decode cX10_suspects 3 = .ok (.istore_n 1, 1) := by decide +kernel
theorem dX10_suspects_4 : decode cX10_suspects 4 = .ok (.iconst (-1), 1) := by decide +kernel
theorem dX10_suspects_5 : decode cX10_suspects 5 = .ok (.istore_n 2, 1) := by decide +kernel
theorem dX10_suspects_6 : decode cX10_suspects 6 = .ok (.iconst 0, 1) := by decide +kernel
theorem dX10_suspects_7 : decode cX10_suspects 7 = .ok (.istore_n 3, 1) := by decide +kernel
theorem dX10_suspects_8 : decode cX10_suspects 8 = .ok (.iload_n 3, 1) := by decide +kernel
theorem dX10_suspects_9 : decode cX10_suspects 9 = .ok (.aload_n 0, 1) := by decide +kernel
theorem dX10_suspects_10 : decode cX10_suspects 10 = .ok (.getfield 7, 3) := by decide +kernel
theorem dX10_suspects_13 : decode cX10_suspects 13 = .ok (.iconst 3, 1) := by decide +kernel
theorem dX10_suspects_14 : decode cX10_suspects 14 = .ok (.iaload, 1) := by decide +kernel
theorem dX10_suspects_15 : decode cX10_suspects 15 = .ok (.if_icmp .ge 71, 3) := by decide +kernel
theorem dX10_suspects_18 : decode cX10_suspects 18 = .ok (.iload_n 3, 1) := by decide +kernel
theorem dX10_suspects_19 : decode cX10_suspects 19 = .ok (.iconst 1, 1) := by decide +kernel
theorem dX10_suspects_20 : decode cX10_suspects 20 = .ok (.iadd, 1) := by decide +kernel
theorem dX10_suspects_21 : decode cX10_suspects 21 = .ok (.istore 4, 2) := by decide +kernel
theorem dX10_suspects_23 : decode cX10_suspects 23 = .ok (.iload 4, 2) := by decide +kernel
theorem dX10_suspects_25 : decode cX10_suspects 25 = .ok (.aload_n 0, 1) := by decide +kernel
theorem dX10_suspects_26 : decode cX10_suspects 26 = .ok (.getfield 7, 3) := by decide +kernel
theorem dX10_suspects_29 : decode cX10_suspects 29 = .ok (.iconst 3, 1) := by decide +kernel
theorem dX10_suspects_30 : decode cX10_suspects 30 = .ok (.iaload, 1) := by decide +kernel
theorem dX10_suspects_31 : decode cX10_suspects 31 = .ok (.if_icmp .ge 49, 3) := by decide +kernel
theorem dX10_suspects_34 : decode cX10_suspects 34 = .ok (.aload_n 0, 1) := by decide +kernel
theorem dX10_suspects_35 : decode cX10_suspects 35 = .ok (.iload_n 3, 1) := by decide +kernel
theorem dX10_suspects_36 : decode cX10_suspects 36 = .ok (.iload 4, 2) := by decide +kernel
theorem dX10_suspects_38 : decode cX10_suspects 38 = .ok (.invokevirtual 164, 3) := by decide +kernel
theorem dX10_suspects_41 : decode cX10_suspects 41 = .ok (.istore 5, 2) := by decide +kernel
theorem dX10_suspects_43 : decode cX10_suspects 43 = .ok (.iload 5, 2) := by decide +kernel
theorem dX10_suspects_45 : decode cX10_suspects 45 = .ok (.iload_n 2, 1) := by decide +kernel
theorem dX10_suspects_46 : decode cX10_suspects 46 = .ok (.if_icmp .le 13, 3) := by decide +kernel
theorem dX10_suspects_49 : decode cX10_suspects 49 = .ok (.bipush 100, 2) := by decide +kernel
theorem dX10_suspects_51 : decode cX10_suspects 51 = .ok (.iload_n 3, 1) := by decide +kernel
theorem dX10_suspects_52 : decode cX10_suspects 52 = .ok (.imul, 1) := by decide +kernel
theorem dX10_suspects_53 : decode cX10_suspects 53 = .ok (.iload 4, 2) := by decide +kernel
theorem dX10_suspects_55 : decode cX10_suspects 55 = .ok (.iadd, 1) := by decide +kernel
theorem dX10_suspects_56 : decode cX10_suspects 56 = .ok (.goto 4, 3) := by decide +kernel
theorem dX10_suspects_59 : decode cX10_suspects 59 = .ok (.iload_n 1, 1) := by decide +kernel
theorem dX10_suspects_60 : decode cX10_suspects 60 = .ok (.istore_n 1, 1) := by decide +kernel
theorem dX10_suspects_61 : decode cX10_suspects 61 = .ok (.iload 5, 2) := by decide +kernel
theorem dX10_suspects_63 : decode cX10_suspects 63 = .ok (.iload_n 2, 1) := by decide +kernel
theorem dX10_suspects_64 : decode cX10_suspects 64 = .ok (.if_icmp .le 8, 3) := by decide +kernel
theorem dX10_suspects_67 : decode cX10_suspects 67 = .ok (.iload 5, 2) := by decide +kernel
theorem dX10_suspects_69 : decode cX10_suspects 69 = .ok (.goto 4, 3) := by decide +kernel
theorem dX10_suspects_72 : decode cX10_suspects 72 = .ok (.iload_n 2, 1) := by decide +kernel
theorem dX10_suspects_73 : decode cX10_suspects 73 = .ok (.istore_n 2, 1) := by decide +kernel
theorem dX10_suspects_74 : decode cX10_suspects 74 = .ok (.iinc 4 1, 3) := by decide +kernel
theorem dX10_suspects_77 : decode cX10_suspects 77 = .ok (.goto (-54), 3) := by decide +kernel
theorem dX10_suspects_80 : decode cX10_suspects 80 = .ok (.iinc 3 1, 3) := by decide +kernel
theorem dX10_suspects_83 : decode cX10_suspects 83 = .ok (.goto (-75), 3) := by decide +kernel
theorem dX10_suspects_86 : decode cX10_suspects 86 = .ok (.iload_n 1, 1) := by decide +kernel
theorem dX10_suspects_87 : decode cX10_suspects 87 = .ok (.ireturn, 1) := by decide +kernel
theorem dX10_mistaken_0 : decode cX10_mistaken 0 = .ok (.aload_n 0, 1) := by decide +kernel
theorem dX10_mistaken_1 : decode cX10_mistaken 1 = .ok (.iload_n 1, 1) := by decide +kernel
theorem dX10_mistaken_2 : decode cX10_mistaken 2 = .ok (.invokevirtual 151, 3) := by decide +kernel
theorem dX10_mistaken_5 : decode cX10_mistaken 5 = .ok (.ifCond .eq 11, 3) := by decide +kernel
theorem dX10_mistaken_8 : decode cX10_mistaken 8 = .ok (.aload_n 0, 1) := by decide +kernel
theorem dX10_mistaken_9 : decode cX10_mistaken 9 = .ok (.iload_n 2, 1) := by decide +kernel
theorem dX10_mistaken_10 : decode cX10_mistaken 10 = .ok (.invokevirtual 103, 3) := by decide +kernel
theorem dX10_mistaken_13 : decode cX10_mistaken 13 = .ok (.ifCond .ne 7, 3) := by decide +kernel
theorem dX10_mistaken_16 : decode cX10_mistaken 16 = .ok (.sipush (-1001), 3) := by decide +kernel
theorem dX10_mistaken_19 : decode cX10_mistaken 19 = .ok (.ireturn, 1) := by decide +kernel
theorem dX10_mistaken_20 : decode cX10_mistaken 20 = .ok (.aload_n 0, 1) := by decide +kernel
theorem dX10_mistaken_21 : decode cX10_mistaken 21 = .ok (.iload_n 2, 1) := by decide +kernel
theorem dX10_mistaken_22 : decode cX10_mistaken 22 = .ok (.invokevirtual 106, 3) := by decide +kernel
theorem dX10_mistaken_25 : decode cX10_mistaken 25 = .ok (.aload_n 0, 1) := by decide +kernel
theorem dX10_mistaken_26 : decode cX10_mistaken 26 = .ok (.iload_n 1, 1) := by decide +kernel
theorem dX10_mistaken_27 : decode cX10_mistaken 27 = .ok (.invokevirtual 136, 3) := by decide +kernel
theorem dX10_mistaken_30 : decode cX10_mistaken 30 = .ok (.invokestatic 142, 3) := by decide +kernel
theorem dX10_mistaken_33 : decode cX10_mistaken 33 = .ok (.ireturn, 1) := by decide +kernel
theorem dX10_undo_0 : decode cX10_undo 0 = .ok (.aload_n 0, 1) := by decide +kernel
theorem dX10_undo_1 : decode cX10_undo 1 = .ok (.getfield 46, 3) := by decide +kernel
theorem dX10_undo_4 : decode cX10_undo 4 = .ok (.ifCond .ne 7, 3) := by decide +kernel
theorem dX10_undo_7 : decode cX10_undo 7 = .ok (.sipush (-1009), 3) := by decide +kernel
theorem dX10_undo_10 : decode cX10_undo 10 = .ok (.ireturn, 1) := by decide +kernel
theorem dX10_undo_11 : decode cX10_undo 11 = .ok (.aload_n 0, 1) := by decide +kernel
theorem dX10_undo_12 : decode cX10_undo 12 = .ok (.dup, 1) := by decide +kernel
theorem dX10_undo_13 : decode cX10_undo 13 = .ok (.getfield 46, 3) := by decide +kernel
theorem dX10_undo_16 : decode cX10_undo 16 = .ok (.iconst 1, 1) := by decide +kernel
theorem dX10_undo_17 : decode cX10_undo 17 = .ok (.isub, 1) := by decide +kernel
theorem dX10_undo_18 : decode cX10_undo 18 = .ok (.putfield 46, 3) := by decide +kernel
theorem dX10_undo_21 : decode cX10_undo 21 = .ok (.iconst 0, 1) := by decide +kernel
theorem dX10_undo_22 : decode cX10_undo 22 = .ok (.istore_n 1, 1) := by decide +kernel
theorem dX10_undo_23 : decode cX10_undo 23 = .ok (.iload_n 1, 1) := by decide +kernel
theorem dX10_undo_24 : decode cX10_undo 24 = .ok (.sipush 540, 3) := by decide +kernel
theorem dX10_undo_27 : decode cX10_undo 27 = .ok (.if_icmp .ge 30, 3) := by decide +kernel
theorem dX10_undo_30 : decode cX10_undo 30 = .ok (.aload_n 0, 1) := by decide +kernel
theorem dX10_undo_31 : decode cX10_undo 31 = .ok (.getfield 7, 3) := by decide +kernel
theorem dX10_undo_34 : decode cX10_undo 34 = .ok (.iload_n 1, 1) := by decide +kernel
theorem dX10_undo_35 : decode cX10_undo 35 = .ok (.aload_n 0, 1) := by decide +kernel
theorem dX10_undo_36 : decode cX10_undo 36 = .ok (.getfield 13, 3) := by decide +kernel
theorem dX10_undo_39 : decode cX10_undo 39 = .ok (.sipush 540, 3) := by decide +kernel
theorem dX10_undo_42 : decode cX10_undo 42 = .ok (.aload_n 0, 1) := by decide +kernel
theorem dX10_undo_43 : decode cX10_undo 43 = .ok (.getfield 46, 3) := by decide +kernel
theorem dX10_undo_46 : decode cX10_undo 46 = .ok (.imul, 1) := by decide +kernel
theorem dX10_undo_47 : decode cX10_undo 47 = .ok (.iload_n 1, 1) := by decide +kernel
theorem dX10_undo_48 : decode cX10_undo 48 = .ok (.iadd, 1) := by decide +kernel
theorem dX10_undo_49 : decode cX10_undo 49 = .ok (.iaload, 1) := by decide +kernel
theorem dX10_undo_50 : decode cX10_undo 50 = .ok (.iastore, 1) := by decide +kernel
theorem dX10_undo_51 : decode cX10_undo 51 = .ok (.iinc 1 1, 3) := by decide +kernel
theorem dX10_undo_54 : decode cX10_undo 54 = .ok (.goto (-31), 3) := by decide +kernel
theorem dX10_undo_57 : decode cX10_undo 57 = .ok (.aload_n 0, 1) := by decide +kernel
theorem dX10_undo_58 : decode cX10_undo 58 = .ok (.getfield 46, 3) := by decide +kernel
theorem dX10_undo_61 : decode cX10_undo 61 = .ok (.ireturn, 1) := by decide +kernel
theorem dX10_fingerprint_0 : decode cX10_fingerprint 0 = .ok (.ldc2_w 167, 3) := by decide +kernel
theorem dX10_fingerprint_3 : decode cX10_fingerprint 3 = .ok (.aload_n 0, 1) := by decide +kernel
theorem dX10_fingerprint_4 : decode cX10_fingerprint 4 = .ok (.getfield 7, 3) := by decide +kernel
theorem dX10_fingerprint_7 : decode cX10_fingerprint 7 = .ok (.iconst 0, 1) := by decide +kernel
theorem dX10_fingerprint_8 : decode cX10_fingerprint 8 = .ok (.iaload, 1) := by decide +kernel
theorem dX10_fingerprint_9 : decode cX10_fingerprint 9 = .ok (.i2l, 1) := by decide +kernel
theorem dX10_fingerprint_10 : decode cX10_fingerprint 10 = .ok (.ladd, 1) := by decide +kernel
theorem dX10_fingerprint_11 : decode cX10_fingerprint 11 = .ok (.lstore_n 1, 1) := by decide +kernel
theorem dX10_fingerprint_12 : decode cX10_fingerprint 12 = .ok (.iconst 0, 1) := by decide +kernel
theorem dX10_fingerprint_13 : decode cX10_fingerprint 13 = .ok (.istore_n 3, 1) := by decide +kernel
theorem dX10_fingerprint_14 : decode cX10_fingerprint 14 = .ok (.iload_n 3, 1) := by decide +kernel
theorem dX10_fingerprint_15 : decode cX10_fingerprint 15 = .ok (.iconst 5, 1) := by decide +kernel
theorem dX10_fingerprint_16 : decode cX10_fingerprint 16 = .ok (.aload_n 0, 1) := by decide +kernel
theorem dX10_fingerprint_17 : decode cX10_fingerprint 17 = .ok (.getfield 7, 3) := by decide +kernel
theorem dX10_fingerprint_20 : decode cX10_fingerprint 20 = .ok (.iconst 0, 1) := by decide +kernel
theorem dX10_fingerprint_21 : decode cX10_fingerprint 21 = .ok (.iaload, 1) := by decide +kernel
theorem dX10_fingerprint_22 : decode cX10_fingerprint 22 = .ok (.imul, 1) := by decide +kernel
theorem dX10_fingerprint_23 : decode cX10_fingerprint 23 = .ok (.if_icmp .ge 26, 3) := by decide +kernel
theorem dX10_fingerprint_26 : decode cX10_fingerprint 26 = .ok (.ldc2_w 169, 3) := by decide +kernel
theorem dX10_fingerprint_29 : decode cX10_fingerprint 29 = .ok (.lload_n 1, 1) := by decide +kernel
theorem dX10_fingerprint_30 : decode cX10_fingerprint 30 = .ok (.lmul, 1) := by decide +kernel
theorem dX10_fingerprint_31 : decode cX10_fingerprint 31 = .ok (.aload_n 0, 1) := by decide +kernel
theorem dX10_fingerprint_32 : decode cX10_fingerprint 32 = .ok (.getfield 7, 3) := by decide +kernel
theorem dX10_fingerprint_35 : decode cX10_fingerprint 35 = .ok (.bipush 10, 2) := by decide +kernel
theorem dX10_fingerprint_37 : decode cX10_fingerprint 37 = .ok (.iload_n 3, 1) := by decide +kernel
theorem dX10_fingerprint_38 : decode cX10_fingerprint 38 = .ok (.iadd, 1) := by decide +kernel
theorem dX10_fingerprint_39 : decode cX10_fingerprint 39 = .ok (.iaload, 1) := by decide +kernel
theorem dX10_fingerprint_40 : decode cX10_fingerprint 40 = .ok (.i2l, 1) := by decide +kernel
theorem dX10_fingerprint_41 : decode cX10_fingerprint 41 = .ok (.ladd, 1) := by decide +kernel
theorem dX10_fingerprint_42 : decode cX10_fingerprint 42 = .ok (.lstore_n 1, 1) := by decide +kernel
theorem dX10_fingerprint_43 : decode cX10_fingerprint 43 = .ok (.iinc 3 1, 3) := by decide +kernel
theorem dX10_fingerprint_46 : decode cX10_fingerprint 46 = .ok (.goto (-32), 3) := by decide +kernel
theorem dX10_fingerprint_49 : decode cX10_fingerprint 49 = .ok (.ldc2_w 169, 3) := by decide +kernel
theorem dX10_fingerprint_52 : decode cX10_fingerprint 52 = .ok (.lload_n 1, 1) := by decide +kernel
theorem dX10_fingerprint_53 : decode cX10_fingerprint 53 = .ok (.lmul, 1) := by decide +kernel
theorem dX10_fingerprint_54 : decode cX10_fingerprint 54 = .ok (.aload_n 0, 1) := by decide +kernel
theorem dX10_fingerprint_55 : decode cX10_fingerprint 55 = .ok (.getfield 7, 3) := by decide +kernel
theorem dX10_fingerprint_58 : decode cX10_fingerprint 58 = .ok (.iconst 1, 1) := by decide +kernel
theorem dX10_fingerprint_59 : decode cX10_fingerprint 59 = .ok (.iaload, 1) := by decide +kernel
theorem dX10_fingerprint_60 : decode cX10_fingerprint 60 = .ok (.i2l, 1) := by decide +kernel
theorem dX10_fingerprint_61 : decode cX10_fingerprint 61 = .ok (.ladd, 1) := by decide +kernel
theorem dX10_fingerprint_62 : decode cX10_fingerprint 62 = .ok (.lstore_n 1, 1) := by decide +kernel
theorem dX10_fingerprint_63 : decode cX10_fingerprint 63 = .ok (.iconst 0, 1) := by decide +kernel
theorem dX10_fingerprint_64 : decode cX10_fingerprint 64 = .ok (.istore_n 3, 1) := by decide +kernel
theorem dX10_fingerprint_65 : decode cX10_fingerprint 65 = .ok (.iload_n 3, 1) := by decide +kernel
theorem dX10_fingerprint_66 : decode cX10_fingerprint 66 = .ok (.aload_n 0, 1) := by decide +kernel
theorem dX10_fingerprint_67 : decode cX10_fingerprint 67 = .ok (.getfield 7, 3) := by decide +kernel
theorem dX10_fingerprint_70 : decode cX10_fingerprint 70 = .ok (.iconst 1, 1) := by decide +kernel
theorem dX10_fingerprint_71 : decode cX10_fingerprint 71 = .ok (.iaload, 1) := by decide +kernel
theorem dX10_fingerprint_72 : decode cX10_fingerprint 72 = .ok (.if_icmp .ge 81, 3) := by decide +kernel
theorem dX10_fingerprint_75 : decode cX10_fingerprint 75 = .ok (.aload_n 0, 1) := by decide +kernel
theorem dX10_fingerprint_76 : decode cX10_fingerprint 76 = .ok (.iload_n 3, 1) := by decide +kernel
theorem dX10_fingerprint_77 : decode cX10_fingerprint 77 = .ok (.invokevirtual 106, 3) := by decide +kernel
theorem dX10_fingerprint_80 : decode cX10_fingerprint 80 = .ok (.aload_n 0, 1) := by decide +kernel
theorem dX10_fingerprint_81 : decode cX10_fingerprint 81 = .ok (.invokevirtual 109, 3) := by decide +kernel
theorem dX10_fingerprint_84 : decode cX10_fingerprint 84 = .ok (.iconst 0, 1) := by decide +kernel
theorem dX10_fingerprint_85 : decode cX10_fingerprint 85 = .ok (.istore 4, 2) := by decide +kernel
theorem dX10_fingerprint_87 : decode cX10_fingerprint 87 = .ok (.iload 4, 2) := by decide +kernel
theorem dX10_fingerprint_89 : decode cX10_fingerprint 89 = .ok (.aload_n 0, 1) := by decide +kernel
theorem dX10_fingerprint_90 : decode cX10_fingerprint 90 = .ok (.getfield 7, 3) := by decide +kernel
theorem dX10_fingerprint_93 : decode cX10_fingerprint 93 = .ok (.iconst 0, 1) := by decide +kernel
theorem dX10_fingerprint_94 : decode cX10_fingerprint 94 = .ok (.iaload, 1) := by decide +kernel
theorem dX10_fingerprint_95 : decode cX10_fingerprint 95 = .ok (.if_icmp .ge 40, 3) := by decide +kernel
theorem dX10_fingerprint_98 : decode cX10_fingerprint 98 = .ok (.iconst 0, 1) := by decide +kernel
theorem dX10_fingerprint_99 : decode cX10_fingerprint 99 = .ok (.istore 5, 2) := by decide +kernel
theorem dX10_fingerprint_101 : decode cX10_fingerprint 101 = .ok (.iload 5, 2) := by decide +kernel
theorem dX10_fingerprint_103 : decode cX10_fingerprint 103 = .ok (.iconst 4, 1) := by decide +kernel
theorem dX10_fingerprint_104 : decode cX10_fingerprint 104 = .ok (.if_icmp .ge 25, 3) := by decide +kernel
theorem dX10_fingerprint_107 : decode cX10_fingerprint 107 = .ok (.ldc2_w 169, 3) := by decide +kernel
theorem dX10_fingerprint_110 : decode cX10_fingerprint 110 = .ok (.lload_n 1, 1) := by decide +kernel
theorem dX10_fingerprint_111 : decode cX10_fingerprint 111 = .ok (.lmul, 1) := by decide +kernel
theorem dX10_fingerprint_112 : decode cX10_fingerprint 112 = .ok (.aload_n 0, 1) := by decide +kernel
theorem dX10_fingerprint_113 : decode cX10_fingerprint 113 = .ok (.iload 4, 2) := by decide +kernel
theorem dX10_fingerprint_115 : decode cX10_fingerprint 115 = .ok (.iload 5, 2) := by decide +kernel
theorem dX10_fingerprint_117 : decode cX10_fingerprint 117 = .ok (.invokevirtual 112, 3) := by decide +kernel
theorem dX10_fingerprint_120 : decode cX10_fingerprint 120 = .ok (.i2l, 1) := by decide +kernel
theorem dX10_fingerprint_121 : decode cX10_fingerprint 121 = .ok (.ladd, 1) := by decide +kernel
theorem dX10_fingerprint_122 : decode cX10_fingerprint 122 = .ok (.lstore_n 1, 1) := by decide +kernel
theorem dX10_fingerprint_123 : decode cX10_fingerprint 123 = .ok (.iinc 5 1, 3) := by decide +kernel
theorem dX10_fingerprint_126 : decode cX10_fingerprint 126 = .ok (.goto (-25), 3) := by decide +kernel
theorem dX10_fingerprint_129 : decode cX10_fingerprint 129 = .ok (.iinc 4 1, 3) := by decide +kernel
theorem dX10_fingerprint_132 : decode cX10_fingerprint 132 = .ok (.goto (-45), 3) := by decide +kernel
theorem dX10_fingerprint_135 : decode cX10_fingerprint 135 = .ok (.ldc2_w 169, 3) := by decide +kernel
theorem dX10_fingerprint_138 : decode cX10_fingerprint 138 = .ok (.lload_n 1, 1) := by decide +kernel
theorem dX10_fingerprint_139 : decode cX10_fingerprint 139 = .ok (.lmul, 1) := by decide +kernel
theorem dX10_fingerprint_140 : decode cX10_fingerprint 140 = .ok (.aload_n 0, 1) := by decide +kernel
theorem dX10_fingerprint_141 : decode cX10_fingerprint 141 = .ok (.getfield 98, 3) := by decide +kernel
theorem dX10_fingerprint_144 : decode cX10_fingerprint 144 = .ok (.i2l, 1) := by decide +kernel
theorem dX10_fingerprint_145 : decode cX10_fingerprint 145 = .ok (.ladd, 1) := by decide +kernel
theorem dX10_fingerprint_146 : decode cX10_fingerprint 146 = .ok (.lstore_n 1, 1) := by decide +kernel
theorem dX10_fingerprint_147 : decode cX10_fingerprint 147 = .ok (.iinc 3 1, 3) := by decide +kernel
theorem dX10_fingerprint_150 : decode cX10_fingerprint 150 = .ok (.goto (-85), 3) := by decide +kernel
theorem dX10_fingerprint_153 : decode cX10_fingerprint 153 = .ok (.ldc2_w 169, 3) := by decide +kernel
theorem dX10_fingerprint_156 : decode cX10_fingerprint 156 = .ok (.lload_n 1, 1) := by decide +kernel
theorem dX10_fingerprint_157 : decode cX10_fingerprint 157 = .ok (.lmul, 1) := by decide +kernel
theorem dX10_fingerprint_158 : decode cX10_fingerprint 158 = .ok (.aload_n 0, 1) := by decide +kernel
theorem dX10_fingerprint_159 : decode cX10_fingerprint 159 = .ok (.getfield 7, 3) := by decide +kernel
theorem dX10_fingerprint_162 : decode cX10_fingerprint 162 = .ok (.iconst 3, 1) := by decide +kernel
theorem dX10_fingerprint_163 : decode cX10_fingerprint 163 = .ok (.iaload, 1) := by decide +kernel
theorem dX10_fingerprint_164 : decode cX10_fingerprint 164 = .ok (.i2l, 1) := by decide +kernel
theorem dX10_fingerprint_165 : decode cX10_fingerprint 165 = .ok (.ladd, 1) := by decide +kernel
theorem dX10_fingerprint_166 : decode cX10_fingerprint 166 = .ok (.lstore_n 1, 1) := by decide +kernel
theorem dX10_fingerprint_167 : decode cX10_fingerprint 167 = .ok (.iconst 0, 1) := by decide +kernel
theorem dX10_fingerprint_168 : decode cX10_fingerprint 168 = .ok (.istore_n 3, 1) := by decide +kernel
theorem dX10_fingerprint_169 : decode cX10_fingerprint 169 = .ok (.iload_n 3, 1) := by decide +kernel
theorem dX10_fingerprint_170 : decode cX10_fingerprint 170 = .ok (.aload_n 0, 1) := by decide +kernel
theorem dX10_fingerprint_171 : decode cX10_fingerprint 171 = .ok (.getfield 7, 3) := by decide +kernel
theorem dX10_fingerprint_174 : decode cX10_fingerprint 174 = .ok (.iconst 3, 1) := by decide +kernel
theorem dX10_fingerprint_175 : decode cX10_fingerprint 175 = .ok (.iaload, 1) := by decide +kernel
theorem dX10_fingerprint_176 : decode cX10_fingerprint 176 = .ok (.if_icmp .ge 74, 3) := by decide +kernel
theorem dX10_fingerprint_179 : decode cX10_fingerprint 179 = .ok (.iconst 0, 1) := by decide +kernel
theorem dX10_fingerprint_180 : decode cX10_fingerprint 180 = .ok (.istore 4, 2) := by decide +kernel
theorem dX10_fingerprint_182 : decode cX10_fingerprint 182 = .ok (.iload 4, 2) := by decide +kernel
theorem dX10_fingerprint_184 : decode cX10_fingerprint 184 = .ok (.iconst 5, 1) := by decide +kernel
theorem dX10_fingerprint_185 : decode cX10_fingerprint 185 = .ok (.if_icmp .ge 24, 3) := by decide +kernel
theorem dX10_fingerprint_188 : decode cX10_fingerprint 188 = .ok (.ldc2_w 169, 3) := by decide +kernel
theorem dX10_fingerprint_191 : decode cX10_fingerprint 191 = .ok (.lload_n 1, 1) := by decide +kernel
theorem dX10_fingerprint_192 : decode cX10_fingerprint 192 = .ok (.lmul, 1) := by decide +kernel
theorem dX10_fingerprint_193 : decode cX10_fingerprint 193 = .ok (.aload_n 0, 1) := by decide +kernel
theorem dX10_fingerprint_194 : decode cX10_fingerprint 194 = .ok (.iload_n 3, 1) := by decide +kernel
theorem dX10_fingerprint_195 : decode cX10_fingerprint 195 = .ok (.iload 4, 2) := by decide +kernel
theorem dX10_fingerprint_197 : decode cX10_fingerprint 197 = .ok (.invokevirtual 154, 3) := by decide +kernel
theorem dX10_fingerprint_200 : decode cX10_fingerprint 200 = .ok (.i2l, 1) := by decide +kernel
theorem dX10_fingerprint_201 : decode cX10_fingerprint 201 = .ok (.ladd, 1) := by decide +kernel
theorem dX10_fingerprint_202 : decode cX10_fingerprint 202 = .ok (.lstore_n 1, 1) := by decide +kernel
theorem dX10_fingerprint_203 : decode cX10_fingerprint 203 = .ok (.iinc 4 1, 3) := by decide +kernel
theorem dX10_fingerprint_206 : decode cX10_fingerprint 206 = .ok (.goto (-24), 3) := by decide +kernel
theorem dX10_fingerprint_209 : decode cX10_fingerprint 209 = .ok (.iconst 0, 1) := by decide +kernel
theorem dX10_fingerprint_210 : decode cX10_fingerprint 210 = .ok (.istore 4, 2) := by decide +kernel
theorem dX10_fingerprint_212 : decode cX10_fingerprint 212 = .ok (.iload 4, 2) := by decide +kernel
theorem dX10_fingerprint_214 : decode cX10_fingerprint 214 = .ok (.aload_n 0, 1) := by decide +kernel
theorem dX10_fingerprint_215 : decode cX10_fingerprint 215 = .ok (.getfield 7, 3) := by decide +kernel
theorem dX10_fingerprint_218 : decode cX10_fingerprint 218 = .ok (.iconst 0, 1) := by decide +kernel
theorem dX10_fingerprint_219 : decode cX10_fingerprint 219 = .ok (.iaload, 1) := by decide +kernel
theorem dX10_fingerprint_220 : decode cX10_fingerprint 220 = .ok (.if_icmp .ge 24, 3) := by decide +kernel
theorem dX10_fingerprint_223 : decode cX10_fingerprint 223 = .ok (.ldc2_w 169, 3) := by decide +kernel
theorem dX10_fingerprint_226 : decode cX10_fingerprint 226 = .ok (.lload_n 1, 1) := by decide +kernel
theorem dX10_fingerprint_227 : decode cX10_fingerprint 227 = .ok (.lmul, 1) := by decide +kernel
theorem dX10_fingerprint_228 : decode cX10_fingerprint 228 = .ok (.aload_n 0, 1) := by decide +kernel
theorem dX10_fingerprint_229 : decode cX10_fingerprint 229 = .ok (.iload_n 3, 1) := by decide +kernel
theorem dX10_fingerprint_230 : decode cX10_fingerprint 230 = .ok (.iload 4, 2) := by decide +kernel
theorem dX10_fingerprint_232 : decode cX10_fingerprint 232 = .ok (.invokevirtual 157, 3) := by decide +kernel
theorem dX10_fingerprint_235 : decode cX10_fingerprint 235 = .ok (.i2l, 1) := by decide +kernel
theorem dX10_fingerprint_236 : decode cX10_fingerprint 236 = .ok (.ladd, 1) := by decide +kernel
theorem dX10_fingerprint_237 : decode cX10_fingerprint 237 = .ok (.lstore_n 1, 1) := by decide +kernel
theorem dX10_fingerprint_238 : decode cX10_fingerprint 238 = .ok (.iinc 4 1, 3) := by decide +kernel
theorem dX10_fingerprint_241 : decode cX10_fingerprint 241 = .ok (.goto (-29), 3) := by decide +kernel
theorem dX10_fingerprint_244 : decode cX10_fingerprint 244 = .ok (.iinc 3 1, 3) := by decide +kernel
theorem dX10_fingerprint_247 : decode cX10_fingerprint 247 = .ok (.goto (-78), 3) := by decide +kernel
theorem dX10_fingerprint_250 : decode cX10_fingerprint 250 = .ok (.lload_n 1, 1) := by decide +kernel
theorem dX10_fingerprint_251 : decode cX10_fingerprint 251 = .ok (.lreturn, 1) := by decide +kernel
end
section
/-! ===== the small machine: cells by number from a base, a shape (classes, lengths, references) and the ints that they hold ===== -/
abbrev ZC : Type := Nat × Nat × List Nat
abbrev ZI : Type := Nat → Nat → Int32
def zren (b : Nat) (v : Value) : Value := match v with
  | .ref a => .ref (b + a)
  | v => v
def zref (b r : Nat) : Option Nat := if r < 2 then none else some (b + (r - 2))
def zval (b r : Nat) (x : Int32) : Value := match r with
  | 0 => .int x
  | 1 => .null
  | r + 2 => .ref (b + r)
def zvals (b : Nat) (f : Nat → Int32) : Nat → List Nat → List Value
  | _, [] => []
  | j, r :: rs => zval b r (f j) :: zvals b f (j + 1) rs
def zcell (cy : Nat → ClassId) (b : Nat) (c : ZC) (f : Nat → Int32) : va_E := match c.1 with
  | 0 => .inr (c.2.1, zvals b f 0 c.2.2)
  | 1 => .inl (cy 0, c.2.1, .inl f)
  | _ => .inl (cy c.2.1, c.2.2.length, .inr (.inr (.inr (.inr (fun j => zref b (c.2.2.getD j 1))))))
def zwld (cy : Nat → ClassId) (b : Nat) (I : ZI) : Nat → List ZC → va_W
  | _, [] => []
  | k, c :: σ => (b + k, zcell cy b c (I k)) :: zwld cy b I (k + 1) σ
def zup (I : ZI) (a k : Nat) (x : Int32) : ZI := fun q => if q = a then upd (I a) k x else I q
def zclr (I : ZI) (a : Nat) : ZI := fun q => if q = a then (fun _ => 0) else I q
def zcp (I : ZI) (d : Nat) (f : Nat → Int32) : ZI := fun q => if q = d then f else I q
theorem zvals_get (b : Nat) (f : Nat → Int32) : ∀ (rs : List Nat) (j k : Nat), (zvals b f j rs)[k]? = rs[k]?.map (fun r => zval b r (f (j + k)))
  | [], j, k => by simp [zvals]
  | r :: rs, j, 0 => by simp [zvals]
  | r :: rs, j, k + 1 => by
    rw [zvals, List.getElem?_cons_succ, List.getElem?_cons_succ, zvals_get b f rs (j + 1) k, show j + 1 + k = j + (k + 1) by omega]
theorem zvals_len (b : Nat) (f : Nat → Int32) : ∀ (rs : List Nat) (j : Nat), (zvals b f j rs).length = rs.length
  | [], j => rfl
  | r :: rs, j => by rw [zvals, List.length_cons, List.length_cons, zvals_len b f rs (j + 1)]
theorem zwld_get (cy : Nat → ClassId) (b : Nat) (I : ZI) : ∀ (σ : List ZC) (j k : Nat), (zwld cy b I j σ)[k]? = σ[k]?.map (fun c => (b + (j + k), zcell cy b c (I (j + k))))
  | [], j, k => by simp [zwld]
  | c :: σ, j, 0 => by simp [zwld]
  | c :: σ, j, k + 1 => by
    rw [zwld, List.getElem?_cons_succ, List.getElem?_cons_succ, zwld_get cy b I σ (j + 1) k, show j + 1 + k = j + (k + 1) by omega]
theorem zwld_len (cy : Nat → ClassId) (b : Nat) (I : ZI) : ∀ (σ : List ZC) (j : Nat), (zwld cy b I j σ).length = σ.length
  | [], j => rfl
  | c :: σ, j => by rw [zwld, List.length_cons, List.length_cons, zwld_len cy b I σ (j + 1)]
theorem zwld_at {cy : Nat → ClassId} {b a : Nat} {I : ZI} {σ : List ZC} {c : ZC} (h : σ[a]? = some c) : (zwld cy b I 0 σ)[a]? = some (b + a, zcell cy b c (I a)) := by
  rw [zwld_get, h, Option.map_some, Nat.zero_add]
/-- one cell's shape and ints anew -/
theorem zwld_set {cy : Nat → ClassId} {b a : Nat} {I J : ZI} {σ : List ZC} {c c' : ZC} (h : σ[a]? = some c) (hJ : ∀ q, q ≠ a → J q = I q) :
    (zwld cy b I 0 σ).set a (b + a, zcell cy b c' (J a)) = zwld cy b J 0 (σ.set a c') := by
  have hl : a < σ.length := (List.getElem?_eq_some_iff.mp h).1
  apply List.ext_getElem?
  intro k
  rw [zwld_get]
  by_cases hk : k = a
  · subst hk
    rw [List.getElem?_set_self (by rw [zwld_len]; exact hl), List.getElem?_set_self hl, Option.map_some, Nat.zero_add]
  · rw [List.getElem?_set_ne (Ne.symm hk), List.getElem?_set_ne (Ne.symm hk), zwld_get, Nat.zero_add, hJ k hk]
theorem zwld_push {cy : Nat → ClassId} {b : Nat} {I J : ZI} {σ : List ZC} {c : ZC} (hJ : ∀ q, q < σ.length → J q = I q) :
    zwld cy b I 0 σ ++ [(b + σ.length, zcell cy b c (J σ.length))] = zwld cy b J 0 (σ ++ [c]) := by
  apply List.ext_getElem?
  intro k
  rw [zwld_get]
  rcases Nat.lt_trichotomy k σ.length with hk | hk | hk
  · rw [List.getElem?_append_left (by rw [zwld_len]; exact hk), List.getElem?_append_left hk, zwld_get, Nat.zero_add, hJ k hk]
  · subst hk
    rw [List.getElem?_append_right (by rw [zwld_len]; exact Nat.le_refl _), List.getElem?_append_right (Nat.le_refl _), zwld_len, Nat.sub_self]
    simp
  · rw [List.getElem?_append_right (by rw [zwld_len]; omega), List.getElem?_append_right (by omega), zwld_len]
    rw [List.getElem?_eq_none (by simp; omega), List.getElem?_eq_none (by simp; omega)]
    rfl
theorem zset_same {α : Type} {l : List α} {a : Nat} {c : α} (h : l[a]? = some c) : l.set a c = l := by
  apply List.ext_getElem?
  intro k
  by_cases hk : k = a
  · subst hk
    rw [List.getElem?_set_self (List.getElem?_eq_some_iff.mp h).1, h]
  · rw [List.getElem?_set_ne (Ne.symm hk)]
theorem zvals_int {b k : Nat} {f : Nat → Int32} {x : Int32} {rs : List Nat} (h : rs[k]? = some 0) : (zvals b f 0 rs).set k (.int x) = zvals b (upd f k x) 0 rs := by
  have hl : k < rs.length := (List.getElem?_eq_some_iff.mp h).1
  apply List.ext_getElem?
  intro j
  rw [zvals_get, Nat.zero_add]
  by_cases hj : j = k
  · subst hj
    rw [List.getElem?_set_self (by rw [zvals_len]; exact hl), h]
    simp [zval, upd]
  · rw [List.getElem?_set_ne (Ne.symm hj), zvals_get, Nat.zero_add]
    simp [upd, hj]
theorem zvals_ref {b k r r0 : Nat} {f : Nat → Int32} {rs : List Nat} (h : rs[k]? = some r0) : (zvals b f 0 rs).set k (.ref (b + r)) = zvals b f 0 (rs.set k (r + 2)) := by
  have hl : k < rs.length := (List.getElem?_eq_some_iff.mp h).1
  apply List.ext_getElem?
  intro j
  rw [zvals_get, Nat.zero_add]
  by_cases hj : j = k
  · subst hj
    rw [List.getElem?_set_self (by rw [zvals_len]; exact hl), List.getElem?_set_self hl]
    rfl
  · rw [List.getElem?_set_ne (Ne.symm hj), List.getElem?_set_ne (Ne.symm hj), zvals_get, Nat.zero_add]
/-! the words of the tables -/
def ZW : List Cond := lw_tbl.filter goodWord
theorem zw_in {w : Cond} (h : w ∈ lw_tbl) (hg : goodWord w = true) : w ∈ ZW := List.mem_filter.mpr ⟨h, hg⟩
def znest : Cond → Bool
  | .fieldLinkNest .. => true
  | .methodLinkNest .. => true
  | _ => false
def zws (y : MethodName) (cc : ByteArray) (nL : Nat) (ret : Option FieldType) : List Cond := Cond.code y cc nL ret :: ZW
def ztys (cy : Nat → ClassId) : List (ClassId × FieldType) := [(cy 0, .int), (cy 1, .object RX4), (cy 2, .object RX8)]
def ZT (cy : Nat → ClassId) (D : va_G) (U : State) : Prop := va_K D vwCl (ztys cy) U ∧ (∀ w ∈ lw_tbl, znest w = true → va_Nw w U) ∧ va_AO RX4 U ∧ va_AO RX8 U
def ZA (b : Nat) : Nat → Prop := fun q => b ≤ q
def ZH (cy : Nat → ClassId) (D : va_G) (b : Nat) (σ : List ZC) (I : ZI) (H : Heap) : Prop := H.size = b + σ.length ∧ va_P D vwCl (zwld cy b I 0 σ) H
theorem ZT.warm {cy : Nat → ClassId} {D : va_G} {s U : State} (hW : s.WarmedH U.vm) (h : ZT cy D s) : ZT cy D U := by
  refine ⟨va_K.moved hW.alike h.1, fun w hw hn => ?_, va_AO.moved hW.alike h.2.2.1, va_AO.moved hW.alike h.2.2.2⟩
  cases w <;> first | (cases hn; done) | exact va_Nw.warmF hW (h.2.1 _ hw hn) | exact va_Nw.warmM hW (h.2.1 _ hw hn)
theorem ZT.same {cy : Nat → ClassId} {D : va_G} {s U : State} (hv : s.vm = U.vm) (h : ZT cy D s) : ZT cy D U := by
  have ha : s.vm.Alike U.vm := by rw [← hv]; exact Vm.Alike.refl _
  refine ⟨va_K.moved ha h.1, fun w hw hn => ?_, va_AO.moved ha h.2.2.1, va_AO.moved ha h.2.2.2⟩
  cases w <;> first | (cases hn; done) | exact va_Nw.same rfl hv (h.2.1 _ hw hn)
theorem zwld_D (cy : Nat → ClassId) (b : Nat) (I : ZI) (σ : List ZC) : va_D (ZA b) (zwld cy b I 0 σ) := by
  have key : ∀ (i : Nat) (p : Nat × va_E), (zwld cy b I 0 σ)[i]? = some p → p.1 = b + i := by
    intro i p hp
    rw [zwld_get] at hp
    obtain ⟨c, -, hc⟩ := Option.map_eq_some_iff.mp hp
    rw [← hc, Nat.zero_add]
  refine ⟨fun i j p q hp hq he => ?_, fun k q hk => ?_⟩
  · have h1 := key i p hp
    have h2 := key j q hq
    omega
  · have h1 := key k q hk
    show b ≤ q.1
    omega
/-! locals by their places; a return address stands for 'not known' -/
def zlv (b : Nat) : Nat → List Value → List (Nat × Value)
  | _, [] => []
  | i, v :: L => match v with
    | .retAddr _ => zlv b (i + 1) L
    | v => (i, zren b v) :: zlv b (i + 1) L
abbrev zj : Value := .retAddr 0
def zknown : Value → Bool
  | .retAddr _ => false
  | _ => true
theorem zren_cat (b : Nat) (v : Value) : (zren b v).category = v.category := by cases v <;> rfl
theorem zlv_cons (b i : Nat) (v : Value) (L : List Value) : zlv b i (v :: L) = if zknown v = true then (i, zren b v) :: zlv b (i + 1) L else zlv b (i + 1) L := by
  cases v <;> rfl
theorem zlv_mem {b : Nat} {q : Nat × Value} : ∀ {L : List Value} {i : Nat}, q ∈ zlv b i L ↔ ∃ (k : Nat) (v : Value), L[k]? = some v ∧ zknown v = true ∧ q = (i + k, zren b v)
  | [], i => by simp [zlv]
  | v :: L, i => by
    rw [zlv_cons]
    constructor
    · intro h
      by_cases hv : zknown v = true
      · rw [if_pos hv] at h
        rcases List.mem_cons.mp h with h | h
        · exact ⟨0, v, rfl, hv, by rw [h, Nat.add_zero]⟩
        · obtain ⟨k, u, h1, h2, h3⟩ := zlv_mem.mp h
          exact ⟨k + 1, u, by rw [List.getElem?_cons_succ]; exact h1, h2, by rw [h3, show i + 1 + k = i + (k + 1) by omega]⟩
      · rw [if_neg hv] at h
        obtain ⟨k, u, h1, h2, h3⟩ := zlv_mem.mp h
        exact ⟨k + 1, u, by rw [List.getElem?_cons_succ]; exact h1, h2, by rw [h3, show i + 1 + k = i + (k + 1) by omega]⟩
    · rintro ⟨k, u, h1, h2, h3⟩
      cases k with
      | zero =>
        rw [List.getElem?_cons_zero] at h1
        cases h1
        rw [if_pos h2, h3, Nat.add_zero]
        exact List.mem_cons_self
      | succ k =>
        rw [List.getElem?_cons_succ] at h1
        have h : q ∈ zlv b (i + 1) L := zlv_mem.mpr ⟨k, u, h1, h2, by rw [h3, show i + 1 + k = i + (k + 1) by omega]⟩
        by_cases hv : zknown v = true
        · rw [if_pos hv]
          exact List.mem_cons_of_mem _ h
        · rw [if_neg hv]
          exact h
theorem zlv_at {b nL k : Nat} {ls : Array Slot} {L : List Value} {v : Value} (h : lv_has ls nL (zlv b 0 L)) (hk : L[k]? = some v) (hv : zknown v = true) : ls[k]? = some (.val (zren b v)) := by
  have := h.2.2 (k, zren b v) (zlv_mem.mpr ⟨k, v, hk, hv, by rw [Nat.zero_add]⟩)
  exact this
theorem zlv_st1 {b nL k : Nat} {ls : Array Slot} {L : List Value} {v : Value} (hg : ∀ j w, L[j]? = some w → j + 1 = k → w.category = 1)
    (h : lv_has ls nL ((k, zren b v) :: (zlv b 0 L).filter (fun q => !(q.1 == k) && !(q.1 + 1 == k && q.2.category == 2)))) : lv_has ls nL (zlv b 0 (L.set k v)) := by
  refine ⟨h.1, h.2.1, fun q hq => h.2.2 q ?_⟩
  obtain ⟨j, w, h1, h2, h3⟩ := zlv_mem.mp hq
  rw [Nat.zero_add] at h3
  by_cases hj : k = j
  · subst hj
    have hl : k < L.length := by
      have := (List.getElem?_eq_some_iff.mp h1).1
      rwa [List.length_set] at this
    rw [List.getElem?_set_self hl] at h1
    cases h1
    rw [h3]
    exact List.mem_cons_self
  · rw [List.getElem?_set_ne hj] at h1
    refine List.mem_cons_of_mem _ (List.mem_filter.mpr ⟨zlv_mem.mpr ⟨j, w, h1, h2, by rw [h3, Nat.zero_add]⟩, ?_⟩)
    rw [h3]
    have hjk : (j == k) = false := by simp; omega
    by_cases hc : j + 1 = k
    · have := hg j w h1 hc
      simp [zren_cat, this, hjk]
    · simp [hc]; omega
theorem zlv_st2 {b nL k : Nat} {ls : Array Slot} {L : List Value} {v : Value} (hg : ∀ j w, L[j]? = some w → j + 1 = k → w.category = 1)
    (h : lv_has ls nL ((k, zren b v) :: (zlv b 0 L).filter (fun q => !(q.1 == k) && (!(q.1 == k + 1) && !(q.1 + 1 == k && q.2.category == 2))))) : lv_has ls nL (zlv b 0 ((L.set k v).set (k + 1) zj)) := by
  refine ⟨h.1, h.2.1, fun q hq => h.2.2 q ?_⟩
  obtain ⟨j, w, h1, h2, h3⟩ := zlv_mem.mp hq
  rw [Nat.zero_add] at h3
  by_cases hj1 : k + 1 = j
  · subst hj1
    have hl : k + 1 < (L.set k v).length := by
      have := (List.getElem?_eq_some_iff.mp h1).1
      rwa [List.length_set] at this
    rw [List.getElem?_set_self hl] at h1
    cases h1
    cases h2
  · rw [List.getElem?_set_ne hj1] at h1
    by_cases hj : k = j
    · subst hj
      have hl : k < L.length := by
        have := (List.getElem?_eq_some_iff.mp h1).1
        rwa [List.length_set] at this
      rw [List.getElem?_set_self hl] at h1
      cases h1
      rw [h3]
      exact List.mem_cons_self
    · rw [List.getElem?_set_ne hj] at h1
      refine List.mem_cons_of_mem _ (List.mem_filter.mpr ⟨zlv_mem.mpr ⟨j, w, h1, h2, by rw [h3, Nat.zero_add]⟩, ?_⟩)
      rw [h3]
      have hjk : (j == k) = false := by simp; omega
      have hjk1 : (j == k + 1) = false := by simp; omega
      by_cases hc : j + 1 = k
      · have := hg j w h1 hc
        simp [zren_cat, this, hjk, hjk1]
      · simp [hc]; omega
theorem zlv_fg {b nL : Nat} {ls : Array Slot} {L L' : List Value} (hL : ∀ (j : Nat) (w : Value), L'[j]? = some w → zknown w = true → L[j]? = some w) (h : lv_has ls nL (zlv b 0 L)) : lv_has ls nL (zlv b 0 L') := by
  refine ⟨h.1, h.2.1, fun q hq => h.2.2 q ?_⟩
  obtain ⟨j, w, h1, h2, h3⟩ := zlv_mem.mp hq
  exact zlv_mem.mpr ⟨j, w, hL j w h1 h2, h2, h3⟩
def zent : List Value → List Value
  | [] => []
  | v :: vs => if v.category = 2 then v :: zj :: zent vs else v :: zent vs
theorem zlv_app (b : Nat) (n : Nat) : ∀ (L : List Value) (i : Nat), zlv b i (L ++ List.replicate n zj) = zlv b i L
  | [], i => by
    induction n generalizing i with
    | zero => rfl
    | succ n ih => rw [List.nil_append, List.replicate_succ, zlv_cons, if_neg (by decide), ← List.nil_append (List.replicate n zj), ih]; rfl
  | v :: L, i => by
    rw [List.cons_append, zlv_cons, zlv_cons, zlv_app b n L (i + 1)]
theorem zent_args (b : Nat) : ∀ (vs : List Value) (i : Nat), (∀ v ∈ vs, zknown v = true) → zlv b i (zent vs) = lv_args i (vs.map (zren b))
  | [], i, _ => rfl
  | v :: vs, i, h => by
    have hv := h v List.mem_cons_self
    have ih := fun j => zent_args b vs j (fun u hu => h u (List.mem_cons_of_mem _ hu))
    rw [List.map_cons, lv_args, zent, zren_cat]
    by_cases hc : v.category = 2
    · rw [if_pos hc, if_pos hc, zlv_cons, if_pos hv, zlv_cons, if_neg (by decide), ih]
    · rw [if_neg hc, if_neg hc, zlv_cons, if_pos hv, ih]
/-! the goal -/
abbrev ZX : Type := Program × Launch × Env × Room × State × MethodId × Array Value × List Frame × Method × Code × (State → Prop) × (Nat → ClassId) × va_G × Nat
def ZOK (X : ZX) (own : String) (cc : ByteArray) (nL d mc ms : Nat) : Prop := match X with
  | (p, _, _, R, s, m, _, _, meth, c, _, cy, D, b) =>
    p.tables.exec = Jvm.exec ∧ c.code = cc ∧ c.maxLocals = nL ∧ s.vm.findClass own = some m.cls ∧ (∀ w ∈ ZW, w.before X.2.2.2.2.2.2.1 s = true) ∧ ZT cy D s ∧ b ≤ s.heap.size ∧ meth.locks = false ∧ d ≤ R.frames ∧ 40 * d ≤ R.locals ∧ mc ≤ R.cells ∧ ms ≤ R.slots
def ZG (X : ZX) (own : String) (cc : ByteArray) (nL d mc ms kc ks pc : Nat) (L st : List Value) (σ : List ZC) (I : ZI) : Prop := match X with
  | (p, l, e, R, s, m, args, below, meth, c, Q, cy, D, b) =>
    ZOK (p, l, e, R, s, m, args, below, meth, c, Q, cy, D, b) own cc nL d mc ms → ∀ (H : Heap) (locs : List Loc) (ls : Array Slot), ZH cy D b σ I H → b + σ.length = s.heap.size + kc → va_S (ZA b) s.heap H locs → lv_has ls nL (zlv b 0 L) →
      W p l e R s m args below meth c H locs kc ks Q (F0 m pc ls (st.map (zren b)))
section ZR
variable {X : ZX} {own : String} {cc : ByteArray} {nL d mc ms kc ks pc : Nat} {L st : List Value} {σ : List ZC} {I : ZI}
/-- fewer locals known -/
theorem z_forget {L' : List Value} (hL : ∀ (j : Nat) (w : Value), L'[j]? = some w → zknown w = true → L[j]? = some w) (k : ZG X own cc nL d mc ms kc ks pc L' st σ I) : ZG X own cc nL d mc ms kc ks pc L st σ I := by
  obtain ⟨p, l, e, R, s, m, args, below, meth, c, Q, cy, D, b⟩ := X
  intro hX H locs ls hH hz hS hl
  exact k hX H locs ls hH hz hS (zlv_fg hL hl)
theorem z_eq {I' : ZI} (h : I = I') (k : ZG X own cc nL d mc ms kc ks pc L st σ I') : ZG X own cc nL d mc ms kc ks pc L st σ I := h ▸ k

theorem z_iconst {n : Int} {v : Int32} (hd : decode cc pc = .ok (.iconst n, 1)) (hv : Int32.ofInt n = v)
    (k : ZG X own cc nL d mc ms kc ks (pc + 1) L (.int v :: st) σ I) : ZG X own cc nL d mc ms kc ks pc L (st) σ I := by
  obtain ⟨p, l, e, R, s, m, args, below, meth, c, Q, cy, D, b⟩ := X
  intro hX H locs ls hH hz hS hl
  exact lv_iconst hX.1 hX.2.1 hd hv (k hX H locs ls hH hz hS hl)
theorem z_bipush {n : Int} {v : Int32} (hd : decode cc pc = .ok (.bipush n, 2)) (hv : (Int8.ofInt n).toInt32 = v)
    (k : ZG X own cc nL d mc ms kc ks (pc + 2) L (.int v :: st) σ I) : ZG X own cc nL d mc ms kc ks pc L (st) σ I := by
  obtain ⟨p, l, e, R, s, m, args, below, meth, c, Q, cy, D, b⟩ := X
  intro hX H locs ls hH hz hS hl
  exact lv_bipush hX.1 hX.2.1 hd hv (k hX H locs ls hH hz hS hl)
theorem z_sipush {n : Int} {v : Int32} (hd : decode cc pc = .ok (.sipush n, 3)) (hv : (Int16.ofInt n).toInt32 = v)
    (k : ZG X own cc nL d mc ms kc ks (pc + 3) L (.int v :: st) σ I) : ZG X own cc nL d mc ms kc ks pc L (st) σ I := by
  obtain ⟨p, l, e, R, s, m, args, below, meth, c, Q, cy, D, b⟩ := X
  intro hX H locs ls hH hz hS hl
  exact lv_sipush hX.1 hX.2.1 hd hv (k hX H locs ls hH hz hS hl)
theorem z_iadd {x y : Int32} (hd : decode cc pc = .ok (.iadd, 1)) 
    (k : ZG X own cc nL d mc ms kc ks (pc + 1) L (.int (x + y) :: st) σ I) : ZG X own cc nL d mc ms kc ks pc L (.int y :: .int x :: st) σ I := by
  obtain ⟨p, l, e, R, s, m, args, below, meth, c, Q, cy, D, b⟩ := X
  intro hX H locs ls hH hz hS hl
  exact lv_iadd hX.1 hX.2.1 hd  (k hX H locs ls hH hz hS hl)
theorem z_isub {x y : Int32} (hd : decode cc pc = .ok (.isub, 1)) 
    (k : ZG X own cc nL d mc ms kc ks (pc + 1) L (.int (x - y) :: st) σ I) : ZG X own cc nL d mc ms kc ks pc L (.int y :: .int x :: st) σ I := by
  obtain ⟨p, l, e, R, s, m, args, below, meth, c, Q, cy, D, b⟩ := X
  intro hX H locs ls hH hz hS hl
  exact lv_isub hX.1 hX.2.1 hd  (k hX H locs ls hH hz hS hl)
theorem z_imul {x y : Int32} (hd : decode cc pc = .ok (.imul, 1)) 
    (k : ZG X own cc nL d mc ms kc ks (pc + 1) L (.int (x * y) :: st) σ I) : ZG X own cc nL d mc ms kc ks pc L (.int y :: .int x :: st) σ I := by
  obtain ⟨p, l, e, R, s, m, args, below, meth, c, Q, cy, D, b⟩ := X
  intro hX H locs ls hH hz hS hl
  exact lv_imul hX.1 hX.2.1 hd  (k hX H locs ls hH hz hS hl)
theorem z_iand {x y : Int32} (hd : decode cc pc = .ok (.iand, 1)) 
    (k : ZG X own cc nL d mc ms kc ks (pc + 1) L (.int (x &&& y) :: st) σ I) : ZG X own cc nL d mc ms kc ks pc L (.int y :: .int x :: st) σ I := by
  obtain ⟨p, l, e, R, s, m, args, below, meth, c, Q, cy, D, b⟩ := X
  intro hX H locs ls hH hz hS hl
  exact lv_iand hX.1 hX.2.1 hd  (k hX H locs ls hH hz hS hl)
theorem z_ishl {x y : Int32} (hd : decode cc pc = .ok (.ishl, 1)) 
    (k : ZG X own cc nL d mc ms kc ks (pc + 1) L (.int (x <<< (y &&& 31)) :: st) σ I) : ZG X own cc nL d mc ms kc ks pc L (.int y :: .int x :: st) σ I := by
  obtain ⟨p, l, e, R, s, m, args, below, meth, c, Q, cy, D, b⟩ := X
  intro hX H locs ls hH hz hS hl
  exact lv_ishl hX.1 hX.2.1 hd  (k hX H locs ls hH hz hS hl)
theorem z_ishr {x y : Int32} (hd : decode cc pc = .ok (.ishr, 1)) 
    (k : ZG X own cc nL d mc ms kc ks (pc + 1) L (.int (x >>> (y &&& 31)) :: st) σ I) : ZG X own cc nL d mc ms kc ks pc L (.int y :: .int x :: st) σ I := by
  obtain ⟨p, l, e, R, s, m, args, below, meth, c, Q, cy, D, b⟩ := X
  intro hX H locs ls hH hz hS hl
  exact lv_ishr hX.1 hX.2.1 hd  (k hX H locs ls hH hz hS hl)
theorem z_idiv {x y : Int32} (hd : decode cc pc = .ok (.idiv, 1)) (hne : ¬ y = 0)
    (k : ZG X own cc nL d mc ms kc ks (pc + 1) L (.int (x / y) :: st) σ I) : ZG X own cc nL d mc ms kc ks pc L (.int y :: .int x :: st) σ I := by
  obtain ⟨p, l, e, R, s, m, args, below, meth, c, Q, cy, D, b⟩ := X
  intro hX H locs ls hH hz hS hl
  exact lv_idiv hX.1 hX.2.1 hd hne (k hX H locs ls hH hz hS hl)
theorem z_irem {x y : Int32} (hd : decode cc pc = .ok (.irem, 1)) (hne : ¬ y = 0)
    (k : ZG X own cc nL d mc ms kc ks (pc + 1) L (.int (x - x / y * y) :: st) σ I) : ZG X own cc nL d mc ms kc ks pc L (.int y :: .int x :: st) σ I := by
  obtain ⟨p, l, e, R, s, m, args, below, meth, c, Q, cy, D, b⟩ := X
  intro hX H locs ls hH hz hS hl
  exact lv_irem hX.1 hX.2.1 hd hne (k hX H locs ls hH hz hS hl)
theorem z_iushr {x y : Int32} (hd : decode cc pc = .ok (.iushr, 1)) 
    (k : ZG X own cc nL d mc ms kc ks (pc + 1) L (.int ((x.toUInt32 >>> (y.toUInt32 &&& Int32.toUInt32 31)).toInt32) :: st) σ I) : ZG X own cc nL d mc ms kc ks pc L (.int y :: .int x :: st) σ I := by
  obtain ⟨p, l, e, R, s, m, args, below, meth, c, Q, cy, D, b⟩ := X
  intro hX H locs ls hH hz hS hl
  exact lv_iushr hX.1 hX.2.1 hd rfl (k hX H locs ls hH hz hS hl)
theorem z_i2l {x : Int32} (hd : decode cc pc = .ok (.i2l, 1)) 
    (k : ZG X own cc nL d mc ms kc ks (pc + 1) L (.long x.toInt64 :: st) σ I) : ZG X own cc nL d mc ms kc ks pc L (.int x :: st) σ I := by
  obtain ⟨p, l, e, R, s, m, args, below, meth, c, Q, cy, D, b⟩ := X
  intro hX H locs ls hH hz hS hl
  exact lv_i2l hX.1 hX.2.1 hd rfl (k hX H locs ls hH hz hS hl)
theorem z_ladd {x y : Int64} (hd : decode cc pc = .ok (.ladd, 1)) 
    (k : ZG X own cc nL d mc ms kc ks (pc + 1) L (.long (x + y) :: st) σ I) : ZG X own cc nL d mc ms kc ks pc L (.long y :: .long x :: st) σ I := by
  obtain ⟨p, l, e, R, s, m, args, below, meth, c, Q, cy, D, b⟩ := X
  intro hX H locs ls hH hz hS hl
  exact lv_ladd hX.1 hX.2.1 hd  (k hX H locs ls hH hz hS hl)
theorem z_lmul {x y : Int64} (hd : decode cc pc = .ok (.lmul, 1)) 
    (k : ZG X own cc nL d mc ms kc ks (pc + 1) L (.long (x * y) :: st) σ I) : ZG X own cc nL d mc ms kc ks pc L (.long y :: .long x :: st) σ I := by
  obtain ⟨p, l, e, R, s, m, args, below, meth, c, Q, cy, D, b⟩ := X
  intro hX H locs ls hH hz hS hl
  exact lv_lmul hX.1 hX.2.1 hd  (k hX H locs ls hH hz hS hl)
theorem z_i2f {x : Int32} (hd : decode cc pc = .ok (.i2f, 1)) 
    (k : ZG X own cc nL d mc ms kc ks (pc + 1) L (.float (FP.i2f x) :: st) σ I) : ZG X own cc nL d mc ms kc ks pc L (.int x :: st) σ I := by
  obtain ⟨p, l, e, R, s, m, args, below, meth, c, Q, cy, D, b⟩ := X
  intro hX H locs ls hH hz hS hl
  exact lv_i2f hX.1 hX.2.1 hd  (k hX H locs ls hH hz hS hl)
theorem z_fdiv {x y : UInt32} (hd : decode cc pc = .ok (.fdiv, 1)) (hne : vf_n32 (FP.fdiv x y))
    (k : ZG X own cc nL d mc ms kc ks (pc + 1) L (.float (FP.fdiv x y) :: st) σ I) : ZG X own cc nL d mc ms kc ks pc L (.float y :: .float x :: st) σ I := by
  obtain ⟨p, l, e, R, s, m, args, below, meth, c, Q, cy, D, b⟩ := X
  intro hX H locs ls hH hz hS hl
  exact lv_fdiv hX.1 hX.2.1 hd hne (k hX H locs ls hH hz hS hl)
theorem z_f2d {x : UInt32} (hd : decode cc pc = .ok (.f2d, 1)) (hne : vf_n64 (FP.f2d x))
    (k : ZG X own cc nL d mc ms kc ks (pc + 1) L (.double (FP.f2d x) :: st) σ I) : ZG X own cc nL d mc ms kc ks pc L (.float x :: st) σ I := by
  obtain ⟨p, l, e, R, s, m, args, below, meth, c, Q, cy, D, b⟩ := X
  intro hX H locs ls hH hz hS hl
  exact lv_f2d hX.1 hX.2.1 hd hne (k hX H locs ls hH hz hS hl)
theorem z_dcmp {x y : UInt64} {op : CmpOp} (hd : decode cc pc = .ok (.dcmp op, 1)) 
    (k : ZG X own cc nL d mc ms kc ks (pc + 1) L (.int (Op.cmpValue (FP.dcmp x y) op) :: st) σ I) : ZG X own cc nL d mc ms kc ks pc L (.double y :: .double x :: st) σ I := by
  obtain ⟨p, l, e, R, s, m, args, below, meth, c, Q, cy, D, b⟩ := X
  intro hX H locs ls hH hz hS hl
  exact lv_dcmp hX.1 hX.2.1 hd  (k hX H locs ls hH hz hS hl)
theorem z_fconst0  (hd : decode cc pc = .ok (.fconst 0, 1)) 
    (k : ZG X own cc nL d mc ms kc ks (pc + 1) L (.float FP.fconst0 :: st) σ I) : ZG X own cc nL d mc ms kc ks pc L (st) σ I := by
  obtain ⟨p, l, e, R, s, m, args, below, meth, c, Q, cy, D, b⟩ := X
  intro hX H locs ls hH hz hS hl
  exact lv_fconst0 hX.1 hX.2.1 hd  (k hX H locs ls hH hz hS hl)
theorem z_null  (hd : decode cc pc = .ok (.aconst_null, 1)) 
    (k : ZG X own cc nL d mc ms kc ks (pc + 1) L (.null :: st) σ I) : ZG X own cc nL d mc ms kc ks pc L (st) σ I := by
  obtain ⟨p, l, e, R, s, m, args, below, meth, c, Q, cy, D, b⟩ := X
  intro hX H locs ls hH hz hS hl
  exact lv_null hX.1 hX.2.1 hd  (k hX H locs ls hH hz hS hl)
theorem z_dup {v : Value} (hd : decode cc pc = .ok (.dup, 1)) (hv : v.category = 1)
    (k : ZG X own cc nL d mc ms kc ks (pc + 1) L (v :: v :: st) σ I) : ZG X own cc nL d mc ms kc ks pc L (v :: st) σ I := by
  obtain ⟨p, l, e, R, s, m, args, below, meth, c, Q, cy, D, b⟩ := X
  intro hX H locs ls hH hz hS hl
  exact lv_dup hX.1 hX.2.1 hd (by rw [zren_cat]; exact hv) (k hX H locs ls hH hz hS hl)
theorem z_dup2 {u v : Value} (hd : decode cc pc = .ok (.dup2, 1)) (hu : u.category = 1) (hv : v.category = 1)
    (k : ZG X own cc nL d mc ms kc ks (pc + 1) L (u :: v :: u :: v :: st) σ I) : ZG X own cc nL d mc ms kc ks pc L (u :: v :: st) σ I := by
  obtain ⟨p, l, e, R, s, m, args, below, meth, c, Q, cy, D, b⟩ := X
  intro hX H locs ls hH hz hS hl
  exact lv_dup2_11 hX.1 hX.2.1 hd (by rw [zren_cat]; exact hu) (by rw [zren_cat]; exact hv) (k hX H locs ls hH hz hS hl)
theorem z_lcmp {x y : Int64} (hd : decode cc pc = .ok (.lcmp, 1))
    (k : ZG X own cc nL d mc ms kc ks (pc + 1) L (.int (lg_cmp x y) :: st) σ I) : ZG X own cc nL d mc ms kc ks pc L (.long y :: .long x :: st) σ I := by
  obtain ⟨p, l, e, R, s, m, args, below, meth, c, Q, cy, D, b⟩ := X
  intro hX H locs ls hH hz hS hl
  exact W.lcmp hX.1 hX.2.1 hd (k hX H locs ls hH hz hS hl)
theorem z_ldc {index : Nat} {v : Int32} (hw : Cond.constant own index v ∈ lw_tbl) (hd : decode cc pc = .ok (.ldc index, 2))
    (k : ZG X own cc nL d mc ms kc ks (pc + 2) L (.int v :: st) σ I) : ZG X own cc nL d mc ms kc ks pc L st σ I := by
  obtain ⟨p, l, e, R, s, m, args, below, meth, c, Q, cy, D, b⟩ := X
  intro hX H locs ls hH hz hS hl
  exact lv_ldc hX.1 hX.2.1 hX.2.2.2.1 (hX.2.2.2.2.1 _ (zw_in hw rfl)) hd (k hX H locs ls hH hz hS hl)
theorem z_ldc2 {index : Nat} {v : Int64} (hw : Cond.constantLong own index v ∈ lw_tbl) (hd : decode cc pc = .ok (.ldc2_w index, 3))
    (k : ZG X own cc nL d mc ms kc ks (pc + 3) L (.long v :: st) σ I) : ZG X own cc nL d mc ms kc ks pc L st σ I := by
  obtain ⟨p, l, e, R, s, m, args, below, meth, c, Q, cy, D, b⟩ := X
  intro hX H locs ls hH hz hS hl
  exact lv_ldc2 hX.1 hX.2.1 hX.2.2.2.1 (hX.2.2.2.2.1 _ (zw_in hw rfl)) hd (k hX H locs ls hH hz hS hl)
theorem z_ldcf {index : Nat} {v : UInt32} (hw : Cond.constantFloat own index v ∈ lw_tbl) (hd : decode cc pc = .ok (.ldc index, 2))
    (k : ZG X own cc nL d mc ms kc ks (pc + 2) L (.float v :: st) σ I) : ZG X own cc nL d mc ms kc ks pc L st σ I := by
  obtain ⟨p, l, e, R, s, m, args, below, meth, c, Q, cy, D, b⟩ := X
  intro hX H locs ls hH hz hS hl
  exact lv_ldcf hX.1 hX.2.1 hX.2.2.2.1 (hX.2.2.2.2.1 _ (zw_in hw rfl)) hd (k hX H locs ls hH hz hS hl)
-- branches
theorem z_if_eq {x : Int32} {off : Int} {tgt : Nat} (hd : decode cc pc = .ok (.ifCond .eq off, 3)) (ht : (pc : Int) + off = (tgt : Int))
    (kt : x = 0 → ZG X own cc nL d mc ms kc ks tgt L st σ I) (kf : ¬ x = 0 → ZG X own cc nL d mc ms kc ks (pc + 3) L st σ I) : ZG X own cc nL d mc ms kc ks pc L (.int x :: st) σ I := by
  obtain ⟨p, l, e, R, s, m, args, below, meth, c, Q, cy, D, b⟩ := X
  intro hX H locs ls hH hz hS hl
  exact lv_if_eq hX.1 hX.2.1 hd ht (fun h => kt h hX H locs ls hH hz hS hl) (fun h => kf h hX H locs ls hH hz hS hl)
theorem z_icmp_eq {x y : Int32} {off : Int} {tgt : Nat} (hd : decode cc pc = .ok (.if_icmp .eq off, 3)) (ht : (pc : Int) + off = (tgt : Int))
    (kt : x = y → ZG X own cc nL d mc ms kc ks tgt L st σ I) (kf : ¬ x = y → ZG X own cc nL d mc ms kc ks (pc + 3) L st σ I) : ZG X own cc nL d mc ms kc ks pc L (.int y :: .int x :: st) σ I := by
  obtain ⟨p, l, e, R, s, m, args, below, meth, c, Q, cy, D, b⟩ := X
  intro hX H locs ls hH hz hS hl
  exact lv_icmp_eq hX.1 hX.2.1 hd ht (fun h => kt h hX H locs ls hH hz hS hl) (fun h => kf h hX H locs ls hH hz hS hl)
theorem z_if_ne {x : Int32} {off : Int} {tgt : Nat} (hd : decode cc pc = .ok (.ifCond .ne off, 3)) (ht : (pc : Int) + off = (tgt : Int))
    (kt : ¬ x = 0 → ZG X own cc nL d mc ms kc ks tgt L st σ I) (kf : x = 0 → ZG X own cc nL d mc ms kc ks (pc + 3) L st σ I) : ZG X own cc nL d mc ms kc ks pc L (.int x :: st) σ I := by
  obtain ⟨p, l, e, R, s, m, args, below, meth, c, Q, cy, D, b⟩ := X
  intro hX H locs ls hH hz hS hl
  exact lv_if_ne hX.1 hX.2.1 hd ht (fun h => kt h hX H locs ls hH hz hS hl) (fun h => kf h hX H locs ls hH hz hS hl)
theorem z_icmp_ne {x y : Int32} {off : Int} {tgt : Nat} (hd : decode cc pc = .ok (.if_icmp .ne off, 3)) (ht : (pc : Int) + off = (tgt : Int))
    (kt : ¬ x = y → ZG X own cc nL d mc ms kc ks tgt L st σ I) (kf : x = y → ZG X own cc nL d mc ms kc ks (pc + 3) L st σ I) : ZG X own cc nL d mc ms kc ks pc L (.int y :: .int x :: st) σ I := by
  obtain ⟨p, l, e, R, s, m, args, below, meth, c, Q, cy, D, b⟩ := X
  intro hX H locs ls hH hz hS hl
  exact lv_icmp_ne hX.1 hX.2.1 hd ht (fun h => kt h hX H locs ls hH hz hS hl) (fun h => kf h hX H locs ls hH hz hS hl)
theorem z_if_lt {x : Int32} {off : Int} {tgt : Nat} (hd : decode cc pc = .ok (.ifCond .lt off, 3)) (ht : (pc : Int) + off = (tgt : Int))
    (kt : x < 0 → ZG X own cc nL d mc ms kc ks tgt L st σ I) (kf : ¬ x < 0 → ZG X own cc nL d mc ms kc ks (pc + 3) L st σ I) : ZG X own cc nL d mc ms kc ks pc L (.int x :: st) σ I := by
  obtain ⟨p, l, e, R, s, m, args, below, meth, c, Q, cy, D, b⟩ := X
  intro hX H locs ls hH hz hS hl
  exact lv_if_lt hX.1 hX.2.1 hd ht (fun h => kt h hX H locs ls hH hz hS hl) (fun h => kf h hX H locs ls hH hz hS hl)
theorem z_icmp_lt {x y : Int32} {off : Int} {tgt : Nat} (hd : decode cc pc = .ok (.if_icmp .lt off, 3)) (ht : (pc : Int) + off = (tgt : Int))
    (kt : x < y → ZG X own cc nL d mc ms kc ks tgt L st σ I) (kf : ¬ x < y → ZG X own cc nL d mc ms kc ks (pc + 3) L st σ I) : ZG X own cc nL d mc ms kc ks pc L (.int y :: .int x :: st) σ I := by
  obtain ⟨p, l, e, R, s, m, args, below, meth, c, Q, cy, D, b⟩ := X
  intro hX H locs ls hH hz hS hl
  exact lv_icmp_lt hX.1 hX.2.1 hd ht (fun h => kt h hX H locs ls hH hz hS hl) (fun h => kf h hX H locs ls hH hz hS hl)
theorem z_if_ge {x : Int32} {off : Int} {tgt : Nat} (hd : decode cc pc = .ok (.ifCond .ge off, 3)) (ht : (pc : Int) + off = (tgt : Int))
    (kt : 0 ≤ x → ZG X own cc nL d mc ms kc ks tgt L st σ I) (kf : ¬ 0 ≤ x → ZG X own cc nL d mc ms kc ks (pc + 3) L st σ I) : ZG X own cc nL d mc ms kc ks pc L (.int x :: st) σ I := by
  obtain ⟨p, l, e, R, s, m, args, below, meth, c, Q, cy, D, b⟩ := X
  intro hX H locs ls hH hz hS hl
  exact lv_if_ge hX.1 hX.2.1 hd ht (fun h => kt h hX H locs ls hH hz hS hl) (fun h => kf h hX H locs ls hH hz hS hl)
theorem z_icmp_ge {x y : Int32} {off : Int} {tgt : Nat} (hd : decode cc pc = .ok (.if_icmp .ge off, 3)) (ht : (pc : Int) + off = (tgt : Int))
    (kt : y ≤ x → ZG X own cc nL d mc ms kc ks tgt L st σ I) (kf : ¬ y ≤ x → ZG X own cc nL d mc ms kc ks (pc + 3) L st σ I) : ZG X own cc nL d mc ms kc ks pc L (.int y :: .int x :: st) σ I := by
  obtain ⟨p, l, e, R, s, m, args, below, meth, c, Q, cy, D, b⟩ := X
  intro hX H locs ls hH hz hS hl
  exact lv_icmp_ge hX.1 hX.2.1 hd ht (fun h => kt h hX H locs ls hH hz hS hl) (fun h => kf h hX H locs ls hH hz hS hl)
theorem z_if_gt {x : Int32} {off : Int} {tgt : Nat} (hd : decode cc pc = .ok (.ifCond .gt off, 3)) (ht : (pc : Int) + off = (tgt : Int))
    (kt : 0 < x → ZG X own cc nL d mc ms kc ks tgt L st σ I) (kf : ¬ 0 < x → ZG X own cc nL d mc ms kc ks (pc + 3) L st σ I) : ZG X own cc nL d mc ms kc ks pc L (.int x :: st) σ I := by
  obtain ⟨p, l, e, R, s, m, args, below, meth, c, Q, cy, D, b⟩ := X
  intro hX H locs ls hH hz hS hl
  exact lv_if_gt hX.1 hX.2.1 hd ht (fun h => kt h hX H locs ls hH hz hS hl) (fun h => kf h hX H locs ls hH hz hS hl)
theorem z_icmp_gt {x y : Int32} {off : Int} {tgt : Nat} (hd : decode cc pc = .ok (.if_icmp .gt off, 3)) (ht : (pc : Int) + off = (tgt : Int))
    (kt : y < x → ZG X own cc nL d mc ms kc ks tgt L st σ I) (kf : ¬ y < x → ZG X own cc nL d mc ms kc ks (pc + 3) L st σ I) : ZG X own cc nL d mc ms kc ks pc L (.int y :: .int x :: st) σ I := by
  obtain ⟨p, l, e, R, s, m, args, below, meth, c, Q, cy, D, b⟩ := X
  intro hX H locs ls hH hz hS hl
  exact lv_icmp_gt hX.1 hX.2.1 hd ht (fun h => kt h hX H locs ls hH hz hS hl) (fun h => kf h hX H locs ls hH hz hS hl)
theorem z_if_le {x : Int32} {off : Int} {tgt : Nat} (hd : decode cc pc = .ok (.ifCond .le off, 3)) (ht : (pc : Int) + off = (tgt : Int))
    (kt : x ≤ 0 → ZG X own cc nL d mc ms kc ks tgt L st σ I) (kf : ¬ x ≤ 0 → ZG X own cc nL d mc ms kc ks (pc + 3) L st σ I) : ZG X own cc nL d mc ms kc ks pc L (.int x :: st) σ I := by
  obtain ⟨p, l, e, R, s, m, args, below, meth, c, Q, cy, D, b⟩ := X
  intro hX H locs ls hH hz hS hl
  exact lv_if_le hX.1 hX.2.1 hd ht (fun h => kt h hX H locs ls hH hz hS hl) (fun h => kf h hX H locs ls hH hz hS hl)
theorem z_icmp_le {x y : Int32} {off : Int} {tgt : Nat} (hd : decode cc pc = .ok (.if_icmp .le off, 3)) (ht : (pc : Int) + off = (tgt : Int))
    (kt : x ≤ y → ZG X own cc nL d mc ms kc ks tgt L st σ I) (kf : ¬ x ≤ y → ZG X own cc nL d mc ms kc ks (pc + 3) L st σ I) : ZG X own cc nL d mc ms kc ks pc L (.int y :: .int x :: st) σ I := by
  obtain ⟨p, l, e, R, s, m, args, below, meth, c, Q, cy, D, b⟩ := X
  intro hX H locs ls hH hz hS hl
  exact lv_icmp_le hX.1 hX.2.1 hd ht (fun h => kt h hX H locs ls hH hz hS hl) (fun h => kf h hX H locs ls hH hz hS hl)
theorem z_goto {off : Int} {tgt : Nat} (hd : decode cc pc = .ok (.goto off, 3)) (ht : (pc : Int) + off = (tgt : Int)) (k : ZG X own cc nL d mc ms kc ks tgt L st σ I) : ZG X own cc nL d mc ms kc ks pc L st σ I := by
  obtain ⟨p, l, e, R, s, m, args, below, meth, c, Q, cy, D, b⟩ := X
  intro hX H locs ls hH hz hS hl
  exact lv_goto hX.1 hX.2.1 hd ht (k hX H locs ls hH hz hS hl)
theorem z_ifnull {a : Nat} {off : Int} (hd : decode cc pc = .ok (.ifnull off, 3)) (k : ZG X own cc nL d mc ms kc ks (pc + 3) L st σ I) : ZG X own cc nL d mc ms kc ks pc L (.ref a :: st) σ I := by
  obtain ⟨p, l, e, R, s, m, args, below, meth, c, Q, cy, D, b⟩ := X
  intro hX H locs ls hH hz hS hl
  exact lv_ifnull hX.1 hX.2.1 hd (k hX H locs ls hH hz hS hl)
theorem z_ifnullN {off : Int} {tgt : Nat} (hd : decode cc pc = .ok (.ifnull off, 3)) (ht : (pc : Int) + off = (tgt : Int)) (k : ZG X own cc nL d mc ms kc ks tgt L st σ I) : ZG X own cc nL d mc ms kc ks pc L (.null :: st) σ I := by
  obtain ⟨p, l, e, R, s, m, args, below, meth, c, Q, cy, D, b⟩ := X
  intro hX H locs ls hH hz hS hl
  exact lv_ifnullN hX.1 hX.2.1 hd ht (k hX H locs ls hH hz hS hl)
theorem z_ifnonnull {a : Nat} {off : Int} {tgt : Nat} (hd : decode cc pc = .ok (.ifnonnull off, 3)) (ht : (pc : Int) + off = (tgt : Int)) (k : ZG X own cc nL d mc ms kc ks tgt L st σ I) : ZG X own cc nL d mc ms kc ks pc L (.ref a :: st) σ I := by
  obtain ⟨p, l, e, R, s, m, args, below, meth, c, Q, cy, D, b⟩ := X
  intro hX H locs ls hH hz hS hl
  exact lv_ifnonnull hX.1 hX.2.1 hd ht (k hX H locs ls hH hz hS hl)
theorem z_ifnonnullN {off : Int} (hd : decode cc pc = .ok (.ifnonnull off, 3)) (k : ZG X own cc nL d mc ms kc ks (pc + 3) L st σ I) : ZG X own cc nL d mc ms kc ks pc L (.null :: st) σ I := by
  obtain ⟨p, l, e, R, s, m, args, below, meth, c, Q, cy, D, b⟩ := X
  intro hX H locs ls hH hz hS hl
  exact lv_ifnonnullN hX.1 hX.2.1 hd (k hX H locs ls hH hz hS hl)
theorem z_tableIn {dflt lo hi : Int} {offs : Array Int} {len : Nat} {x : Int32} {off : Int} {tgt : Nat} (hd : decode cc pc = .ok (.tableswitch dflt lo hi offs, len)) (h1 : ¬ x.toInt < lo) (h2 : ¬ hi < x.toInt) (ho : offs[(x.toInt - lo).toNat]? = some off) (ht : (pc : Int) + off = (tgt : Int))
    (k : ZG X own cc nL d mc ms kc ks tgt L st σ I) : ZG X own cc nL d mc ms kc ks pc L (.int x :: st) σ I := by
  obtain ⟨p, l, e, R, s, m, args, below, meth, c, Q, cy, D, b⟩ := X
  intro hX H locs ls hH hz hS hl
  exact lv_tableIn hX.1 hX.2.1 hd h1 h2 ho ht (k hX H locs ls hH hz hS hl)
theorem z_tableOut {dflt lo hi : Int} {offs : Array Int} {len : Nat} {x : Int32} {tgt : Nat} (hd : decode cc pc = .ok (.tableswitch dflt lo hi offs, len)) (h : x.toInt < lo ∨ hi < x.toInt) (ht : (pc : Int) + dflt = (tgt : Int))
    (k : ZG X own cc nL d mc ms kc ks tgt L st σ I) : ZG X own cc nL d mc ms kc ks pc L (.int x :: st) σ I := by
  obtain ⟨p, l, e, R, s, m, args, below, meth, c, Q, cy, D, b⟩ := X
  intro hX H locs ls hH hz hS hl
  exact lv_tableOut hX.1 hX.2.1 hd h ht (k hX H locs ls hH hz hS hl)
theorem z_iload_n {j : Fin 4} {x : Int32} (hd : decode cc pc = .ok (.iload_n j, 1)) (hk : L[(j : Nat)]? = some (.int x)) (k : ZG X own cc nL d mc ms kc ks (pc + 1) L (.int x :: st) σ I) : ZG X own cc nL d mc ms kc ks pc L st σ I := by
  obtain ⟨p, l, e, R, s, m, args, below, meth, c, Q, cy, D, b⟩ := X
  intro hX H locs ls hH hz hS hl
  exact lv_iload_n hX.1 hX.2.1 hd rfl (zlv_at hl hk rfl) (k hX H locs ls hH hz hS hl)
theorem z_iload {j : Nat} {x : Int32} (hd : decode cc pc = .ok (.iload j, 2)) (hk : L[j]? = some (.int x)) (k : ZG X own cc nL d mc ms kc ks (pc + 2) L (.int x :: st) σ I) : ZG X own cc nL d mc ms kc ks pc L st σ I := by
  obtain ⟨p, l, e, R, s, m, args, below, meth, c, Q, cy, D, b⟩ := X
  intro hX H locs ls hH hz hS hl
  exact lv_iload hX.1 hX.2.1 hd (zlv_at hl hk rfl) (k hX H locs ls hH hz hS hl)
theorem z_lload_n {j : Fin 4} {x : Int64} (hd : decode cc pc = .ok (.lload_n j, 1)) (hk : L[(j : Nat)]? = some (.long x)) (k : ZG X own cc nL d mc ms kc ks (pc + 1) L (.long x :: st) σ I) : ZG X own cc nL d mc ms kc ks pc L st σ I := by
  obtain ⟨p, l, e, R, s, m, args, below, meth, c, Q, cy, D, b⟩ := X
  intro hX H locs ls hH hz hS hl
  exact lv_lload_n hX.1 hX.2.1 hd rfl (zlv_at hl hk rfl) (k hX H locs ls hH hz hS hl)
theorem z_lload {j : Nat} {x : Int64} (hd : decode cc pc = .ok (.lload j, 2)) (hk : L[j]? = some (.long x)) (k : ZG X own cc nL d mc ms kc ks (pc + 2) L (.long x :: st) σ I) : ZG X own cc nL d mc ms kc ks pc L st σ I := by
  obtain ⟨p, l, e, R, s, m, args, below, meth, c, Q, cy, D, b⟩ := X
  intro hX H locs ls hH hz hS hl
  exact lv_lload hX.1 hX.2.1 hd (zlv_at hl hk rfl) (k hX H locs ls hH hz hS hl)
theorem z_dload_n {j : Fin 4} {x : UInt64} (hd : decode cc pc = .ok (.dload_n j, 1)) (hk : L[(j : Nat)]? = some (.double x)) (k : ZG X own cc nL d mc ms kc ks (pc + 1) L (.double x :: st) σ I) : ZG X own cc nL d mc ms kc ks pc L st σ I := by
  obtain ⟨p, l, e, R, s, m, args, below, meth, c, Q, cy, D, b⟩ := X
  intro hX H locs ls hH hz hS hl
  exact lv_dload_n hX.1 hX.2.1 hd rfl (zlv_at hl hk rfl) (k hX H locs ls hH hz hS hl)
theorem z_dload {j : Nat} {x : UInt64} (hd : decode cc pc = .ok (.dload j, 2)) (hk : L[j]? = some (.double x)) (k : ZG X own cc nL d mc ms kc ks (pc + 2) L (.double x :: st) σ I) : ZG X own cc nL d mc ms kc ks pc L st σ I := by
  obtain ⟨p, l, e, R, s, m, args, below, meth, c, Q, cy, D, b⟩ := X
  intro hX H locs ls hH hz hS hl
  exact lv_dload hX.1 hX.2.1 hd (zlv_at hl hk rfl) (k hX H locs ls hH hz hS hl)
theorem z_aload_n {j : Fin 4} {x : Nat} (hd : decode cc pc = .ok (.aload_n j, 1)) (hk : L[(j : Nat)]? = some (.ref x)) (k : ZG X own cc nL d mc ms kc ks (pc + 1) L (.ref x :: st) σ I) : ZG X own cc nL d mc ms kc ks pc L st σ I := by
  obtain ⟨p, l, e, R, s, m, args, below, meth, c, Q, cy, D, b⟩ := X
  intro hX H locs ls hH hz hS hl
  exact lv_aload_n hX.1 hX.2.1 hd rfl (zlv_at hl hk rfl) (k hX H locs ls hH hz hS hl)
theorem z_aload {j : Nat} {x : Nat} (hd : decode cc pc = .ok (.aload j, 2)) (hk : L[j]? = some (.ref x)) (k : ZG X own cc nL d mc ms kc ks (pc + 2) L (.ref x :: st) σ I) : ZG X own cc nL d mc ms kc ks pc L st σ I := by
  obtain ⟨p, l, e, R, s, m, args, below, meth, c, Q, cy, D, b⟩ := X
  intro hX H locs ls hH hz hS hl
  exact lv_aload hX.1 hX.2.1 hd (zlv_at hl hk rfl) (k hX H locs ls hH hz hS hl)
theorem z_aload_nN {j : Fin 4} (hd : decode cc pc = .ok (.aload_n j, 1)) (hk : L[(j : Nat)]? = some .null) (k : ZG X own cc nL d mc ms kc ks (pc + 1) L (.null :: st) σ I) : ZG X own cc nL d mc ms kc ks pc L st σ I := by
  obtain ⟨p, l, e, R, s, m, args, below, meth, c, Q, cy, D, b⟩ := X
  intro hX H locs ls hH hz hS hl
  exact lv_aload_nN hX.1 hX.2.1 hd rfl (zlv_at hl hk rfl) (k hX H locs ls hH hz hS hl)
theorem z_aloadN {j : Nat} (hd : decode cc pc = .ok (.aload j, 2)) (hk : L[j]? = some .null) (k : ZG X own cc nL d mc ms kc ks (pc + 2) L (.null :: st) σ I) : ZG X own cc nL d mc ms kc ks pc L st σ I := by
  obtain ⟨p, l, e, R, s, m, args, below, meth, c, Q, cy, D, b⟩ := X
  intro hX H locs ls hH hz hS hl
  exact lv_aloadN hX.1 hX.2.1 hd (zlv_at hl hk rfl) (k hX H locs ls hH hz hS hl)
theorem z_istore_n {j : Fin 4} {x : Int32} (hd : decode cc pc = .ok (.istore_n j, 1)) (hj : (j : Nat) < nL) (hg : ∀ i u, L[i]? = some u → i + 1 = (j : Nat) → u.category = 1) (k : ZG X own cc nL d mc ms kc ks (pc + 1) (L.set j (.int x)) st σ I) : ZG X own cc nL d mc ms kc ks pc L (.int x :: st) σ I := by
  obtain ⟨p, l, e, R, s, m, args, below, meth, c, Q, cy, D, b⟩ := X
  intro hX H locs ls hH hz hS hl
  exact lv_istore_n hX.1 hX.2.1 hd rfl hl hj rfl (fun ls' hl' => k hX H locs ls' hH hz hS (zlv_st1 (v := .int x) hg hl'))
theorem z_istore {j : Nat} {x : Int32} (hd : decode cc pc = .ok (.istore j, 2)) (hj : j < nL) (hg : ∀ i u, L[i]? = some u → i + 1 = j → u.category = 1) (k : ZG X own cc nL d mc ms kc ks (pc + 2) (L.set j (.int x)) st σ I) : ZG X own cc nL d mc ms kc ks pc L (.int x :: st) σ I := by
  obtain ⟨p, l, e, R, s, m, args, below, meth, c, Q, cy, D, b⟩ := X
  intro hX H locs ls hH hz hS hl
  exact lv_istore hX.1 hX.2.1 hd hl hj rfl (fun ls' hl' => k hX H locs ls' hH hz hS (zlv_st1 (v := .int x) hg hl'))
theorem z_astore_n {j : Fin 4} {x : Nat} (hd : decode cc pc = .ok (.astore_n j, 1)) (hj : (j : Nat) < nL) (hg : ∀ i u, L[i]? = some u → i + 1 = (j : Nat) → u.category = 1) (k : ZG X own cc nL d mc ms kc ks (pc + 1) (L.set j (.ref x)) st σ I) : ZG X own cc nL d mc ms kc ks pc L (.ref x :: st) σ I := by
  obtain ⟨p, l, e, R, s, m, args, below, meth, c, Q, cy, D, b⟩ := X
  intro hX H locs ls hH hz hS hl
  exact lv_astore_n hX.1 hX.2.1 hd rfl hl hj rfl (fun ls' hl' => k hX H locs ls' hH hz hS (zlv_st1 (v := .ref x) hg hl'))
theorem z_astore {j : Nat} {x : Nat} (hd : decode cc pc = .ok (.astore j, 2)) (hj : j < nL) (hg : ∀ i u, L[i]? = some u → i + 1 = j → u.category = 1) (k : ZG X own cc nL d mc ms kc ks (pc + 2) (L.set j (.ref x)) st σ I) : ZG X own cc nL d mc ms kc ks pc L (.ref x :: st) σ I := by
  obtain ⟨p, l, e, R, s, m, args, below, meth, c, Q, cy, D, b⟩ := X
  intro hX H locs ls hH hz hS hl
  exact lv_astore hX.1 hX.2.1 hd hl hj rfl (fun ls' hl' => k hX H locs ls' hH hz hS (zlv_st1 (v := .ref x) hg hl'))
theorem z_astore_nN {j : Fin 4} (hd : decode cc pc = .ok (.astore_n j, 1)) (hj : (j : Nat) < nL) (hg : ∀ i u, L[i]? = some u → i + 1 = (j : Nat) → u.category = 1) (k : ZG X own cc nL d mc ms kc ks (pc + 1) (L.set j .null) st σ I) : ZG X own cc nL d mc ms kc ks pc L (.null :: st) σ I := by
  obtain ⟨p, l, e, R, s, m, args, below, meth, c, Q, cy, D, b⟩ := X
  intro hX H locs ls hH hz hS hl
  exact lv_astore_nN hX.1 hX.2.1 hd rfl hl hj rfl (fun ls' hl' => k hX H locs ls' hH hz hS (zlv_st1 (v := .null) hg hl'))
theorem z_astoreN {j : Nat} (hd : decode cc pc = .ok (.astore j, 2)) (hj : j < nL) (hg : ∀ i u, L[i]? = some u → i + 1 = j → u.category = 1) (k : ZG X own cc nL d mc ms kc ks (pc + 2) (L.set j .null) st σ I) : ZG X own cc nL d mc ms kc ks pc L (.null :: st) σ I := by
  obtain ⟨p, l, e, R, s, m, args, below, meth, c, Q, cy, D, b⟩ := X
  intro hX H locs ls hH hz hS hl
  exact lv_astoreN hX.1 hX.2.1 hd hl hj rfl (fun ls' hl' => k hX H locs ls' hH hz hS (zlv_st1 (v := .null) hg hl'))
theorem z_lstore_n {j : Fin 4} {x : Int64} (hd : decode cc pc = .ok (.lstore_n j, 1)) (hj : (j : Nat) + 1 < nL) (hg : ∀ i u, L[i]? = some u → i + 1 = (j : Nat) → u.category = 1) (k : ZG X own cc nL d mc ms kc ks (pc + 1) ((L.set j (.long x)).set (j + 1) zj) st σ I) : ZG X own cc nL d mc ms kc ks pc L (.long x :: st) σ I := by
  obtain ⟨p, l, e, R, s, m, args, below, meth, c, Q, cy, D, b⟩ := X
  intro hX H locs ls hH hz hS hl
  exact lv_lstore_n hX.1 hX.2.1 hd rfl hl hj rfl (fun ls' hl' => k hX H locs ls' hH hz hS (zlv_st2 (v := .long x) hg hl'))
theorem z_lstore {j : Nat} {x : Int64} (hd : decode cc pc = .ok (.lstore j, 2)) (hj : j + 1 < nL) (hg : ∀ i u, L[i]? = some u → i + 1 = j → u.category = 1) (k : ZG X own cc nL d mc ms kc ks (pc + 2) ((L.set j (.long x)).set (j + 1) zj) st σ I) : ZG X own cc nL d mc ms kc ks pc L (.long x :: st) σ I := by
  obtain ⟨p, l, e, R, s, m, args, below, meth, c, Q, cy, D, b⟩ := X
  intro hX H locs ls hH hz hS hl
  exact lv_lstore hX.1 hX.2.1 hd hl hj rfl (fun ls' hl' => k hX H locs ls' hH hz hS (zlv_st2 (v := .long x) hg hl'))
theorem z_dstore_n {j : Fin 4} {x : UInt64} (hd : decode cc pc = .ok (.dstore_n j, 1)) (hj : (j : Nat) + 1 < nL) (hg : ∀ i u, L[i]? = some u → i + 1 = (j : Nat) → u.category = 1) (k : ZG X own cc nL d mc ms kc ks (pc + 1) ((L.set j (.double x)).set (j + 1) zj) st σ I) : ZG X own cc nL d mc ms kc ks pc L (.double x :: st) σ I := by
  obtain ⟨p, l, e, R, s, m, args, below, meth, c, Q, cy, D, b⟩ := X
  intro hX H locs ls hH hz hS hl
  exact lv_dstore_n hX.1 hX.2.1 hd rfl hl hj rfl (fun ls' hl' => k hX H locs ls' hH hz hS (zlv_st2 (v := .double x) hg hl'))
theorem z_dstore {j : Nat} {x : UInt64} (hd : decode cc pc = .ok (.dstore j, 2)) (hj : j + 1 < nL) (hg : ∀ i u, L[i]? = some u → i + 1 = j → u.category = 1) (k : ZG X own cc nL d mc ms kc ks (pc + 2) ((L.set j (.double x)).set (j + 1) zj) st σ I) : ZG X own cc nL d mc ms kc ks pc L (.double x :: st) σ I := by
  obtain ⟨p, l, e, R, s, m, args, below, meth, c, Q, cy, D, b⟩ := X
  intro hX H locs ls hH hz hS hl
  exact lv_dstore hX.1 hX.2.1 hd hl hj rfl (fun ls' hl' => k hX H locs ls' hH hz hS (zlv_st2 (v := .double x) hg hl'))
theorem z_iinc {j : Nat} {n : Int} {x v : Int32} (hd : decode cc pc = .ok (.iinc j n, 3)) (hk : L[j]? = some (.int x)) (hv : x + Int32.ofInt n = v) (hj : j < nL) (hg : ∀ i u, L[i]? = some u → i + 1 = j → u.category = 1) (k : ZG X own cc nL d mc ms kc ks (pc + 3) (L.set j (.int v)) st σ I) : ZG X own cc nL d mc ms kc ks pc L st σ I := by
  obtain ⟨p, l, e, R, s, m, args, below, meth, c, Q, cy, D, b⟩ := X
  intro hX H locs ls hH hz hS hl
  obtain ⟨i, hi⟩ : ∃ i, (zlv b 0 L)[i]? = some (j, Value.int x) := List.getElem?_of_mem (zlv_mem.mpr ⟨j, .int x, hk, rfl, by rw [Nat.zero_add]; rfl⟩)
  exact lv_iinc hX.1 hX.2.1 hd hl hi hv hj rfl (fun ls' hl' => k hX H locs ls' hH hz hS (zlv_st1 (v := .int v) hg hl'))
end ZR
end
section
/-! ===== memory, calls, returns ===== -/
theorem z_tab1 {w : Cond} {i : Nat} (h : tables_1[i]? = some w) : w ∈ lw_tbl := List.mem_append_right _ (List.mem_of_getElem? h)
theorem z_tab0 {w : Cond} {i : Nat} (h : lw_tbl[i]? = some w) : w ∈ lw_tbl := List.mem_of_getElem? h
/-- a class of ours: its words, its fields' types, apart by name; what its fields begin with -/
def ZCl (ci : Nat) (ini : List Nat) : Prop := ∃ (C : String) (T : u_T) (N : Nat) (ty : Nat → FieldType), vwCl[ci]? = some (C, T, N) ∧ (∀ w ∈ u_ws C T N, w ∈ ZW) ∧ (∀ k, k < N → parseFieldDescriptor (T k).2.2.1 = some (ty k)) ∧ (∀ a, a < N → ∀ b, b < N → a ≠ b → (T a).2.1 ≠ (T b).2.1) ∧ Cond.instantiable C N ∈ ZW ∧ Cond.initialized C ∈ ZW ∧ ini.length = N ∧ ∀ k, k < N → defaultValue (ty k) = (match ini.getD k 1 with | 0 => Value.int 0 | _ => Value.null)
/-- a field by its place in a class's pool -/
def ZF (own : String) (idx ci k : Nat) (ty : FieldType) (fin : Bool) : Prop := ∃ (C : String) (T : u_T) (N : Nat), vwCl[ci]? = some (C, T, N) ∧ k < N ∧ (Cond.fieldLink own idx (T k).1 (T k).2.1 (T k).2.2.1 ∈ lw_tbl ∨ ∃ host, Cond.fieldLinkNest own idx (T k).1 (T k).2.1 (T k).2.2.1 host ∈ lw_tbl) ∧ (T k).2.2.2 = fin ∧ parseFieldDescriptor (T k).2.2.1 = some ty ∧ (T k).1 = C
def ZFF (own : String) (idx ci k : Nat) (ty : FieldType) : Prop := ∃ (C : String) (T : u_T) (N : Nat), vwCl[ci]? = some (C, T, N) ∧ k < N ∧ Cond.fieldLink own idx (T k).1 (T k).2.1 (T k).2.2.1 ∈ lw_tbl ∧ (T k).2.2.2 = true ∧ parseFieldDescriptor (T k).2.2.1 = some ty ∧ (T k).1 = C
def zini (ci : Nat) : List Nat := match ci with
  | 0 => [1, 0, 0]
  | 1 => [1, 1, 1, 1, 1, 0, 0]
  | 2 => [0]
  | 3 => [1, 1, 1, 1]
  | 4 => [1, 1, 1, 1, 1, 0, 0]
  | 5 => [1, 0]
  | 6 => [1]
  | 7 => [1, 1, 1, 1, 1, 0]
  | 8 => [1, 1, 1, 0, 0]
  | 9 => [1, 1, 1, 1, 1, 1, 1, 1, 0]
  | 10 => [1, 1, 0, 0, 1, 1, 1, 1, 0, 1, 1, 1, 0, 1, 1, 1, 0]
  | _ => []
theorem zws_0 : ∀ w ∈ u_ws RX0 TX0 3, w ∈ ZW := by
  have h : (u_ws RX0 TX0 3).all (fun w => decide (w ∈ tables_1) && goodWord w) = true := by decide +kernel
  intro w hw
  have h1 := List.all_eq_true.mp h w hw
  simp only [Bool.and_eq_true, decide_eq_true_eq] at h1
  exact zw_in (List.mem_append_right _ h1.1) h1.2
theorem zcl_0 : ZCl 0 [1, 0, 0] := ⟨RX0, TX0, 3, tyX0, rfl, zws_0, tyX0_ok, nmX0, zw_in (List.mem_append_right _ (by decide +kernel)) rfl, zw_in (List.mem_append_right _ (by decide +kernel)) rfl, rfl, by decide +kernel⟩
theorem zws_1 : ∀ w ∈ u_ws RX1 TX1 7, w ∈ ZW := by
  have h : (u_ws RX1 TX1 7).all (fun w => decide (w ∈ tables_1) && goodWord w) = true := by decide +kernel
  intro w hw
  have h1 := List.all_eq_true.mp h w hw
  simp only [Bool.and_eq_true, decide_eq_true_eq] at h1
  exact zw_in (List.mem_append_right _ h1.1) h1.2
theorem zcl_1 : ZCl 1 [1, 1, 1, 1, 1, 0, 0] := ⟨RX1, TX1, 7, tyX1, rfl, zws_1, tyX1_ok, nmX1, zw_in (List.mem_append_right _ (by decide +kernel)) rfl, zw_in (List.mem_append_right _ (by decide +kernel)) rfl, rfl, by decide +kernel⟩
theorem zws_2 : ∀ w ∈ u_ws RX2 TX2 1, w ∈ ZW := by
  have h : (u_ws RX2 TX2 1).all (fun w => decide (w ∈ tables_1) && goodWord w) = true := by decide +kernel
  intro w hw
  have h1 := List.all_eq_true.mp h w hw
  simp only [Bool.and_eq_true, decide_eq_true_eq] at h1
  exact zw_in (List.mem_append_right _ h1.1) h1.2
theorem zcl_2 : ZCl 2 [0] := ⟨RX2, TX2, 1, tyX2, rfl, zws_2, tyX2_ok, nmX2, zw_in (List.mem_append_right _ (by decide +kernel)) rfl, zw_in (List.mem_append_right _ (by decide +kernel)) rfl, rfl, by decide +kernel⟩
theorem zws_3 : ∀ w ∈ u_ws RX3 TX3 4, w ∈ ZW := by
  have h : (u_ws RX3 TX3 4).all (fun w => decide (w ∈ tables_1) && goodWord w) = true := by decide +kernel
  intro w hw
  have h1 := List.all_eq_true.mp h w hw
  simp only [Bool.and_eq_true, decide_eq_true_eq] at h1
  exact zw_in (List.mem_append_right _ h1.1) h1.2
theorem zcl_3 : ZCl 3 [1, 1, 1, 1] := ⟨RX3, TX3, 4, tyX3, rfl, zws_3, tyX3_ok, nmX3, zw_in (List.mem_append_right _ (by decide +kernel)) rfl, zw_in (List.mem_append_right _ (by decide +kernel)) rfl, rfl, by decide +kernel⟩
theorem zws_4 : ∀ w ∈ u_ws RX4 TX4 7, w ∈ ZW := by
  have h : (u_ws RX4 TX4 7).all (fun w => decide (w ∈ tables_1) && goodWord w) = true := by decide +kernel
  intro w hw
  have h1 := List.all_eq_true.mp h w hw
  simp only [Bool.and_eq_true, decide_eq_true_eq] at h1
  exact zw_in (List.mem_append_right _ h1.1) h1.2
theorem zcl_4 : ZCl 4 [1, 1, 1, 1, 1, 0, 0] := ⟨RX4, TX4, 7, tyX4, rfl, zws_4, tyX4_ok, nmX4, zw_in (List.mem_append_right _ (by decide +kernel)) rfl, zw_in (List.mem_append_right _ (by decide +kernel)) rfl, rfl, by decide +kernel⟩
theorem zws_5 : ∀ w ∈ u_ws RX5 TX5 2, w ∈ ZW := by
  have h : (u_ws RX5 TX5 2).all (fun w => decide (w ∈ tables_1) && goodWord w) = true := by decide +kernel
  intro w hw
  have h1 := List.all_eq_true.mp h w hw
  simp only [Bool.and_eq_true, decide_eq_true_eq] at h1
  exact zw_in (List.mem_append_right _ h1.1) h1.2
theorem zcl_5 : ZCl 5 [1, 0] := ⟨RX5, TX5, 2, tyX5, rfl, zws_5, tyX5_ok, nmX5, zw_in (List.mem_append_right _ (by decide +kernel)) rfl, zw_in (List.mem_append_right _ (by decide +kernel)) rfl, rfl, by decide +kernel⟩
theorem zws_6 : ∀ w ∈ u_ws RX6 TX6 1, w ∈ ZW := by
  have h : (u_ws RX6 TX6 1).all (fun w => decide (w ∈ tables_1) && goodWord w) = true := by decide +kernel
  intro w hw
  have h1 := List.all_eq_true.mp h w hw
  simp only [Bool.and_eq_true, decide_eq_true_eq] at h1
  exact zw_in (List.mem_append_right _ h1.1) h1.2
theorem zcl_6 : ZCl 6 [1] := ⟨RX6, TX6, 1, tyX6, rfl, zws_6, tyX6_ok, nmX6, zw_in (List.mem_append_right _ (by decide +kernel)) rfl, zw_in (List.mem_append_right _ (by decide +kernel)) rfl, rfl, by decide +kernel⟩
theorem zws_7 : ∀ w ∈ u_ws RX7 TX7 6, w ∈ ZW := by
  have h : (u_ws RX7 TX7 6).all (fun w => decide (w ∈ tables_1) && goodWord w) = true := by decide +kernel
  intro w hw
  have h1 := List.all_eq_true.mp h w hw
  simp only [Bool.and_eq_true, decide_eq_true_eq] at h1
  exact zw_in (List.mem_append_right _ h1.1) h1.2
theorem zcl_7 : ZCl 7 [1, 1, 1, 1, 1, 0] := ⟨RX7, TX7, 6, tyX7, rfl, zws_7, tyX7_ok, nmX7, zw_in (List.mem_append_right _ (by decide +kernel)) rfl, zw_in (List.mem_append_right _ (by decide +kernel)) rfl, rfl, by decide +kernel⟩
theorem zws_8 : ∀ w ∈ u_ws RX8 TX8 5, w ∈ ZW := by
  have h : (u_ws RX8 TX8 5).all (fun w => decide (w ∈ tables_1) && goodWord w) = true := by decide +kernel
  intro w hw
  have h1 := List.all_eq_true.mp h w hw
  simp only [Bool.and_eq_true, decide_eq_true_eq] at h1
  exact zw_in (List.mem_append_right _ h1.1) h1.2
theorem zcl_8 : ZCl 8 [1, 1, 1, 0, 0] := ⟨RX8, TX8, 5, tyX8, rfl, zws_8, tyX8_ok, nmX8, zw_in (List.mem_append_right _ (by decide +kernel)) rfl, zw_in (List.mem_append_right _ (by decide +kernel)) rfl, rfl, by decide +kernel⟩
theorem zws_9 : ∀ w ∈ u_ws RX9 TX9 9, w ∈ ZW := by
  have h : (u_ws RX9 TX9 9).all (fun w => decide (w ∈ tables_1) && goodWord w) = true := by decide +kernel
  intro w hw
  have h1 := List.all_eq_true.mp h w hw
  simp only [Bool.and_eq_true, decide_eq_true_eq] at h1
  exact zw_in (List.mem_append_right _ h1.1) h1.2
theorem zcl_9 : ZCl 9 [1, 1, 1, 1, 1, 1, 1, 1, 0] := ⟨RX9, TX9, 9, tyX9, rfl, zws_9, tyX9_ok, nmX9, zw_in (List.mem_append_right _ (by decide +kernel)) rfl, zw_in (List.mem_append_right _ (by decide +kernel)) rfl, rfl, by decide +kernel⟩
theorem zws_10 : ∀ w ∈ u_ws RX10 TX10 17, w ∈ ZW := by
  have h : (u_ws RX10 TX10 17).all (fun w => decide (w ∈ tables_1) && goodWord w) = true := by decide +kernel
  intro w hw
  have h1 := List.all_eq_true.mp h w hw
  simp only [Bool.and_eq_true, decide_eq_true_eq] at h1
  exact zw_in (List.mem_append_right _ h1.1) h1.2
theorem zcl_10 : ZCl 10 [1, 1, 0, 0, 1, 1, 1, 1, 0, 1, 1, 1, 0, 1, 1, 1, 0] := ⟨RX10, TX10, 17, tyX10, rfl, zws_10, tyX10_ok, nmX10, zw_in (List.mem_append_right _ (by decide +kernel)) rfl, zw_in (List.mem_append_right _ (by decide +kernel)) rfl, rfl, by decide +kernel⟩
theorem z_ini01 (ci j : Nat) : (zini ci).getD j 1 = 0 ∨ (zini ci).getD j 1 = 1 := by
  have h : ∀ ci, ci < 11 → ∀ x ∈ zini ci, x = 0 ∨ x = 1 := by decide +kernel
  by_cases hc : ci < 11
  · cases e : (zini ci)[j]? with
    | none => right; simp [List.getD, e]
    | some x =>
      have := h ci hc x (List.mem_of_getElem? e)
      simpa [List.getD, e] using this
  · right
    have : zini ci = [] := by
      match ci, hc with
      | n + 11, _ => rfl
    simp [this]
theorem zcl_all {ci : Nat} {r : vw_C} (h : vwCl[ci]? = some r) : ZCl ci (zini ci) := by
  match ci, h with
  | 0, _ => exact zcl_0
  | 1, _ => exact zcl_1
  | 2, _ => exact zcl_2
  | 3, _ => exact zcl_3
  | 4, _ => exact zcl_4
  | 5, _ => exact zcl_5
  | 6, _ => exact zcl_6
  | 7, _ => exact zcl_7
  | 8, _ => exact zcl_8
  | 9, _ => exact zcl_9
  | 10, _ => exact zcl_10
  | n + 11, h => simp [vwCl] at h
def ZM (y : MethodName) (cc : ByteArray) (nL : Nat) (ret : Option FieldType) (n : Nat) : Prop := Cond.code y cc nL ret ∈ lw_tbl ∧ (plainName y.cls = true ∧ Cond.initialized y.cls ∈ lw_tbl) ∧ nL ≤ 21 ∧ y.cls ≠ "java/lang/invoke/MethodHandle" ∧ y.cls ≠ "java/lang/invoke/VarHandle" ∧ (parseMethodDescriptor y.desc).map (fun d => d.parameters.length) = some n
def ZV (own : String) (idx : Nat) (y : MethodName) : Prop := Cond.methodLink own idx y ∈ lw_tbl ∧ Cond.instanceMethod y ∈ lw_tbl ∧ Cond.selects y.cls y y ∈ lw_tbl
def ZS (own : String) (idx : Nat) (y : MethodName) : Prop := Cond.methodLink own idx y ∈ lw_tbl ∧ Cond.static y ∈ lw_tbl
def ZN (own : String) (idx : Nat) (y : MethodName) : Prop := (Cond.methodLink own idx y ∈ lw_tbl ∨ ∃ host, Cond.methodLinkNest own idx y host ∈ lw_tbl) ∧ Cond.instanceMethod y ∈ lw_tbl ∧ y.name = "<init>"
theorem z_good {y : MethodName} {cc : ByteArray} {nL : Nat} {ret : Option FieldType} (h : Cond.code y cc nL ret ∈ lw_tbl) : GoodIn ZW (zws y cc nL ret) := by
  intro w hw
  rcases List.mem_cons.mp hw with rfl | hw
  · exact ⟨zw_in h rfl, good_of_word rfl⟩
  · exact ⟨hw, good_of_word (List.mem_filter.mp hw).2⟩
theorem z_goodV {own : String} {idx n : Nat} {y : MethodName} {cc : ByteArray} {nL : Nat} {ret : Option FieldType} (h : ZM y cc nL ret n) (hV : ZV own idx y) : GoodIn ZW (wsV own idx y.cls y (zws y cc nL ret)) := by
  intro w hw
  rcases List.mem_append.mp hw with hw | hw
  · simp only [List.mem_cons, List.not_mem_nil, or_false] at hw
    rcases hw with rfl | rfl | rfl | rfl
    · exact ⟨zw_in hV.1 rfl, good_of_word rfl⟩
    · exact ⟨zw_in hV.2.1 rfl, good_of_word rfl⟩
    · exact ⟨zw_in hV.2.2 rfl, good_of_word rfl⟩
    · exact ⟨zw_in h.2.1.2 rfl, good_of_word rfl⟩
  · exact z_good h.1 w hw
section ZK
variable {p : Program} {l : Launch} {e : Env} {R : Room} {s : State} {m : MethodId} {args : Array Value} {below : List Frame} {meth : Method} {c : Code} {H : Heap} {locs : List Loc} {cells slots : Nat} {Q : State → Prop}
/-- a run makes no more cells than it has said -/
theorem z_sized {g : JFrame} (k : H.size ≤ s.heap.size + cells → W p l e R s m args below meth c H locs cells slots Q g) : W p l e R s m args below meth c H locs cells slots Q g := by
  intro T hT X
  have h1 : T.heap.size ≤ s.heap.size + cells := X.same.2.2.1
  exact k (by rw [← hT]; exact h1) T hT X
/-- a later heap behind an earlier one -/
theorem z_S {A : Nat → Prop} {H0 H H1 : Heap} {locs locs1 : List Loc} (h0 : va_S A H0 H locs) (h1 : va_S A H H1 locs1) : va_S A H0 H1 locs1 :=
  ⟨Nat.le_trans h0.1 h1.1, fun q hq ha => (h1.2.1 q (Nat.lt_of_lt_of_le hq h0.1) ha).trans (h0.2.1 q hq ha), h1.2.2⟩
theorem z_S0 {A : Nat → Prop} {H0 H : Heap} {locs : List Loc} (h0 : va_S A H0 H locs) : va_S A H H locs := ⟨Nat.le_refl _, fun _ _ _ => rfl, h0.2.2⟩
end ZK
/-- what a method of ours answers and leaves -/
def ZQ (cy : Nat → ClassId) (D : va_G) (b : Nat) (Q : Option Value → List ZC → ZI → Prop) : Array Value → State → Outcome → State → Prop := fun _ st oc t =>
  (∃ (r : Option Value) (σ' : List ZC) (I' : ZI), oc = .returned (r.map (zren b)) ∧ Q r σ' I' ∧ ZH cy D b σ' I' t.heap) ∧ va_F (ZA b) st t
/-- THE CONTRACT of a method: from a world (σ, I) it returns with Q; it makes mc cells of ms slots; d frames are enough below it -/
def ZSp (y : MethodName) (cc : ByteArray) (nL : Nat) (ret : Option FieldType) (d mc ms : Nat) (args : List Value) (σ : List ZC) (I : ZI) (Q : Option Value → List ZC → ZI → Prop) : Prop :=
  ∀ (l : Launch) (cy : Nat → ClassId) (D : va_G) (b : Nat), Met l y (zws y cc nL ret) ({ frames := d, cells := mc, slots := ms, locals := 40 * d }) (va_Pc (args.map (zren b)) (fun U => ZH cy D b σ I U.heap ∧ ZT cy D U)) (ZQ cy D b Q) mc ms (ZA b)
def ZEnd (X : ZX) (ret : Option FieldType) (mc ms : Nat) (Q : Option Value → List ZC → ZI → Prop) : Prop := match X with
  | (_, _, _, _, s, _, args, below, meth, _, Qf, cy, D, b) => meth.sig.returnType = ret ∧ Qf = MQ below (ZQ cy D b Q) args s mc ms (ZA b)
def ZNm (X : ZX) (n : String) : Prop := match X with
  | (_, _, _, _, _, _, _, _, meth, _, _, _, _, _) => meth.name = n
theorem ZSp.of {y : MethodName} {cc : ByteArray} {nL d mc ms : Nat} {ret : Option FieldType} {args : List Value} {σ : List ZC} {I : ZI} {Q : Option Value → List ZC → ZI → Prop} {own : String} {n : Nat} {L : List Value} (hM : ZM y cc nL ret n) (hy : y.cls = own)
    (hk : ∀ v ∈ args, zknown v = true) (hn : (lg_sl args).length ≤ nL) (hL : zent args ++ List.replicate (nL - (zent args).length) zj = L)
    (body : ∀ X : ZX, ZEnd X ret mc ms Q → ZNm X y.name → ZG X own cc nL d mc ms 0 0 0 L [] σ I) : ZSp y cc nL ret d mc ms args σ I Q := by
  intro l cy D b
  refine Met.ofW (cc := cc) (maxL := nL) (ret := ret) hM.2.1.1 rfl ?_
  intro p e s m ar below meth c s₁ B hml hv
  obtain ⟨rfl, hH, hT⟩ := hv
  have hlen : ∀ vs : List Value, (lg_sl (vs.map (zren b))).length = (lg_sl vs).length := by
    intro vs
    induction vs with
    | nil => rfl
    | cons v vs ih =>
      simp only [lg_sl, List.map_cons, List.flatMap_cons, List.length_append] at ih ⊢
      rw [ih, zren_cat]
      by_cases hc : v.category = 2 <;> simp [hc]
  have hl := lv_entry (args.map (zren b)) (n := nL) (by rw [hlen]; exact hn)
  rw [lg_entry_eq]
  generalize ((lg_sl (args.map (zren b))) ++ List.replicate (nL - (lg_sl (args.map (zren b))).length) Slot.unset).toArray = ls at hl ⊢
  have hl2 : lv_has ls nL (zlv b 0 L) := by
    rw [← hL, zlv_app, zent_args b args 0 hk]
    exact hl
  have hts : ∀ w ∈ ZW, w.before (args.map (zren b)).toArray s = true := fun w hw => atoms_spec (ws := zws y cc nL ret) B.pre w (List.mem_cons_of_mem _ hw)
  have hown : s.vm.findClass own = some m.cls := hy ▸ findClass_of_methodNamed B.named
  have hnm : meth.name = y.name := (name_of_methodNamed B.named B.method).1
  exact body (p, l, e, (headSpec (zws y cc nL ret) ({ frames := d, cells := mc, slots := ms, locals := 40 * d })).room, s, m, (args.map (zren b)).toArray, below, meth, c, MQ below (ZQ cy D b Q) (args.map (zren b)).toArray s mc ms (ZA b), cy, D, b) ⟨B.returns, rfl⟩ hnm
    ⟨B.exec, B.bytes, hml, hown, hts, hT, by have := hH.1; omega, B.notSynchronized, Nat.le_refl _, Nat.le_refl _, Nat.le_refl _, Nat.le_refl _⟩ s.heap [] ls hH (by have := hH.1; omega) va_S.rf hl2
section ZR2
variable {X : ZX} {own : String} {cc : ByteArray} {nL d mc ms kc ks pc : Nat} {L st : List Value} {σ : List ZC} {I : ZI}
theorem ZOK.base {own : String} {cc : ByteArray} {nL d mc ms : Nat} (hX : ZOK X own cc nL d mc ms) : X.2.2.2.2.2.2.2.2.2.2.2.2.2 ≤ X.2.2.2.2.1.heap.size := by
  obtain ⟨p, l, e, R, s, m, args, below, meth, c, Q, cy, D, b⟩ := X
  exact hX.2.2.2.2.2.2.1

theorem z_get {idx ci kf a r : Nat} {rs : List Nat} {ty : FieldType} {fin : Bool} (hF : ZF own idx ci kf ty fin) (hd : decode cc pc = .ok (.getfield idx, 3)) (hc : σ[a]? = some (0, ci, rs)) (hk : rs[kf]? = some r)
    (k : ∀ v, v = zval 0 r (I a kf) → ZG X own cc nL d mc ms kc ks (pc + 3) L (v :: st) σ I) : ZG X own cc nL d mc ms kc ks pc L (.ref a :: st) σ I := by
  obtain ⟨p, l, e, R, s, m, args, below, meth, c, Q, cy, D, b⟩ := X
  intro hX H locs ls hH hz hS hl
  obtain ⟨C, T, N, h1, h2, h3, h4, h5, h6⟩ := hF
  obtain ⟨C', T', N', ty', g1, g2, g3, g4, g5, g6, -, -⟩ := zcl_all h1
  cases h1.symm.trans g1
  have he : (zwld cy b I 0 σ)[a]? = some (b + a, .inr (ci, zvals b (I a) 0 rs)) := zwld_at hc
  have hv : (zvals b (I a) 0 rs)[kf]? = some (zval b r (I a kf)) := by rw [zvals_get, hk, Nat.zero_add]; rfl
  have hr : zren b (zval 0 r (I a kf)) = zval b r (I a kf) := by
    match r with
    | 0 => rfl
    | 1 => rfl
    | r + 2 => simp [zval, zren]
  have hk2 := k _ rfl hX H locs ls hH hz hS hl
  rw [List.map_cons, hr] at hk2
  rcases h3 with h3 | ⟨host, h3⟩
  · exact va_get hX.1 hX.2.1 hX.2.2.2.2.1 g2 hX.2.2.2.1 hX.2.2.2.2.2.1.1 hH.2 a he g1 kf h2 (hX.2.2.2.2.1 _ (zw_in h3 rfl)) (fun _ h => h) hv hd hk2
  · exact va_getN hX.1 hX.2.1 hX.2.2.2.2.1 g2 hX.2.2.2.1 hX.2.2.2.2.2.1.1 hH.2 a he g1 kf h2 (va_Nw.use rfl (hX.2.2.2.2.2.1.2.1 _ h3 rfl)) (fun _ h => h) hv hd hk2
theorem z_getI {idx ci kf a : Nat} {rs : List Nat} {ty : FieldType} {fin : Bool} (hF : ZF own idx ci kf ty fin) (hd : decode cc pc = .ok (.getfield idx, 3)) (hc : σ[a]? = some (0, ci, rs)) (hk : rs[kf]? = some 0)
    (k : ZG X own cc nL d mc ms kc ks (pc + 3) L (.int (I a kf) :: st) σ I) : ZG X own cc nL d mc ms kc ks pc L (.ref a :: st) σ I := z_get hF hd hc hk (fun v hv => by rw [hv]; exact k)
theorem z_getR {idx ci kf a r : Nat} {rs : List Nat} {ty : FieldType} {fin : Bool} (hF : ZF own idx ci kf ty fin) (hd : decode cc pc = .ok (.getfield idx, 3)) (hc : σ[a]? = some (0, ci, rs)) (hk : rs[kf]? = some (r + 2))
    (k : ZG X own cc nL d mc ms kc ks (pc + 3) L (.ref r :: st) σ I) : ZG X own cc nL d mc ms kc ks pc L (.ref a :: st) σ I := z_get hF hd hc hk (fun v hv => by rw [hv]; simpa [zval] using k)
/-- the cell's new fields fit the world's -/
theorem z_putX {idx ci kf a : Nat} {rs : List Nat} {ty : FieldType} {v : Value} (hF : ZF own idx ci kf ty false) (hd : decode cc pc = .ok (.putfield idx, 3)) (hc : σ[a]? = some (0, ci, rs)) (hl0 : kf < rs.length) (hn : ∀ b, narrow ty (zren b v) = zren b v) (hfit : ∀ b, fits ty (zren b v) = true) {σ' : List ZC} {I' : ZI} (hlen : σ'.length = σ.length)
    (hw : ∀ cy b, (zwld cy b I 0 σ).set a (b + a, .inr (ci, (zvals b (I a) 0 rs).set kf (zren b v))) = zwld cy b I' 0 σ')
    (k : ZG X own cc nL d mc ms kc ks (pc + 3) L st σ' I') : ZG X own cc nL d mc ms kc ks pc L (v :: .ref a :: st) σ I := by
  obtain ⟨p, l, e, R, s, m, args, below, meth, c, Q, cy, D, b⟩ := X
  intro hX H locs ls hH hz hS hl
  obtain ⟨C, T, N, h1, h2, h3, h4, h5, h6⟩ := hF
  obtain ⟨C', T', N', ty', g1, g2, g3, g4, g5, g6, -, -⟩ := zcl_all h1
  cases h1.symm.trans g1
  have he : (zwld cy b I 0 σ)[a]? = some (b + a, .inr (ci, zvals b (I a) 0 rs)) := zwld_at hc
  have kk : ∀ (H1 : Heap) (locs1 : List Loc), va_P D vwCl ((zwld cy b I 0 σ).set a (b + a, .inr (ci, (zvals b (I a) 0 rs).set kf (zren b v)))) H1 → va_D (ZA b) ((zwld cy b I 0 σ).set a (b + a, .inr (ci, (zvals b (I a) 0 rs).set kf (zren b v)))) → va_S (ZA b) H H1 locs1 → W p l e R s m args below meth c H1 locs1 kc ks Q (F0 m (pc + 3) ls (st.map (zren b))) := by
    intro H1 locs1 hP1 hD1 hS1
    refine z_sized (fun hle => ?_)
    have e0 := hH.1
    have e1 := hS1.1
    rw [hw] at hP1
    exact k hX H1 locs1 ls ⟨by omega, hP1⟩ (by omega) (z_S hS hS1) hl
  rcases h3 with h3 | ⟨host, h3⟩
  · exact va_put hX.1 hX.2.1 hX.2.2.2.2.1 g2 ty' g3 g4 hX.2.2.2.1 hX.2.2.2.2.2.1.1 hH.2 (zwld_D cy b I σ) (z_S0 hS) a he g1 kf h2 (hX.2.2.2.2.1 _ (zw_in h3 rfl)) (fun _ h => h) h4 h5 (hn b) (hfit b) (by rw [zvals_len]; exact hl0) hd kk
  · exact va_putN hX.1 hX.2.1 hX.2.2.2.2.1 g2 ty' g3 g4 hX.2.2.2.1 hX.2.2.2.2.2.1.1 hH.2 (zwld_D cy b I σ) (z_S0 hS) a he g1 kf h2 (va_Nw.use rfl (hX.2.2.2.2.2.1.2.1 _ h3 rfl)) (fun _ h => h) h4 h5 (hn b) (hfit b) (by rw [zvals_len]; exact hl0) hd kk
theorem z_putFX {idx ci kf a : Nat} {rs : List Nat} {ty : FieldType} {v : Value} (hF : ZFF own idx ci kf ty) (hN : ZNm X "<init>") (hci : vwCl[ci]?.map (fun q => q.1) = some own) (hd : decode cc pc = .ok (.putfield idx, 3)) (hc : σ[a]? = some (0, ci, rs)) (hl0 : kf < rs.length) (hn : ∀ b, narrow ty (zren b v) = zren b v) (hfit : ∀ b, fits ty (zren b v) = true) {σ' : List ZC} {I' : ZI} (hlen : σ'.length = σ.length)
    (hw : ∀ cy b, (zwld cy b I 0 σ).set a (b + a, .inr (ci, (zvals b (I a) 0 rs).set kf (zren b v))) = zwld cy b I' 0 σ')
    (k : ZG X own cc nL d mc ms kc ks (pc + 3) L st σ' I') : ZG X own cc nL d mc ms kc ks pc L (v :: .ref a :: st) σ I := by
  obtain ⟨p, l, e, R, s, m, args, below, meth, c, Q, cy, D, b⟩ := X
  intro hX H locs ls hH hz hS hl
  obtain ⟨C, T, N, h1, h2, h3, h4, h5, h6⟩ := hF
  obtain ⟨C', T', N', ty', g1, g2, g3, g4, g5, g6, -, -⟩ := zcl_all h1
  cases h1.symm.trans g1
  rw [h1] at hci
  have hCo : C = own := Option.some.inj hci
  have he : (zwld cy b I 0 σ)[a]? = some (b + a, .inr (ci, zvals b (I a) 0 rs)) := zwld_at hc
  have kk : ∀ (H1 : Heap) (locs1 : List Loc), va_P D vwCl ((zwld cy b I 0 σ).set a (b + a, .inr (ci, (zvals b (I a) 0 rs).set kf (zren b v)))) H1 → va_D (ZA b) ((zwld cy b I 0 σ).set a (b + a, .inr (ci, (zvals b (I a) 0 rs).set kf (zren b v)))) → va_S (ZA b) H H1 locs1 → W p l e R s m args below meth c H1 locs1 kc ks Q (F0 m (pc + 3) ls (st.map (zren b))) := by
    intro H1 locs1 hP1 hD1 hS1
    refine z_sized (fun hle => ?_)
    have e0 := hH.1
    have e1 := hS1.1
    rw [hw] at hP1
    exact k hX H1 locs1 ls ⟨by omega, hP1⟩ (by omega) (z_S hS hS1) hl
  · exact va_putF hX.1 hX.2.1 hX.2.2.2.2.1 g2 ty' g3 g4 hX.2.2.2.1 hX.2.2.2.2.2.1.1 hH.2 (zwld_D cy b I σ) (z_S0 hS) a he g1 kf h2 (hX.2.2.2.2.1 _ (zw_in h3 rfl)) (fun _ h => h) h4 hN (h6.trans hCo) h5 (hn b) (hfit b) (by rw [zvals_len]; exact hl0) hd kk
theorem zup_at (I : ZI) (a k : Nat) (x : Int32) : zup I a k x a = upd (I a) k x := if_pos rfl
theorem zup_ne (I : ZI) {a q : Nat} (k : Nat) (x : Int32) (h : q ≠ a) : zup I a k x q = I q := if_neg h
theorem zwld_putI {cy : Nat → ClassId} {b a kf ci : Nat} {rs : List Nat} {x : Int32} (hc : σ[a]? = some (0, ci, rs)) (hk : rs[kf]? = some 0) : (zwld cy b I 0 σ).set a (b + a, .inr (ci, (zvals b (I a) 0 rs).set kf (.int x))) = zwld cy b (zup I a kf x) 0 σ := by
  rw [zvals_int hk]
  have h := zwld_set (cy := cy) (b := b) (I := I) (J := zup I a kf x) (c' := (0, ci, rs)) hc (fun q hq => zup_ne I kf x hq)
  rw [zset_same hc, zup_at] at h
  exact h
theorem z_putI {idx ci kf a : Nat} {rs : List Nat} {x : Int32} (hF : ZF own idx ci kf .int false) (hd : decode cc pc = .ok (.putfield idx, 3)) (hc : σ[a]? = some (0, ci, rs)) (hk : rs[kf]? = some 0)
    (k : ZG X own cc nL d mc ms kc ks (pc + 3) L st σ (zup I a kf x)) : ZG X own cc nL d mc ms kc ks pc L (.int x :: .ref a :: st) σ I :=
  z_putX hF hd hc (List.getElem?_eq_some_iff.mp hk).1 (fun _ => rfl) (fun _ => rfl) rfl (fun _ _ => zwld_putI hc hk) k
theorem z_putZ {idx ci kf a : Nat} {rs : List Nat} {x : Int32} (hF : ZF own idx ci kf .boolean false) (hx : narrow .boolean (.int x) = .int x ∧ fits .boolean (.int x) = true) (hd : decode cc pc = .ok (.putfield idx, 3)) (hc : σ[a]? = some (0, ci, rs)) (hk : rs[kf]? = some 0)
    (k : ZG X own cc nL d mc ms kc ks (pc + 3) L st σ (zup I a kf x)) : ZG X own cc nL d mc ms kc ks pc L (.int x :: .ref a :: st) σ I :=
  z_putX hF hd hc (List.getElem?_eq_some_iff.mp hk).1 (fun _ => hx.1) (fun _ => hx.2) rfl (fun _ _ => zwld_putI hc hk) k
theorem z_putR {idx ci kf a r r0 : Nat} {rs : List Nat} {C : String} (hF : ZFF own idx ci kf (.object C) ∨ ∃ t, ZFF own idx ci kf (.array t)) (hN : ZNm X "<init>") (hci : vwCl[ci]?.map (fun q => q.1) = some own) (hd : decode cc pc = .ok (.putfield idx, 3)) (hc : σ[a]? = some (0, ci, rs)) (hk : rs[kf]? = some r0)
    (k : ZG X own cc nL d mc ms kc ks (pc + 3) L st (σ.set a (0, ci, rs.set kf (r + 2))) I) : ZG X own cc nL d mc ms kc ks pc L (.ref r :: .ref a :: st) σ I := by
  have hw : ∀ cy b, (zwld cy b I 0 σ).set a (b + a, .inr (ci, (zvals b (I a) 0 rs).set kf (zren b (.ref r)))) = zwld cy b I 0 (σ.set a (0, ci, rs.set kf (r + 2))) := by
    intro cy b
    show (zwld cy b I 0 σ).set a (b + a, .inr (ci, (zvals b (I a) 0 rs).set kf (.ref (b + r)))) = _
    rw [zvals_ref hk]
    exact zwld_set (cy := cy) (b := b) (I := I) (J := I) (c' := (0, ci, rs.set kf (r + 2))) hc (fun q _ => rfl)
  have hl0 := (List.getElem?_eq_some_iff.mp hk).1
  rcases hF with hF | ⟨t, hF⟩
  · exact z_putFX hF hN hci hd hc hl0 (fun _ => rfl) (fun _ => rfl) (List.length_set ..) hw k
  · exact z_putFX hF hN hci hd hc hl0 (fun _ => rfl) (fun _ => rfl) (List.length_set ..) hw k
/-! arrays -/
theorem z_iald {a n : Nat} {rs : List Nat} {i : Int32} (hd : decode cc pc = .ok (.iaload, 1)) (hc : σ[a]? = some (1, n, rs)) (hin : vp_in i n)
    (k : ZG X own cc nL d mc ms kc ks (pc + 1) L (.int (I a i.toNatClampNeg) :: st) σ I) : ZG X own cc nL d mc ms kc ks pc L (.int i :: .ref a :: st) σ I := by
  obtain ⟨p, l, e, R, s, m, args, below, meth, c, Q, cy, D, b⟩ := X
  intro hX H locs ls hH hz hS hl
  exact va_iald (n := n) (f := I a) hX.1 hX.2.1 hX.2.2.2.2.2.1.1 hH.2 a 0 (zwld_at hc) rfl hin hd (k hX H locs ls hH hz hS hl)
theorem z_ialdN {a n j : Nat} {rs : List Nat} {i : Int32} (hd : decode cc pc = .ok (.iaload, 1)) (hc : σ[a]? = some (1, n, rs)) (hi : i = nI j) (hj : j < n) (hn : n < 2 ^ 31)
    (k : ZG X own cc nL d mc ms kc ks (pc + 1) L (.int (I a j) :: st) σ I) : ZG X own cc nL d mc ms kc ks pc L (.int i :: .ref a :: st) σ I := by
  subst hi
  refine z_iald hd hc (vp_in_nI hj hn) ?_
  rw [nI_clamp (by omega)]
  exact k
theorem z_iast {a n : Nat} {rs : List Nat} {i x : Int32} (hd : decode cc pc = .ok (.iastore, 1)) (hc : σ[a]? = some (1, n, rs)) (hin : vp_in i n)
    (k : ZG X own cc nL d mc ms kc ks (pc + 1) L st σ (zup I a i.toNatClampNeg x)) : ZG X own cc nL d mc ms kc ks pc L (.int x :: .int i :: .ref a :: st) σ I := by
  obtain ⟨p, l, e, R, s, m, args, below, meth, c, Q, cy, D, b⟩ := X
  intro hX H locs ls hH hz hS hl
  refine va_iast (n := n) (f := I a) hX.1 hX.2.1 hX.2.2.2.2.2.1.1 hH.2 (zwld_D cy b I σ) (z_S0 hS) a 0 (zwld_at hc) rfl hin hd (fun H1 locs1 hP1 hD1 hS1 => ?_)
  refine z_sized (fun hle => ?_)
  have e0 := hH.1
  have e1 := hS1.1
  have hw := zwld_set (cy := cy) (b := b) (I := I) (J := zup I a i.toNatClampNeg x) (c' := (1, n, rs)) hc (fun q hq => zup_ne I _ x hq)
  rw [zset_same hc, zup_at] at hw
  exact k hX H1 locs1 ls ⟨by omega, by rw [← hw]; exact hP1⟩ hz (z_S hS hS1) hl
theorem z_iastN {a n j : Nat} {rs : List Nat} {i x : Int32} (hd : decode cc pc = .ok (.iastore, 1)) (hc : σ[a]? = some (1, n, rs)) (hi : i = nI j) (hj : j < n) (hn : n < 2 ^ 31)
    (k : ZG X own cc nL d mc ms kc ks (pc + 1) L st σ (zup I a j x)) : ZG X own cc nL d mc ms kc ks pc L (.int x :: .int i :: .ref a :: st) σ I := by
  subst hi
  refine z_iast hd hc (vp_in_nI hj hn) ?_
  rw [nI_clamp (by omega)]
  exact k
theorem z_alen {a n : Nat} {rs : List Nat} (hd : decode cc pc = .ok (.arraylength, 1)) (hc : σ[a]? = some (1, n, rs))
    (k : ZG X own cc nL d mc ms kc ks (pc + 1) L (.int (nI n) :: st) σ I) : ZG X own cc nL d mc ms kc ks pc L (.ref a :: st) σ I := by
  obtain ⟨p, l, e, R, s, m, args, below, meth, c, Q, cy, D, b⟩ := X
  intro hX H locs ls hH hz hS hl
  exact va_alen hX.1 hX.2.1 hX.2.2.2.2.2.1.1 hH.2 a 0 (zwld_at hc) rfl rfl hd (k hX H locs ls hH hz hS hl)
theorem z_ty {cy : Nat → ClassId} {t : Nat} (ht : t < 2) : ∃ C, (ztys cy)[t + 1]? = some (cy (t + 1), .object C) ∧ C = (if t = 0 then RX4 else RX8) := by
  match t, ht with
  | 0, _ => exact ⟨RX4, rfl, rfl⟩
  | 1, _ => exact ⟨RX8, rfl, rfl⟩
theorem z_alenq {a t : Nat} {rs : List Nat} (ht : t < 2) (hd : decode cc pc = .ok (.arraylength, 1)) (hc : σ[a]? = some (2, t + 1, rs))
    (k : ZG X own cc nL d mc ms kc ks (pc + 1) L (.int (nI rs.length) :: st) σ I) : ZG X own cc nL d mc ms kc ks pc L (.ref a :: st) σ I := by
  obtain ⟨p, l, e, R, s, m, args, below, meth, c, Q, cy, D, b⟩ := X
  intro hX H locs ls hH hz hS hl
  obtain ⟨C, h1, -⟩ := z_ty (cy := cy) ht
  exact va_alen hX.1 hX.2.1 hX.2.2.2.2.2.1.1 hH.2 a (t + 1) (zwld_at hc) h1 rfl hd (k hX H locs ls hH hz hS hl)
theorem z_aald {a t r j : Nat} {rs : List Nat} {i : Int32} (ht : t < 2) (hd : decode cc pc = .ok (.aaload, 1)) (hc : σ[a]? = some (2, t + 1, rs)) (hi : i = nI j) (hj : rs[j]? = some (r + 2)) (hn : rs.length < 2 ^ 31)
    (k : ZG X own cc nL d mc ms kc ks (pc + 1) L (.ref r :: st) σ I) : ZG X own cc nL d mc ms kc ks pc L (.int i :: .ref a :: st) σ I := by
  obtain ⟨p, l, e, R, s, m, args, below, meth, c, Q, cy, D, b⟩ := X
  intro hX H locs ls hH hz hS hl
  obtain ⟨C, h1, -⟩ := z_ty (cy := cy) ht
  have hjl := (List.getElem?_eq_some_iff.mp hj).1
  subst hi
  refine va_aldq (C := C) (n := rs.length) (f := fun j => zref b (rs.getD j 1)) hX.1 hX.2.1 hX.2.2.2.2.2.1.1 hH.2 a (t + 1) (zwld_at hc) h1 (vp_in_nI hjl hn) hd ?_
  have hv : va_rf ((fun j => zref b (rs.getD j 1)) (nI j).toNatClampNeg) = zren b (.ref r) := by
    rw [nI_clamp (by omega)]
    have h2 : ¬ r + 2 < 2 := by omega
    simp [List.getD, hj, zref, va_rf, zren, h2]
  rw [hv]
  exact k hX H locs ls hH hz hS hl
theorem z_aast {a t j v ci : Nat} {rs vr : List Nat} {i : Int32} (ht : t < 2) (hci : ci = if t = 0 then 4 else 8) (hd : decode cc pc = .ok (.aastore, 1)) (hc : σ[a]? = some (2, t + 1, rs)) (hv : σ[v]? = some (0, ci, vr)) (hi : i = nI j) (hj : j < rs.length) (hn : rs.length < 2 ^ 31)
    (k : ZG X own cc nL d mc ms kc ks (pc + 1) L st (σ.set a (2, t + 1, rs.set j (v + 2))) I) : ZG X own cc nL d mc ms kc ks pc L (.ref v :: .int i :: .ref a :: st) σ I := by
  obtain ⟨p, l, e, R, s, m, args, below, meth, c, Q, cy, D, b⟩ := X
  intro hX H locs ls hH hz hS hl
  subst hi
  obtain ⟨C, h1, hC⟩ := z_ty (cy := cy) ht
  have hcl : ∃ q : vw_C, vwCl[ci]? = some q ∧ q.1 = C := by
    match t, ht with
    | 0, _ => subst hci; exact ⟨_, rfl, hC.symm⟩
    | 1, _ => subst hci; exact ⟨_, rfl, hC.symm⟩
  obtain ⟨q, hq, hqC⟩ := hcl
  have ha : (zwld cy b I 0 σ)[a]? = some (b + a, .inl (cy (t + 1), rs.length, .inr (.inr (.inr (.inr (fun j => zref b (rs.getD j 1))))))) := zwld_at hc
  refine va_astq (r := q) (n := rs.length) (v := b + v) (vs := zvals b (I v) 0 vr) hX.1 hX.2.1 hX.2.2.2.2.2.1.1 hH.2 (zwld_D cy b I σ) (z_S0 hS) a (t + 1) v ci ha (by rw [hqC]; exact h1) (zwld_at hv) hq (vp_in_nI hj hn) hd (fun H1 locs1 hP1 hD1 hS1 => ?_)
  refine z_sized (fun hle => ?_)
  have e0 := hH.1
  have e1 := hS1.1
  have hw := zwld_set (cy := cy) (b := b) (I := I) (J := I) (c' := (2, t + 1, rs.set j (v + 2))) hc (fun q _ => rfl)
  have hf : va_up (fun j => zref b (rs.getD j 1)) (nI j).toNatClampNeg (some (b + v)) = fun j' => zref b ((rs.set j (v + 2)).getD j' 1) := by
    rw [nI_clamp (by omega)]
    funext j'
    by_cases hjj : j' = j
    · subst hjj
      simp [va_up, List.getD, hj, zref]
    · simp [va_up, hjj, List.getD, List.getElem?_set_ne (Ne.symm hjj)]
  rw [hf] at hP1
  have hw2 : (zwld cy b I 0 σ).set a (b + a, .inl (cy (t + 1), rs.length, .inr (.inr (.inr (.inr (fun j' => zref b ((rs.set j (v + 2)).getD j' 1))))))) = zwld cy b I 0 (σ.set a (2, t + 1, rs.set j (v + 2))) := by
    rw [← hw]
    simp only [zcell, List.length_set]
  rw [hw2] at hP1
  exact k hX H1 locs1 ls ⟨by rw [List.length_set]; omega, hP1⟩ (by rw [List.length_set]; exact hz) (z_S hS hS1) hl
/-! making -/
theorem z_fresh {p : Program} {l : Launch} {e : Env} {R : Room} {s : State} {m : MethodId} {args : Array Value} {below : List Frame} {meth : Method} {c : Code} {Q : State → Prop} {cy : Nat → ClassId} {D : va_G} {b q : Nat} {H H1 : Heap} {x : va_E} {locs : List Loc} {slots : Nat} {g : JFrame} {A : Nat → Prop}
    (hH : ZH cy D b σ I H) (hz : b + σ.length = s.heap.size + kc) (hP : va_P D vwCl (zwld cy b I 0 σ ++ [(q, x)]) H1) (hD : va_D (ZA b) (zwld cy b I 0 σ ++ [(q, x)])) (hS : va_S A H H1 locs)
    (k : q = b + σ.length → H1.size = b + σ.length + 1 → W p l e R s m args below meth c H1 locs (kc + 1) slots Q g) : W p l e R s m args below meth c H1 locs (kc + 1) slots Q g := by
  refine z_sized (fun hle => ?_)
  have hl : (zwld cy b I 0 σ ++ [(q, x)])[σ.length]? = some (q, x) := by
    rw [List.getElem?_append_right (by rw [zwld_len]; exact Nat.le_refl _), zwld_len, Nat.sub_self]
    rfl
  have h1 : q < H1.size := (hP _ _ hl).lt
  have h2 : b ≤ q := hD.2 _ _ hl
  have h3 := hS.1
  have h4 := hH.1
  have hq : q = b + σ.length := by
    rcases Nat.lt_or_ge q (b + σ.length) with h5 | h5
    · exfalso
      have hi : q - b < σ.length := by omega
      obtain ⟨c0, hc0⟩ : ∃ c0, σ[q - b]? = some c0 := ⟨_, List.getElem?_eq_getElem hi⟩
      have h6 : (zwld cy b I 0 σ ++ [(q, x)])[q - b]? = some (b + (q - b), zcell cy b c0 (I (q - b))) := by
        rw [List.getElem?_append_left (by rw [zwld_len]; exact hi)]
        exact zwld_at hc0
      have := hD.1 _ _ _ _ h6 hl (show b + (q - b) = q by omega)
      omega
    · omega
  exact k hq (by omega)
theorem z_new {idx ci N : Nat} {C : String} (hcl : Cond.classLink own idx C ∈ lw_tbl) (hc : ∃ T, vwCl[ci]? = some (C, T, N)) (hd : decode cc pc = .ok (.new idx, 3)) (h1 : kc + 1 ≤ mc) (h2 : ks + N ≤ ms)
    (k : ZG X own cc nL d mc ms (kc + 1) (ks + N) (pc + 3) L (.ref σ.length :: st) (σ ++ [(0, ci, zini ci)]) (zclr I σ.length)) : ZG X own cc nL d mc ms kc ks pc L st σ I := by
  obtain ⟨p, l, e, R, s, m, args, below, meth, c, Q, cy, D, b⟩ := X
  intro hX H locs ls hH hz hS hl
  obtain ⟨T, hc⟩ := hc
  obtain ⟨C', T', N', ty', g1, g2, g3, g4, g5, g6, g7, g8⟩ := zcl_all hc
  cases hc.symm.trans g1
  have hfs : ∀ j, j < N → defaultValue (ty' j) = vp_V (zvals b (fun _ => 0) 0 (zini ci)) j := by
    intro j hj
    rw [g8 j hj]
    have hjl : j < (zini ci).length := by rw [g7]; exact hj
    have e1 : (zini ci)[j]? = some (zini ci)[j] := List.getElem?_eq_getElem hjl
    simp only [vp_V, List.getD, zvals_get, e1, Option.map_some, Option.getD_some, Nat.zero_add]
    have h01 := z_ini01 ci j
    simp only [List.getD, e1, Option.getD_some] at h01
    rcases h01 with h01 | h01 <;> rw [h01] <;> rfl
  have hR1 : kc + 1 ≤ R.cells := Nat.le_trans h1 hX.2.2.2.2.2.2.2.2.2.2.1
  have hR2 : ks + N ≤ R.slots := Nat.le_trans h2 hX.2.2.2.2.2.2.2.2.2.2.2
  refine va_new (C := C) (T := T) (N := N) hX.1 hX.2.1 hX.2.2.2.2.1 g2 ty' g3 hX.2.2.2.1 (hX.2.2.2.2.1 _ (zw_in hcl rfl)) (hX.2.2.2.2.1 _ g5) (hX.2.2.2.2.1 _ g6) hX.2.2.2.2.2.1.1 hH.2 (zwld_D cy b I σ) (z_S0 hS) (fun q hq => Nat.le_trans (by have := hH.1; omega) hq) hc hfs hR1 hR2 hd (fun q H1 hP1 hD1 hS1 => ?_)
  refine z_fresh hH hz hP1 hD1 hS1 (fun hq hs1 => ?_)
  subst hq
  have hw := zwld_push (cy := cy) (b := b) (I := I) (J := zclr I σ.length) (σ := σ) (c := (0, ci, zini ci)) (fun q hq => if_neg (by omega))
  rw [show zclr I σ.length σ.length = (fun _ => 0) from if_pos rfl] at hw
  exact k hX H1 locs ls ⟨by rw [List.length_append]; simp; omega, by rw [← hw]; exact hP1⟩ (by rw [List.length_append]; simp; omega) (z_S hS hS1) hl
theorem z_newa {n : Int32} {N : Nat} (hac : Cond.arrayClass .int ∈ lw_tbl) (hd : decode cc pc = .ok (.newarray .int, 2)) (hn : ¬ n < 0) (hN : n.toNatClampNeg = N) (hN2 : N ≤ 100000) (h1 : kc + 1 ≤ mc) (h2 : ks + N ≤ ms)
    (k : ZG X own cc nL d mc ms (kc + 1) (ks + N) (pc + 2) L (.ref σ.length :: st) (σ ++ [(1, N, [])]) (zclr I σ.length)) : ZG X own cc nL d mc ms kc ks pc L (.int n :: st) σ I := by
  obtain ⟨p, l, e, R, s, m, args, below, meth, c, Q, cy, D, b⟩ := X
  intro hX H locs ls hH hz hS hl
  have hR1 : kc + 1 ≤ R.cells := Nat.le_trans h1 hX.2.2.2.2.2.2.2.2.2.2.1
  have hR2 : ks + N ≤ R.slots := Nat.le_trans h2 hX.2.2.2.2.2.2.2.2.2.2.2
  refine va_newa (atype := .int) (a0 := (N, .inl (fun _ => 0))) hX.1 hX.2.1 (hX.2.2.2.2.1 _ (zw_in hac rfl)) rfl hX.2.2.2.2.2.1.1 hH.2 (zwld_D cy b I σ) (z_S0 hS) (fun q hq => Nat.le_trans (by have := hH.1; omega) hq) (fun _ => rfl) hn hN (Nat.le_trans (Nat.mul_le_mul_right _ hN2) (by decide)) hR1 hR2 hd (fun q cA H1 hK1 hP1 hD1 hS1 => ?_)
  refine z_fresh hH hz hP1 hD1 hS1 (fun hq hs1 => ?_)
  subst hq
  have e1 : s.vm.findClass ("[" ++ FieldType.int.toString) = some (cy 0) := (hX.2.2.2.2.2.1.1.2 0 (cy 0, .int) rfl).2
  have e2 : s.vm.findClass ("[" ++ FieldType.int.toString) = some cA := (hK1.2 3 (cA, .int) rfl).2
  have e3 : cA = cy 0 := Option.some.inj (e2.symm.trans e1)
  subst e3
  have hw := zwld_push (cy := cy) (b := b) (I := I) (J := zclr I σ.length) (σ := σ) (c := (1, N, [])) (fun q hq => if_neg (by omega))
  rw [show zclr I σ.length σ.length = (fun _ => 0) from if_pos rfl] at hw
  exact k hX H1 locs ls ⟨by rw [List.length_append]; simp; omega, by rw [← hw]; exact hP1⟩ (by rw [List.length_append]; simp; omega) (z_S hS hS1) hl
theorem z_newq {n : Int32} {idx N t : Nat} {C : String} (ht : t < 2) (hC : C = if t = 0 then RX4 else RX8) (hcl : Cond.classLink own idx C ∈ lw_tbl) (hd : decode cc pc = .ok (.anewarray idx, 3)) (hn : ¬ n < 0) (hN : n.toNatClampNeg = N) (hN2 : N ≤ 100000) (h1 : kc + 1 ≤ mc) (h2 : ks + N ≤ ms)
    (k : ZG X own cc nL d mc ms (kc + 1) (ks + N) (pc + 3) L (.ref σ.length :: st) (σ ++ [(2, t + 1, List.replicate N 1)]) (zclr I σ.length)) : ZG X own cc nL d mc ms kc ks pc L (.int n :: st) σ I := by
  obtain ⟨p, l, e, R, s, m, args, below, meth, c, Q, cy, D, b⟩ := X
  intro hX H locs ls hH hz hS hl
  have hR1 : kc + 1 ≤ R.cells := Nat.le_trans h1 hX.2.2.2.2.2.2.2.2.2.2.1
  have hR2 : ks + N ≤ R.slots := Nat.le_trans h2 hX.2.2.2.2.2.2.2.2.2.2.2
  have hAO : va_AO C s := by
    match t, ht with
    | 0, _ => subst hC; exact hX.2.2.2.2.2.1.2.2.1
    | 1, _ => subst hC; exact hX.2.2.2.2.2.1.2.2.2
  refine va_newq (C := C) hX.1 hX.2.1 hX.2.2.2.1 (hX.2.2.2.2.1 _ (zw_in hcl rfl)) hAO hX.2.2.2.2.2.1.1 hH.2 (zwld_D cy b I σ) (z_S0 hS) (fun q hq => Nat.le_trans (by have := hH.1; omega) hq) hn hN (Nat.le_trans (Nat.mul_le_mul_right _ hN2) (by decide)) hR1 hR2 hd (fun q cA H1 hK1 hP1 hD1 hS1 => ?_)
  refine z_fresh hH hz hP1 hD1 hS1 (fun hq hs1 => ?_)
  subst hq
  have e3 : cA = cy (t + 1) := by
    obtain ⟨C2, g1, g2⟩ := z_ty (cy := cy) ht
    have hCC : C2 = C := g2.trans hC.symm
    subst hCC
    obtain ⟨k1, c1, -, -, -, f4⟩ := (hX.2.2.2.2.2.1.1.2 (t + 1) _ g1).2
    obtain ⟨k2, c2, -, -, -, f5⟩ := (hK1.2 3 (cA, .object C2) rfl).2
    exact Option.some.inj (f5.symm.trans f4)
  subst e3
  have hw := zwld_push (cy := cy) (b := b) (I := I) (J := zclr I σ.length) (σ := σ) (c := (2, t + 1, List.replicate N 1)) (fun q hq => if_neg (by omega))
  have hf : (fun j => zref b ((List.replicate N 1).getD j 1)) = fun _ => none := by
    funext j
    have : (List.replicate N 1).getD j 1 = 1 := by
      simp [List.getD, List.getElem?_replicate]
      by_cases hj : j < N <;> simp [hj]
    rw [this]
    rfl
  have hw2 : zcell cy b (2, t + 1, List.replicate N 1) (zclr I σ.length σ.length) = .inl (cy (t + 1), N, .inr (.inr (.inr (.inr (fun _ => none))))) := by
    simp only [zcell, List.length_replicate, hf]
  rw [hw2] at hw
  exact k hX H1 locs ls ⟨by rw [List.length_append]; simp; omega, by rw [← hw]; exact hP1⟩ (by rw [List.length_append]; simp; omega) (z_S hS hS1) hl
theorem z_objInit {idx a : Nat} (hlink : Cond.methodLink own idx Lib.objectInit ∈ lw_tbl) (hinst : Cond.instanceMethod Lib.objectInit ∈ lw_tbl) (hcode : Cond.code Lib.objectInit ⟨#[0xb1]⟩ 1 none ∈ lw_tbl) (hd : decode cc pc = .ok (.invokespecial idx, 3)) (hd1 : 1 ≤ d) (hst : (st.map fun v => v.category).sum ≤ 8)
    (k : ZG X own cc nL d mc ms kc ks (pc + 3) L st σ I) : ZG X own cc nL d mc ms kc ks pc L (.ref a :: st) σ I := by
  obtain ⟨p, l, e, R, s, m, args, below, meth, c, Q, cy, D, b⟩ := X
  intro hX H locs ls hH hz hS hl
  have hst2 : ((st.map (zren b)).map fun v => v.category).sum ≤ 8 := by
    rw [List.map_map, show ((fun v : Value => v.category) ∘ zren b) = (fun v : Value => v.category) from funext (fun v => zren_cat b v)]
    exact hst
  refine W.objInit hX.1 hX.2.1 hX.2.2.2.1 (hX.2.2.2.2.1 _ (zw_in hlink rfl)) (hX.2.2.2.2.1 _ (zw_in hinst rfl)) (hX.2.2.2.2.1 _ (zw_in hcode rfl)) rfl (by rw [hX.2.2.1]; exact hl.1) rfl hd (Nat.le_trans hd1 hX.2.2.2.2.2.2.2.2.1) ?_ (k hX H locs ls hH hz hS hl)
  have h1 := lv_room (m := m) (pc := pc) (ls := ls) (rest := Value.ref (b + a) :: st.map (zren b)) hst2
  have h2 := hX.2.2.2.2.2.2.2.2.2.1
  exact Nat.le_trans (Nat.add_le_add_right h1 12) (by omega)
/-! calls -/
theorem z_after {p : Program} {l : Launch} {e : Env} {R : Room} {s : State} {m : MethodId} {args : Array Value} {below : List Frame} {meth : Method} {c : Code} {Q : State → Prop} {cy : Nat → ClassId} {D : va_G} {b : Nat} {H : Heap} {locs : List Loc} {ls : Array Slot} {st0 rest : List Value} {mc2 ms2 : Nat} {Q2 : Option Value → List ZC → ZI → Prop} {a : Array Value}
    (hr : va_Run p l e R s m args below meth c H locs kc ks mc2 ms2 (F0 m pc ls st0) rest (ZQ cy D b Q2 a) (ZA b)) (hS : va_S (ZA b) s.heap H locs)
    (kk : ∀ (r : Option Value) (σ' : List ZC) (I' : ZI) (H1 : Heap) (locs1 : List Loc), Q2 r σ' I' → ZH cy D b σ' I' H1 → va_S (ZA b) s.heap H1 locs1 → W p l e R s m args below meth c H1 locs1 (kc + mc2) (ks + ms2) Q (F0 m (pc + 3) ls ((r.map (zren b)).toList ++ rest))) : W p l e R s m args below meth c H locs kc ks Q (F0 m pc ls st0) := by
  intro T hT X
  obtain ⟨v, st₀, t, T', L', h0, X', hL, e1, e2, ⟨⟨r, σ', I', hv, hq, hh⟩, hz1, hz2⟩, stp⟩ := hr T hT X
  cases hv
  rw [h0] at hz1 hz2
  obtain ⟨t2, a1, b1⟩ := kk r σ' I' T'.heap (locs ++ L') hq (by rw [e1]; exact hh) ⟨Nat.le_trans hS.1 (by rw [e1]; exact hz1), fun q h1 h2 => by rw [e1, hz2 q (Nat.lt_of_lt_of_le h1 hS.1) h2]; exact hS.2.1 q h1 h2, fun q hq => by
      rcases List.mem_append.mp hq with h | h
      · exact hS.2.2 q h
      · exact hL q h⟩ T' rfl X'
  exact ⟨t2, stp t2 a1, b1⟩
theorem z_cats (b : Nat) (st : List Value) (h : (st.map fun v => v.category).sum ≤ 8) : ((st.map (zren b)).map fun v => v.category).sum ≤ 8 := by
  rw [List.map_map, show ((fun v : Value => v.category) ∘ zren b) = (fun v : Value => v.category) from funext (fun v => zren_cat b v)]
  exact h
theorem z_blind {cy : Nat → ClassId} {D : va_G} {b : Nat} {As : List Value} : FrameBlind (va_Pc As (fun U => ZH cy D b σ I U.heap ∧ ZT cy D U)) := fun a U g mk q => ⟨q.1, q.2.1, ZT.same (s := U) (U := U.calling g mk a) rfl q.2.2⟩
theorem z_ret (b : Nat) (r : Option Value) (st : List Value) : (r.map (zren b)).toList ++ st.map (zren b) = (r.toList ++ st).map (zren b) := by cases r <;> rfl
theorem z_runV {idx a n d2 mc2 ms2 nz ci : Nat} {y : MethodName} {cz : ByteArray} {rz : Option FieldType} {As : List Value} {rs : List Nat} {Q2 : Option Value → List ZC → ZI → Prop} (hM : ZM y cz nz rz n) (hV : ZV own idx y) (hd : decode cc pc = .ok (.invokevirtual idx, 3)) (hsp : ZSp y cz nz rz d2 mc2 ms2 (.ref a :: As) σ I Q2) (hn : As.length = n) (hd2 : d2 + 1 ≤ d)
    (hc : σ[a]? = some (0, ci, rs)) (hcl : vwCl[ci]?.map (fun q => q.1) = some y.cls) (hst : (st.map fun v => v.category).sum ≤ 8) (h1 : kc + mc2 ≤ mc) (h2 : ks + ms2 ≤ ms) (hlen : ∀ r σ' I', Q2 r σ' I' → σ'.length = σ.length + mc2)
    (k : ∀ r σ' I', Q2 r σ' I' → ZG X own cc nL d mc ms (kc + mc2) (ks + ms2) (pc + 3) L (r.toList ++ st) σ' I') : ZG X own cc nL d mc ms kc ks pc L (As.reverse ++ .ref a :: st) σ I := by
  obtain ⟨p, l, e, R, s, m, args, below, meth, c, Q, cy, D, b⟩ := X
  intro hX H locs ls hH hz hS hl
  obtain ⟨q, hq, hqy⟩ := Option.map_eq_some_iff.mp hcl
  have he : (zwld cy b I 0 σ)[a]? = some (b + a, .inr (ci, zvals b (I a) 0 rs)) := zwld_at hc
  have hrec := va_recv hX.2.2.2.2.2.1.1 hH.2 hq he
  rw [hqy] at hrec
  have hf := hX.2.2.2.2.2.2.2.2.1
  have hlc := hX.2.2.2.2.2.2.2.2.2.1
  have hnz := hM.2.2.1
  refine z_after (rest := st.map (zren b)) (va_runV (As := As.map (zren b)) ⟨hX.1, hX.2.1, hX.2.2.1, hX.2.2.2.1, hX.2.2.2.2.1⟩ (hsp l cy D b) (cwV n hX.2.2.2.2.1 (z_goodV hM hV) rfl rfl rfl ⟨rfl, hM.2.2.2.1, hM.2.2.2.2.1, hM.2.2.2.2.2⟩ ⟨by show d2 + 1 ≤ R.frames; omega, by show 8 + (nz + 11) + 40 * d2 ≤ R.locals; omega⟩)
    ⟨z_blind, hrec, fun U hU hW => ⟨rfl, by rw [hU]; exact hH, hX.2.2.2.2.2.1.warm hW⟩⟩ rfl (by rw [List.length_map]; exact hn) hl.1 (by simp [zren]) (lv_room (z_cats b st hst)) hd ⟨Nat.le_trans h1 hX.2.2.2.2.2.2.2.2.2.2.1, Nat.le_trans h2 hX.2.2.2.2.2.2.2.2.2.2.2⟩) hS (fun r σ' I' H1 locs1 hQ hH1 hS1 => ?_)
  rw [z_ret]
  exact k r σ' I' hQ hX H1 locs1 ls hH1 (by rw [hlen r σ' I' hQ]; omega) hS1 hl
theorem z_runS {idx n d2 mc2 ms2 nz : Nat} {y : MethodName} {cz : ByteArray} {rz : Option FieldType} {As : List Value} {Q2 : Option Value → List ZC → ZI → Prop} (hM : ZM y cz nz rz n) (hV : ZS own idx y) (hd : decode cc pc = .ok (.invokestatic idx, 3)) (hsp : ZSp y cz nz rz d2 mc2 ms2 As σ I Q2) (hn : As.length = n) (hd2 : d2 + 1 ≤ d)
    (hst : (st.map fun v => v.category).sum ≤ 8) (h1 : kc + mc2 ≤ mc) (h2 : ks + ms2 ≤ ms) (hlen : ∀ r σ' I', Q2 r σ' I' → σ'.length = σ.length + mc2)
    (k : ∀ r σ' I', Q2 r σ' I' → ZG X own cc nL d mc ms (kc + mc2) (ks + ms2) (pc + 3) L (r.toList ++ st) σ' I') : ZG X own cc nL d mc ms kc ks pc L (As.reverse ++ st) σ I := by
  obtain ⟨p, l, e, R, s, m, args, below, meth, c, Q, cy, D, b⟩ := X
  intro hX H locs ls hH hz hS hl
  have hf := hX.2.2.2.2.2.2.2.2.1
  have hlc := hX.2.2.2.2.2.2.2.2.2.1
  have hnz := hM.2.2.1
  refine z_after (rest := st.map (zren b)) (va_runS (As := As.map (zren b)) ⟨hX.1, hX.2.1, hX.2.2.1, hX.2.2.2.1, hX.2.2.2.2.1⟩ (hsp l cy D b) ⟨callB_of n hX.2.2.2.2.1 (z_good hM.1) rfl rfl rfl (hX.2.2.2.2.1 _ (zw_in hM.2.1.2 rfl)) (hX.2.2.2.2.1 _ (zw_in hV.1 rfl)) ⟨hM.2.2.2.1, hM.2.2.2.2.1, hM.2.2.2.2.2⟩ ⟨by show d2 + 1 ≤ R.frames; omega, by show 8 + (nz + 11) + 40 * d2 ≤ R.locals; omega⟩, hX.2.2.2.2.1 _ (zw_in hV.2 rfl)⟩
    ⟨z_blind, fun U hU hW => ⟨rfl, by rw [hU]; exact hH, hX.2.2.2.2.2.1.warm hW⟩⟩ rfl (by rw [List.length_map]; exact hn) hl.1 (by simp [zren]) (lv_room (z_cats b st hst)) hd ⟨Nat.le_trans h1 hX.2.2.2.2.2.2.2.2.2.2.1, Nat.le_trans h2 hX.2.2.2.2.2.2.2.2.2.2.2⟩) hS (fun r σ' I' H1 locs1 hQ hH1 hS1 => ?_)
  rw [z_ret]
  exact k r σ' I' hQ hX H1 locs1 ls hH1 (by rw [hlen r σ' I' hQ]; omega) hS1 hl
theorem z_runI {idx a n d2 mc2 ms2 nz : Nat} {y : MethodName} {cz : ByteArray} {As : List Value} {Q2 : Option Value → List ZC → ZI → Prop} (hM : ZM y cz nz none n) (hV : ZN own idx y) (hd : decode cc pc = .ok (.invokespecial idx, 3)) (hsp : ZSp y cz nz none d2 mc2 ms2 (.ref a :: As) σ I Q2) (hn : As.length = n) (hd2 : d2 + 1 ≤ d)
    (hst : (st.map fun v => v.category).sum ≤ 8) (h1 : kc + mc2 ≤ mc) (h2 : ks + ms2 ≤ ms) (hlen : ∀ r σ' I', Q2 r σ' I' → σ'.length = σ.length + mc2)
    (k : ∀ r σ' I', Q2 r σ' I' → ZG X own cc nL d mc ms (kc + mc2) (ks + ms2) (pc + 3) L (r.toList ++ st) σ' I') : ZG X own cc nL d mc ms kc ks pc L (As.reverse ++ .ref a :: st) σ I := by
  obtain ⟨p, l, e, R, s, m, args, below, meth, c, Q, cy, D, b⟩ := X
  intro hX H locs ls hH hz hS hl
  have hf := hX.2.2.2.2.2.2.2.2.1
  have hlc := hX.2.2.2.2.2.2.2.2.2.1
  have hnz := hM.2.2.1
  have hRR : d2 + 1 ≤ R.frames ∧ 8 + (nz + 11) + 40 * d2 ≤ R.locals := ⟨by omega, by omega⟩
  have hPS : PreS s H (va_Pc ((Value.ref a :: As).map (zren b)) (fun U => ZH cy D b σ I U.heap ∧ ZT cy D U)) (.ref (b + a) :: As.map (zren b)) := ⟨z_blind, fun U hU hW => ⟨rfl, by rw [hU]; exact hH, hX.2.2.2.2.2.1.warm hW⟩⟩
  have hini := hX.2.2.2.2.1 _ (zw_in hM.2.1.2 rfl)
  have hins := hX.2.2.2.2.1 _ (zw_in hV.2.1 rfl)
  have kk : ∀ (r : Option Value) (σ' : List ZC) (I' : ZI) (H1 : Heap) (locs1 : List Loc), Q2 r σ' I' → ZH cy D b σ' I' H1 → va_S (ZA b) s.heap H1 locs1 → W p l e R s m args below meth c H1 locs1 (kc + mc2) (ks + ms2) Q (F0 m (pc + 3) ls ((r.map (zren b)).toList ++ st.map (zren b))) := by
    intro r σ' I' H1 locs1 hQ hH1 hS1
    rw [z_ret]
    exact k r σ' I' hQ hX H1 locs1 ls hH1 (by rw [hlen r σ' I' hQ]; omega) hS1 hl
  rcases hV.1 with hL1 | ⟨host, hL1⟩
  · exact z_after (rest := st.map (zren b)) (va_runI (As := As.map (zren b)) ⟨hX.1, hX.2.1, hX.2.2.1, hX.2.2.2.1, hX.2.2.2.2.1⟩ (hsp l cy D b) (cwI n hX.2.2.2.2.1 (z_good hM.1) rfl rfl rfl hini (hX.2.2.2.2.1 _ (zw_in hL1 rfl)) hins hV.2.2 ⟨hM.2.2.2.1, hM.2.2.2.2.1, hM.2.2.2.2.2⟩ hRR)
      hPS rfl (by rw [List.length_map]; exact hn) hl.1 (by simp [zren]) (lv_room (z_cats b st hst)) hd ⟨Nat.le_trans h1 hX.2.2.2.2.2.2.2.2.2.2.1, Nat.le_trans h2 hX.2.2.2.2.2.2.2.2.2.2.2⟩) hS kk
  · exact z_after (rest := st.map (zren b)) (va_runIN (As := As.map (zren b)) ⟨hX.1, hX.2.1, hX.2.2.1, hX.2.2.2.1, hX.2.2.2.2.1⟩ (hsp l cy D b) ⟨va_cnB n hX.2.2.2.2.1 (z_good hM.1) rfl rfl rfl (hX.2.2.2.2.2.1.2.1 _ hL1 rfl) hini ⟨hM.2.2.2.1, hM.2.2.2.2.1, hM.2.2.2.2.2⟩ hRR, hV.2.2, hins⟩
      hPS rfl (by rw [List.length_map]; exact hn) hl.1 (by simp [zren]) (lv_room (z_cats b st hst)) hd ⟨Nat.le_trans h1 hX.2.2.2.2.2.2.2.2.2.2.1, Nat.le_trans h2 hX.2.2.2.2.2.2.2.2.2.2.2⟩) hS kk
/-! the ends -/
theorem z_S_F {s t : State} {b : Nat} {H : Heap} {locs : List Loc} (hS : va_S (ZA b) s.heap H locs) (ht : t.heap = H) : va_F (ZA b) s t := hS.F ht

theorem z_iret {v : Int32} {Q2 : Option Value → List ZC → ZI → Prop} (hE : ZEnd X (some .int) mc ms Q2) (hd : decode cc pc = .ok (.ireturn, 1)) (hq : Q2 (some (.int v)) σ I) : ZG X own cc nL d mc ms mc ms pc L [.int v] σ I := by
  obtain ⟨p, l, e, R, s, m, args, below, meth, c, Q, cy, D, b⟩ := X
  intro hX H locs ls hH hz hS hl
  obtain ⟨hr, rfl⟩ := hE
  exact W.iret (hlocks := hX.2.2.2.2.2.2.2.1) hX.1 hX.2.1 hr (fun t ht hW => ⟨⟨some (.int v), σ, I, rfl, hq, by rw [ht]; exact hH⟩, z_S_F hS ht⟩) hS.2.2 hd
theorem z_lret {v : Int64} {Q2 : Option Value → List ZC → ZI → Prop} (hE : ZEnd X (some .long) mc ms Q2) (hd : decode cc pc = .ok (.lreturn, 1)) (hq : Q2 (some (.long v)) σ I) : ZG X own cc nL d mc ms mc ms pc L [.long v] σ I := by
  obtain ⟨p, l, e, R, s, m, args, below, meth, c, Q, cy, D, b⟩ := X
  intro hX H locs ls hH hz hS hl
  obtain ⟨hr, rfl⟩ := hE
  exact W.lret (hlocks := hX.2.2.2.2.2.2.2.1) hX.1 hX.2.1 hr (fun t ht hW => ⟨⟨some (.long v), σ, I, rfl, hq, by rw [ht]; exact hH⟩, z_S_F hS ht⟩) hS.2.2 hd
theorem z_fret {v : UInt32} {Q2 : Option Value → List ZC → ZI → Prop} (hE : ZEnd X (some .float) mc ms Q2) (hd : decode cc pc = .ok (.freturn, 1)) (hq : Q2 (some (.float v)) σ I) : ZG X own cc nL d mc ms mc ms pc L [.float v] σ I := by
  obtain ⟨p, l, e, R, s, m, args, below, meth, c, Q, cy, D, b⟩ := X
  intro hX H locs ls hH hz hS hl
  obtain ⟨hr, rfl⟩ := hE
  exact W.fret (hlocks := hX.2.2.2.2.2.2.2.1) hX.1 hX.2.1 hr (fun t ht hW => ⟨⟨some (.float v), σ, I, rfl, hq, by rw [ht]; exact hH⟩, z_S_F hS ht⟩) hS.2.2 hd
theorem z_zret {v : Int32} {Q2 : Option Value → List ZC → ZI → Prop} (hE : ZEnd X (some .boolean) mc ms Q2) (hd : decode cc pc = .ok (.ireturn, 1)) (hv : narrow .boolean (.int v) = .int v) (hq : Q2 (some (.int v)) σ I) : ZG X own cc nL d mc ms mc ms pc L [.int v] σ I := by
  obtain ⟨p, l, e, R, s, m, args, below, meth, c, Q, cy, D, b⟩ := X
  intro hX H locs ls hH hz hS hl
  obtain ⟨hr, rfl⟩ := hE
  exact W.zret (hlocks := hX.2.2.2.2.2.2.2.1) hX.1 hX.2.1 hr hv (fun t ht hW => ⟨⟨some (.int v), σ, I, rfl, hq, by rw [ht]; exact hH⟩, z_S_F hS ht⟩) hS.2.2 hd
theorem z_vret {Q2 : Option Value → List ZC → ZI → Prop} (hE : ZEnd X none mc ms Q2) (hd : decode cc pc = .ok (.return_, 1)) (hq : Q2 none σ I) : ZG X own cc nL d mc ms mc ms pc L [] σ I := by
  obtain ⟨p, l, e, R, s, m, args, below, meth, c, Q, cy, D, b⟩ := X
  intro hX H locs ls hH hz hS hl
  obtain ⟨hr, rfl⟩ := hE
  exact W.vret (hlocks := hX.2.2.2.2.2.2.2.1) hX.1 hX.2.1 hr (fun t ht hW => ⟨⟨none, σ, I, rfl, hq, by rw [ht]; exact hH⟩, z_S_F hS ht⟩) hS.2.2 hd
theorem z_aret {a : Nat} {C : String} {Q2 : Option Value → List ZC → ZI → Prop} (hE : ZEnd X (some (.object C)) mc ms Q2) (hd : decode cc pc = .ok (.areturn, 1)) (hq : Q2 (some (.ref a)) σ I) : ZG X own cc nL d mc ms mc ms pc L [.ref a] σ I := by
  obtain ⟨p, l, e, R, s, m, args, below, meth, c, Q, cy, D, b⟩ := X
  intro hX H locs ls hH hz hS hl
  obtain ⟨hr, rfl⟩ := hE
  exact W.aret (hlocks := hX.2.2.2.2.2.2.2.1) hX.1 hX.2.1 hr (Or.inl ⟨C, rfl⟩) (Or.inr ⟨_, rfl⟩) (fun t ht hW => ⟨⟨some (.ref a), σ, I, rfl, hq, by rw [ht]; exact hH⟩, z_S_F hS ht⟩) hS.2.2 hd
theorem z_aretN {C : String} {Q2 : Option Value → List ZC → ZI → Prop} (hE : ZEnd X (some (.object C)) mc ms Q2) (hd : decode cc pc = .ok (.areturn, 1)) (hq : Q2 (some .null) σ I) : ZG X own cc nL d mc ms mc ms pc L [.null] σ I := by
  obtain ⟨p, l, e, R, s, m, args, below, meth, c, Q, cy, D, b⟩ := X
  intro hX H locs ls hH hz hS hl
  obtain ⟨hr, rfl⟩ := hE
  exact W.aret (hlocks := hX.2.2.2.2.2.2.2.1) hX.1 hX.2.1 hr (Or.inl ⟨C, rfl⟩) (Or.inl rfl) (fun t ht hW => ⟨⟨some .null, σ, I, rfl, hq, by rw [ht]; exact hH⟩, z_S_F hS ht⟩) hS.2.2 hd
/-! the JDK's own -/
theorem z_mmax {idx : Nat} {x y : Int32} (hlink : Cond.methodLink own idx Lib.Math.max.name ∈ lw_tbl) (hstat : Cond.static Lib.Math.max.name ∈ lw_tbl) (hini : Cond.initialized "java/lang/Math" ∈ lw_tbl) (hcode : Cond.code Lib.Math.max.name Lib.Math.max.code 2 (some .int) ∈ lw_tbl) (hd : decode cc pc = .ok (.invokestatic idx, 3)) (hd1 : 1 ≤ d) (hst : (st.map fun v => v.category).sum ≤ 8) (h1 : kc ≤ mc) (h2 : ks ≤ ms)
    (k : ZG X own cc nL d mc ms kc ks (pc + 3) L (.int (if x < y then y else x) :: st) σ I) : ZG X own cc nL d mc ms kc ks pc L (.int y :: .int x :: st) σ I := by
  obtain ⟨p, l, e, R, s, m, args, below, meth, c, Q, cy, D, b⟩ := X
  intro hX H locs ls hH hz hS hl
  have h3 := z_cats b st hst
  have h4 := hX.2.2.2.2.2.2.2.2.2.1
  exact va_mmax hX.1 hX.2.1 (by rw [hX.2.2.1]; exact hl.1.symm) hX.2.2.2.1 (hX.2.2.2.2.1 _ (zw_in hlink rfl)) (hX.2.2.2.2.1 _ (zw_in hstat rfl)) (hX.2.2.2.2.1 _ (zw_in hini rfl)) (hX.2.2.2.2.1 _ (zw_in hcode rfl)) (Nat.le_trans hd1 hX.2.2.2.2.2.2.2.2.1) (by omega) (Nat.le_trans h1 hX.2.2.2.2.2.2.2.2.2.2.1) (Nat.le_trans h2 hX.2.2.2.2.2.2.2.2.2.2.2) hd (k hX H locs ls hH hz hS hl)
theorem z_mmin {idx : Nat} {x y : Int32} (hlink : Cond.methodLink own idx Lib.Math.min.name ∈ lw_tbl) (hstat : Cond.static Lib.Math.min.name ∈ lw_tbl) (hini : Cond.initialized "java/lang/Math" ∈ lw_tbl) (hcode : Cond.code Lib.Math.min.name Lib.Math.min.code 2 (some .int) ∈ lw_tbl) (hd : decode cc pc = .ok (.invokestatic idx, 3)) (hd1 : 1 ≤ d) (hst : (st.map fun v => v.category).sum ≤ 8) (h1 : kc ≤ mc) (h2 : ks ≤ ms)
    (k : ZG X own cc nL d mc ms kc ks (pc + 3) L (.int (if y < x then y else x) :: st) σ I) : ZG X own cc nL d mc ms kc ks pc L (.int y :: .int x :: st) σ I := by
  obtain ⟨p, l, e, R, s, m, args, below, meth, c, Q, cy, D, b⟩ := X
  intro hX H locs ls hH hz hS hl
  have h3 := z_cats b st hst
  have h4 := hX.2.2.2.2.2.2.2.2.2.1
  exact va_mmin hX.1 hX.2.1 (by rw [hX.2.2.1]; exact hl.1.symm) hX.2.2.2.1 (hX.2.2.2.2.1 _ (zw_in hlink rfl)) (hX.2.2.2.2.1 _ (zw_in hstat rfl)) (hX.2.2.2.2.1 _ (zw_in hini rfl)) (hX.2.2.2.2.1 _ (zw_in hcode rfl)) (Nat.le_trans hd1 hX.2.2.2.2.2.2.2.2.1) (by omega) (Nat.le_trans h1 hX.2.2.2.2.2.2.2.2.2.2.1) (Nat.le_trans h2 hX.2.2.2.2.2.2.2.2.2.2.2) hd (k hX H locs ls hH hz hS hl)
theorem z_acopy {idx a0 a n0 n1 : Nat} {r0 r1 : List Nat} {n : Int32} (hlink : Cond.methodLink own idx arraycopyName ∈ lw_tbl) (hnat : Cond.native arraycopyName ∈ lw_tbl) (hstat : Cond.static arraycopyName ∈ lw_tbl) (hini : Cond.initialized "java/lang/System" ∈ lw_tbl) (hd : decode cc pc = .ok (.invokestatic idx, 3)) (hd1 : 1 ≤ d) (hst : (st.map fun v => v.category).sum ≤ 8)
    (h0 : σ[a0]? = some (1, n0, r0)) (h1 : σ[a]? = some (1, n1, r1)) (hn : ¬ n < 0) (hn0 : n.toNatClampNeg ≤ n0) (hn1 : n.toNatClampNeg ≤ n1)
    (k : ZG X own cc nL d mc ms kc ks (pc + 3) L st σ (zcp I a (va_cpy (I a0) (I a) 0 0 n.toNatClampNeg))) : ZG X own cc nL d mc ms kc ks pc L (.int n :: .int 0 :: .ref a :: .int 0 :: .ref a0 :: st) σ I := by
  obtain ⟨p, l, e, R, s, m, args, below, meth, c, Q, cy, D, b⟩ := X
  intro hX H locs ls hH hz hS hl
  have h3 := z_cats b st hst
  have h4 := hX.2.2.2.2.2.2.2.2.2.1
  have e00 : (0 : Int32).toNatClampNeg = 0 := rfl
  refine va_copyi (ty := .int) (f := I a0) (g := I a) (n0 := n0) (n1 := n1) hX.1 hX.2.1 (by rw [hX.2.2.1]; exact hl.1.symm) hX.2.2.2.1 (hX.2.2.2.2.1 _ (zw_in hlink rfl)) (hX.2.2.2.2.1 _ (zw_in hnat rfl)) (hX.2.2.2.2.1 _ (zw_in hstat rfl)) (hX.2.2.2.2.1 _ (zw_in hini rfl))
    hX.2.2.2.2.2.1.1 hH.2 (zwld_D cy b I σ) (z_S0 hS) a0 a 0 0 (zwld_at h0) (zwld_at h1) rfl rfl rfl (by decide) (by decide) hn (by rw [e00]; omega) (by rw [e00]; omega) (fun _ _ => rfl) (Nat.le_trans hd1 hX.2.2.2.2.2.2.2.2.1) ?_ hd (fun H1 locs1 hP1 hD1 hS1 => ?_)
  · have h5 : nativeFrameWords "java/lang/System" "arraycopy" 5 + 11 ≤ 32 := by decide
    omega
  · refine z_sized (fun hle => ?_)
    have e0 := hH.1
    have e1 := hS1.1
    have hw := zwld_set (cy := cy) (b := b) (I := I) (J := zcp I a (va_cpy (I a0) (I a) 0 0 n.toNatClampNeg)) (c' := (1, n1, r1)) h1 (fun q hq => if_neg hq)
    rw [zset_same h1, show zcp I a (va_cpy (I a0) (I a) 0 0 n.toNatClampNeg) a = va_cpy (I a0) (I a) 0 0 n.toNatClampNeg from if_pos rfl] at hw
    exact k hX H1 locs1 ls ⟨by omega, by rw [← hw]; exact hP1⟩ hz (z_S hS hS1) hl
end ZR2
end
section
theorem mX9_init : ZM yX9_init cX9_init 2 none 0 := ⟨z_tab1 (i := 18) (by decide +kernel), ⟨by decide +kernel, z_tab1 (i := 1) (by decide +kernel)⟩, by decide, by decide +kernel, by decide +kernel, by decide +kernel⟩
theorem mX8_init : ZM yX8_init cX8_init 1 none 0 := ⟨z_tab1 (i := 26) (by decide +kernel), ⟨by decide +kernel, z_tab1 (i := 2) (by decide +kernel)⟩, by decide, by decide +kernel, by decide +kernel, by decide +kernel⟩
theorem mX5_init : ZM yX5_init cX5_init 1 none 0 := ⟨z_tab1 (i := 32) (by decide +kernel), ⟨by decide +kernel, z_tab1 (i := 3) (by decide +kernel)⟩, by decide, by decide +kernel, by decide +kernel, by decide +kernel⟩
theorem mX6_init : ZM yX6_init cX6_init 2 none 1 := ⟨z_tab1 (i := 38) (by decide +kernel), ⟨by decide +kernel, z_tab1 (i := 4) (by decide +kernel)⟩, by decide, by decide +kernel, by decide +kernel, by decide +kernel⟩
theorem mX7_init : ZM yX7_init cX7_init 1 none 0 := ⟨z_tab1 (i := 60) (by decide +kernel), ⟨by decide +kernel, z_tab1 (i := 5) (by decide +kernel)⟩, by decide, by decide +kernel, by decide +kernel, by decide +kernel⟩
theorem mX0_init : ZM yX0_init cX0_init 2 none 0 := ⟨z_tab1 (i := 109) (by decide +kernel), ⟨by decide +kernel, z_tab1 (i := 6) (by decide +kernel)⟩, by decide, by decide +kernel, by decide +kernel, by decide +kernel⟩
theorem mX3_init : ZM yX3_init cX3_init 1 none 0 := ⟨z_tab1 (i := 129) (by decide +kernel), ⟨by decide +kernel, z_tab1 (i := 7) (by decide +kernel)⟩, by decide, by decide +kernel, by decide +kernel, by decide +kernel⟩
theorem mX2_init : ZM yX2_init cX2_init 1 none 0 := ⟨z_tab1 (i := 135) (by decide +kernel), ⟨by decide +kernel, z_tab1 (i := 8) (by decide +kernel)⟩, by decide, by decide +kernel, by decide +kernel, by decide +kernel⟩
theorem mX4_init : ZM yX4_init cX4_init 1 none 0 := ⟨z_tab1 (i := 161) (by decide +kernel), ⟨by decide +kernel, z_tab1 (i := 9) (by decide +kernel)⟩, by decide, by decide +kernel, by decide +kernel, by decide +kernel⟩
theorem mX1_init : ZM yX1_init cX1_init 1 none 0 := ⟨z_tab1 (i := 169) (by decide +kernel), ⟨by decide +kernel, z_tab1 (i := 10) (by decide +kernel)⟩, by decide, by decide +kernel, by decide +kernel, by decide +kernel⟩
theorem mX9_add : ZM yX9_add cX9_add 6 (some FieldType.int) 5 := ⟨z_tab1 (i := 270) (by decide +kernel), ⟨by decide +kernel, z_tab1 (i := 1) (by decide +kernel)⟩, by decide, by decide +kernel, by decide +kernel, by decide +kernel⟩
theorem mX5_allows : ZM yX5_allows cX5_allows 3 (some FieldType.boolean) 3 := ⟨z_tab1 (i := 273) (by decide +kernel), ⟨by decide +kernel, z_tab1 (i := 3) (by decide +kernel)⟩, by decide, by decide +kernel, by decide +kernel, by decide +kernel⟩
theorem mX9_beginChange : ZM yX9_beginChange cX9_beginChange 1 none 0 := ⟨z_tab1 (i := 277) (by decide +kernel), ⟨by decide +kernel, z_tab1 (i := 1) (by decide +kernel)⟩, by decide, by decide +kernel, by decide +kernel, by decide +kernel⟩
theorem mX0_keep : ZM yX0_keep cX0_keep 3 none 1 := ⟨z_tab1 (i := 281) (by decide +kernel), ⟨by decide +kernel, z_tab1 (i := 6) (by decide +kernel)⟩, by decide, by decide +kernel, by decide +kernel, by decide +kernel⟩
theorem mX0_stateAt : ZM yX0_stateAt cX0_stateAt 3 (some (FieldType.object "TestVersions$State")) 1 := ⟨z_tab1 (i := 285) (by decide +kernel), ⟨by decide +kernel, z_tab1 (i := 6) (by decide +kernel)⟩, by decide, by decide +kernel, by decide +kernel, by decide +kernel⟩
theorem mX8_copy : ZM yX8_copy cX8_copy 2 none 1 := ⟨z_tab1 (i := 289) (by decide +kernel), ⟨by decide +kernel, z_tab1 (i := 2) (by decide +kernel)⟩, by decide, by decide +kernel, by decide +kernel, by decide +kernel⟩
theorem mX5_copy : ZM yX5_copy cX5_copy 2 none 1 := ⟨z_tab1 (i := 293) (by decide +kernel), ⟨by decide +kernel, z_tab1 (i := 3) (by decide +kernel)⟩, by decide, by decide +kernel, by decide +kernel, by decide +kernel⟩
theorem mX6_copy : ZM yX6_copy cX6_copy 2 none 1 := ⟨z_tab1 (i := 297) (by decide +kernel), ⟨by decide +kernel, z_tab1 (i := 4) (by decide +kernel)⟩, by decide, by decide +kernel, by decide +kernel, by decide +kernel⟩
theorem mX7_copy : ZM yX7_copy cX7_copy 2 none 1 := ⟨z_tab1 (i := 308) (by decide +kernel), ⟨by decide +kernel, z_tab1 (i := 5) (by decide +kernel)⟩, by decide, by decide +kernel, by decide +kernel, by decide +kernel⟩
theorem mX9_outdatePapers : ZM yX9_outdatePapers cX9_outdatePapers 3 none 0 := ⟨z_tab1 (i := 313) (by decide +kernel), ⟨by decide +kernel, z_tab1 (i := 1) (by decide +kernel)⟩, by decide, by decide +kernel, by decide +kernel, by decide +kernel⟩
theorem mX5_append : ZM yX5_append cX5_append 7 (some FieldType.int) 5 := ⟨z_tab1 (i := 317) (by decide +kernel), ⟨by decide +kernel, z_tab1 (i := 3) (by decide +kernel)⟩, by decide, by decide +kernel, by decide +kernel, by decide +kernel⟩
theorem mX5_put : ZM yX5_put cX5_put 4 none 3 := ⟨z_tab1 (i := 321) (by decide +kernel), ⟨by decide +kernel, z_tab1 (i := 3) (by decide +kernel)⟩, by decide, by decide +kernel, by decide +kernel, by decide +kernel⟩
theorem mX6_set : ZM yX6_set cX6_set 3 none 2 := ⟨z_tab1 (i := 325) (by decide +kernel), ⟨by decide +kernel, z_tab1 (i := 4) (by decide +kernel)⟩, by decide, by decide +kernel, by decide +kernel, by decide +kernel⟩
theorem mX9_remove : ZM yX9_remove cX9_remove 2 (some FieldType.int) 1 := ⟨z_tab1 (i := 329) (by decide +kernel), ⟨by decide +kernel, z_tab1 (i := 1) (by decide +kernel)⟩, by decide, by decide +kernel, by decide +kernel, by decide +kernel⟩
theorem mX5_has : ZM yX5_has cX5_has 2 (some FieldType.boolean) 1 := ⟨z_tab1 (i := 333) (by decide +kernel), ⟨by decide +kernel, z_tab1 (i := 3) (by decide +kernel)⟩, by decide, by decide +kernel, by decide +kernel, by decide +kernel⟩
theorem mX5_delete : ZM yX5_delete cX5_delete 4 none 1 := ⟨z_tab1 (i := 337) (by decide +kernel), ⟨by decide +kernel, z_tab1 (i := 3) (by decide +kernel)⟩, by decide, by decide +kernel, by decide +kernel, by decide +kernel⟩
theorem mX5_number : ZM yX5_number cX5_number 3 (some FieldType.int) 2 := ⟨z_tab1 (i := 341) (by decide +kernel), ⟨by decide +kernel, z_tab1 (i := 3) (by decide +kernel)⟩, by decide, by decide +kernel, by decide +kernel, by decide +kernel⟩
theorem mX6_get : ZM yX6_get cX6_get 2 (some FieldType.int) 1 := ⟨z_tab1 (i := 345) (by decide +kernel), ⟨by decide +kernel, z_tab1 (i := 4) (by decide +kernel)⟩, by decide, by decide +kernel, by decide +kernel, by decide +kernel⟩
theorem mX9_change : ZM yX9_change cX9_change 5 (some FieldType.int) 3 := ⟨z_tab1 (i := 349) (by decide +kernel), ⟨by decide +kernel, z_tab1 (i := 1) (by decide +kernel)⟩, by decide, by decide +kernel, by decide +kernel, by decide +kernel⟩
theorem mX9_question : ZM yX9_question cX9_question 3 (some FieldType.int) 2 := ⟨z_tab1 (i := 355) (by decide +kernel), ⟨by decide +kernel, z_tab1 (i := 1) (by decide +kernel)⟩, by decide, by decide +kernel, by decide +kernel, by decide +kernel⟩
theorem mX9_questions : ZM yX9_questions cX9_questions 1 (some FieldType.int) 0 := ⟨z_tab1 (i := 359) (by decide +kernel), ⟨by decide +kernel, z_tab1 (i := 1) (by decide +kernel)⟩, by decide, by decide +kernel, by decide +kernel, by decide +kernel⟩
theorem mX9_version : ZM yX9_version cX9_version 3 (some FieldType.int) 1 := ⟨z_tab1 (i := 363) (by decide +kernel), ⟨by decide +kernel, z_tab1 (i := 1) (by decide +kernel)⟩, by decide, by decide +kernel, by decide +kernel, by decide +kernel⟩
theorem mX9_drop : ZM yX9_drop cX9_drop 1 (some FieldType.long) 0 := ⟨z_tab1 (i := 368) (by decide +kernel), ⟨by decide +kernel, z_tab1 (i := 1) (by decide +kernel)⟩, by decide, by decide +kernel, by decide +kernel, by decide +kernel⟩
theorem mX9_versions : ZM yX9_versions cX9_versions 1 (some FieldType.int) 0 := ⟨z_tab1 (i := 374) (by decide +kernel), ⟨by decide +kernel, z_tab1 (i := 1) (by decide +kernel)⟩, by decide, by decide +kernel, by decide +kernel, by decide +kernel⟩
theorem mX9_at : ZM yX9_at cX9_at 5 (some FieldType.int) 3 := ⟨z_tab1 (i := 378) (by decide +kernel), ⟨by decide +kernel, z_tab1 (i := 1) (by decide +kernel)⟩, by decide, by decide +kernel, by decide +kernel, by decide +kernel⟩
theorem mX9_paperOf : ZM yX9_paperOf cX9_paperOf 3 (some (FieldType.object "TestVersions$Paper")) 1 := ⟨z_tab1 (i := 382) (by decide +kernel), ⟨by decide +kernel, z_tab1 (i := 1) (by decide +kernel)⟩, by decide, by decide +kernel, by decide +kernel, by decide +kernel⟩
theorem mX3_mix : ZM yX3_mix cX3_mix 6 none 3 := ⟨z_tab1 (i := 386) (by decide +kernel), ⟨by decide +kernel, z_tab1 (i := 7) (by decide +kernel)⟩, by decide, by decide +kernel, by decide +kernel, by decide +kernel⟩
theorem mX2_begin : ZM yX2_begin cX2_begin 2 none 1 := ⟨z_tab1 (i := 390) (by decide +kernel), ⟨by decide +kernel, z_tab1 (i := 8) (by decide +kernel)⟩, by decide, by decide +kernel, by decide +kernel, by decide +kernel⟩
theorem mX3_listUnits : ZM yX3_listUnits cX3_listUnits 4 (some FieldType.int) 1 := ⟨z_tab1 (i := 394) (by decide +kernel), ⟨by decide +kernel, z_tab1 (i := 7) (by decide +kernel)⟩, by decide, by decide +kernel, by decide +kernel, by decide +kernel⟩
theorem mX5_isFirstOfUnit : ZM yX5_isFirstOfUnit cX5_isFirstOfUnit 3 (some FieldType.boolean) 1 := ⟨z_tab1 (i := 398) (by decide +kernel), ⟨by decide +kernel, z_tab1 (i := 3) (by decide +kernel)⟩, by decide, by decide +kernel, by decide +kernel, by decide +kernel⟩
theorem mX5_together : ZM yX5_together cX5_together 3 (some FieldType.boolean) 2 := ⟨z_tab1 (i := 402) (by decide +kernel), ⟨by decide +kernel, z_tab1 (i := 3) (by decide +kernel)⟩, by decide, by decide +kernel, by decide +kernel, by decide +kernel⟩
theorem mX2_mix : ZM yX2_mix cX2_mix 4 none 2 := ⟨z_tab1 (i := 407) (by decide +kernel), ⟨by decide +kernel, z_tab1 (i := 8) (by decide +kernel)⟩, by decide, by decide +kernel, by decide +kernel, by decide +kernel⟩
theorem mX2_next : ZM yX2_next cX2_next 2 (some FieldType.int) 1 := ⟨z_tab1 (i := 411) (by decide +kernel), ⟨by decide +kernel, z_tab1 (i := 8) (by decide +kernel)⟩, by decide, by decide +kernel, by decide +kernel, by decide +kernel⟩
theorem mX6_exchange : ZM yX6_exchange cX6_exchange 4 none 2 := ⟨z_tab1 (i := 416) (by decide +kernel), ⟨by decide +kernel, z_tab1 (i := 4) (by decide +kernel)⟩, by decide, by decide +kernel, by decide +kernel, by decide +kernel⟩
theorem mX3_mixUnit : ZM yX3_mixUnit cX3_mixUnit 6 none 3 := ⟨z_tab1 (i := 421) (by decide +kernel), ⟨by decide +kernel, z_tab1 (i := 7) (by decide +kernel)⟩, by decide, by decide +kernel, by decide +kernel, by decide +kernel⟩
theorem mX4_append : ZM yX4_append cX4_append 2 none 1 := ⟨z_tab1 (i := 426) (by decide +kernel), ⟨by decide +kernel, z_tab1 (i := 9) (by decide +kernel)⟩, by decide, by decide +kernel, by decide +kernel, by decide +kernel⟩
theorem mX3_mixChoices : ZM yX3_mixChoices cX3_mixChoices 10 none 3 := ⟨z_tab1 (i := 431) (by decide +kernel), ⟨by decide +kernel, z_tab1 (i := 7) (by decide +kernel)⟩, by decide, by decide +kernel, by decide +kernel, by decide +kernel⟩
theorem mX3_listLoose : ZM yX3_listLoose cX3_listLoose 5 (some FieldType.int) 2 := ⟨z_tab1 (i := 436) (by decide +kernel), ⟨by decide +kernel, z_tab1 (i := 7) (by decide +kernel)⟩, by decide, by decide +kernel, by decide +kernel, by decide +kernel⟩
theorem mX4_putChoice : ZM yX4_putChoice cX4_putChoice 4 none 3 := ⟨z_tab1 (i := 440) (by decide +kernel), ⟨by decide +kernel, z_tab1 (i := 9) (by decide +kernel)⟩, by decide, by decide +kernel, by decide +kernel, by decide +kernel⟩
theorem mX1_lay : ZM yX1_lay cX1_lay 8 none 3 := ⟨z_tab1 (i := 444) (by decide +kernel), ⟨by decide +kernel, z_tab1 (i := 10) (by decide +kernel)⟩, by decide, by decide +kernel, by decide +kernel, by decide +kernel⟩
theorem mX1_pagesFrom : ZM yX1_pagesFrom cX1_pagesFrom 7 (some FieldType.int) 2 := ⟨z_tab1 (i := 451) (by decide +kernel), ⟨by decide +kernel, z_tab1 (i := 10) (by decide +kernel)⟩, by decide, by decide +kernel, by decide +kernel, by decide +kernel⟩
theorem mX1_lowestLimit : ZM yX1_lowestLimit cX1_lowestLimit 4 (some FieldType.int) 1 := ⟨z_tab1 (i := 455) (by decide +kernel), ⟨by decide +kernel, z_tab1 (i := 10) (by decide +kernel)⟩, by decide, by decide +kernel, by decide +kernel, by decide +kernel⟩
theorem mX1_earliestEnd : ZM yX1_earliestEnd cX1_earliestEnd 5 (some FieldType.int) 3 := ⟨z_tab1 (i := 462) (by decide +kernel), ⟨by decide +kernel, z_tab1 (i := 10) (by decide +kernel)⟩, by decide, by decide +kernel, by decide +kernel, by decide +kernel⟩
theorem mX1_fill : ZM yX1_fill cX1_fill 6 none 3 := ⟨z_tab1 (i := 466) (by decide +kernel), ⟨by decide +kernel, z_tab1 (i := 10) (by decide +kernel)⟩, by decide, by decide +kernel, by decide +kernel, by decide +kernel⟩
theorem mX4_hasPlace : ZM yX4_hasPlace cX4_hasPlace 2 (some FieldType.boolean) 1 := ⟨z_tab1 (i := 470) (by decide +kernel), ⟨by decide +kernel, z_tab1 (i := 9) (by decide +kernel)⟩, by decide, by decide +kernel, by decide +kernel, by decide +kernel⟩
theorem mX4_number : ZM yX4_number cX4_number 3 (some FieldType.int) 2 := ⟨z_tab1 (i := 474) (by decide +kernel), ⟨by decide +kernel, z_tab1 (i := 9) (by decide +kernel)⟩, by decide, by decide +kernel, by decide +kernel, by decide +kernel⟩
theorem mX9_where : ZM yX9_where cX9_where 4 (some FieldType.int) 2 := ⟨z_tab1 (i := 479) (by decide +kernel), ⟨by decide +kernel, z_tab1 (i := 1) (by decide +kernel)⟩, by decide, by decide +kernel, by decide +kernel, by decide +kernel⟩
theorem mX9_choice : ZM yX9_choice cX9_choice 5 (some FieldType.int) 3 := ⟨z_tab1 (i := 483) (by decide +kernel), ⟨by decide +kernel, z_tab1 (i := 1) (by decide +kernel)⟩, by decide, by decide +kernel, by decide +kernel, by decide +kernel⟩
theorem mX9_choicesAt : ZM yX9_choicesAt cX9_choicesAt 3 (some FieldType.int) 2 := ⟨z_tab1 (i := 487) (by decide +kernel), ⟨by decide +kernel, z_tab1 (i := 1) (by decide +kernel)⟩, by decide, by decide +kernel, by decide +kernel, by decide +kernel⟩
theorem mX4_choiceAt : ZM yX4_choiceAt cX4_choiceAt 3 (some FieldType.int) 2 := ⟨z_tab1 (i := 491) (by decide +kernel), ⟨by decide +kernel, z_tab1 (i := 9) (by decide +kernel)⟩, by decide, by decide +kernel, by decide +kernel, by decide +kernel⟩
theorem mX9_alike : ZM yX9_alike cX9_alike 6 (some FieldType.int) 3 := ⟨z_tab1 (i := 495) (by decide +kernel), ⟨by decide +kernel, z_tab1 (i := 1) (by decide +kernel)⟩, by decide, by decide +kernel, by decide +kernel, by decide +kernel⟩
theorem mX6_sameAs : ZM yX6_sameAs cX6_sameAs 5 (some FieldType.int) 2 := ⟨z_tab1 (i := 499) (by decide +kernel), ⟨by decide +kernel, z_tab1 (i := 4) (by decide +kernel)⟩, by decide, by decide +kernel, by decide +kernel, by decide +kernel⟩
theorem mX4_neighborsIn : ZM yX4_neighborsIn cX4_neighborsIn 5 (some FieldType.int) 1 := ⟨z_tab1 (i := 504) (by decide +kernel), ⟨by decide +kernel, z_tab1 (i := 9) (by decide +kernel)⟩, by decide, by decide +kernel, by decide +kernel, by decide +kernel⟩
theorem mX9_unlike : ZM yX9_unlike cX9_unlike 7 (some FieldType.long) 2 := ⟨z_tab1 (i := 508) (by decide +kernel), ⟨by decide +kernel, z_tab1 (i := 1) (by decide +kernel)⟩, by decide, by decide +kernel, by decide +kernel, by decide +kernel⟩
theorem mX9_mostSameKeys : ZM yX9_mostSameKeys cX9_mostSameKeys 5 (some FieldType.int) 1 := ⟨z_tab1 (i := 513) (by decide +kernel), ⟨by decide +kernel, z_tab1 (i := 1) (by decide +kernel)⟩, by decide, by decide +kernel, by decide +kernel, by decide +kernel⟩
theorem mX9_setLines : ZM yX9_setLines cX9_setLines 3 (some FieldType.int) 1 := ⟨z_tab1 (i := 518) (by decide +kernel), ⟨by decide +kernel, z_tab1 (i := 1) (by decide +kernel)⟩, by decide, by decide +kernel, by decide +kernel, by decide +kernel⟩
theorem mX9_pages : ZM yX9_pages cX9_pages 3 (some FieldType.int) 1 := ⟨z_tab1 (i := 522) (by decide +kernel), ⟨by decide +kernel, z_tab1 (i := 1) (by decide +kernel)⟩, by decide, by decide +kernel, by decide +kernel, by decide +kernel⟩
theorem mX9_page : ZM yX9_page cX9_page 5 (some FieldType.int) 3 := ⟨z_tab1 (i := 526) (by decide +kernel), ⟨by decide +kernel, z_tab1 (i := 1) (by decide +kernel)⟩, by decide, by decide +kernel, by decide +kernel, by decide +kernel⟩
theorem mX9_type : ZM yX9_type cX9_type 2 (some FieldType.int) 1 := ⟨z_tab1 (i := 530) (by decide +kernel), ⟨by decide +kernel, z_tab1 (i := 1) (by decide +kernel)⟩, by decide, by decide +kernel, by decide +kernel, by decide +kernel⟩
theorem mX9_clear : ZM yX9_clear cX9_clear 2 (some FieldType.int) 0 := ⟨z_tab1 (i := 534) (by decide +kernel), ⟨by decide +kernel, z_tab1 (i := 1) (by decide +kernel)⟩, by decide, by decide +kernel, by decide +kernel, by decide +kernel⟩
theorem mX9_sheet : ZM yX9_sheet cX9_sheet 4 (some FieldType.int) 1 := ⟨z_tab1 (i := 538) (by decide +kernel), ⟨by decide +kernel, z_tab1 (i := 1) (by decide +kernel)⟩, by decide, by decide +kernel, by decide +kernel, by decide +kernel⟩
theorem mX9_readTyped : ZM yX9_readTyped cX9_readTyped 4 (some FieldType.int) 1 := ⟨z_tab1 (i := 542) (by decide +kernel), ⟨by decide +kernel, z_tab1 (i := 1) (by decide +kernel)⟩, by decide, by decide +kernel, by decide +kernel, by decide +kernel⟩
theorem mX9_markOf : ZM yX9_markOf cX9_markOf 2 (some FieldType.int) 2 := ⟨z_tab1 (i := 545) (by decide +kernel), ⟨by decide +kernel, z_tab1 (i := 1) (by decide +kernel)⟩, by decide, by decide +kernel, by decide +kernel, by decide +kernel⟩
theorem mX9_handIn : ZM yX9_handIn cX9_handIn 3 (some FieldType.int) 2 := ⟨z_tab1 (i := 549) (by decide +kernel), ⟨by decide +kernel, z_tab1 (i := 1) (by decide +kernel)⟩, by decide, by decide +kernel, by decide +kernel, by decide +kernel⟩
theorem mX7_append : ZM yX7_append cX7_append 10 (some FieldType.int) 3 := ⟨z_tab1 (i := 553) (by decide +kernel), ⟨by decide +kernel, z_tab1 (i := 5) (by decide +kernel)⟩, by decide, by decide +kernel, by decide +kernel, by decide +kernel⟩
theorem mX9_guess : ZM yX9_guess cX9_guess 7 (some FieldType.int) 3 := ⟨z_tab1 (i := 560) (by decide +kernel), ⟨by decide +kernel, z_tab1 (i := 1) (by decide +kernel)⟩, by decide, by decide +kernel, by decide +kernel, by decide +kernel⟩
theorem mX9_forget : ZM yX9_forget cX9_forget 2 (some FieldType.int) 0 := ⟨z_tab1 (i := 566) (by decide +kernel), ⟨by decide +kernel, z_tab1 (i := 1) (by decide +kernel)⟩, by decide, by decide +kernel, by decide +kernel, by decide +kernel⟩
theorem mX9_result : ZM yX9_result cX9_result 3 (some FieldType.int) 2 := ⟨z_tab1 (i := 570) (by decide +kernel), ⟨by decide +kernel, z_tab1 (i := 1) (by decide +kernel)⟩, by decide, by decide +kernel, by decide +kernel, by decide +kernel⟩
theorem mX7_has : ZM yX7_has cX7_has 2 (some FieldType.boolean) 1 := ⟨z_tab1 (i := 574) (by decide +kernel), ⟨by decide +kernel, z_tab1 (i := 5) (by decide +kernel)⟩, by decide, by decide +kernel, by decide +kernel, by decide +kernel⟩
theorem mX7_number : ZM yX7_number cX7_number 3 (some FieldType.int) 2 := ⟨z_tab1 (i := 578) (by decide +kernel), ⟨by decide +kernel, z_tab1 (i := 5) (by decide +kernel)⟩, by decide, by decide +kernel, by decide +kernel, by decide +kernel⟩
theorem mX7_points : ZM yX7_points cX7_points 2 (some FieldType.int) 1 := ⟨z_tab1 (i := 582) (by decide +kernel), ⟨by decide +kernel, z_tab1 (i := 5) (by decide +kernel)⟩, by decide, by decide +kernel, by decide +kernel, by decide +kernel⟩
theorem mX7_betterThan : ZM yX7_betterThan cX7_betterThan 5 (some FieldType.int) 1 := ⟨z_tab1 (i := 586) (by decide +kernel), ⟨by decide +kernel, z_tab1 (i := 5) (by decide +kernel)⟩, by decide, by decide +kernel, by decide +kernel, by decide +kernel⟩
theorem mX9_answer : ZM yX9_answer cX9_answer 4 (some FieldType.int) 2 := ⟨z_tab1 (i := 590) (by decide +kernel), ⟨by decide +kernel, z_tab1 (i := 1) (by decide +kernel)⟩, by decide, by decide +kernel, by decide +kernel, by decide +kernel⟩
theorem mX7_pick : ZM yX7_pick cX7_pick 3 (some FieldType.int) 2 := ⟨z_tab1 (i := 594) (by decide +kernel), ⟨by decide +kernel, z_tab1 (i := 5) (by decide +kernel)⟩, by decide, by decide +kernel, by decide +kernel, by decide +kernel⟩
theorem mX9_about : ZM yX9_about cX9_about 6 (some FieldType.int) 2 := ⟨z_tab1 (i := 598) (by decide +kernel), ⟨by decide +kernel, z_tab1 (i := 1) (by decide +kernel)⟩, by decide, by decide +kernel, by decide +kernel, by decide +kernel⟩
theorem mX7_pickers : ZM yX7_pickers cX7_pickers 5 (some FieldType.int) 2 := ⟨z_tab1 (i := 602) (by decide +kernel), ⟨by decide +kernel, z_tab1 (i := 5) (by decide +kernel)⟩, by decide, by decide +kernel, by decide +kernel, by decide +kernel⟩
theorem mX9_favoriteWrong : ZM yX9_favoriteWrong cX9_favoriteWrong 7 (some FieldType.int) 2 := ⟨z_tab1 (i := 607) (by decide +kernel), ⟨by decide +kernel, z_tab1 (i := 1) (by decide +kernel)⟩, by decide, by decide +kernel, by decide +kernel, by decide +kernel⟩
theorem mX9_parting : ZM yX9_parting cX9_parting 7 (some FieldType.float) 1 := ⟨z_tab1 (i := 611) (by decide +kernel), ⟨by decide +kernel, z_tab1 (i := 1) (by decide +kernel)⟩, by decide, by decide +kernel, by decide +kernel, by decide +kernel⟩
theorem mX7_standing : ZM yX7_standing cX7_standing 5 (some FieldType.int) 1 := ⟨z_tab1 (i := 616) (by decide +kernel), ⟨by decide +kernel, z_tab1 (i := 5) (by decide +kernel)⟩, by decide, by decide +kernel, by decide +kernel, by decide +kernel⟩
theorem mX9_mean : ZM yX9_mean cX9_mean 3 (some FieldType.float) 0 := ⟨z_tab1 (i := 620) (by decide +kernel), ⟨by decide +kernel, z_tab1 (i := 1) (by decide +kernel)⟩, by decide, by decide +kernel, by decide +kernel, by decide +kernel⟩
theorem mX9_sameWrong : ZM yX9_sameWrong cX9_sameWrong 3 (some FieldType.int) 2 := ⟨z_tab1 (i := 625) (by decide +kernel), ⟨by decide +kernel, z_tab1 (i := 1) (by decide +kernel)⟩, by decide, by decide +kernel, by decide +kernel, by decide +kernel⟩
theorem mX9_countSameWrong : ZM yX9_countSameWrong cX9_countSameWrong 6 (some FieldType.int) 2 := ⟨z_tab1 (i := 629) (by decide +kernel), ⟨by decide +kernel, z_tab1 (i := 1) (by decide +kernel)⟩, by decide, by decide +kernel, by decide +kernel, by decide +kernel⟩
theorem mX9_suspects : ZM yX9_suspects cX9_suspects 6 (some FieldType.int) 0 := ⟨z_tab1 (i := 633) (by decide +kernel), ⟨by decide +kernel, z_tab1 (i := 1) (by decide +kernel)⟩, by decide, by decide +kernel, by decide +kernel, by decide +kernel⟩
theorem mX9_mistaken : ZM yX9_mistaken cX9_mistaken 7 (some FieldType.int) 2 := ⟨z_tab1 (i := 637) (by decide +kernel), ⟨by decide +kernel, z_tab1 (i := 1) (by decide +kernel)⟩, by decide, by decide +kernel, by decide +kernel, by decide +kernel⟩
theorem mX7_mark : ZM yX7_mark cX7_mark 3 (some FieldType.int) 2 := ⟨z_tab1 (i := 641) (by decide +kernel), ⟨by decide +kernel, z_tab1 (i := 5) (by decide +kernel)⟩, by decide, by decide +kernel, by decide +kernel, by decide +kernel⟩
theorem mX9_undo : ZM yX9_undo cX9_undo 1 (some FieldType.int) 0 := ⟨z_tab1 (i := 645) (by decide +kernel), ⟨by decide +kernel, z_tab1 (i := 1) (by decide +kernel)⟩, by decide, by decide +kernel, by decide +kernel, by decide +kernel⟩
theorem mX0_restore : ZM yX0_restore cX0_restore 3 none 1 := ⟨z_tab1 (i := 649) (by decide +kernel), ⟨by decide +kernel, z_tab1 (i := 6) (by decide +kernel)⟩, by decide, by decide +kernel, by decide +kernel, by decide +kernel⟩
theorem mX9_fingerprint : ZM yX9_fingerprint cX9_fingerprint 3 (some FieldType.long) 0 := ⟨z_tab1 (i := 653) (by decide +kernel), ⟨by decide +kernel, z_tab1 (i := 1) (by decide +kernel)⟩, by decide, by decide +kernel, by decide +kernel, by decide +kernel⟩
theorem mX9_printQuestions : ZM yX9_printQuestions cX9_printQuestions 7 (some FieldType.long) 1 := ⟨z_tab1 (i := 658) (by decide +kernel), ⟨by decide +kernel, z_tab1 (i := 1) (by decide +kernel)⟩, by decide, by decide +kernel, by decide +kernel, by decide +kernel⟩
theorem mX9_printVersions : ZM yX9_printVersions cX9_printVersions 9 (some FieldType.long) 1 := ⟨z_tab1 (i := 663) (by decide +kernel), ⟨by decide +kernel, z_tab1 (i := 1) (by decide +kernel)⟩, by decide, by decide +kernel, by decide +kernel, by decide +kernel⟩
theorem mX9_printSheets : ZM yX9_printSheets cX9_printSheets 8 (some FieldType.long) 1 := ⟨z_tab1 (i := 667) (by decide +kernel), ⟨by decide +kernel, z_tab1 (i := 1) (by decide +kernel)⟩, by decide, by decide +kernel, by decide +kernel, by decide +kernel⟩
theorem mX10_init : ZM yX10_init cX10_init 1 none 0 := ⟨z_tab1 (i := 672) (by decide +kernel), ⟨by decide +kernel, z_tab1 (i := 11) (by decide +kernel)⟩, by decide, by decide +kernel, by decide +kernel, by decide +kernel⟩
theorem mX10_add : ZM yX10_add cX10_add 7 (some FieldType.int) 5 := ⟨z_tab1 (i := 729) (by decide +kernel), ⟨by decide +kernel, z_tab1 (i := 11) (by decide +kernel)⟩, by decide, by decide +kernel, by decide +kernel, by decide +kernel⟩
theorem mX10_in : ZM yX10_in cX10_in 3 (some FieldType.boolean) 3 := ⟨z_tab1 (i := 732) (by decide +kernel), ⟨by decide +kernel, z_tab1 (i := 11) (by decide +kernel)⟩, by decide, by decide +kernel, by decide +kernel, by decide +kernel⟩
theorem mX10_act : ZM yX10_act cX10_act 2 none 0 := ⟨z_tab1 (i := 736) (by decide +kernel), ⟨by decide +kernel, z_tab1 (i := 11) (by decide +kernel)⟩, by decide, by decide +kernel, by decide +kernel, by decide +kernel⟩
theorem mX10_remove : ZM yX10_remove cX10_remove 3 (some FieldType.int) 1 := ⟨z_tab1 (i := 740) (by decide +kernel), ⟨by decide +kernel, z_tab1 (i := 11) (by decide +kernel)⟩, by decide, by decide +kernel, by decide +kernel, by decide +kernel⟩
theorem mX10_isQuestion : ZM yX10_isQuestion cX10_isQuestion 2 (some FieldType.boolean) 1 := ⟨z_tab1 (i := 744) (by decide +kernel), ⟨by decide +kernel, z_tab1 (i := 11) (by decide +kernel)⟩, by decide, by decide +kernel, by decide +kernel, by decide +kernel⟩
theorem mX10_change : ZM yX10_change cX10_change 4 (some FieldType.int) 3 := ⟨z_tab1 (i := 748) (by decide +kernel), ⟨by decide +kernel, z_tab1 (i := 11) (by decide +kernel)⟩, by decide, by decide +kernel, by decide +kernel, by decide +kernel⟩
theorem mX10_isIn : ZM yX10_isIn cX10_isIn 4 (some FieldType.boolean) 3 := ⟨z_tab1 (i := 752) (by decide +kernel), ⟨by decide +kernel, z_tab1 (i := 11) (by decide +kernel)⟩, by decide, by decide +kernel, by decide +kernel, by decide +kernel⟩
theorem mX10_of : ZM yX10_of cX10_of 3 (some FieldType.int) 2 := ⟨z_tab1 (i := 756) (by decide +kernel), ⟨by decide +kernel, z_tab1 (i := 11) (by decide +kernel)⟩, by decide, by decide +kernel, by decide +kernel, by decide +kernel⟩
theorem mX10_sets : ZM yX10_sets cX10_sets 4 (some FieldType.int) 2 := ⟨z_tab1 (i := 760) (by decide +kernel), ⟨by decide +kernel, z_tab1 (i := 11) (by decide +kernel)⟩, by decide, by decide +kernel, by decide +kernel, by decide +kernel⟩
theorem mX10_question : ZM yX10_question cX10_question 3 (some FieldType.int) 2 := ⟨z_tab1 (i := 764) (by decide +kernel), ⟨by decide +kernel, z_tab1 (i := 11) (by decide +kernel)⟩, by decide, by decide +kernel, by decide +kernel, by decide +kernel⟩
theorem mX10_questions : ZM yX10_questions cX10_questions 1 (some FieldType.int) 0 := ⟨z_tab1 (i := 768) (by decide +kernel), ⟨by decide +kernel, z_tab1 (i := 11) (by decide +kernel)⟩, by decide, by decide +kernel, by decide +kernel, by decide +kernel⟩
theorem mX10_version : ZM yX10_version cX10_version 2 (some FieldType.int) 1 := ⟨z_tab1 (i := 772) (by decide +kernel), ⟨by decide +kernel, z_tab1 (i := 11) (by decide +kernel)⟩, by decide, by decide +kernel, by decide +kernel, by decide +kernel⟩
theorem mX10_drop : ZM yX10_drop cX10_drop 1 (some FieldType.long) 0 := ⟨z_tab1 (i := 776) (by decide +kernel), ⟨by decide +kernel, z_tab1 (i := 11) (by decide +kernel)⟩, by decide, by decide +kernel, by decide +kernel, by decide +kernel⟩
theorem mX10_versions : ZM yX10_versions cX10_versions 1 (some FieldType.int) 0 := ⟨z_tab1 (i := 781) (by decide +kernel), ⟨by decide +kernel, z_tab1 (i := 11) (by decide +kernel)⟩, by decide, by decide +kernel, by decide +kernel, by decide +kernel⟩
theorem mX10_at : ZM yX10_at cX10_at 4 (some FieldType.int) 3 := ⟨z_tab1 (i := 785) (by decide +kernel), ⟨by decide +kernel, z_tab1 (i := 11) (by decide +kernel)⟩, by decide, by decide +kernel, by decide +kernel, by decide +kernel⟩
theorem mX10_isVersion : ZM yX10_isVersion cX10_isVersion 2 (some FieldType.boolean) 1 := ⟨z_tab1 (i := 789) (by decide +kernel), ⟨by decide +kernel, z_tab1 (i := 11) (by decide +kernel)⟩, by decide, by decide +kernel, by decide +kernel, by decide +kernel⟩
theorem mX10_opens : ZM yX10_opens cX10_opens 2 none 1 := ⟨z_tab1 (i := 793) (by decide +kernel), ⟨by decide +kernel, z_tab1 (i := 11) (by decide +kernel)⟩, by decide, by decide +kernel, by decide +kernel, by decide +kernel⟩
theorem mX10_mixesAll : ZM yX10_mixesAll cX10_mixesAll 6 none 1 := ⟨z_tab1 (i := 797) (by decide +kernel), ⟨by decide +kernel, z_tab1 (i := 11) (by decide +kernel)⟩, by decide, by decide +kernel, by decide +kernel, by decide +kernel⟩
theorem mX10_leads : ZM yX10_leads cX10_leads 4 (some FieldType.boolean) 1 := ⟨z_tab1 (i := 801) (by decide +kernel), ⟨by decide +kernel, z_tab1 (i := 11) (by decide +kernel)⟩, by decide, by decide +kernel, by decide +kernel, by decide +kernel⟩
theorem mX10_mixes : ZM yX10_mixes cX10_mixes 4 none 0 := ⟨z_tab1 (i := 805) (by decide +kernel), ⟨by decide +kernel, z_tab1 (i := 11) (by decide +kernel)⟩, by decide, by decide +kernel, by decide +kernel, by decide +kernel⟩
theorem mX10_lot : ZM yX10_lot cX10_lot 2 (some FieldType.int) 1 := ⟨z_tab1 (i := 809) (by decide +kernel), ⟨by decide +kernel, z_tab1 (i := 11) (by decide +kernel)⟩, by decide, by decide +kernel, by decide +kernel, by decide +kernel⟩
theorem mX10_mixesChoices : ZM yX10_mixesChoices cX10_mixesChoices 5 none 1 := ⟨z_tab1 (i := 814) (by decide +kernel), ⟨by decide +kernel, z_tab1 (i := 11) (by decide +kernel)⟩, by decide, by decide +kernel, by decide +kernel, by decide +kernel⟩
theorem mX10_lays : ZM yX10_lays cX10_lays 6 none 0 := ⟨z_tab1 (i := 818) (by decide +kernel), ⟨by decide +kernel, z_tab1 (i := 11) (by decide +kernel)⟩, by decide, by decide +kernel, by decide +kernel, by decide +kernel⟩
theorem mX10_needs : ZM yX10_needs cX10_needs 7 (some FieldType.int) 2 := ⟨z_tab1 (i := 822) (by decide +kernel), ⟨by decide +kernel, z_tab1 (i := 11) (by decide +kernel)⟩, by decide, by decide +kernel, by decide +kernel, by decide +kernel⟩
theorem mX10_told : ZM yX10_told cX10_told 3 (some FieldType.int) 2 := ⟨z_tab1 (i := 826) (by decide +kernel), ⟨by decide +kernel, z_tab1 (i := 11) (by decide +kernel)⟩, by decide, by decide +kernel, by decide +kernel, by decide +kernel⟩
theorem mX10_where : ZM yX10_where cX10_where 3 (some FieldType.int) 2 := ⟨z_tab1 (i := 830) (by decide +kernel), ⟨by decide +kernel, z_tab1 (i := 11) (by decide +kernel)⟩, by decide, by decide +kernel, by decide +kernel, by decide +kernel⟩
theorem mX10_placeOf : ZM yX10_placeOf cX10_placeOf 3 (some FieldType.int) 1 := ⟨z_tab1 (i := 834) (by decide +kernel), ⟨by decide +kernel, z_tab1 (i := 11) (by decide +kernel)⟩, by decide, by decide +kernel, by decide +kernel, by decide +kernel⟩
theorem mX10_choice : ZM yX10_choice cX10_choice 4 (some FieldType.int) 3 := ⟨z_tab1 (i := 838) (by decide +kernel), ⟨by decide +kernel, z_tab1 (i := 11) (by decide +kernel)⟩, by decide, by decide +kernel, by decide +kernel, by decide +kernel⟩
theorem mX10_alike : ZM yX10_alike cX10_alike 4 (some FieldType.int) 3 := ⟨z_tab1 (i := 842) (by decide +kernel), ⟨by decide +kernel, z_tab1 (i := 11) (by decide +kernel)⟩, by decide, by decide +kernel, by decide +kernel, by decide +kernel⟩
theorem mX10_puts : ZM yX10_puts cX10_puts 2 none 0 := ⟨z_tab1 (i := 846) (by decide +kernel), ⟨by decide +kernel, z_tab1 (i := 11) (by decide +kernel)⟩, by decide, by decide +kernel, by decide +kernel, by decide +kernel⟩
theorem mX10_common : ZM yX10_common cX10_common 5 (some FieldType.int) 1 := ⟨z_tab1 (i := 850) (by decide +kernel), ⟨by decide +kernel, z_tab1 (i := 11) (by decide +kernel)⟩, by decide, by decide +kernel, by decide +kernel, by decide +kernel⟩
theorem mX10_unlike : ZM yX10_unlike cX10_unlike 8 (some FieldType.long) 2 := ⟨z_tab1 (i := 854) (by decide +kernel), ⟨by decide +kernel, z_tab1 (i := 11) (by decide +kernel)⟩, by decide, by decide +kernel, by decide +kernel, by decide +kernel⟩
theorem mX10_setLines : ZM yX10_setLines cX10_setLines 2 (some FieldType.int) 1 := ⟨z_tab1 (i := 859) (by decide +kernel), ⟨by decide +kernel, z_tab1 (i := 11) (by decide +kernel)⟩, by decide, by decide +kernel, by decide +kernel, by decide +kernel⟩
theorem mX10_pages : ZM yX10_pages cX10_pages 2 (some FieldType.int) 1 := ⟨z_tab1 (i := 863) (by decide +kernel), ⟨by decide +kernel, z_tab1 (i := 11) (by decide +kernel)⟩, by decide, by decide +kernel, by decide +kernel, by decide +kernel⟩
theorem mX10_page : ZM yX10_page cX10_page 7 (some FieldType.int) 3 := ⟨z_tab1 (i := 867) (by decide +kernel), ⟨by decide +kernel, z_tab1 (i := 11) (by decide +kernel)⟩, by decide, by decide +kernel, by decide +kernel, by decide +kernel⟩
theorem mX10_type : ZM yX10_type cX10_type 2 (some FieldType.int) 1 := ⟨z_tab1 (i := 871) (by decide +kernel), ⟨by decide +kernel, z_tab1 (i := 11) (by decide +kernel)⟩, by decide, by decide +kernel, by decide +kernel, by decide +kernel⟩
theorem mX10_clear : ZM yX10_clear cX10_clear 2 (some FieldType.int) 0 := ⟨z_tab1 (i := 875) (by decide +kernel), ⟨by decide +kernel, z_tab1 (i := 11) (by decide +kernel)⟩, by decide, by decide +kernel, by decide +kernel, by decide +kernel⟩
theorem mX10_sheet : ZM yX10_sheet cX10_sheet 5 (some FieldType.int) 1 := ⟨z_tab1 (i := 879) (by decide +kernel), ⟨by decide +kernel, z_tab1 (i := 11) (by decide +kernel)⟩, by decide, by decide +kernel, by decide +kernel, by decide +kernel⟩
theorem mX10_wrongAt : ZM yX10_wrongAt cX10_wrongAt 2 (some FieldType.int) 0 := ⟨z_tab1 (i := 883) (by decide +kernel), ⟨by decide +kernel, z_tab1 (i := 11) (by decide +kernel)⟩, by decide, by decide +kernel, by decide +kernel, by decide +kernel⟩
theorem mX10_sheetAt : ZM yX10_sheetAt cX10_sheetAt 1 (some FieldType.int) 1 := ⟨z_tab1 (i := 886) (by decide +kernel), ⟨by decide +kernel, z_tab1 (i := 11) (by decide +kernel)⟩, by decide, by decide +kernel, by decide +kernel, by decide +kernel⟩
theorem mX10_guess : ZM yX10_guess cX10_guess 7 (some FieldType.int) 3 := ⟨z_tab1 (i := 890) (by decide +kernel), ⟨by decide +kernel, z_tab1 (i := 11) (by decide +kernel)⟩, by decide, by decide +kernel, by decide +kernel, by decide +kernel⟩
theorem mX10_forget : ZM yX10_forget cX10_forget 2 (some FieldType.int) 0 := ⟨z_tab1 (i := 894) (by decide +kernel), ⟨by decide +kernel, z_tab1 (i := 11) (by decide +kernel)⟩, by decide, by decide +kernel, by decide +kernel, by decide +kernel⟩
theorem mX10_result : ZM yX10_result cX10_result 3 (some FieldType.int) 2 := ⟨z_tab1 (i := 898) (by decide +kernel), ⟨by decide +kernel, z_tab1 (i := 11) (by decide +kernel)⟩, by decide, by decide +kernel, by decide +kernel, by decide +kernel⟩
theorem mX10_isSheet : ZM yX10_isSheet cX10_isSheet 2 (some FieldType.boolean) 1 := ⟨z_tab1 (i := 902) (by decide +kernel), ⟨by decide +kernel, z_tab1 (i := 11) (by decide +kernel)⟩, by decide, by decide +kernel, by decide +kernel, by decide +kernel⟩
theorem mX10_resultOf : ZM yX10_resultOf cX10_resultOf 3 (some FieldType.int) 2 := ⟨z_tab1 (i := 906) (by decide +kernel), ⟨by decide +kernel, z_tab1 (i := 11) (by decide +kernel)⟩, by decide, by decide +kernel, by decide +kernel, by decide +kernel⟩
theorem mX10_points : ZM yX10_points cX10_points 2 (some FieldType.int) 1 := ⟨z_tab1 (i := 910) (by decide +kernel), ⟨by decide +kernel, z_tab1 (i := 11) (by decide +kernel)⟩, by decide, by decide +kernel, by decide +kernel, by decide +kernel⟩
theorem mX10_countsOwn : ZM yX10_countsOwn cX10_countsOwn 2 (some FieldType.int) 1 := ⟨z_tab1 (i := 914) (by decide +kernel), ⟨by decide +kernel, z_tab1 (i := 11) (by decide +kernel)⟩, by decide, by decide +kernel, by decide +kernel, by decide +kernel⟩
theorem mX10_counts : ZM yX10_counts cX10_counts 5 (some FieldType.int) 1 := ⟨z_tab1 (i := 918) (by decide +kernel), ⟨by decide +kernel, z_tab1 (i := 11) (by decide +kernel)⟩, by decide, by decide +kernel, by decide +kernel, by decide +kernel⟩
theorem mX10_pointsBy : ZM yX10_pointsBy cX10_pointsBy 1 (some FieldType.int) 1 := ⟨z_tab1 (i := 921) (by decide +kernel), ⟨by decide +kernel, z_tab1 (i := 11) (by decide +kernel)⟩, by decide, by decide +kernel, by decide +kernel, by decide +kernel⟩
theorem mX10_rank : ZM yX10_rank cX10_rank 5 (some FieldType.int) 1 := ⟨z_tab1 (i := 925) (by decide +kernel), ⟨by decide +kernel, z_tab1 (i := 11) (by decide +kernel)⟩, by decide, by decide +kernel, by decide +kernel, by decide +kernel⟩
theorem mX10_answer : ZM yX10_answer cX10_answer 3 (some FieldType.int) 2 := ⟨z_tab1 (i := 929) (by decide +kernel), ⟨by decide +kernel, z_tab1 (i := 11) (by decide +kernel)⟩, by decide, by decide +kernel, by decide +kernel, by decide +kernel⟩
theorem mX10_answerOf : ZM yX10_answerOf cX10_answerOf 5 (some FieldType.int) 2 := ⟨z_tab1 (i := 933) (by decide +kernel), ⟨by decide +kernel, z_tab1 (i := 11) (by decide +kernel)⟩, by decide, by decide +kernel, by decide +kernel, by decide +kernel⟩
theorem mX10_about : ZM yX10_about cX10_about 9 (some FieldType.int) 2 := ⟨z_tab1 (i := 937) (by decide +kernel), ⟨by decide +kernel, z_tab1 (i := 11) (by decide +kernel)⟩, by decide, by decide +kernel, by decide +kernel, by decide +kernel⟩
theorem mX10_taken : ZM yX10_taken cX10_taken 5 (some FieldType.int) 2 := ⟨z_tab1 (i := 941) (by decide +kernel), ⟨by decide +kernel, z_tab1 (i := 11) (by decide +kernel)⟩, by decide, by decide +kernel, by decide +kernel, by decide +kernel⟩
theorem mX10_parting : ZM yX10_parting cX10_parting 7 (some FieldType.float) 1 := ⟨z_tab1 (i := 945) (by decide +kernel), ⟨by decide +kernel, z_tab1 (i := 11) (by decide +kernel)⟩, by decide, by decide +kernel, by decide +kernel, by decide +kernel⟩
theorem mX10_mean : ZM yX10_mean cX10_mean 3 (some FieldType.float) 0 := ⟨z_tab1 (i := 950) (by decide +kernel), ⟨by decide +kernel, z_tab1 (i := 11) (by decide +kernel)⟩, by decide, by decide +kernel, by decide +kernel, by decide +kernel⟩
theorem mX10_sameWrong : ZM yX10_sameWrong cX10_sameWrong 3 (some FieldType.int) 2 := ⟨z_tab1 (i := 954) (by decide +kernel), ⟨by decide +kernel, z_tab1 (i := 11) (by decide +kernel)⟩, by decide, by decide +kernel, by decide +kernel, by decide +kernel⟩
theorem mX10_shared : ZM yX10_shared cX10_shared 6 (some FieldType.int) 2 := ⟨z_tab1 (i := 958) (by decide +kernel), ⟨by decide +kernel, z_tab1 (i := 11) (by decide +kernel)⟩, by decide, by decide +kernel, by decide +kernel, by decide +kernel⟩
theorem mX10_suspects : ZM yX10_suspects cX10_suspects 6 (some FieldType.int) 0 := ⟨z_tab1 (i := 962) (by decide +kernel), ⟨by decide +kernel, z_tab1 (i := 11) (by decide +kernel)⟩, by decide, by decide +kernel, by decide +kernel, by decide +kernel⟩
theorem mX10_mistaken : ZM yX10_mistaken cX10_mistaken 3 (some FieldType.int) 2 := ⟨z_tab1 (i := 966) (by decide +kernel), ⟨by decide +kernel, z_tab1 (i := 11) (by decide +kernel)⟩, by decide, by decide +kernel, by decide +kernel, by decide +kernel⟩
theorem mX10_undo : ZM yX10_undo cX10_undo 2 (some FieldType.int) 0 := ⟨z_tab1 (i := 970) (by decide +kernel), ⟨by decide +kernel, z_tab1 (i := 11) (by decide +kernel)⟩, by decide, by decide +kernel, by decide +kernel, by decide +kernel⟩
theorem mX10_fingerprint : ZM yX10_fingerprint cX10_fingerprint 6 (some FieldType.long) 0 := ⟨z_tab1 (i := 974) (by decide +kernel), ⟨by decide +kernel, z_tab1 (i := 11) (by decide +kernel)⟩, by decide, by decide +kernel, by decide +kernel, by decide +kernel⟩
theorem nRL_7 : Cond.classLink RL 7 RX9 ∈ lw_tbl := z_tab1 (i := 14) (by decide +kernel)
theorem gRL_9 : ZN RL 9 yX9_init := ⟨Or.inl (z_tab1 (i := 16) (by decide +kernel)), z_tab1 (i := 17) (by decide +kernel), rfl⟩
theorem gRX9_1 : Cond.methodLink RX9 1 Lib.objectInit ∈ lw_tbl := z_tab1 (i := 19) (by decide +kernel)
theorem j_obj_instanceMethod : Cond.instanceMethod Lib.objectInit ∈ lw_tbl := z_tab1 (i := 20) (by decide +kernel)
theorem j_obj_code : Cond.code Lib.objectInit ⟨#[0xb1]⟩ 1 none ∈ lw_tbl := z_tab1 (i := 21) (by decide +kernel)
theorem nRX9_7 : Cond.classLink RX9 7 RX8 ∈ lw_tbl := z_tab1 (i := 22) (by decide +kernel)
theorem gRX9_9 : ZN RX9 9 yX8_init := ⟨Or.inr ⟨"TestVersions", z_tab1 (i := 24) (by decide +kernel)⟩, z_tab1 (i := 25) (by decide +kernel), rfl⟩
theorem gRX8_3 : Cond.methodLink RX8 3 Lib.objectInit ∈ lw_tbl := z_tab1 (i := 27) (by decide +kernel)
theorem nRX8_9 : Cond.classLink RX8 9 RX5 ∈ lw_tbl := z_tab1 (i := 28) (by decide +kernel)
theorem gRX8_11 : ZN RX8 11 yX5_init := ⟨Or.inr ⟨"TestVersions", z_tab1 (i := 30) (by decide +kernel)⟩, z_tab1 (i := 31) (by decide +kernel), rfl⟩
theorem gRX5_3 : Cond.methodLink RX5 3 Lib.objectInit ∈ lw_tbl := z_tab1 (i := 33) (by decide +kernel)
theorem nRX5_9 : Cond.classLink RX5 9 RX6 ∈ lw_tbl := z_tab1 (i := 34) (by decide +kernel)
theorem gRX5_11 : ZN RX5 11 yX6_init := ⟨Or.inl (z_tab1 (i := 36) (by decide +kernel)), z_tab1 (i := 37) (by decide +kernel), rfl⟩
theorem gRX6_1 : Cond.methodLink RX6 1 Lib.objectInit ∈ lw_tbl := z_tab1 (i := 39) (by decide +kernel)
theorem fRX6_7 : ZF RX6 7 6 0 (.array .int) true := ⟨_, _, _, rfl, by decide, Or.inl (z_tab1 (i := 40) (by decide +kernel)), rfl, by decide +kernel, rfl⟩
theorem eRX6_7 : ZFF RX6 7 6 0 (.array .int) := ⟨_, _, _, rfl, by decide, z_tab1 (i := 40) (by decide +kernel), rfl, by decide +kernel, rfl⟩
theorem zac : Cond.arrayClass .int ∈ lw_tbl := z_tab1 (i := 44) (by decide +kernel)
theorem fRX5_14 : ZF RX5 14 5 0 (.object "TestVersions$Row") true := ⟨_, _, _, rfl, by decide, Or.inl (z_tab1 (i := 45) (by decide +kernel)), rfl, by decide +kernel, rfl⟩
theorem eRX5_14 : ZFF RX5 14 5 0 (.object "TestVersions$Row") := ⟨_, _, _, rfl, by decide, z_tab1 (i := 45) (by decide +kernel), rfl, by decide +kernel, rfl⟩
theorem fRX9_80 : ZF RX9 80 5 1 .int false := ⟨_, _, _, rfl, by decide, Or.inr ⟨"TestVersions", z_tab1 (i := 46) (by decide +kernel)⟩, rfl, by decide +kernel, rfl⟩
theorem fRX5_20 : ZF RX5 20 5 1 .int false := ⟨_, _, _, rfl, by decide, Or.inl (z_tab1 (i := 47) (by decide +kernel)), rfl, by decide +kernel, rfl⟩
theorem fRX3_61 : ZF RX3 61 5 1 .int false := ⟨_, _, _, rfl, by decide, Or.inr ⟨"TestVersions", z_tab1 (i := 48) (by decide +kernel)⟩, rfl, by decide +kernel, rfl⟩
theorem nRX8_18 : Cond.classLink RX8 18 RX6 ∈ lw_tbl := z_tab1 (i := 54) (by decide +kernel)
theorem gRX8_20 : ZN RX8 20 yX6_init := ⟨Or.inl (z_tab1 (i := 55) (by decide +kernel)), z_tab1 (i := 37) (by decide +kernel), rfl⟩
theorem nRX8_27 : Cond.classLink RX8 27 RX7 ∈ lw_tbl := z_tab1 (i := 56) (by decide +kernel)
theorem gRX8_29 : ZN RX8 29 yX7_init := ⟨Or.inr ⟨"TestVersions", z_tab1 (i := 58) (by decide +kernel)⟩, z_tab1 (i := 59) (by decide +kernel), rfl⟩
theorem gRX7_3 : Cond.methodLink RX7 3 Lib.objectInit ∈ lw_tbl := z_tab1 (i := 61) (by decide +kernel)
theorem nRX7_9 : Cond.classLink RX7 9 RX6 ∈ lw_tbl := z_tab1 (i := 62) (by decide +kernel)
theorem gRX7_11 : ZN RX7 11 yX6_init := ⟨Or.inl (z_tab1 (i := 63) (by decide +kernel)), z_tab1 (i := 37) (by decide +kernel), rfl⟩
theorem fRX7_14 : ZF RX7 14 7 0 (.object "TestVersions$Row") true := ⟨_, _, _, rfl, by decide, Or.inl (z_tab1 (i := 64) (by decide +kernel)), rfl, by decide +kernel, rfl⟩
theorem eRX7_14 : ZFF RX7 14 7 0 (.object "TestVersions$Row") := ⟨_, _, _, rfl, by decide, z_tab1 (i := 64) (by decide +kernel), rfl, by decide +kernel, rfl⟩
theorem fRX7_20 : ZF RX7 20 7 1 (.object "TestVersions$Row") true := ⟨_, _, _, rfl, by decide, Or.inl (z_tab1 (i := 65) (by decide +kernel)), rfl, by decide +kernel, rfl⟩
theorem eRX7_20 : ZFF RX7 20 7 1 (.object "TestVersions$Row") := ⟨_, _, _, rfl, by decide, z_tab1 (i := 65) (by decide +kernel), rfl, by decide +kernel, rfl⟩
theorem fRX7_23 : ZF RX7 23 7 2 (.object "TestVersions$Row") true := ⟨_, _, _, rfl, by decide, Or.inl (z_tab1 (i := 66) (by decide +kernel)), rfl, by decide +kernel, rfl⟩
theorem eRX7_23 : ZFF RX7 23 7 2 (.object "TestVersions$Row") := ⟨_, _, _, rfl, by decide, z_tab1 (i := 66) (by decide +kernel), rfl, by decide +kernel, rfl⟩
theorem fRX7_26 : ZF RX7 26 7 3 (.object "TestVersions$Row") true := ⟨_, _, _, rfl, by decide, Or.inl (z_tab1 (i := 67) (by decide +kernel)), rfl, by decide +kernel, rfl⟩
theorem eRX7_26 : ZFF RX7 26 7 3 (.object "TestVersions$Row") := ⟨_, _, _, rfl, by decide, z_tab1 (i := 67) (by decide +kernel), rfl, by decide +kernel, rfl⟩
theorem fRX7_29 : ZF RX7 29 7 4 (.object "TestVersions$Row") true := ⟨_, _, _, rfl, by decide, Or.inl (z_tab1 (i := 68) (by decide +kernel)), rfl, by decide +kernel, rfl⟩
theorem eRX7_29 : ZFF RX7 29 7 4 (.object "TestVersions$Row") := ⟨_, _, _, rfl, by decide, z_tab1 (i := 68) (by decide +kernel), rfl, by decide +kernel, rfl⟩
theorem fRX7_32 : ZF RX7 32 7 5 .int false := ⟨_, _, _, rfl, by decide, Or.inl (z_tab1 (i := 69) (by decide +kernel)), rfl, by decide +kernel, rfl⟩
theorem fRX9_70 : ZF RX9 70 7 5 .int false := ⟨_, _, _, rfl, by decide, Or.inr ⟨"TestVersions", z_tab1 (i := 70) (by decide +kernel)⟩, rfl, by decide +kernel, rfl⟩
theorem fRX8_12 : ZF RX8 12 8 0 (.object "TestVersions$Questions") true := ⟨_, _, _, rfl, by decide, Or.inl (z_tab1 (i := 84) (by decide +kernel)), rfl, by decide +kernel, rfl⟩
theorem eRX8_12 : ZFF RX8 12 8 0 (.object "TestVersions$Questions") := ⟨_, _, _, rfl, by decide, z_tab1 (i := 84) (by decide +kernel), rfl, by decide +kernel, rfl⟩
theorem fRX9_76 : ZF RX9 76 8 0 (.object "TestVersions$Questions") true := ⟨_, _, _, rfl, by decide, Or.inr ⟨"TestVersions", z_tab1 (i := 85) (by decide +kernel)⟩, rfl, by decide +kernel, rfl⟩
theorem fRX8_23 : ZF RX8 23 8 1 (.object "TestVersions$Row") true := ⟨_, _, _, rfl, by decide, Or.inl (z_tab1 (i := 86) (by decide +kernel)), rfl, by decide +kernel, rfl⟩
theorem eRX8_23 : ZFF RX8 23 8 1 (.object "TestVersions$Row") := ⟨_, _, _, rfl, by decide, z_tab1 (i := 86) (by decide +kernel), rfl, by decide +kernel, rfl⟩
theorem fRX9_106 : ZF RX9 106 8 1 (.object "TestVersions$Row") true := ⟨_, _, _, rfl, by decide, Or.inr ⟨"TestVersions", z_tab1 (i := 87) (by decide +kernel)⟩, rfl, by decide +kernel, rfl⟩
theorem fRX8_30 : ZF RX8 30 8 2 (.object "TestVersions$Sheets") true := ⟨_, _, _, rfl, by decide, Or.inl (z_tab1 (i := 88) (by decide +kernel)), rfl, by decide +kernel, rfl⟩
theorem eRX8_30 : ZFF RX8 30 8 2 (.object "TestVersions$Sheets") := ⟨_, _, _, rfl, by decide, z_tab1 (i := 88) (by decide +kernel), rfl, by decide +kernel, rfl⟩
theorem fRX9_66 : ZF RX9 66 8 2 (.object "TestVersions$Sheets") true := ⟨_, _, _, rfl, by decide, Or.inr ⟨"TestVersions", z_tab1 (i := 89) (by decide +kernel)⟩, rfl, by decide +kernel, rfl⟩
theorem fRX8_48 : ZF RX8 48 8 3 .int false := ⟨_, _, _, rfl, by decide, Or.inl (z_tab1 (i := 90) (by decide +kernel)), rfl, by decide +kernel, rfl⟩
theorem fRX9_103 : ZF RX9 103 8 3 .int false := ⟨_, _, _, rfl, by decide, Or.inr ⟨"TestVersions", z_tab1 (i := 91) (by decide +kernel)⟩, rfl, by decide +kernel, rfl⟩
theorem fRX8_34 : ZF RX8 34 8 4 .int false := ⟨_, _, _, rfl, by decide, Or.inl (z_tab1 (i := 92) (by decide +kernel)), rfl, by decide +kernel, rfl⟩
theorem fRX9_157 : ZF RX9 157 8 4 .int false := ⟨_, _, _, rfl, by decide, Or.inr ⟨"TestVersions", z_tab1 (i := 93) (by decide +kernel)⟩, rfl, by decide +kernel, rfl⟩
theorem nRX9_16 : Cond.classLink RX9 16 RX0 ∈ lw_tbl := z_tab1 (i := 105) (by decide +kernel)
theorem gRX9_18 : ZN RX9 18 yX0_init := ⟨Or.inl (z_tab1 (i := 107) (by decide +kernel)), z_tab1 (i := 108) (by decide +kernel), rfl⟩
theorem gRX0_3 : Cond.methodLink RX0 3 Lib.objectInit ∈ lw_tbl := z_tab1 (i := 110) (by decide +kernel)
theorem nRX0_9 : Cond.classLink RX0 9 RX8 ∈ lw_tbl := z_tab1 (i := 111) (by decide +kernel)
theorem gRX0_17 : ZN RX0 17 yX8_init := ⟨Or.inr ⟨"TestVersions", z_tab1 (i := 113) (by decide +kernel)⟩, z_tab1 (i := 25) (by decide +kernel), rfl⟩
theorem fRX0_11 : ZF RX0 11 0 0 (.array (.object "TestVersions$State")) true := ⟨_, _, _, rfl, by decide, Or.inl (z_tab1 (i := 114) (by decide +kernel)), rfl, by decide +kernel, rfl⟩
theorem eRX0_11 : ZFF RX0 11 0 0 (.array (.object "TestVersions$State")) := ⟨_, _, _, rfl, by decide, z_tab1 (i := 114) (by decide +kernel), rfl, by decide +kernel, rfl⟩
theorem fRX0_22 : ZF RX0 22 0 1 .int false := ⟨_, _, _, rfl, by decide, Or.inl (z_tab1 (i := 115) (by decide +kernel)), rfl, by decide +kernel, rfl⟩
theorem fRX0_18 : ZF RX0 18 0 2 .int false := ⟨_, _, _, rfl, by decide, Or.inl (z_tab1 (i := 116) (by decide +kernel)), rfl, by decide +kernel, rfl⟩
theorem fRX9_219 : ZF RX9 219 0 2 .int false := ⟨_, _, _, rfl, by decide, Or.inr ⟨"TestVersions", z_tab1 (i := 117) (by decide +kernel)⟩, rfl, by decide +kernel, rfl⟩
theorem nRX9_23 : Cond.classLink RX9 23 RX3 ∈ lw_tbl := z_tab1 (i := 125) (by decide +kernel)
theorem gRX9_25 : ZN RX9 25 yX3_init := ⟨Or.inr ⟨"TestVersions", z_tab1 (i := 127) (by decide +kernel)⟩, z_tab1 (i := 128) (by decide +kernel), rfl⟩
theorem gRX3_3 : Cond.methodLink RX3 3 Lib.objectInit ∈ lw_tbl := z_tab1 (i := 130) (by decide +kernel)
theorem nRX3_9 : Cond.classLink RX3 9 RX2 ∈ lw_tbl := z_tab1 (i := 131) (by decide +kernel)
theorem gRX3_11 : ZN RX3 11 yX2_init := ⟨Or.inr ⟨"TestVersions", z_tab1 (i := 133) (by decide +kernel)⟩, z_tab1 (i := 134) (by decide +kernel), rfl⟩
theorem gRX2_1 : Cond.methodLink RX2 1 Lib.objectInit ∈ lw_tbl := z_tab1 (i := 136) (by decide +kernel)
theorem fRX2_7 : ZF RX2 7 2 0 .int false := ⟨_, _, _, rfl, by decide, Or.inl (z_tab1 (i := 137) (by decide +kernel)), rfl, by decide +kernel, rfl⟩
theorem nRX3_18 : Cond.classLink RX3 18 RX6 ∈ lw_tbl := z_tab1 (i := 141) (by decide +kernel)
theorem gRX3_20 : ZN RX3 20 yX6_init := ⟨Or.inl (z_tab1 (i := 142) (by decide +kernel)), z_tab1 (i := 37) (by decide +kernel), rfl⟩
theorem fRX3_12 : ZF RX3 12 3 0 (.object "TestVersions$Lots") true := ⟨_, _, _, rfl, by decide, Or.inl (z_tab1 (i := 143) (by decide +kernel)), rfl, by decide +kernel, rfl⟩
theorem eRX3_12 : ZFF RX3 12 3 0 (.object "TestVersions$Lots") := ⟨_, _, _, rfl, by decide, z_tab1 (i := 143) (by decide +kernel), rfl, by decide +kernel, rfl⟩
theorem fRX3_23 : ZF RX3 23 3 1 (.object "TestVersions$Row") true := ⟨_, _, _, rfl, by decide, Or.inl (z_tab1 (i := 144) (by decide +kernel)), rfl, by decide +kernel, rfl⟩
theorem eRX3_23 : ZFF RX3 23 3 1 (.object "TestVersions$Row") := ⟨_, _, _, rfl, by decide, z_tab1 (i := 144) (by decide +kernel), rfl, by decide +kernel, rfl⟩
theorem fRX3_27 : ZF RX3 27 3 2 (.object "TestVersions$Row") true := ⟨_, _, _, rfl, by decide, Or.inl (z_tab1 (i := 145) (by decide +kernel)), rfl, by decide +kernel, rfl⟩
theorem eRX3_27 : ZFF RX3 27 3 2 (.object "TestVersions$Row") := ⟨_, _, _, rfl, by decide, z_tab1 (i := 145) (by decide +kernel), rfl, by decide +kernel, rfl⟩
theorem fRX3_30 : ZF RX3 30 3 3 (.object "TestVersions$Row") true := ⟨_, _, _, rfl, by decide, Or.inl (z_tab1 (i := 146) (by decide +kernel)), rfl, by decide +kernel, rfl⟩
theorem eRX3_30 : ZFF RX3 30 3 3 (.object "TestVersions$Row") := ⟨_, _, _, rfl, by decide, z_tab1 (i := 146) (by decide +kernel), rfl, by decide +kernel, rfl⟩
theorem nRX9_30 : Cond.classLink RX9 30 RX4 ∈ lw_tbl := z_tab1 (i := 156) (by decide +kernel)
theorem gRX9_36 : ZN RX9 36 yX4_init := ⟨Or.inr ⟨"TestVersions", z_tab1 (i := 159) (by decide +kernel)⟩, z_tab1 (i := 160) (by decide +kernel), rfl⟩
theorem gRX4_3 : Cond.methodLink RX4 3 Lib.objectInit ∈ lw_tbl := z_tab1 (i := 162) (by decide +kernel)
theorem nRX4_9 : Cond.classLink RX4 9 RX6 ∈ lw_tbl := z_tab1 (i := 163) (by decide +kernel)
theorem gRX4_11 : ZN RX4 11 yX6_init := ⟨Or.inl (z_tab1 (i := 164) (by decide +kernel)), z_tab1 (i := 37) (by decide +kernel), rfl⟩
theorem nRX4_29 : Cond.classLink RX4 29 RX1 ∈ lw_tbl := z_tab1 (i := 165) (by decide +kernel)
theorem gRX4_31 : ZN RX4 31 yX1_init := ⟨Or.inr ⟨"TestVersions", z_tab1 (i := 167) (by decide +kernel)⟩, z_tab1 (i := 168) (by decide +kernel), rfl⟩
theorem gRX1_3 : Cond.methodLink RX1 3 Lib.objectInit ∈ lw_tbl := z_tab1 (i := 170) (by decide +kernel)
theorem nRX1_9 : Cond.classLink RX1 9 RX6 ∈ lw_tbl := z_tab1 (i := 171) (by decide +kernel)
theorem gRX1_11 : ZN RX1 11 yX6_init := ⟨Or.inl (z_tab1 (i := 172) (by decide +kernel)), z_tab1 (i := 37) (by decide +kernel), rfl⟩
theorem fRX1_14 : ZF RX1 14 1 0 (.object "TestVersions$Row") true := ⟨_, _, _, rfl, by decide, Or.inl (z_tab1 (i := 173) (by decide +kernel)), rfl, by decide +kernel, rfl⟩
theorem eRX1_14 : ZFF RX1 14 1 0 (.object "TestVersions$Row") := ⟨_, _, _, rfl, by decide, z_tab1 (i := 173) (by decide +kernel), rfl, by decide +kernel, rfl⟩
theorem fRX1_20 : ZF RX1 20 1 1 (.object "TestVersions$Row") true := ⟨_, _, _, rfl, by decide, Or.inl (z_tab1 (i := 174) (by decide +kernel)), rfl, by decide +kernel, rfl⟩
theorem eRX1_20 : ZFF RX1 20 1 1 (.object "TestVersions$Row") := ⟨_, _, _, rfl, by decide, z_tab1 (i := 174) (by decide +kernel), rfl, by decide +kernel, rfl⟩
theorem fRX4_48 : ZF RX4 48 1 1 (.object "TestVersions$Row") true := ⟨_, _, _, rfl, by decide, Or.inr ⟨"TestVersions", z_tab1 (i := 175) (by decide +kernel)⟩, rfl, by decide +kernel, rfl⟩
theorem fRX1_23 : ZF RX1 23 1 2 (.object "TestVersions$Row") true := ⟨_, _, _, rfl, by decide, Or.inl (z_tab1 (i := 176) (by decide +kernel)), rfl, by decide +kernel, rfl⟩
theorem eRX1_23 : ZFF RX1 23 1 2 (.object "TestVersions$Row") := ⟨_, _, _, rfl, by decide, z_tab1 (i := 176) (by decide +kernel), rfl, by decide +kernel, rfl⟩
theorem fRX4_51 : ZF RX4 51 1 2 (.object "TestVersions$Row") true := ⟨_, _, _, rfl, by decide, Or.inr ⟨"TestVersions", z_tab1 (i := 177) (by decide +kernel)⟩, rfl, by decide +kernel, rfl⟩
theorem fRX1_26 : ZF RX1 26 1 3 (.object "TestVersions$Row") true := ⟨_, _, _, rfl, by decide, Or.inl (z_tab1 (i := 178) (by decide +kernel)), rfl, by decide +kernel, rfl⟩
theorem eRX1_26 : ZFF RX1 26 1 3 (.object "TestVersions$Row") := ⟨_, _, _, rfl, by decide, z_tab1 (i := 178) (by decide +kernel), rfl, by decide +kernel, rfl⟩
theorem fRX9_169 : ZF RX9 169 1 3 (.object "TestVersions$Row") true := ⟨_, _, _, rfl, by decide, Or.inr ⟨"TestVersions", z_tab1 (i := 179) (by decide +kernel)⟩, rfl, by decide +kernel, rfl⟩
theorem fRX1_29 : ZF RX1 29 1 4 (.object "TestVersions$Row") true := ⟨_, _, _, rfl, by decide, Or.inl (z_tab1 (i := 180) (by decide +kernel)), rfl, by decide +kernel, rfl⟩
theorem eRX1_29 : ZFF RX1 29 1 4 (.object "TestVersions$Row") := ⟨_, _, _, rfl, by decide, z_tab1 (i := 180) (by decide +kernel), rfl, by decide +kernel, rfl⟩
theorem fRX9_172 : ZF RX9 172 1 4 (.object "TestVersions$Row") true := ⟨_, _, _, rfl, by decide, Or.inr ⟨"TestVersions", z_tab1 (i := 181) (by decide +kernel)⟩, rfl, by decide +kernel, rfl⟩
theorem fRX1_38 : ZF RX1 38 1 5 .int false := ⟨_, _, _, rfl, by decide, Or.inl (z_tab1 (i := 182) (by decide +kernel)), rfl, by decide +kernel, rfl⟩
theorem fRX1_61 : ZF RX1 61 1 6 .int false := ⟨_, _, _, rfl, by decide, Or.inl (z_tab1 (i := 183) (by decide +kernel)), rfl, by decide +kernel, rfl⟩
theorem fRX9_164 : ZF RX9 164 1 6 .int false := ⟨_, _, _, rfl, by decide, Or.inr ⟨"TestVersions", z_tab1 (i := 184) (by decide +kernel)⟩, rfl, by decide +kernel, rfl⟩
theorem fRX4_14 : ZF RX4 14 4 0 (.object "TestVersions$Row") true := ⟨_, _, _, rfl, by decide, Or.inl (z_tab1 (i := 200) (by decide +kernel)), rfl, by decide +kernel, rfl⟩
theorem eRX4_14 : ZFF RX4 14 4 0 (.object "TestVersions$Row") := ⟨_, _, _, rfl, by decide, z_tab1 (i := 200) (by decide +kernel), rfl, by decide +kernel, rfl⟩
theorem fRX1_41 : ZF RX1 41 4 0 (.object "TestVersions$Row") true := ⟨_, _, _, rfl, by decide, Or.inr ⟨"TestVersions", z_tab1 (i := 201) (by decide +kernel)⟩, rfl, by decide +kernel, rfl⟩
theorem fRX3_79 : ZF RX3 79 4 0 (.object "TestVersions$Row") true := ⟨_, _, _, rfl, by decide, Or.inr ⟨"TestVersions", z_tab1 (i := 202) (by decide +kernel)⟩, rfl, by decide +kernel, rfl⟩
theorem fRX7_51 : ZF RX7 51 4 0 (.object "TestVersions$Row") true := ⟨_, _, _, rfl, by decide, Or.inr ⟨"TestVersions", z_tab1 (i := 203) (by decide +kernel)⟩, rfl, by decide +kernel, rfl⟩
theorem fRX9_137 : ZF RX9 137 4 0 (.object "TestVersions$Row") true := ⟨_, _, _, rfl, by decide, Or.inr ⟨"TestVersions", z_tab1 (i := 204) (by decide +kernel)⟩, rfl, by decide +kernel, rfl⟩
theorem fRX4_20 : ZF RX4 20 4 1 (.object "TestVersions$Row") true := ⟨_, _, _, rfl, by decide, Or.inl (z_tab1 (i := 205) (by decide +kernel)), rfl, by decide +kernel, rfl⟩
theorem eRX4_20 : ZFF RX4 20 4 1 (.object "TestVersions$Row") := ⟨_, _, _, rfl, by decide, z_tab1 (i := 205) (by decide +kernel), rfl, by decide +kernel, rfl⟩
theorem fRX9_127 : ZF RX9 127 4 1 (.object "TestVersions$Row") true := ⟨_, _, _, rfl, by decide, Or.inr ⟨"TestVersions", z_tab1 (i := 206) (by decide +kernel)⟩, rfl, by decide +kernel, rfl⟩
theorem fRX4_23 : ZF RX4 23 4 2 (.object "TestVersions$Row") true := ⟨_, _, _, rfl, by decide, Or.inl (z_tab1 (i := 207) (by decide +kernel)), rfl, by decide +kernel, rfl⟩
theorem eRX4_23 : ZFF RX4 23 4 2 (.object "TestVersions$Row") := ⟨_, _, _, rfl, by decide, z_tab1 (i := 207) (by decide +kernel), rfl, by decide +kernel, rfl⟩
theorem fRX7_54 : ZF RX7 54 4 2 (.object "TestVersions$Row") true := ⟨_, _, _, rfl, by decide, Or.inr ⟨"TestVersions", z_tab1 (i := 208) (by decide +kernel)⟩, rfl, by decide +kernel, rfl⟩
theorem fRX3_93 : ZF RX3 93 4 2 (.object "TestVersions$Row") true := ⟨_, _, _, rfl, by decide, Or.inr ⟨"TestVersions", z_tab1 (i := 209) (by decide +kernel)⟩, rfl, by decide +kernel, rfl⟩
theorem fRX9_145 : ZF RX9 145 4 2 (.object "TestVersions$Row") true := ⟨_, _, _, rfl, by decide, Or.inr ⟨"TestVersions", z_tab1 (i := 210) (by decide +kernel)⟩, rfl, by decide +kernel, rfl⟩
theorem fRX4_26 : ZF RX4 26 4 3 (.object "TestVersions$Row") true := ⟨_, _, _, rfl, by decide, Or.inl (z_tab1 (i := 211) (by decide +kernel)), rfl, by decide +kernel, rfl⟩
theorem eRX4_26 : ZFF RX4 26 4 3 (.object "TestVersions$Row") := ⟨_, _, _, rfl, by decide, z_tab1 (i := 211) (by decide +kernel), rfl, by decide +kernel, rfl⟩
theorem fRX4_32 : ZF RX4 32 4 4 (.object "TestVersions$Layout") true := ⟨_, _, _, rfl, by decide, Or.inl (z_tab1 (i := 212) (by decide +kernel)), rfl, by decide +kernel, rfl⟩
theorem eRX4_32 : ZFF RX4 32 4 4 (.object "TestVersions$Layout") := ⟨_, _, _, rfl, by decide, z_tab1 (i := 212) (by decide +kernel), rfl, by decide +kernel, rfl⟩
theorem fRX9_160 : ZF RX9 160 4 4 (.object "TestVersions$Layout") true := ⟨_, _, _, rfl, by decide, Or.inr ⟨"TestVersions", z_tab1 (i := 213) (by decide +kernel)⟩, rfl, by decide +kernel, rfl⟩
theorem fRX1_32 : ZF RX1 32 4 5 .int false := ⟨_, _, _, rfl, by decide, Or.inr ⟨"TestVersions", z_tab1 (i := 214) (by decide +kernel)⟩, rfl, by decide +kernel, rfl⟩
theorem fRX4_36 : ZF RX4 36 4 5 .int false := ⟨_, _, _, rfl, by decide, Or.inl (z_tab1 (i := 215) (by decide +kernel)), rfl, by decide +kernel, rfl⟩
theorem fRX3_44 : ZF RX3 44 4 5 .int false := ⟨_, _, _, rfl, by decide, Or.inr ⟨"TestVersions", z_tab1 (i := 216) (by decide +kernel)⟩, rfl, by decide +kernel, rfl⟩
theorem fRX7_40 : ZF RX7 40 4 5 .int false := ⟨_, _, _, rfl, by decide, Or.inr ⟨"TestVersions", z_tab1 (i := 217) (by decide +kernel)⟩, rfl, by decide +kernel, rfl⟩
theorem fRX9_140 : ZF RX9 140 4 5 .int false := ⟨_, _, _, rfl, by decide, Or.inr ⟨"TestVersions", z_tab1 (i := 218) (by decide +kernel)⟩, rfl, by decide +kernel, rfl⟩
theorem fRX9_238 : ZF RX9 238 4 6 .boolean false := ⟨_, _, _, rfl, by decide, Or.inr ⟨"TestVersions", z_tab1 (i := 219) (by decide +kernel)⟩, rfl, by decide +kernel, rfl⟩
theorem nRX9_41 : Cond.classLink RX9 41 RX2 ∈ lw_tbl := z_tab1 (i := 235) (by decide +kernel)
theorem gRX9_43 : ZN RX9 43 yX2_init := ⟨Or.inr ⟨"TestVersions", z_tab1 (i := 236) (by decide +kernel)⟩, z_tab1 (i := 134) (by decide +kernel), rfl⟩
theorem nRX9_48 : Cond.classLink RX9 48 RX6 ∈ lw_tbl := z_tab1 (i := 237) (by decide +kernel)
theorem gRX9_50 : ZN RX9 50 yX6_init := ⟨Or.inl (z_tab1 (i := 238) (by decide +kernel)), z_tab1 (i := 37) (by decide +kernel), rfl⟩
theorem fRX9_10 : ZF RX9 10 9 0 (.object "TestVersions$State") true := ⟨_, _, _, rfl, by decide, Or.inl (z_tab1 (i := 239) (by decide +kernel)), rfl, by decide +kernel, rfl⟩
theorem eRX9_10 : ZFF RX9 10 9 0 (.object "TestVersions$State") := ⟨_, _, _, rfl, by decide, z_tab1 (i := 239) (by decide +kernel), rfl, by decide +kernel, rfl⟩
theorem fRX9_19 : ZF RX9 19 9 1 (.object "TestVersions$History") true := ⟨_, _, _, rfl, by decide, Or.inl (z_tab1 (i := 240) (by decide +kernel)), rfl, by decide +kernel, rfl⟩
theorem eRX9_19 : ZFF RX9 19 9 1 (.object "TestVersions$History") := ⟨_, _, _, rfl, by decide, z_tab1 (i := 240) (by decide +kernel), rfl, by decide +kernel, rfl⟩
theorem fRX9_26 : ZF RX9 26 9 2 (.object "TestVersions$Mixer") true := ⟨_, _, _, rfl, by decide, Or.inl (z_tab1 (i := 241) (by decide +kernel)), rfl, by decide +kernel, rfl⟩
theorem eRX9_26 : ZFF RX9 26 9 2 (.object "TestVersions$Mixer") := ⟨_, _, _, rfl, by decide, z_tab1 (i := 241) (by decide +kernel), rfl, by decide +kernel, rfl⟩
theorem fRX9_32 : ZF RX9 32 9 3 (.array (.object "TestVersions$Paper")) true := ⟨_, _, _, rfl, by decide, Or.inl (z_tab1 (i := 242) (by decide +kernel)), rfl, by decide +kernel, rfl⟩
theorem eRX9_32 : ZFF RX9 32 9 3 (.array (.object "TestVersions$Paper")) := ⟨_, _, _, rfl, by decide, z_tab1 (i := 242) (by decide +kernel), rfl, by decide +kernel, rfl⟩
theorem fRX9_37 : ZF RX9 37 9 4 (.object "TestVersions$Paper") true := ⟨_, _, _, rfl, by decide, Or.inl (z_tab1 (i := 243) (by decide +kernel)), rfl, by decide +kernel, rfl⟩
theorem eRX9_37 : ZFF RX9 37 9 4 (.object "TestVersions$Paper") := ⟨_, _, _, rfl, by decide, z_tab1 (i := 243) (by decide +kernel), rfl, by decide +kernel, rfl⟩
theorem fRX9_44 : ZF RX9 44 9 5 (.object "TestVersions$Lots") true := ⟨_, _, _, rfl, by decide, Or.inl (z_tab1 (i := 244) (by decide +kernel)), rfl, by decide +kernel, rfl⟩
theorem eRX9_44 : ZFF RX9 44 9 5 (.object "TestVersions$Lots") := ⟨_, _, _, rfl, by decide, z_tab1 (i := 244) (by decide +kernel), rfl, by decide +kernel, rfl⟩
theorem fRX9_53 : ZF RX9 53 9 6 (.object "TestVersions$Row") true := ⟨_, _, _, rfl, by decide, Or.inl (z_tab1 (i := 245) (by decide +kernel)), rfl, by decide +kernel, rfl⟩
theorem eRX9_53 : ZFF RX9 53 9 6 (.object "TestVersions$Row") := ⟨_, _, _, rfl, by decide, z_tab1 (i := 245) (by decide +kernel), rfl, by decide +kernel, rfl⟩
theorem fRX9_57 : ZF RX9 57 9 7 (.object "TestVersions$Row") true := ⟨_, _, _, rfl, by decide, Or.inl (z_tab1 (i := 246) (by decide +kernel)), rfl, by decide +kernel, rfl⟩
theorem eRX9_57 : ZFF RX9 57 9 7 (.object "TestVersions$Row") := ⟨_, _, _, rfl, by decide, z_tab1 (i := 246) (by decide +kernel), rfl, by decide +kernel, rfl⟩
theorem fRX9_175 : ZF RX9 175 9 8 .int false := ⟨_, _, _, rfl, by decide, Or.inl (z_tab1 (i := 247) (by decide +kernel)), rfl, by decide +kernel, rfl⟩
theorem gRL_13 : ZV RL 13 yX9_add := ⟨z_tab1 (i := 267) (by decide +kernel), z_tab1 (i := 268) (by decide +kernel), z_tab1 (i := 269) (by decide +kernel)⟩
theorem gRX9_60 : ZS RX9 60 yX5_allows := ⟨z_tab1 (i := 271) (by decide +kernel), z_tab1 (i := 272) (by decide +kernel)⟩
theorem gRX9_81 : ZV RX9 81 yX9_beginChange := ⟨z_tab1 (i := 274) (by decide +kernel), z_tab1 (i := 276) (by decide +kernel), z_tab0 (i := 0) (by decide +kernel)⟩
theorem gRX9_191 : ZV RX9 191 yX0_keep := ⟨z_tab1 (i := 278) (by decide +kernel), z_tab1 (i := 279) (by decide +kernel), z_tab1 (i := 280) (by decide +kernel)⟩
theorem gRX0_25 : ZV RX0 25 yX0_stateAt := ⟨z_tab1 (i := 282) (by decide +kernel), z_tab1 (i := 284) (by decide +kernel), z_tab0 (i := 1) (by decide +kernel)⟩
theorem gRX0_29 : ZV RX0 29 yX8_copy := ⟨z_tab1 (i := 286) (by decide +kernel), z_tab1 (i := 287) (by decide +kernel), z_tab1 (i := 288) (by decide +kernel)⟩
theorem gRX8_38 : ZV RX8 38 yX5_copy := ⟨z_tab1 (i := 290) (by decide +kernel), z_tab1 (i := 291) (by decide +kernel), z_tab1 (i := 292) (by decide +kernel)⟩
theorem gRX5_44 : ZV RX5 44 yX6_copy := ⟨z_tab1 (i := 294) (by decide +kernel), z_tab1 (i := 295) (by decide +kernel), z_tab1 (i := 296) (by decide +kernel)⟩
theorem gRX6_13 : Cond.methodLink RX6 13 Lib.Math.min.name ∈ lw_tbl := z_tab1 (i := 298) (by decide +kernel)
theorem j_min_static : Cond.static Lib.Math.min.name ∈ lw_tbl := z_tab1 (i := 299) (by decide +kernel)
theorem j_min_code : Cond.code Lib.Math.min.name Lib.Math.min.code 2 (some .int) ∈ lw_tbl := z_tab1 (i := 300) (by decide +kernel)
theorem gRX6_19 : Cond.methodLink RX6 19 arraycopyName ∈ lw_tbl := z_tab1 (i := 301) (by decide +kernel)
theorem j_acp_static : Cond.static arraycopyName ∈ lw_tbl := z_tab1 (i := 302) (by decide +kernel)
theorem j_acp_native : Cond.native arraycopyName ∈ lw_tbl := z_tab1 (i := 303) (by decide +kernel)
theorem gRX8_42 : ZV RX8 42 yX6_copy := ⟨z_tab1 (i := 304) (by decide +kernel), z_tab1 (i := 295) (by decide +kernel), z_tab1 (i := 296) (by decide +kernel)⟩
theorem gRX8_45 : ZV RX8 45 yX7_copy := ⟨z_tab1 (i := 305) (by decide +kernel), z_tab1 (i := 306) (by decide +kernel), z_tab1 (i := 307) (by decide +kernel)⟩
theorem gRX7_66 : ZV RX7 66 yX6_copy := ⟨z_tab1 (i := 309) (by decide +kernel), z_tab1 (i := 295) (by decide +kernel), z_tab1 (i := 296) (by decide +kernel)⟩
theorem gRX9_223 : ZV RX9 223 yX9_outdatePapers := ⟨z_tab1 (i := 310) (by decide +kernel), z_tab1 (i := 312) (by decide +kernel), z_tab0 (i := 2) (by decide +kernel)⟩
theorem gRX9_84 : ZV RX9 84 yX5_append := ⟨z_tab1 (i := 314) (by decide +kernel), z_tab1 (i := 315) (by decide +kernel), z_tab1 (i := 316) (by decide +kernel)⟩
theorem gRX5_32 : ZV RX5 32 yX5_put := ⟨z_tab1 (i := 318) (by decide +kernel), z_tab1 (i := 319) (by decide +kernel), z_tab1 (i := 320) (by decide +kernel)⟩
theorem gRX5_28 : ZV RX5 28 yX6_set := ⟨z_tab1 (i := 322) (by decide +kernel), z_tab1 (i := 323) (by decide +kernel), z_tab1 (i := 324) (by decide +kernel)⟩
theorem gRL_18 : ZV RL 18 yX9_remove := ⟨z_tab1 (i := 326) (by decide +kernel), z_tab1 (i := 327) (by decide +kernel), z_tab1 (i := 328) (by decide +kernel)⟩
theorem gRX9_88 : ZV RX9 88 yX5_has := ⟨z_tab1 (i := 330) (by decide +kernel), z_tab1 (i := 331) (by decide +kernel), z_tab1 (i := 332) (by decide +kernel)⟩
theorem gRX9_92 : ZV RX9 92 yX5_delete := ⟨z_tab1 (i := 334) (by decide +kernel), z_tab1 (i := 335) (by decide +kernel), z_tab1 (i := 336) (by decide +kernel)⟩
theorem gRX5_36 : ZV RX5 36 yX5_number := ⟨z_tab1 (i := 338) (by decide +kernel), z_tab1 (i := 339) (by decide +kernel), z_tab1 (i := 340) (by decide +kernel)⟩
theorem gRX5_24 : ZV RX5 24 yX6_get := ⟨z_tab1 (i := 342) (by decide +kernel), z_tab1 (i := 343) (by decide +kernel), z_tab1 (i := 344) (by decide +kernel)⟩
theorem gRL_23 : ZV RL 23 yX9_change := ⟨z_tab1 (i := 346) (by decide +kernel), z_tab1 (i := 347) (by decide +kernel), z_tab1 (i := 348) (by decide +kernel)⟩
theorem gRX9_95 : ZV RX9 95 yX5_number := ⟨z_tab1 (i := 350) (by decide +kernel), z_tab1 (i := 339) (by decide +kernel), z_tab1 (i := 340) (by decide +kernel)⟩
theorem gRX9_99 : ZV RX9 99 yX5_put := ⟨z_tab1 (i := 351) (by decide +kernel), z_tab1 (i := 319) (by decide +kernel), z_tab1 (i := 320) (by decide +kernel)⟩
theorem gRL_28 : ZV RL 28 yX9_question := ⟨z_tab1 (i := 352) (by decide +kernel), z_tab1 (i := 353) (by decide +kernel), z_tab1 (i := 354) (by decide +kernel)⟩
theorem gRL_33 : ZV RL 33 yX9_questions := ⟨z_tab1 (i := 356) (by decide +kernel), z_tab1 (i := 357) (by decide +kernel), z_tab1 (i := 358) (by decide +kernel)⟩
theorem gRL_38 : ZV RL 38 yX9_version := ⟨z_tab1 (i := 360) (by decide +kernel), z_tab1 (i := 361) (by decide +kernel), z_tab1 (i := 362) (by decide +kernel)⟩
theorem gRX9_109 : ZV RX9 109 yX6_set := ⟨z_tab1 (i := 364) (by decide +kernel), z_tab1 (i := 323) (by decide +kernel), z_tab1 (i := 324) (by decide +kernel)⟩
theorem gRL_42 : ZV RL 42 yX9_drop := ⟨z_tab1 (i := 365) (by decide +kernel), z_tab1 (i := 366) (by decide +kernel), z_tab1 (i := 367) (by decide +kernel)⟩
theorem kRX9_113 : Cond.constantLong RX9 113 (-1002 : Int64) ∈ lw_tbl := z_tab1 (i := 369) (by decide +kernel)
theorem gRX9_115 : ZV RX9 115 yX6_get := ⟨z_tab1 (i := 370) (by decide +kernel), z_tab1 (i := 343) (by decide +kernel), z_tab1 (i := 344) (by decide +kernel)⟩
theorem gRL_47 : ZV RL 47 yX9_versions := ⟨z_tab1 (i := 371) (by decide +kernel), z_tab1 (i := 372) (by decide +kernel), z_tab1 (i := 373) (by decide +kernel)⟩
theorem gRL_51 : ZV RL 51 yX9_at := ⟨z_tab1 (i := 375) (by decide +kernel), z_tab1 (i := 376) (by decide +kernel), z_tab1 (i := 377) (by decide +kernel)⟩
theorem gRX9_119 : ZV RX9 119 yX9_paperOf := ⟨z_tab1 (i := 379) (by decide +kernel), z_tab1 (i := 381) (by decide +kernel), z_tab0 (i := 3) (by decide +kernel)⟩
theorem gRX9_242 : ZV RX9 242 yX3_mix := ⟨z_tab1 (i := 383) (by decide +kernel), z_tab1 (i := 384) (by decide +kernel), z_tab1 (i := 385) (by decide +kernel)⟩
theorem gRX3_33 : ZV RX3 33 yX2_begin := ⟨z_tab1 (i := 387) (by decide +kernel), z_tab1 (i := 388) (by decide +kernel), z_tab1 (i := 389) (by decide +kernel)⟩
theorem gRX3_36 : ZV RX3 36 yX3_listUnits := ⟨z_tab1 (i := 391) (by decide +kernel), z_tab1 (i := 393) (by decide +kernel), z_tab0 (i := 4) (by decide +kernel)⟩
theorem gRX3_64 : ZV RX3 64 yX5_isFirstOfUnit := ⟨z_tab1 (i := 395) (by decide +kernel), z_tab1 (i := 396) (by decide +kernel), z_tab1 (i := 397) (by decide +kernel)⟩
theorem gRX5_40 : ZV RX5 40 yX5_together := ⟨z_tab1 (i := 399) (by decide +kernel), z_tab1 (i := 400) (by decide +kernel), z_tab1 (i := 401) (by decide +kernel)⟩
theorem gRX3_68 : ZV RX3 68 yX6_set := ⟨z_tab1 (i := 403) (by decide +kernel), z_tab1 (i := 323) (by decide +kernel), z_tab1 (i := 324) (by decide +kernel)⟩
theorem gRX3_40 : ZV RX3 40 yX2_mix := ⟨z_tab1 (i := 404) (by decide +kernel), z_tab1 (i := 405) (by decide +kernel), z_tab1 (i := 406) (by decide +kernel)⟩
theorem gRX2_14 : ZV RX2 14 yX2_next := ⟨z_tab1 (i := 408) (by decide +kernel), z_tab1 (i := 409) (by decide +kernel), z_tab1 (i := 410) (by decide +kernel)⟩
theorem kRX2_13 : Cond.constant RX2 13 (1103515245 : Int32) ∈ lw_tbl := z_tab1 (i := 412) (by decide +kernel)
theorem gRX2_18 : ZV RX2 18 yX6_exchange := ⟨z_tab1 (i := 413) (by decide +kernel), z_tab1 (i := 414) (by decide +kernel), z_tab1 (i := 415) (by decide +kernel)⟩
theorem gRX3_50 : ZV RX3 50 yX6_get := ⟨z_tab1 (i := 417) (by decide +kernel), z_tab1 (i := 343) (by decide +kernel), z_tab1 (i := 344) (by decide +kernel)⟩
theorem gRX3_54 : ZV RX3 54 yX3_mixUnit := ⟨z_tab1 (i := 418) (by decide +kernel), z_tab1 (i := 420) (by decide +kernel), z_tab0 (i := 5) (by decide +kernel)⟩
theorem gRX3_72 : ZV RX3 72 yX5_together := ⟨z_tab1 (i := 422) (by decide +kernel), z_tab1 (i := 400) (by decide +kernel), z_tab1 (i := 401) (by decide +kernel)⟩
theorem gRX3_76 : ZV RX3 76 yX4_append := ⟨z_tab1 (i := 423) (by decide +kernel), z_tab1 (i := 424) (by decide +kernel), z_tab1 (i := 425) (by decide +kernel)⟩
theorem gRX4_40 : ZV RX4 40 yX6_set := ⟨z_tab1 (i := 427) (by decide +kernel), z_tab1 (i := 323) (by decide +kernel), z_tab1 (i := 324) (by decide +kernel)⟩
theorem gRX3_58 : ZV RX3 58 yX3_mixChoices := ⟨z_tab1 (i := 428) (by decide +kernel), z_tab1 (i := 430) (by decide +kernel), z_tab0 (i := 6) (by decide +kernel)⟩
theorem gRX3_82 : ZV RX3 82 yX5_number := ⟨z_tab1 (i := 432) (by decide +kernel), z_tab1 (i := 339) (by decide +kernel), z_tab1 (i := 340) (by decide +kernel)⟩
theorem gRX3_86 : ZV RX3 86 yX3_listLoose := ⟨z_tab1 (i := 433) (by decide +kernel), z_tab1 (i := 435) (by decide +kernel), z_tab0 (i := 7) (by decide +kernel)⟩
theorem gRX3_89 : ZV RX3 89 yX4_putChoice := ⟨z_tab1 (i := 437) (by decide +kernel), z_tab1 (i := 438) (by decide +kernel), z_tab1 (i := 439) (by decide +kernel)⟩
theorem gRX9_246 : ZV RX9 246 yX1_lay := ⟨z_tab1 (i := 441) (by decide +kernel), z_tab1 (i := 442) (by decide +kernel), z_tab1 (i := 443) (by decide +kernel)⟩
theorem gRX1_44 : ZV RX1 44 yX6_get := ⟨z_tab1 (i := 445) (by decide +kernel), z_tab1 (i := 343) (by decide +kernel), z_tab1 (i := 344) (by decide +kernel)⟩
theorem gRX1_48 : ZV RX1 48 yX5_number := ⟨z_tab1 (i := 446) (by decide +kernel), z_tab1 (i := 339) (by decide +kernel), z_tab1 (i := 340) (by decide +kernel)⟩
theorem gRX1_54 : ZV RX1 54 yX6_set := ⟨z_tab1 (i := 447) (by decide +kernel), z_tab1 (i := 323) (by decide +kernel), z_tab1 (i := 324) (by decide +kernel)⟩
theorem gRX1_58 : ZV RX1 58 yX1_pagesFrom := ⟨z_tab1 (i := 448) (by decide +kernel), z_tab1 (i := 450) (by decide +kernel), z_tab0 (i := 8) (by decide +kernel)⟩
theorem gRX1_64 : ZV RX1 64 yX1_lowestLimit := ⟨z_tab1 (i := 452) (by decide +kernel), z_tab1 (i := 454) (by decide +kernel), z_tab0 (i := 9) (by decide +kernel)⟩
theorem gRX1_75 : Cond.methodLink RX1 75 Lib.Math.max.name ∈ lw_tbl := z_tab1 (i := 456) (by decide +kernel)
theorem j_max_static : Cond.static Lib.Math.max.name ∈ lw_tbl := z_tab1 (i := 457) (by decide +kernel)
theorem j_max_code : Cond.code Lib.Math.max.name Lib.Math.max.code 2 (some .int) ∈ lw_tbl := z_tab1 (i := 458) (by decide +kernel)
theorem gRX1_67 : ZV RX1 67 yX1_earliestEnd := ⟨z_tab1 (i := 459) (by decide +kernel), z_tab1 (i := 461) (by decide +kernel), z_tab0 (i := 10) (by decide +kernel)⟩
theorem gRX1_71 : ZV RX1 71 yX1_fill := ⟨z_tab1 (i := 463) (by decide +kernel), z_tab1 (i := 465) (by decide +kernel), z_tab0 (i := 11) (by decide +kernel)⟩
theorem gRX9_123 : ZV RX9 123 yX4_hasPlace := ⟨z_tab1 (i := 467) (by decide +kernel), z_tab1 (i := 468) (by decide +kernel), z_tab1 (i := 469) (by decide +kernel)⟩
theorem gRX9_126 : ZV RX9 126 yX4_number := ⟨z_tab1 (i := 471) (by decide +kernel), z_tab1 (i := 472) (by decide +kernel), z_tab1 (i := 473) (by decide +kernel)⟩
theorem gRX4_44 : ZV RX4 44 yX6_get := ⟨z_tab1 (i := 475) (by decide +kernel), z_tab1 (i := 343) (by decide +kernel), z_tab1 (i := 344) (by decide +kernel)⟩
theorem gRL_55 : ZV RL 55 yX9_where := ⟨z_tab1 (i := 476) (by decide +kernel), z_tab1 (i := 477) (by decide +kernel), z_tab1 (i := 478) (by decide +kernel)⟩
theorem gRL_59 : ZV RL 59 yX9_choice := ⟨z_tab1 (i := 480) (by decide +kernel), z_tab1 (i := 481) (by decide +kernel), z_tab1 (i := 482) (by decide +kernel)⟩
theorem gRX9_130 : ZV RX9 130 yX9_choicesAt := ⟨z_tab1 (i := 484) (by decide +kernel), z_tab1 (i := 486) (by decide +kernel), z_tab0 (i := 12) (by decide +kernel)⟩
theorem gRX9_134 : ZV RX9 134 yX4_choiceAt := ⟨z_tab1 (i := 488) (by decide +kernel), z_tab1 (i := 489) (by decide +kernel), z_tab1 (i := 490) (by decide +kernel)⟩
theorem gRL_63 : ZV RL 63 yX9_alike := ⟨z_tab1 (i := 492) (by decide +kernel), z_tab1 (i := 493) (by decide +kernel), z_tab1 (i := 494) (by decide +kernel)⟩
theorem gRX9_141 : ZV RX9 141 yX6_sameAs := ⟨z_tab1 (i := 496) (by decide +kernel), z_tab1 (i := 497) (by decide +kernel), z_tab1 (i := 498) (by decide +kernel)⟩
theorem gRX6_25 : ZV RX6 25 yX6_get := ⟨z_tab1 (i := 500) (by decide +kernel), z_tab1 (i := 343) (by decide +kernel), z_tab1 (i := 344) (by decide +kernel)⟩
theorem gRX9_148 : ZV RX9 148 yX4_neighborsIn := ⟨z_tab1 (i := 501) (by decide +kernel), z_tab1 (i := 502) (by decide +kernel), z_tab1 (i := 503) (by decide +kernel)⟩
theorem gRL_67 : ZV RL 67 yX9_unlike := ⟨z_tab1 (i := 505) (by decide +kernel), z_tab1 (i := 506) (by decide +kernel), z_tab1 (i := 507) (by decide +kernel)⟩
theorem kRX9_152 : Cond.constantLong RX9 152 (-4611686018427387905 : Int64) ∈ lw_tbl := z_tab1 (i := 509) (by decide +kernel)
theorem gRX9_154 : ZV RX9 154 yX9_mostSameKeys := ⟨z_tab1 (i := 510) (by decide +kernel), z_tab1 (i := 512) (by decide +kernel), z_tab0 (i := 13) (by decide +kernel)⟩
theorem gRX9_250 : Cond.methodLink RX9 250 Lib.Math.max.name ∈ lw_tbl := z_tab1 (i := 514) (by decide +kernel)
theorem gRL_72 : ZV RL 72 yX9_setLines := ⟨z_tab1 (i := 515) (by decide +kernel), z_tab1 (i := 516) (by decide +kernel), z_tab1 (i := 517) (by decide +kernel)⟩
theorem gRL_76 : ZV RL 76 yX9_pages := ⟨z_tab1 (i := 519) (by decide +kernel), z_tab1 (i := 520) (by decide +kernel), z_tab1 (i := 521) (by decide +kernel)⟩
theorem gRL_80 : ZV RL 80 yX9_page := ⟨z_tab1 (i := 523) (by decide +kernel), z_tab1 (i := 524) (by decide +kernel), z_tab1 (i := 525) (by decide +kernel)⟩
theorem gRL_84 : ZV RL 84 yX9_type := ⟨z_tab1 (i := 527) (by decide +kernel), z_tab1 (i := 528) (by decide +kernel), z_tab1 (i := 529) (by decide +kernel)⟩
theorem gRL_88 : ZV RL 88 yX9_clear := ⟨z_tab1 (i := 531) (by decide +kernel), z_tab1 (i := 532) (by decide +kernel), z_tab1 (i := 533) (by decide +kernel)⟩
theorem gRL_92 : ZV RL 92 yX9_sheet := ⟨z_tab1 (i := 535) (by decide +kernel), z_tab1 (i := 536) (by decide +kernel), z_tab1 (i := 537) (by decide +kernel)⟩
theorem gRX9_178 : ZV RX9 178 yX9_readTyped := ⟨z_tab1 (i := 539) (by decide +kernel), z_tab1 (i := 541) (by decide +kernel), z_tab0 (i := 14) (by decide +kernel)⟩
theorem gRX9_255 : ZS RX9 255 yX9_markOf := ⟨z_tab1 (i := 543) (by decide +kernel), z_tab1 (i := 544) (by decide +kernel)⟩
theorem gRX9_181 : ZV RX9 181 yX9_handIn := ⟨z_tab1 (i := 546) (by decide +kernel), z_tab1 (i := 548) (by decide +kernel), z_tab0 (i := 15) (by decide +kernel)⟩
theorem gRX9_258 : ZV RX9 258 yX7_append := ⟨z_tab1 (i := 550) (by decide +kernel), z_tab1 (i := 551) (by decide +kernel), z_tab1 (i := 552) (by decide +kernel)⟩
theorem gRX7_36 : ZV RX7 36 yX6_get := ⟨z_tab1 (i := 554) (by decide +kernel), z_tab1 (i := 343) (by decide +kernel), z_tab1 (i := 344) (by decide +kernel)⟩
theorem gRX7_43 : ZV RX7 43 yX4_choiceAt := ⟨z_tab1 (i := 555) (by decide +kernel), z_tab1 (i := 489) (by decide +kernel), z_tab1 (i := 490) (by decide +kernel)⟩
theorem gRX7_47 : ZV RX7 47 yX6_set := ⟨z_tab1 (i := 556) (by decide +kernel), z_tab1 (i := 323) (by decide +kernel), z_tab1 (i := 324) (by decide +kernel)⟩
theorem gRL_96 : ZV RL 96 yX9_guess := ⟨z_tab1 (i := 557) (by decide +kernel), z_tab1 (i := 558) (by decide +kernel), z_tab1 (i := 559) (by decide +kernel)⟩
theorem gRX9_185 : ZV RX9 185 yX2_begin := ⟨z_tab1 (i := 561) (by decide +kernel), z_tab1 (i := 388) (by decide +kernel), z_tab1 (i := 389) (by decide +kernel)⟩
theorem gRX9_188 : ZV RX9 188 yX2_next := ⟨z_tab1 (i := 562) (by decide +kernel), z_tab1 (i := 409) (by decide +kernel), z_tab1 (i := 410) (by decide +kernel)⟩
theorem gRL_100 : ZV RL 100 yX9_forget := ⟨z_tab1 (i := 563) (by decide +kernel), z_tab1 (i := 564) (by decide +kernel), z_tab1 (i := 565) (by decide +kernel)⟩
theorem gRL_104 : ZV RL 104 yX9_result := ⟨z_tab1 (i := 567) (by decide +kernel), z_tab1 (i := 568) (by decide +kernel), z_tab1 (i := 569) (by decide +kernel)⟩
theorem gRX9_195 : ZV RX9 195 yX7_has := ⟨z_tab1 (i := 571) (by decide +kernel), z_tab1 (i := 572) (by decide +kernel), z_tab1 (i := 573) (by decide +kernel)⟩
theorem gRX9_196 : ZV RX9 196 yX7_number := ⟨z_tab1 (i := 575) (by decide +kernel), z_tab1 (i := 576) (by decide +kernel), z_tab1 (i := 577) (by decide +kernel)⟩
theorem gRX7_57 : ZV RX7 57 yX7_points := ⟨z_tab1 (i := 579) (by decide +kernel), z_tab1 (i := 580) (by decide +kernel), z_tab1 (i := 581) (by decide +kernel)⟩
theorem gRX7_60 : ZV RX7 60 yX7_betterThan := ⟨z_tab1 (i := 583) (by decide +kernel), z_tab1 (i := 585) (by decide +kernel), z_tab0 (i := 16) (by decide +kernel)⟩
theorem gRL_108 : ZV RL 108 yX9_answer := ⟨z_tab1 (i := 587) (by decide +kernel), z_tab1 (i := 588) (by decide +kernel), z_tab1 (i := 589) (by decide +kernel)⟩
theorem gRX9_197 : ZV RX9 197 yX7_pick := ⟨z_tab1 (i := 591) (by decide +kernel), z_tab1 (i := 592) (by decide +kernel), z_tab1 (i := 593) (by decide +kernel)⟩
theorem gRL_112 : ZV RL 112 yX9_about := ⟨z_tab1 (i := 595) (by decide +kernel), z_tab1 (i := 596) (by decide +kernel), z_tab1 (i := 597) (by decide +kernel)⟩
theorem gRX9_200 : ZV RX9 200 yX7_pickers := ⟨z_tab1 (i := 599) (by decide +kernel), z_tab1 (i := 600) (by decide +kernel), z_tab1 (i := 601) (by decide +kernel)⟩
theorem gRX7_63 : ZV RX7 63 yX7_pick := ⟨z_tab1 (i := 603) (by decide +kernel), z_tab1 (i := 592) (by decide +kernel), z_tab1 (i := 593) (by decide +kernel)⟩
theorem gRX9_203 : ZV RX9 203 yX9_favoriteWrong := ⟨z_tab1 (i := 604) (by decide +kernel), z_tab1 (i := 606) (by decide +kernel), z_tab0 (i := 17) (by decide +kernel)⟩
theorem gRL_116 : ZV RL 116 yX9_parting := ⟨z_tab1 (i := 608) (by decide +kernel), z_tab1 (i := 609) (by decide +kernel), z_tab1 (i := 610) (by decide +kernel)⟩
theorem kRX9_206 : Cond.constantFloat RX9 206 (3221225472 : UInt32) ∈ lw_tbl := z_tab1 (i := 612) (by decide +kernel)
theorem gRX9_207 : ZV RX9 207 yX7_standing := ⟨z_tab1 (i := 613) (by decide +kernel), z_tab1 (i := 614) (by decide +kernel), z_tab1 (i := 615) (by decide +kernel)⟩
theorem gRL_121 : ZV RL 121 yX9_mean := ⟨z_tab1 (i := 617) (by decide +kernel), z_tab1 (i := 618) (by decide +kernel), z_tab1 (i := 619) (by decide +kernel)⟩
theorem gRX9_210 : ZV RX9 210 yX7_points := ⟨z_tab1 (i := 621) (by decide +kernel), z_tab1 (i := 580) (by decide +kernel), z_tab1 (i := 581) (by decide +kernel)⟩
theorem gRL_126 : ZV RL 126 yX9_sameWrong := ⟨z_tab1 (i := 622) (by decide +kernel), z_tab1 (i := 623) (by decide +kernel), z_tab1 (i := 624) (by decide +kernel)⟩
theorem gRX9_213 : ZV RX9 213 yX9_countSameWrong := ⟨z_tab1 (i := 626) (by decide +kernel), z_tab1 (i := 628) (by decide +kernel), z_tab0 (i := 18) (by decide +kernel)⟩
theorem gRL_130 : ZV RL 130 yX9_suspects := ⟨z_tab1 (i := 630) (by decide +kernel), z_tab1 (i := 631) (by decide +kernel), z_tab1 (i := 632) (by decide +kernel)⟩
theorem gRL_134 : ZV RL 134 yX9_mistaken := ⟨z_tab1 (i := 634) (by decide +kernel), z_tab1 (i := 635) (by decide +kernel), z_tab1 (i := 636) (by decide +kernel)⟩
theorem gRX9_216 : ZV RX9 216 yX7_mark := ⟨z_tab1 (i := 638) (by decide +kernel), z_tab1 (i := 639) (by decide +kernel), z_tab1 (i := 640) (by decide +kernel)⟩
theorem gRL_138 : ZV RL 138 yX9_undo := ⟨z_tab1 (i := 642) (by decide +kernel), z_tab1 (i := 643) (by decide +kernel), z_tab1 (i := 644) (by decide +kernel)⟩
theorem gRX9_220 : ZV RX9 220 yX0_restore := ⟨z_tab1 (i := 646) (by decide +kernel), z_tab1 (i := 647) (by decide +kernel), z_tab1 (i := 648) (by decide +kernel)⟩
theorem gRL_142 : ZV RL 142 yX9_fingerprint := ⟨z_tab1 (i := 650) (by decide +kernel), z_tab1 (i := 651) (by decide +kernel), z_tab1 (i := 652) (by decide +kernel)⟩
theorem kRX9_226 : Cond.constantLong RX9 226 (181 : Int64) ∈ lw_tbl := z_tab1 (i := 654) (by decide +kernel)
theorem gRX9_228 : ZV RX9 228 yX9_printQuestions := ⟨z_tab1 (i := 655) (by decide +kernel), z_tab1 (i := 657) (by decide +kernel), z_tab0 (i := 19) (by decide +kernel)⟩
theorem kRX9_261 : Cond.constantLong RX9 261 (31 : Int64) ∈ lw_tbl := z_tab1 (i := 659) (by decide +kernel)
theorem gRX9_232 : ZV RX9 232 yX9_printVersions := ⟨z_tab1 (i := 660) (by decide +kernel), z_tab1 (i := 662) (by decide +kernel), z_tab0 (i := 20) (by decide +kernel)⟩
theorem gRX9_235 : ZV RX9 235 yX9_printSheets := ⟨z_tab1 (i := 664) (by decide +kernel), z_tab1 (i := 666) (by decide +kernel), z_tab0 (i := 21) (by decide +kernel)⟩
theorem nRL_10 : Cond.classLink RL 10 RX10 ∈ lw_tbl := z_tab1 (i := 668) (by decide +kernel)
theorem gRL_12 : ZN RL 12 yX10_init := ⟨Or.inl (z_tab1 (i := 670) (by decide +kernel)), z_tab1 (i := 671) (by decide +kernel), rfl⟩
theorem gRX10_1 : Cond.methodLink RX10 1 Lib.objectInit ∈ lw_tbl := z_tab1 (i := 673) (by decide +kernel)
theorem fRX10_7 : ZF RX10 7 10 0 (.array .int) true := ⟨_, _, _, rfl, by decide, Or.inl (z_tab1 (i := 674) (by decide +kernel)), rfl, by decide +kernel, rfl⟩
theorem eRX10_7 : ZFF RX10 7 10 0 (.array .int) := ⟨_, _, _, rfl, by decide, z_tab1 (i := 674) (by decide +kernel), rfl, by decide +kernel, rfl⟩
theorem fRX10_13 : ZF RX10 13 10 1 (.array .int) true := ⟨_, _, _, rfl, by decide, Or.inl (z_tab1 (i := 675) (by decide +kernel)), rfl, by decide +kernel, rfl⟩
theorem eRX10_13 : ZFF RX10 13 10 1 (.array .int) := ⟨_, _, _, rfl, by decide, z_tab1 (i := 675) (by decide +kernel), rfl, by decide +kernel, rfl⟩
theorem fRX10_46 : ZF RX10 46 10 2 .int false := ⟨_, _, _, rfl, by decide, Or.inl (z_tab1 (i := 676) (by decide +kernel)), rfl, by decide +kernel, rfl⟩
theorem fRX10_72 : ZF RX10 72 10 3 .int false := ⟨_, _, _, rfl, by decide, Or.inl (z_tab1 (i := 677) (by decide +kernel)), rfl, by decide +kernel, rfl⟩
theorem fRX10_16 : ZF RX10 16 10 4 (.array .int) true := ⟨_, _, _, rfl, by decide, Or.inl (z_tab1 (i := 678) (by decide +kernel)), rfl, by decide +kernel, rfl⟩
theorem eRX10_16 : ZFF RX10 16 10 4 (.array .int) := ⟨_, _, _, rfl, by decide, z_tab1 (i := 678) (by decide +kernel), rfl, by decide +kernel, rfl⟩
theorem fRX10_19 : ZF RX10 19 10 5 (.array .int) true := ⟨_, _, _, rfl, by decide, Or.inl (z_tab1 (i := 679) (by decide +kernel)), rfl, by decide +kernel, rfl⟩
theorem eRX10_19 : ZFF RX10 19 10 5 (.array .int) := ⟨_, _, _, rfl, by decide, z_tab1 (i := 679) (by decide +kernel), rfl, by decide +kernel, rfl⟩
theorem fRX10_22 : ZF RX10 22 10 6 (.array .int) true := ⟨_, _, _, rfl, by decide, Or.inl (z_tab1 (i := 680) (by decide +kernel)), rfl, by decide +kernel, rfl⟩
theorem eRX10_22 : ZFF RX10 22 10 6 (.array .int) := ⟨_, _, _, rfl, by decide, z_tab1 (i := 680) (by decide +kernel), rfl, by decide +kernel, rfl⟩
theorem fRX10_25 : ZF RX10 25 10 7 (.array .int) true := ⟨_, _, _, rfl, by decide, Or.inl (z_tab1 (i := 681) (by decide +kernel)), rfl, by decide +kernel, rfl⟩
theorem eRX10_25 : ZFF RX10 25 10 7 (.array .int) := ⟨_, _, _, rfl, by decide, z_tab1 (i := 681) (by decide +kernel), rfl, by decide +kernel, rfl⟩
theorem fRX10_75 : ZF RX10 75 10 8 .int false := ⟨_, _, _, rfl, by decide, Or.inl (z_tab1 (i := 682) (by decide +kernel)), rfl, by decide +kernel, rfl⟩
theorem fRX10_28 : ZF RX10 28 10 9 (.array .int) true := ⟨_, _, _, rfl, by decide, Or.inl (z_tab1 (i := 683) (by decide +kernel)), rfl, by decide +kernel, rfl⟩
theorem eRX10_28 : ZFF RX10 28 10 9 (.array .int) := ⟨_, _, _, rfl, by decide, z_tab1 (i := 683) (by decide +kernel), rfl, by decide +kernel, rfl⟩
theorem fRX10_31 : ZF RX10 31 10 10 (.array .int) true := ⟨_, _, _, rfl, by decide, Or.inl (z_tab1 (i := 684) (by decide +kernel)), rfl, by decide +kernel, rfl⟩
theorem eRX10_31 : ZFF RX10 31 10 10 (.array .int) := ⟨_, _, _, rfl, by decide, z_tab1 (i := 684) (by decide +kernel), rfl, by decide +kernel, rfl⟩
theorem fRX10_34 : ZF RX10 34 10 11 (.array .int) true := ⟨_, _, _, rfl, by decide, Or.inl (z_tab1 (i := 685) (by decide +kernel)), rfl, by decide +kernel, rfl⟩
theorem eRX10_34 : ZFF RX10 34 10 11 (.array .int) := ⟨_, _, _, rfl, by decide, z_tab1 (i := 685) (by decide +kernel), rfl, by decide +kernel, rfl⟩
theorem fRX10_98 : ZF RX10 98 10 12 .int false := ⟨_, _, _, rfl, by decide, Or.inl (z_tab1 (i := 686) (by decide +kernel)), rfl, by decide +kernel, rfl⟩
theorem fRX10_37 : ZF RX10 37 10 13 (.array .int) true := ⟨_, _, _, rfl, by decide, Or.inl (z_tab1 (i := 687) (by decide +kernel)), rfl, by decide +kernel, rfl⟩
theorem eRX10_37 : ZFF RX10 37 10 13 (.array .int) := ⟨_, _, _, rfl, by decide, z_tab1 (i := 687) (by decide +kernel), rfl, by decide +kernel, rfl⟩
theorem fRX10_40 : ZF RX10 40 10 14 (.array .int) true := ⟨_, _, _, rfl, by decide, Or.inl (z_tab1 (i := 688) (by decide +kernel)), rfl, by decide +kernel, rfl⟩
theorem eRX10_40 : ZFF RX10 40 10 14 (.array .int) := ⟨_, _, _, rfl, by decide, z_tab1 (i := 688) (by decide +kernel), rfl, by decide +kernel, rfl⟩
theorem fRX10_43 : ZF RX10 43 10 15 (.array .int) true := ⟨_, _, _, rfl, by decide, Or.inl (z_tab1 (i := 689) (by decide +kernel)), rfl, by decide +kernel, rfl⟩
theorem eRX10_43 : ZFF RX10 43 10 15 (.array .int) := ⟨_, _, _, rfl, by decide, z_tab1 (i := 689) (by decide +kernel), rfl, by decide +kernel, rfl⟩
theorem fRX10_126 : ZF RX10 126 10 16 .int false := ⟨_, _, _, rfl, by decide, Or.inl (z_tab1 (i := 690) (by decide +kernel)), rfl, by decide +kernel, rfl⟩
theorem gRL_17 : ZV RL 17 yX10_add := ⟨z_tab1 (i := 726) (by decide +kernel), z_tab1 (i := 727) (by decide +kernel), z_tab1 (i := 728) (by decide +kernel)⟩
theorem gRX10_50 : ZS RX10 50 yX10_in := ⟨z_tab1 (i := 730) (by decide +kernel), z_tab1 (i := 731) (by decide +kernel)⟩
theorem gRX10_54 : ZV RX10 54 yX10_act := ⟨z_tab1 (i := 733) (by decide +kernel), z_tab1 (i := 735) (by decide +kernel), z_tab0 (i := 22) (by decide +kernel)⟩
theorem gRL_22 : ZV RL 22 yX10_remove := ⟨z_tab1 (i := 737) (by decide +kernel), z_tab1 (i := 738) (by decide +kernel), z_tab1 (i := 739) (by decide +kernel)⟩
theorem gRX10_57 : ZV RX10 57 yX10_isQuestion := ⟨z_tab1 (i := 741) (by decide +kernel), z_tab1 (i := 743) (by decide +kernel), z_tab0 (i := 23) (by decide +kernel)⟩
theorem gRL_27 : ZV RL 27 yX10_change := ⟨z_tab1 (i := 745) (by decide +kernel), z_tab1 (i := 746) (by decide +kernel), z_tab1 (i := 747) (by decide +kernel)⟩
theorem gRX10_65 : ZV RX10 65 yX10_isIn := ⟨z_tab1 (i := 749) (by decide +kernel), z_tab1 (i := 751) (by decide +kernel), z_tab0 (i := 24) (by decide +kernel)⟩
theorem gRX10_61 : ZV RX10 61 yX10_of := ⟨z_tab1 (i := 753) (by decide +kernel), z_tab1 (i := 755) (by decide +kernel), z_tab0 (i := 25) (by decide +kernel)⟩
theorem gRX10_68 : ZV RX10 68 yX10_sets := ⟨z_tab1 (i := 757) (by decide +kernel), z_tab1 (i := 759) (by decide +kernel), z_tab0 (i := 26) (by decide +kernel)⟩
theorem gRL_32 : ZV RL 32 yX10_question := ⟨z_tab1 (i := 761) (by decide +kernel), z_tab1 (i := 762) (by decide +kernel), z_tab1 (i := 763) (by decide +kernel)⟩
theorem gRL_37 : ZV RL 37 yX10_questions := ⟨z_tab1 (i := 765) (by decide +kernel), z_tab1 (i := 766) (by decide +kernel), z_tab1 (i := 767) (by decide +kernel)⟩
theorem gRL_41 : ZV RL 41 yX10_version := ⟨z_tab1 (i := 769) (by decide +kernel), z_tab1 (i := 770) (by decide +kernel), z_tab1 (i := 771) (by decide +kernel)⟩
theorem gRL_46 : ZV RL 46 yX10_drop := ⟨z_tab1 (i := 773) (by decide +kernel), z_tab1 (i := 774) (by decide +kernel), z_tab1 (i := 775) (by decide +kernel)⟩
theorem kRX10_101 : Cond.constantLong RX10 101 (-1002 : Int64) ∈ lw_tbl := z_tab1 (i := 777) (by decide +kernel)
theorem gRL_50 : ZV RL 50 yX10_versions := ⟨z_tab1 (i := 778) (by decide +kernel), z_tab1 (i := 779) (by decide +kernel), z_tab1 (i := 780) (by decide +kernel)⟩
theorem gRL_54 : ZV RL 54 yX10_at := ⟨z_tab1 (i := 782) (by decide +kernel), z_tab1 (i := 783) (by decide +kernel), z_tab1 (i := 784) (by decide +kernel)⟩
theorem gRX10_103 : ZV RX10 103 yX10_isVersion := ⟨z_tab1 (i := 786) (by decide +kernel), z_tab1 (i := 788) (by decide +kernel), z_tab0 (i := 27) (by decide +kernel)⟩
theorem gRX10_106 : ZV RX10 106 yX10_opens := ⟨z_tab1 (i := 790) (by decide +kernel), z_tab1 (i := 792) (by decide +kernel), z_tab0 (i := 28) (by decide +kernel)⟩
theorem gRX10_92 : ZV RX10 92 yX10_mixesAll := ⟨z_tab1 (i := 794) (by decide +kernel), z_tab1 (i := 796) (by decide +kernel), z_tab0 (i := 29) (by decide +kernel)⟩
theorem gRX10_85 : ZV RX10 85 yX10_leads := ⟨z_tab1 (i := 798) (by decide +kernel), z_tab1 (i := 800) (by decide +kernel), z_tab0 (i := 30) (by decide +kernel)⟩
theorem gRX10_82 : ZV RX10 82 yX10_mixes := ⟨z_tab1 (i := 802) (by decide +kernel), z_tab1 (i := 804) (by decide +kernel), z_tab0 (i := 31) (by decide +kernel)⟩
theorem gRX10_78 : ZV RX10 78 yX10_lot := ⟨z_tab1 (i := 806) (by decide +kernel), z_tab1 (i := 808) (by decide +kernel), z_tab0 (i := 32) (by decide +kernel)⟩
theorem kRX10_71 : Cond.constant RX10 71 (1103515245 : Int32) ∈ lw_tbl := z_tab1 (i := 810) (by decide +kernel)
theorem gRX10_88 : ZV RX10 88 yX10_mixesChoices := ⟨z_tab1 (i := 811) (by decide +kernel), z_tab1 (i := 813) (by decide +kernel), z_tab0 (i := 33) (by decide +kernel)⟩
theorem gRX10_109 : ZV RX10 109 yX10_lays := ⟨z_tab1 (i := 815) (by decide +kernel), z_tab1 (i := 817) (by decide +kernel), z_tab0 (i := 34) (by decide +kernel)⟩
theorem gRX10_95 : ZV RX10 95 yX10_needs := ⟨z_tab1 (i := 819) (by decide +kernel), z_tab1 (i := 821) (by decide +kernel), z_tab0 (i := 35) (by decide +kernel)⟩
theorem gRX10_112 : ZV RX10 112 yX10_told := ⟨z_tab1 (i := 823) (by decide +kernel), z_tab1 (i := 825) (by decide +kernel), z_tab0 (i := 36) (by decide +kernel)⟩
theorem gRL_58 : ZV RL 58 yX10_where := ⟨z_tab1 (i := 827) (by decide +kernel), z_tab1 (i := 828) (by decide +kernel), z_tab1 (i := 829) (by decide +kernel)⟩
theorem gRX10_115 : ZV RX10 115 yX10_placeOf := ⟨z_tab1 (i := 831) (by decide +kernel), z_tab1 (i := 833) (by decide +kernel), z_tab0 (i := 37) (by decide +kernel)⟩
theorem gRL_62 : ZV RL 62 yX10_choice := ⟨z_tab1 (i := 835) (by decide +kernel), z_tab1 (i := 836) (by decide +kernel), z_tab1 (i := 837) (by decide +kernel)⟩
theorem gRL_66 : ZV RL 66 yX10_alike := ⟨z_tab1 (i := 839) (by decide +kernel), z_tab1 (i := 840) (by decide +kernel), z_tab1 (i := 841) (by decide +kernel)⟩
theorem gRX10_118 : ZV RX10 118 yX10_puts := ⟨z_tab1 (i := 843) (by decide +kernel), z_tab1 (i := 845) (by decide +kernel), z_tab0 (i := 38) (by decide +kernel)⟩
theorem gRX10_121 : ZV RX10 121 yX10_common := ⟨z_tab1 (i := 847) (by decide +kernel), z_tab1 (i := 849) (by decide +kernel), z_tab0 (i := 39) (by decide +kernel)⟩
theorem gRL_71 : ZV RL 71 yX10_unlike := ⟨z_tab1 (i := 851) (by decide +kernel), z_tab1 (i := 852) (by decide +kernel), z_tab1 (i := 853) (by decide +kernel)⟩
theorem kRX10_124 : Cond.constantLong RX10 124 (-4611686018427387905 : Int64) ∈ lw_tbl := z_tab1 (i := 855) (by decide +kernel)
theorem gRL_75 : ZV RL 75 yX10_setLines := ⟨z_tab1 (i := 856) (by decide +kernel), z_tab1 (i := 857) (by decide +kernel), z_tab1 (i := 858) (by decide +kernel)⟩
theorem gRL_79 : ZV RL 79 yX10_pages := ⟨z_tab1 (i := 860) (by decide +kernel), z_tab1 (i := 861) (by decide +kernel), z_tab1 (i := 862) (by decide +kernel)⟩
theorem gRL_83 : ZV RL 83 yX10_page := ⟨z_tab1 (i := 864) (by decide +kernel), z_tab1 (i := 865) (by decide +kernel), z_tab1 (i := 866) (by decide +kernel)⟩
theorem gRL_87 : ZV RL 87 yX10_type := ⟨z_tab1 (i := 868) (by decide +kernel), z_tab1 (i := 869) (by decide +kernel), z_tab1 (i := 870) (by decide +kernel)⟩
theorem gRL_91 : ZV RL 91 yX10_clear := ⟨z_tab1 (i := 872) (by decide +kernel), z_tab1 (i := 873) (by decide +kernel), z_tab1 (i := 874) (by decide +kernel)⟩
theorem gRL_95 : ZV RL 95 yX10_sheet := ⟨z_tab1 (i := 876) (by decide +kernel), z_tab1 (i := 877) (by decide +kernel), z_tab1 (i := 878) (by decide +kernel)⟩
theorem gRX10_129 : ZV RX10 129 yX10_wrongAt := ⟨z_tab1 (i := 880) (by decide +kernel), z_tab1 (i := 882) (by decide +kernel), z_tab0 (i := 40) (by decide +kernel)⟩
theorem gRX10_133 : ZS RX10 133 yX10_sheetAt := ⟨z_tab1 (i := 884) (by decide +kernel), z_tab1 (i := 885) (by decide +kernel)⟩
theorem gRL_99 : ZV RL 99 yX10_guess := ⟨z_tab1 (i := 887) (by decide +kernel), z_tab1 (i := 888) (by decide +kernel), z_tab1 (i := 889) (by decide +kernel)⟩
theorem gRL_103 : ZV RL 103 yX10_forget := ⟨z_tab1 (i := 891) (by decide +kernel), z_tab1 (i := 892) (by decide +kernel), z_tab1 (i := 893) (by decide +kernel)⟩
theorem gRL_107 : ZV RL 107 yX10_result := ⟨z_tab1 (i := 895) (by decide +kernel), z_tab1 (i := 896) (by decide +kernel), z_tab1 (i := 897) (by decide +kernel)⟩
theorem gRX10_151 : ZV RX10 151 yX10_isSheet := ⟨z_tab1 (i := 899) (by decide +kernel), z_tab1 (i := 901) (by decide +kernel), z_tab0 (i := 41) (by decide +kernel)⟩
theorem gRX10_154 : ZV RX10 154 yX10_resultOf := ⟨z_tab1 (i := 903) (by decide +kernel), z_tab1 (i := 905) (by decide +kernel), z_tab0 (i := 42) (by decide +kernel)⟩
theorem gRX10_145 : ZV RX10 145 yX10_points := ⟨z_tab1 (i := 907) (by decide +kernel), z_tab1 (i := 909) (by decide +kernel), z_tab0 (i := 43) (by decide +kernel)⟩
theorem gRX10_139 : ZV RX10 139 yX10_countsOwn := ⟨z_tab1 (i := 911) (by decide +kernel), z_tab1 (i := 913) (by decide +kernel), z_tab0 (i := 44) (by decide +kernel)⟩
theorem gRX10_136 : ZV RX10 136 yX10_counts := ⟨z_tab1 (i := 915) (by decide +kernel), z_tab1 (i := 917) (by decide +kernel), z_tab0 (i := 45) (by decide +kernel)⟩
theorem gRX10_142 : ZS RX10 142 yX10_pointsBy := ⟨z_tab1 (i := 919) (by decide +kernel), z_tab1 (i := 920) (by decide +kernel)⟩
theorem gRX10_148 : ZV RX10 148 yX10_rank := ⟨z_tab1 (i := 922) (by decide +kernel), z_tab1 (i := 924) (by decide +kernel), z_tab0 (i := 46) (by decide +kernel)⟩
theorem gRL_111 : ZV RL 111 yX10_answer := ⟨z_tab1 (i := 926) (by decide +kernel), z_tab1 (i := 927) (by decide +kernel), z_tab1 (i := 928) (by decide +kernel)⟩
theorem gRX10_157 : ZV RX10 157 yX10_answerOf := ⟨z_tab1 (i := 930) (by decide +kernel), z_tab1 (i := 932) (by decide +kernel), z_tab0 (i := 47) (by decide +kernel)⟩
theorem gRL_115 : ZV RL 115 yX10_about := ⟨z_tab1 (i := 934) (by decide +kernel), z_tab1 (i := 935) (by decide +kernel), z_tab1 (i := 936) (by decide +kernel)⟩
theorem gRX10_160 : ZV RX10 160 yX10_taken := ⟨z_tab1 (i := 938) (by decide +kernel), z_tab1 (i := 940) (by decide +kernel), z_tab0 (i := 48) (by decide +kernel)⟩
theorem gRL_120 : ZV RL 120 yX10_parting := ⟨z_tab1 (i := 942) (by decide +kernel), z_tab1 (i := 943) (by decide +kernel), z_tab1 (i := 944) (by decide +kernel)⟩
theorem kRX10_163 : Cond.constantFloat RX10 163 (3221225472 : UInt32) ∈ lw_tbl := z_tab1 (i := 946) (by decide +kernel)
theorem gRL_125 : ZV RL 125 yX10_mean := ⟨z_tab1 (i := 947) (by decide +kernel), z_tab1 (i := 948) (by decide +kernel), z_tab1 (i := 949) (by decide +kernel)⟩
theorem gRL_129 : ZV RL 129 yX10_sameWrong := ⟨z_tab1 (i := 951) (by decide +kernel), z_tab1 (i := 952) (by decide +kernel), z_tab1 (i := 953) (by decide +kernel)⟩
theorem gRX10_164 : ZV RX10 164 yX10_shared := ⟨z_tab1 (i := 955) (by decide +kernel), z_tab1 (i := 957) (by decide +kernel), z_tab0 (i := 49) (by decide +kernel)⟩
theorem gRL_133 : ZV RL 133 yX10_suspects := ⟨z_tab1 (i := 959) (by decide +kernel), z_tab1 (i := 960) (by decide +kernel), z_tab1 (i := 961) (by decide +kernel)⟩
theorem gRL_137 : ZV RL 137 yX10_mistaken := ⟨z_tab1 (i := 963) (by decide +kernel), z_tab1 (i := 964) (by decide +kernel), z_tab1 (i := 965) (by decide +kernel)⟩
theorem gRL_141 : ZV RL 141 yX10_undo := ⟨z_tab1 (i := 967) (by decide +kernel), z_tab1 (i := 968) (by decide +kernel), z_tab1 (i := 969) (by decide +kernel)⟩
theorem gRL_145 : ZV RL 145 yX10_fingerprint := ⟨z_tab1 (i := 971) (by decide +kernel), z_tab1 (i := 972) (by decide +kernel), z_tab1 (i := 973) (by decide +kernel)⟩
theorem kRX10_167 : Cond.constantLong RX10 167 (5611 : Int64) ∈ lw_tbl := z_tab1 (i := 975) (by decide +kernel)
theorem kRX10_169 : Cond.constantLong RX10 169 (31 : Int64) ∈ lw_tbl := z_tab1 (i := 976) (by decide +kernel)
theorem j_math_ini : Cond.initialized "java/lang/Math" ∈ lw_tbl := z_tab1 (i := 12) (by decide +kernel)
theorem j_sys_ini : Cond.initialized "java/lang/System" ∈ lw_tbl := z_tab1 (i := 13) (by decide +kernel)
end
section
/-! ===== contracts that make nothing; calls by the number of arguments; stores by their places ===== -/
/-- answers r, leaves I' (the shape stays) -/
def ZE (y : MethodName) (cc : ByteArray) (nL : Nat) (ret : Option FieldType) (d : Nat) (args : List Value) (σ : List ZC) (I : ZI) (r : Option Value) (I' : ZI) : Prop :=
  ZSp y cc nL ret d 0 0 args σ I (fun r0 σ0 I0 => r0 = r ∧ σ0 = σ ∧ I0 = I')
/-- answers and leaves what Q says (the shape stays) -/
def ZP (y : MethodName) (cc : ByteArray) (nL : Nat) (ret : Option FieldType) (d : Nat) (args : List Value) (σ : List ZC) (I : ZI) (Q : Option Value → ZI → Prop) : Prop :=
  ZSp y cc nL ret d 0 0 args σ I (fun r0 σ0 I0 => σ0 = σ ∧ Q r0 I0)
theorem ZE.of_eq {y : MethodName} {cc : ByteArray} {nL : Nat} {ret : Option FieldType} {d : Nat} {args : List Value} {σ : List ZC} {I I' I'' : ZI} {r r' : Option Value} (h : ZE y cc nL ret d args σ I r I') (hr : r = r') (hI : I' = I'') : ZE y cc nL ret d args σ I r' I'' := by
  subst hr; subst hI; exact h
theorem ZE.toP {y : MethodName} {cc : ByteArray} {nL : Nat} {ret : Option FieldType} {d : Nat} {args : List Value} {σ : List ZC} {I I' : ZI} {r : Option Value} {Q : Option Value → ZI → Prop} (h : ZE y cc nL ret d args σ I r I') (hQ : Q r I') : ZP y cc nL ret d args σ I Q := by
  intro l cy D b p e a1 a2 a3 s m ar below b1 b2 b3 b4
  obtain ⟨k, oc, c1, c2, c3, ⟨⟨⟨r0, σ0, I0, d1, ⟨d2, d3, d4⟩, d5⟩, d6⟩, d7⟩⟩ := h l cy D b p e a1 a2 a3 s m ar below b1 b2 b3 b4
  exact ⟨k, oc, c1, c2, c3, ⟨⟨⟨r0, σ0, I0, d1, ⟨d3, by rw [d2, d4]; exact hQ⟩, d5⟩, d6⟩, d7⟩⟩
theorem ZSp.mono {y : MethodName} {cc : ByteArray} {nL : Nat} {ret : Option FieldType} {d mc ms : Nat} {args : List Value} {σ : List ZC} {I : ZI} {Q Q' : Option Value → List ZC → ZI → Prop} (h : ZSp y cc nL ret d mc ms args σ I Q) (hQ : ∀ r σ' I', Q r σ' I' → Q' r σ' I') : ZSp y cc nL ret d mc ms args σ I Q' := by
  intro l cy D b p e a1 a2 a3 s m ar below b1 b2 b3 b4
  obtain ⟨k, oc, c1, c2, c3, ⟨⟨⟨r0, σ0, I0, d1, d2, d5⟩, d6⟩, d7⟩⟩ := h l cy D b p e a1 a2 a3 s m ar below b1 b2 b3 b4
  exact ⟨k, oc, c1, c2, c3, ⟨⟨⟨r0, σ0, I0, d1, hQ _ _ _ d2, d5⟩, d6⟩, d7⟩⟩
theorem ZP.mono {y : MethodName} {cc : ByteArray} {nL : Nat} {ret : Option FieldType} {d : Nat} {args : List Value} {σ : List ZC} {I : ZI} {Q Q' : Option Value → ZI → Prop} (h : ZP y cc nL ret d args σ I Q) (hQ : ∀ r I', Q r I' → Q' r I') : ZP y cc nL ret d args σ I Q' :=
  ZSp.mono h (fun _ _ _ q => ⟨q.1, hQ _ _ q.2⟩)
theorem zgd {L : List Value} {j : Nat} {l : Value} (h : L[j]? = some l) (hg : l.category = 1) : ∀ (i : Nat) (u : Value), L[i]? = some u → i + 1 = j + 1 → u.category = 1 := by
  intro i u hu hi
  have e : i = j := by omega
  subst e
  rw [h] at hu
  cases hu
  exact hg
section ZC1
variable {X : ZX} {own : String} {cc : ByteArray} {nL d mc ms kc ks pc : Nat} {L st : List Value} {σ : List ZC} {I : ZI}

theorem z_cV0s {idx a d2 nz ci : Nat} {y : MethodName} {cz : ByteArray} {rz : Option FieldType}  {rs : List Nat} {w : Value} {I' : ZI} (hM : ZM y cz nz rz 0) (hV : ZV own idx y) (hd : decode cc pc = .ok (.invokevirtual idx, 3)) (hsp : ZE y cz nz rz d2 (.ref a :: []) σ I (some w) I') (hd2 : d2 + 1 ≤ d) (hc : σ[a]? = some (0, ci, rs)) (hcl : vwCl[ci]?.map (fun q => q.1) = some y.cls) (hst : (st.map fun v => v.category).sum ≤ 8) (h1 : kc ≤ mc) (h2 : ks ≤ ms)
    (k : ZG X own cc nL d mc ms kc ks (pc + 3) L (w :: st) σ I') : ZG X own cc nL d mc ms kc ks pc L (.ref a :: st) σ I :=
  z_runV (As := []) hM hV hd hsp rfl hd2 hc hcl hst h1 h2 (fun _ _ _ q => by rw [q.2.1]; rfl) (fun r σ' J q => by obtain ⟨rfl, rfl, rfl⟩ := q; exact k)
theorem z_cV0n {idx a d2 nz ci : Nat} {y : MethodName} {cz : ByteArray} {rz : Option FieldType}  {rs : List Nat}  {I' : ZI} (hM : ZM y cz nz rz 0) (hV : ZV own idx y) (hd : decode cc pc = .ok (.invokevirtual idx, 3)) (hsp : ZE y cz nz rz d2 (.ref a :: []) σ I none I') (hd2 : d2 + 1 ≤ d) (hc : σ[a]? = some (0, ci, rs)) (hcl : vwCl[ci]?.map (fun q => q.1) = some y.cls) (hst : (st.map fun v => v.category).sum ≤ 8) (h1 : kc ≤ mc) (h2 : ks ≤ ms)
    (k : ZG X own cc nL d mc ms kc ks (pc + 3) L (st) σ I') : ZG X own cc nL d mc ms kc ks pc L (.ref a :: st) σ I :=
  z_runV (As := []) hM hV hd hsp rfl hd2 hc hcl hst h1 h2 (fun _ _ _ q => by rw [q.2.1]; rfl) (fun r σ' J q => by obtain ⟨rfl, rfl, rfl⟩ := q; exact k)
theorem z_cV0p {idx a d2 nz ci : Nat} {y : MethodName} {cz : ByteArray} {rz : Option FieldType}  {rs : List Nat} {Q2 : Option Value → ZI → Prop} (hM : ZM y cz nz rz 0) (hV : ZV own idx y) (hd : decode cc pc = .ok (.invokevirtual idx, 3)) (hsp : ZP y cz nz rz d2 (.ref a :: []) σ I Q2) (hd2 : d2 + 1 ≤ d) (hc : σ[a]? = some (0, ci, rs)) (hcl : vwCl[ci]?.map (fun q => q.1) = some y.cls) (hst : (st.map fun v => v.category).sum ≤ 8) (h1 : kc ≤ mc) (h2 : ks ≤ ms)
    (k : ∀ r J, Q2 r J → ZG X own cc nL d mc ms kc ks (pc + 3) L (r.toList ++ st) σ J) : ZG X own cc nL d mc ms kc ks pc L (.ref a :: st) σ I :=
  z_runV (As := []) hM hV hd hsp rfl hd2 hc hcl hst h1 h2 (fun _ _ _ q => by rw [q.1]; rfl) (fun r σ' J q => by obtain ⟨rfl, q⟩ := q; exact k r J q)
theorem z_cV1s {idx a d2 nz ci : Nat} {y : MethodName} {cz : ByteArray} {rz : Option FieldType} {x1 : Value} {rs : List Nat} {w : Value} {I' : ZI} (hM : ZM y cz nz rz 1) (hV : ZV own idx y) (hd : decode cc pc = .ok (.invokevirtual idx, 3)) (hsp : ZE y cz nz rz d2 (.ref a :: [x1]) σ I (some w) I') (hd2 : d2 + 1 ≤ d) (hc : σ[a]? = some (0, ci, rs)) (hcl : vwCl[ci]?.map (fun q => q.1) = some y.cls) (hst : (st.map fun v => v.category).sum ≤ 8) (h1 : kc ≤ mc) (h2 : ks ≤ ms)
    (k : ZG X own cc nL d mc ms kc ks (pc + 3) L (w :: st) σ I') : ZG X own cc nL d mc ms kc ks pc L (x1 :: .ref a :: st) σ I :=
  z_runV (As := [x1]) hM hV hd hsp rfl hd2 hc hcl hst h1 h2 (fun _ _ _ q => by rw [q.2.1]; rfl) (fun r σ' J q => by obtain ⟨rfl, rfl, rfl⟩ := q; exact k)
theorem z_cV1n {idx a d2 nz ci : Nat} {y : MethodName} {cz : ByteArray} {rz : Option FieldType} {x1 : Value} {rs : List Nat}  {I' : ZI} (hM : ZM y cz nz rz 1) (hV : ZV own idx y) (hd : decode cc pc = .ok (.invokevirtual idx, 3)) (hsp : ZE y cz nz rz d2 (.ref a :: [x1]) σ I none I') (hd2 : d2 + 1 ≤ d) (hc : σ[a]? = some (0, ci, rs)) (hcl : vwCl[ci]?.map (fun q => q.1) = some y.cls) (hst : (st.map fun v => v.category).sum ≤ 8) (h1 : kc ≤ mc) (h2 : ks ≤ ms)
    (k : ZG X own cc nL d mc ms kc ks (pc + 3) L (st) σ I') : ZG X own cc nL d mc ms kc ks pc L (x1 :: .ref a :: st) σ I :=
  z_runV (As := [x1]) hM hV hd hsp rfl hd2 hc hcl hst h1 h2 (fun _ _ _ q => by rw [q.2.1]; rfl) (fun r σ' J q => by obtain ⟨rfl, rfl, rfl⟩ := q; exact k)
theorem z_cV1p {idx a d2 nz ci : Nat} {y : MethodName} {cz : ByteArray} {rz : Option FieldType} {x1 : Value} {rs : List Nat} {Q2 : Option Value → ZI → Prop} (hM : ZM y cz nz rz 1) (hV : ZV own idx y) (hd : decode cc pc = .ok (.invokevirtual idx, 3)) (hsp : ZP y cz nz rz d2 (.ref a :: [x1]) σ I Q2) (hd2 : d2 + 1 ≤ d) (hc : σ[a]? = some (0, ci, rs)) (hcl : vwCl[ci]?.map (fun q => q.1) = some y.cls) (hst : (st.map fun v => v.category).sum ≤ 8) (h1 : kc ≤ mc) (h2 : ks ≤ ms)
    (k : ∀ r J, Q2 r J → ZG X own cc nL d mc ms kc ks (pc + 3) L (r.toList ++ st) σ J) : ZG X own cc nL d mc ms kc ks pc L (x1 :: .ref a :: st) σ I :=
  z_runV (As := [x1]) hM hV hd hsp rfl hd2 hc hcl hst h1 h2 (fun _ _ _ q => by rw [q.1]; rfl) (fun r σ' J q => by obtain ⟨rfl, q⟩ := q; exact k r J q)
theorem z_cS1s {idx d2 nz : Nat} {y : MethodName} {cz : ByteArray} {rz : Option FieldType} {x1 : Value} {w : Value} {I' : ZI} (hM : ZM y cz nz rz 1) (hV : ZS own idx y) (hd : decode cc pc = .ok (.invokestatic idx, 3)) (hsp : ZE y cz nz rz d2 [x1] σ I (some w) I') (hd2 : d2 + 1 ≤ d) (hst : (st.map fun v => v.category).sum ≤ 8) (h1 : kc ≤ mc) (h2 : ks ≤ ms)
    (k : ZG X own cc nL d mc ms kc ks (pc + 3) L (w :: st) σ I') : ZG X own cc nL d mc ms kc ks pc L (x1 :: st) σ I :=
  z_runS (As := [x1]) hM hV hd hsp rfl hd2 hst h1 h2 (fun _ _ _ q => by rw [q.2.1]; rfl) (fun r σ' J q => by obtain ⟨rfl, rfl, rfl⟩ := q; exact k)
theorem z_cS1n {idx d2 nz : Nat} {y : MethodName} {cz : ByteArray} {rz : Option FieldType} {x1 : Value}  {I' : ZI} (hM : ZM y cz nz rz 1) (hV : ZS own idx y) (hd : decode cc pc = .ok (.invokestatic idx, 3)) (hsp : ZE y cz nz rz d2 [x1] σ I none I') (hd2 : d2 + 1 ≤ d) (hst : (st.map fun v => v.category).sum ≤ 8) (h1 : kc ≤ mc) (h2 : ks ≤ ms)
    (k : ZG X own cc nL d mc ms kc ks (pc + 3) L (st) σ I') : ZG X own cc nL d mc ms kc ks pc L (x1 :: st) σ I :=
  z_runS (As := [x1]) hM hV hd hsp rfl hd2 hst h1 h2 (fun _ _ _ q => by rw [q.2.1]; rfl) (fun r σ' J q => by obtain ⟨rfl, rfl, rfl⟩ := q; exact k)
theorem z_cV2s {idx a d2 nz ci : Nat} {y : MethodName} {cz : ByteArray} {rz : Option FieldType} {x1 x2 : Value} {rs : List Nat} {w : Value} {I' : ZI} (hM : ZM y cz nz rz 2) (hV : ZV own idx y) (hd : decode cc pc = .ok (.invokevirtual idx, 3)) (hsp : ZE y cz nz rz d2 (.ref a :: [x1, x2]) σ I (some w) I') (hd2 : d2 + 1 ≤ d) (hc : σ[a]? = some (0, ci, rs)) (hcl : vwCl[ci]?.map (fun q => q.1) = some y.cls) (hst : (st.map fun v => v.category).sum ≤ 8) (h1 : kc ≤ mc) (h2 : ks ≤ ms)
    (k : ZG X own cc nL d mc ms kc ks (pc + 3) L (w :: st) σ I') : ZG X own cc nL d mc ms kc ks pc L (x2 :: x1 :: .ref a :: st) σ I :=
  z_runV (As := [x1, x2]) hM hV hd hsp rfl hd2 hc hcl hst h1 h2 (fun _ _ _ q => by rw [q.2.1]; rfl) (fun r σ' J q => by obtain ⟨rfl, rfl, rfl⟩ := q; exact k)
theorem z_cV2n {idx a d2 nz ci : Nat} {y : MethodName} {cz : ByteArray} {rz : Option FieldType} {x1 x2 : Value} {rs : List Nat}  {I' : ZI} (hM : ZM y cz nz rz 2) (hV : ZV own idx y) (hd : decode cc pc = .ok (.invokevirtual idx, 3)) (hsp : ZE y cz nz rz d2 (.ref a :: [x1, x2]) σ I none I') (hd2 : d2 + 1 ≤ d) (hc : σ[a]? = some (0, ci, rs)) (hcl : vwCl[ci]?.map (fun q => q.1) = some y.cls) (hst : (st.map fun v => v.category).sum ≤ 8) (h1 : kc ≤ mc) (h2 : ks ≤ ms)
    (k : ZG X own cc nL d mc ms kc ks (pc + 3) L (st) σ I') : ZG X own cc nL d mc ms kc ks pc L (x2 :: x1 :: .ref a :: st) σ I :=
  z_runV (As := [x1, x2]) hM hV hd hsp rfl hd2 hc hcl hst h1 h2 (fun _ _ _ q => by rw [q.2.1]; rfl) (fun r σ' J q => by obtain ⟨rfl, rfl, rfl⟩ := q; exact k)
theorem z_cV2p {idx a d2 nz ci : Nat} {y : MethodName} {cz : ByteArray} {rz : Option FieldType} {x1 x2 : Value} {rs : List Nat} {Q2 : Option Value → ZI → Prop} (hM : ZM y cz nz rz 2) (hV : ZV own idx y) (hd : decode cc pc = .ok (.invokevirtual idx, 3)) (hsp : ZP y cz nz rz d2 (.ref a :: [x1, x2]) σ I Q2) (hd2 : d2 + 1 ≤ d) (hc : σ[a]? = some (0, ci, rs)) (hcl : vwCl[ci]?.map (fun q => q.1) = some y.cls) (hst : (st.map fun v => v.category).sum ≤ 8) (h1 : kc ≤ mc) (h2 : ks ≤ ms)
    (k : ∀ r J, Q2 r J → ZG X own cc nL d mc ms kc ks (pc + 3) L (r.toList ++ st) σ J) : ZG X own cc nL d mc ms kc ks pc L (x2 :: x1 :: .ref a :: st) σ I :=
  z_runV (As := [x1, x2]) hM hV hd hsp rfl hd2 hc hcl hst h1 h2 (fun _ _ _ q => by rw [q.1]; rfl) (fun r σ' J q => by obtain ⟨rfl, q⟩ := q; exact k r J q)
theorem z_cS2s {idx d2 nz : Nat} {y : MethodName} {cz : ByteArray} {rz : Option FieldType} {x1 x2 : Value} {w : Value} {I' : ZI} (hM : ZM y cz nz rz 2) (hV : ZS own idx y) (hd : decode cc pc = .ok (.invokestatic idx, 3)) (hsp : ZE y cz nz rz d2 [x1, x2] σ I (some w) I') (hd2 : d2 + 1 ≤ d) (hst : (st.map fun v => v.category).sum ≤ 8) (h1 : kc ≤ mc) (h2 : ks ≤ ms)
    (k : ZG X own cc nL d mc ms kc ks (pc + 3) L (w :: st) σ I') : ZG X own cc nL d mc ms kc ks pc L (x2 :: x1 :: st) σ I :=
  z_runS (As := [x1, x2]) hM hV hd hsp rfl hd2 hst h1 h2 (fun _ _ _ q => by rw [q.2.1]; rfl) (fun r σ' J q => by obtain ⟨rfl, rfl, rfl⟩ := q; exact k)
theorem z_cS2n {idx d2 nz : Nat} {y : MethodName} {cz : ByteArray} {rz : Option FieldType} {x1 x2 : Value}  {I' : ZI} (hM : ZM y cz nz rz 2) (hV : ZS own idx y) (hd : decode cc pc = .ok (.invokestatic idx, 3)) (hsp : ZE y cz nz rz d2 [x1, x2] σ I none I') (hd2 : d2 + 1 ≤ d) (hst : (st.map fun v => v.category).sum ≤ 8) (h1 : kc ≤ mc) (h2 : ks ≤ ms)
    (k : ZG X own cc nL d mc ms kc ks (pc + 3) L (st) σ I') : ZG X own cc nL d mc ms kc ks pc L (x2 :: x1 :: st) σ I :=
  z_runS (As := [x1, x2]) hM hV hd hsp rfl hd2 hst h1 h2 (fun _ _ _ q => by rw [q.2.1]; rfl) (fun r σ' J q => by obtain ⟨rfl, rfl, rfl⟩ := q; exact k)
theorem z_cV3s {idx a d2 nz ci : Nat} {y : MethodName} {cz : ByteArray} {rz : Option FieldType} {x1 x2 x3 : Value} {rs : List Nat} {w : Value} {I' : ZI} (hM : ZM y cz nz rz 3) (hV : ZV own idx y) (hd : decode cc pc = .ok (.invokevirtual idx, 3)) (hsp : ZE y cz nz rz d2 (.ref a :: [x1, x2, x3]) σ I (some w) I') (hd2 : d2 + 1 ≤ d) (hc : σ[a]? = some (0, ci, rs)) (hcl : vwCl[ci]?.map (fun q => q.1) = some y.cls) (hst : (st.map fun v => v.category).sum ≤ 8) (h1 : kc ≤ mc) (h2 : ks ≤ ms)
    (k : ZG X own cc nL d mc ms kc ks (pc + 3) L (w :: st) σ I') : ZG X own cc nL d mc ms kc ks pc L (x3 :: x2 :: x1 :: .ref a :: st) σ I :=
  z_runV (As := [x1, x2, x3]) hM hV hd hsp rfl hd2 hc hcl hst h1 h2 (fun _ _ _ q => by rw [q.2.1]; rfl) (fun r σ' J q => by obtain ⟨rfl, rfl, rfl⟩ := q; exact k)
theorem z_cV3n {idx a d2 nz ci : Nat} {y : MethodName} {cz : ByteArray} {rz : Option FieldType} {x1 x2 x3 : Value} {rs : List Nat}  {I' : ZI} (hM : ZM y cz nz rz 3) (hV : ZV own idx y) (hd : decode cc pc = .ok (.invokevirtual idx, 3)) (hsp : ZE y cz nz rz d2 (.ref a :: [x1, x2, x3]) σ I none I') (hd2 : d2 + 1 ≤ d) (hc : σ[a]? = some (0, ci, rs)) (hcl : vwCl[ci]?.map (fun q => q.1) = some y.cls) (hst : (st.map fun v => v.category).sum ≤ 8) (h1 : kc ≤ mc) (h2 : ks ≤ ms)
    (k : ZG X own cc nL d mc ms kc ks (pc + 3) L (st) σ I') : ZG X own cc nL d mc ms kc ks pc L (x3 :: x2 :: x1 :: .ref a :: st) σ I :=
  z_runV (As := [x1, x2, x3]) hM hV hd hsp rfl hd2 hc hcl hst h1 h2 (fun _ _ _ q => by rw [q.2.1]; rfl) (fun r σ' J q => by obtain ⟨rfl, rfl, rfl⟩ := q; exact k)
theorem z_cV3p {idx a d2 nz ci : Nat} {y : MethodName} {cz : ByteArray} {rz : Option FieldType} {x1 x2 x3 : Value} {rs : List Nat} {Q2 : Option Value → ZI → Prop} (hM : ZM y cz nz rz 3) (hV : ZV own idx y) (hd : decode cc pc = .ok (.invokevirtual idx, 3)) (hsp : ZP y cz nz rz d2 (.ref a :: [x1, x2, x3]) σ I Q2) (hd2 : d2 + 1 ≤ d) (hc : σ[a]? = some (0, ci, rs)) (hcl : vwCl[ci]?.map (fun q => q.1) = some y.cls) (hst : (st.map fun v => v.category).sum ≤ 8) (h1 : kc ≤ mc) (h2 : ks ≤ ms)
    (k : ∀ r J, Q2 r J → ZG X own cc nL d mc ms kc ks (pc + 3) L (r.toList ++ st) σ J) : ZG X own cc nL d mc ms kc ks pc L (x3 :: x2 :: x1 :: .ref a :: st) σ I :=
  z_runV (As := [x1, x2, x3]) hM hV hd hsp rfl hd2 hc hcl hst h1 h2 (fun _ _ _ q => by rw [q.1]; rfl) (fun r σ' J q => by obtain ⟨rfl, q⟩ := q; exact k r J q)
theorem z_cS3s {idx d2 nz : Nat} {y : MethodName} {cz : ByteArray} {rz : Option FieldType} {x1 x2 x3 : Value} {w : Value} {I' : ZI} (hM : ZM y cz nz rz 3) (hV : ZS own idx y) (hd : decode cc pc = .ok (.invokestatic idx, 3)) (hsp : ZE y cz nz rz d2 [x1, x2, x3] σ I (some w) I') (hd2 : d2 + 1 ≤ d) (hst : (st.map fun v => v.category).sum ≤ 8) (h1 : kc ≤ mc) (h2 : ks ≤ ms)
    (k : ZG X own cc nL d mc ms kc ks (pc + 3) L (w :: st) σ I') : ZG X own cc nL d mc ms kc ks pc L (x3 :: x2 :: x1 :: st) σ I :=
  z_runS (As := [x1, x2, x3]) hM hV hd hsp rfl hd2 hst h1 h2 (fun _ _ _ q => by rw [q.2.1]; rfl) (fun r σ' J q => by obtain ⟨rfl, rfl, rfl⟩ := q; exact k)
theorem z_cS3n {idx d2 nz : Nat} {y : MethodName} {cz : ByteArray} {rz : Option FieldType} {x1 x2 x3 : Value}  {I' : ZI} (hM : ZM y cz nz rz 3) (hV : ZS own idx y) (hd : decode cc pc = .ok (.invokestatic idx, 3)) (hsp : ZE y cz nz rz d2 [x1, x2, x3] σ I none I') (hd2 : d2 + 1 ≤ d) (hst : (st.map fun v => v.category).sum ≤ 8) (h1 : kc ≤ mc) (h2 : ks ≤ ms)
    (k : ZG X own cc nL d mc ms kc ks (pc + 3) L (st) σ I') : ZG X own cc nL d mc ms kc ks pc L (x3 :: x2 :: x1 :: st) σ I :=
  z_runS (As := [x1, x2, x3]) hM hV hd hsp rfl hd2 hst h1 h2 (fun _ _ _ q => by rw [q.2.1]; rfl) (fun r σ' J q => by obtain ⟨rfl, rfl, rfl⟩ := q; exact k)
theorem z_cV4s {idx a d2 nz ci : Nat} {y : MethodName} {cz : ByteArray} {rz : Option FieldType} {x1 x2 x3 x4 : Value} {rs : List Nat} {w : Value} {I' : ZI} (hM : ZM y cz nz rz 4) (hV : ZV own idx y) (hd : decode cc pc = .ok (.invokevirtual idx, 3)) (hsp : ZE y cz nz rz d2 (.ref a :: [x1, x2, x3, x4]) σ I (some w) I') (hd2 : d2 + 1 ≤ d) (hc : σ[a]? = some (0, ci, rs)) (hcl : vwCl[ci]?.map (fun q => q.1) = some y.cls) (hst : (st.map fun v => v.category).sum ≤ 8) (h1 : kc ≤ mc) (h2 : ks ≤ ms)
    (k : ZG X own cc nL d mc ms kc ks (pc + 3) L (w :: st) σ I') : ZG X own cc nL d mc ms kc ks pc L (x4 :: x3 :: x2 :: x1 :: .ref a :: st) σ I :=
  z_runV (As := [x1, x2, x3, x4]) hM hV hd hsp rfl hd2 hc hcl hst h1 h2 (fun _ _ _ q => by rw [q.2.1]; rfl) (fun r σ' J q => by obtain ⟨rfl, rfl, rfl⟩ := q; exact k)
theorem z_cV4n {idx a d2 nz ci : Nat} {y : MethodName} {cz : ByteArray} {rz : Option FieldType} {x1 x2 x3 x4 : Value} {rs : List Nat}  {I' : ZI} (hM : ZM y cz nz rz 4) (hV : ZV own idx y) (hd : decode cc pc = .ok (.invokevirtual idx, 3)) (hsp : ZE y cz nz rz d2 (.ref a :: [x1, x2, x3, x4]) σ I none I') (hd2 : d2 + 1 ≤ d) (hc : σ[a]? = some (0, ci, rs)) (hcl : vwCl[ci]?.map (fun q => q.1) = some y.cls) (hst : (st.map fun v => v.category).sum ≤ 8) (h1 : kc ≤ mc) (h2 : ks ≤ ms)
    (k : ZG X own cc nL d mc ms kc ks (pc + 3) L (st) σ I') : ZG X own cc nL d mc ms kc ks pc L (x4 :: x3 :: x2 :: x1 :: .ref a :: st) σ I :=
  z_runV (As := [x1, x2, x3, x4]) hM hV hd hsp rfl hd2 hc hcl hst h1 h2 (fun _ _ _ q => by rw [q.2.1]; rfl) (fun r σ' J q => by obtain ⟨rfl, rfl, rfl⟩ := q; exact k)
theorem z_cV4p {idx a d2 nz ci : Nat} {y : MethodName} {cz : ByteArray} {rz : Option FieldType} {x1 x2 x3 x4 : Value} {rs : List Nat} {Q2 : Option Value → ZI → Prop} (hM : ZM y cz nz rz 4) (hV : ZV own idx y) (hd : decode cc pc = .ok (.invokevirtual idx, 3)) (hsp : ZP y cz nz rz d2 (.ref a :: [x1, x2, x3, x4]) σ I Q2) (hd2 : d2 + 1 ≤ d) (hc : σ[a]? = some (0, ci, rs)) (hcl : vwCl[ci]?.map (fun q => q.1) = some y.cls) (hst : (st.map fun v => v.category).sum ≤ 8) (h1 : kc ≤ mc) (h2 : ks ≤ ms)
    (k : ∀ r J, Q2 r J → ZG X own cc nL d mc ms kc ks (pc + 3) L (r.toList ++ st) σ J) : ZG X own cc nL d mc ms kc ks pc L (x4 :: x3 :: x2 :: x1 :: .ref a :: st) σ I :=
  z_runV (As := [x1, x2, x3, x4]) hM hV hd hsp rfl hd2 hc hcl hst h1 h2 (fun _ _ _ q => by rw [q.1]; rfl) (fun r σ' J q => by obtain ⟨rfl, q⟩ := q; exact k r J q)
theorem z_cS4s {idx d2 nz : Nat} {y : MethodName} {cz : ByteArray} {rz : Option FieldType} {x1 x2 x3 x4 : Value} {w : Value} {I' : ZI} (hM : ZM y cz nz rz 4) (hV : ZS own idx y) (hd : decode cc pc = .ok (.invokestatic idx, 3)) (hsp : ZE y cz nz rz d2 [x1, x2, x3, x4] σ I (some w) I') (hd2 : d2 + 1 ≤ d) (hst : (st.map fun v => v.category).sum ≤ 8) (h1 : kc ≤ mc) (h2 : ks ≤ ms)
    (k : ZG X own cc nL d mc ms kc ks (pc + 3) L (w :: st) σ I') : ZG X own cc nL d mc ms kc ks pc L (x4 :: x3 :: x2 :: x1 :: st) σ I :=
  z_runS (As := [x1, x2, x3, x4]) hM hV hd hsp rfl hd2 hst h1 h2 (fun _ _ _ q => by rw [q.2.1]; rfl) (fun r σ' J q => by obtain ⟨rfl, rfl, rfl⟩ := q; exact k)
theorem z_cS4n {idx d2 nz : Nat} {y : MethodName} {cz : ByteArray} {rz : Option FieldType} {x1 x2 x3 x4 : Value}  {I' : ZI} (hM : ZM y cz nz rz 4) (hV : ZS own idx y) (hd : decode cc pc = .ok (.invokestatic idx, 3)) (hsp : ZE y cz nz rz d2 [x1, x2, x3, x4] σ I none I') (hd2 : d2 + 1 ≤ d) (hst : (st.map fun v => v.category).sum ≤ 8) (h1 : kc ≤ mc) (h2 : ks ≤ ms)
    (k : ZG X own cc nL d mc ms kc ks (pc + 3) L (st) σ I') : ZG X own cc nL d mc ms kc ks pc L (x4 :: x3 :: x2 :: x1 :: st) σ I :=
  z_runS (As := [x1, x2, x3, x4]) hM hV hd hsp rfl hd2 hst h1 h2 (fun _ _ _ q => by rw [q.2.1]; rfl) (fun r σ' J q => by obtain ⟨rfl, rfl, rfl⟩ := q; exact k)
theorem z_cV5s {idx a d2 nz ci : Nat} {y : MethodName} {cz : ByteArray} {rz : Option FieldType} {x1 x2 x3 x4 x5 : Value} {rs : List Nat} {w : Value} {I' : ZI} (hM : ZM y cz nz rz 5) (hV : ZV own idx y) (hd : decode cc pc = .ok (.invokevirtual idx, 3)) (hsp : ZE y cz nz rz d2 (.ref a :: [x1, x2, x3, x4, x5]) σ I (some w) I') (hd2 : d2 + 1 ≤ d) (hc : σ[a]? = some (0, ci, rs)) (hcl : vwCl[ci]?.map (fun q => q.1) = some y.cls) (hst : (st.map fun v => v.category).sum ≤ 8) (h1 : kc ≤ mc) (h2 : ks ≤ ms)
    (k : ZG X own cc nL d mc ms kc ks (pc + 3) L (w :: st) σ I') : ZG X own cc nL d mc ms kc ks pc L (x5 :: x4 :: x3 :: x2 :: x1 :: .ref a :: st) σ I :=
  z_runV (As := [x1, x2, x3, x4, x5]) hM hV hd hsp rfl hd2 hc hcl hst h1 h2 (fun _ _ _ q => by rw [q.2.1]; rfl) (fun r σ' J q => by obtain ⟨rfl, rfl, rfl⟩ := q; exact k)
theorem z_cV5n {idx a d2 nz ci : Nat} {y : MethodName} {cz : ByteArray} {rz : Option FieldType} {x1 x2 x3 x4 x5 : Value} {rs : List Nat}  {I' : ZI} (hM : ZM y cz nz rz 5) (hV : ZV own idx y) (hd : decode cc pc = .ok (.invokevirtual idx, 3)) (hsp : ZE y cz nz rz d2 (.ref a :: [x1, x2, x3, x4, x5]) σ I none I') (hd2 : d2 + 1 ≤ d) (hc : σ[a]? = some (0, ci, rs)) (hcl : vwCl[ci]?.map (fun q => q.1) = some y.cls) (hst : (st.map fun v => v.category).sum ≤ 8) (h1 : kc ≤ mc) (h2 : ks ≤ ms)
    (k : ZG X own cc nL d mc ms kc ks (pc + 3) L (st) σ I') : ZG X own cc nL d mc ms kc ks pc L (x5 :: x4 :: x3 :: x2 :: x1 :: .ref a :: st) σ I :=
  z_runV (As := [x1, x2, x3, x4, x5]) hM hV hd hsp rfl hd2 hc hcl hst h1 h2 (fun _ _ _ q => by rw [q.2.1]; rfl) (fun r σ' J q => by obtain ⟨rfl, rfl, rfl⟩ := q; exact k)
theorem z_cV5p {idx a d2 nz ci : Nat} {y : MethodName} {cz : ByteArray} {rz : Option FieldType} {x1 x2 x3 x4 x5 : Value} {rs : List Nat} {Q2 : Option Value → ZI → Prop} (hM : ZM y cz nz rz 5) (hV : ZV own idx y) (hd : decode cc pc = .ok (.invokevirtual idx, 3)) (hsp : ZP y cz nz rz d2 (.ref a :: [x1, x2, x3, x4, x5]) σ I Q2) (hd2 : d2 + 1 ≤ d) (hc : σ[a]? = some (0, ci, rs)) (hcl : vwCl[ci]?.map (fun q => q.1) = some y.cls) (hst : (st.map fun v => v.category).sum ≤ 8) (h1 : kc ≤ mc) (h2 : ks ≤ ms)
    (k : ∀ r J, Q2 r J → ZG X own cc nL d mc ms kc ks (pc + 3) L (r.toList ++ st) σ J) : ZG X own cc nL d mc ms kc ks pc L (x5 :: x4 :: x3 :: x2 :: x1 :: .ref a :: st) σ I :=
  z_runV (As := [x1, x2, x3, x4, x5]) hM hV hd hsp rfl hd2 hc hcl hst h1 h2 (fun _ _ _ q => by rw [q.1]; rfl) (fun r σ' J q => by obtain ⟨rfl, q⟩ := q; exact k r J q)
theorem z_cS5s {idx d2 nz : Nat} {y : MethodName} {cz : ByteArray} {rz : Option FieldType} {x1 x2 x3 x4 x5 : Value} {w : Value} {I' : ZI} (hM : ZM y cz nz rz 5) (hV : ZS own idx y) (hd : decode cc pc = .ok (.invokestatic idx, 3)) (hsp : ZE y cz nz rz d2 [x1, x2, x3, x4, x5] σ I (some w) I') (hd2 : d2 + 1 ≤ d) (hst : (st.map fun v => v.category).sum ≤ 8) (h1 : kc ≤ mc) (h2 : ks ≤ ms)
    (k : ZG X own cc nL d mc ms kc ks (pc + 3) L (w :: st) σ I') : ZG X own cc nL d mc ms kc ks pc L (x5 :: x4 :: x3 :: x2 :: x1 :: st) σ I :=
  z_runS (As := [x1, x2, x3, x4, x5]) hM hV hd hsp rfl hd2 hst h1 h2 (fun _ _ _ q => by rw [q.2.1]; rfl) (fun r σ' J q => by obtain ⟨rfl, rfl, rfl⟩ := q; exact k)
theorem z_cS5n {idx d2 nz : Nat} {y : MethodName} {cz : ByteArray} {rz : Option FieldType} {x1 x2 x3 x4 x5 : Value}  {I' : ZI} (hM : ZM y cz nz rz 5) (hV : ZS own idx y) (hd : decode cc pc = .ok (.invokestatic idx, 3)) (hsp : ZE y cz nz rz d2 [x1, x2, x3, x4, x5] σ I none I') (hd2 : d2 + 1 ≤ d) (hst : (st.map fun v => v.category).sum ≤ 8) (h1 : kc ≤ mc) (h2 : ks ≤ ms)
    (k : ZG X own cc nL d mc ms kc ks (pc + 3) L (st) σ I') : ZG X own cc nL d mc ms kc ks pc L (x5 :: x4 :: x3 :: x2 :: x1 :: st) σ I :=
  z_runS (As := [x1, x2, x3, x4, x5]) hM hV hd hsp rfl hd2 hst h1 h2 (fun _ _ _ q => by rw [q.2.1]; rfl) (fun r σ' J q => by obtain ⟨rfl, rfl, rfl⟩ := q; exact k)
theorem z_ist0 {l0 : Value} {x : Int32} (hd : decode cc pc = .ok (.istore_n 0, 1)) (hn : 0 < nL)  (k : ZG X own cc nL d mc ms kc ks (pc + 1) (.int x :: L) st σ I) : ZG X own cc nL d mc ms kc ks pc (l0 :: L) (.int x :: st) σ I :=
  z_istore_n hd hn (fun i u hu hi => absurd hi (by omega)) k
theorem z_ast0 {l0 : Value} {x : Nat} (hd : decode cc pc = .ok (.astore_n 0, 1)) (hn : 0 < nL)  (k : ZG X own cc nL d mc ms kc ks (pc + 1) (.ref x :: L) st σ I) : ZG X own cc nL d mc ms kc ks pc (l0 :: L) (.ref x :: st) σ I :=
  z_astore_n hd hn (fun i u hu hi => absurd hi (by omega)) k
theorem z_asn0 {l0 : Value} (hd : decode cc pc = .ok (.astore_n 0, 1)) (hn : 0 < nL)  (k : ZG X own cc nL d mc ms kc ks (pc + 1) (.null :: L) st σ I) : ZG X own cc nL d mc ms kc ks pc (l0 :: L) (.null :: st) σ I :=
  z_astore_nN hd hn (fun i u hu hi => absurd hi (by omega)) k
theorem z_lst0 {l0 l1 : Value} {x : Int64} (hd : decode cc pc = .ok (.lstore_n 0, 1)) (hn : 0 + 1 < nL)  (k : ZG X own cc nL d mc ms kc ks (pc + 1) (.long x :: zj :: L) st σ I) : ZG X own cc nL d mc ms kc ks pc (l0 :: l1 :: L) (.long x :: st) σ I :=
  z_lstore_n hd hn (fun i u hu hi => absurd hi (by omega)) k
theorem z_dst0 {l0 l1 : Value} {x : UInt64} (hd : decode cc pc = .ok (.dstore_n 0, 1)) (hn : 0 + 1 < nL)  (k : ZG X own cc nL d mc ms kc ks (pc + 1) (.double x :: zj :: L) st σ I) : ZG X own cc nL d mc ms kc ks pc (l0 :: l1 :: L) (.double x :: st) σ I :=
  z_dstore_n hd hn (fun i u hu hi => absurd hi (by omega)) k
theorem z_inc0 {x w : Int32} {n : Int} (hd : decode cc pc = .ok (.iinc 0 n, 3)) (hw : Int32.ofInt n = w) (hn : 0 < nL)  (k : ZG X own cc nL d mc ms kc ks (pc + 3) (.int (x + w) :: L) st σ I) : ZG X own cc nL d mc ms kc ks pc (.int x :: L) st σ I :=
  z_iinc (v := x + w) hd rfl (by rw [hw]) hn (fun i u hu hi => absurd hi (by omega)) k
theorem z_fg0 {l0 : Value} (k : ZG X own cc nL d mc ms kc ks pc (zj :: L) st σ I) : ZG X own cc nL d mc ms kc ks pc (l0 :: L) st σ I :=
  z_forget (fun i u hu hv => by
    by_cases e : i = 0
    · subst e; cases hu; cases hv
    · have e2 : (zj :: L).set 0 l0 = l0 :: L := rfl
      rw [← e2, List.getElem?_set_ne (Ne.symm e)]; exact hu) k
theorem z_ist1 {l0 l1 : Value} {x : Int32} (hd : decode cc pc = .ok (.istore_n 1, 1)) (hn : 1 < nL) (hg : l0.category = 1) (k : ZG X own cc nL d mc ms kc ks (pc + 1) (l0 :: .int x :: L) st σ I) : ZG X own cc nL d mc ms kc ks pc (l0 :: l1 :: L) (.int x :: st) σ I :=
  z_istore_n hd hn (zgd (j := 0) rfl hg) k
theorem z_ast1 {l0 l1 : Value} {x : Nat} (hd : decode cc pc = .ok (.astore_n 1, 1)) (hn : 1 < nL) (hg : l0.category = 1) (k : ZG X own cc nL d mc ms kc ks (pc + 1) (l0 :: .ref x :: L) st σ I) : ZG X own cc nL d mc ms kc ks pc (l0 :: l1 :: L) (.ref x :: st) σ I :=
  z_astore_n hd hn (zgd (j := 0) rfl hg) k
theorem z_asn1 {l0 l1 : Value} (hd : decode cc pc = .ok (.astore_n 1, 1)) (hn : 1 < nL) (hg : l0.category = 1) (k : ZG X own cc nL d mc ms kc ks (pc + 1) (l0 :: .null :: L) st σ I) : ZG X own cc nL d mc ms kc ks pc (l0 :: l1 :: L) (.null :: st) σ I :=
  z_astore_nN hd hn (zgd (j := 0) rfl hg) k
theorem z_lst1 {l0 l1 l2 : Value} {x : Int64} (hd : decode cc pc = .ok (.lstore_n 1, 1)) (hn : 1 + 1 < nL) (hg : l0.category = 1) (k : ZG X own cc nL d mc ms kc ks (pc + 1) (l0 :: .long x :: zj :: L) st σ I) : ZG X own cc nL d mc ms kc ks pc (l0 :: l1 :: l2 :: L) (.long x :: st) σ I :=
  z_lstore_n hd hn (zgd (j := 0) rfl hg) k
theorem z_dst1 {l0 l1 l2 : Value} {x : UInt64} (hd : decode cc pc = .ok (.dstore_n 1, 1)) (hn : 1 + 1 < nL) (hg : l0.category = 1) (k : ZG X own cc nL d mc ms kc ks (pc + 1) (l0 :: .double x :: zj :: L) st σ I) : ZG X own cc nL d mc ms kc ks pc (l0 :: l1 :: l2 :: L) (.double x :: st) σ I :=
  z_dstore_n hd hn (zgd (j := 0) rfl hg) k
theorem z_inc1 {l0 : Value} {x w : Int32} {n : Int} (hd : decode cc pc = .ok (.iinc 1 n, 3)) (hw : Int32.ofInt n = w) (hn : 1 < nL) (hg : l0.category = 1) (k : ZG X own cc nL d mc ms kc ks (pc + 3) (l0 :: .int (x + w) :: L) st σ I) : ZG X own cc nL d mc ms kc ks pc (l0 :: .int x :: L) st σ I :=
  z_iinc (v := x + w) hd rfl (by rw [hw]) hn (zgd (j := 0) rfl hg) k
theorem z_fg1 {l0 l1 : Value} (k : ZG X own cc nL d mc ms kc ks pc (l0 :: zj :: L) st σ I) : ZG X own cc nL d mc ms kc ks pc (l0 :: l1 :: L) st σ I :=
  z_forget (fun i u hu hv => by
    by_cases e : i = 1
    · subst e; cases hu; cases hv
    · have e2 : (l0 :: zj :: L).set 1 l1 = l0 :: l1 :: L := rfl
      rw [← e2, List.getElem?_set_ne (Ne.symm e)]; exact hu) k
theorem z_ist2 {l0 l1 l2 : Value} {x : Int32} (hd : decode cc pc = .ok (.istore_n 2, 1)) (hn : 2 < nL) (hg : l1.category = 1) (k : ZG X own cc nL d mc ms kc ks (pc + 1) (l0 :: l1 :: .int x :: L) st σ I) : ZG X own cc nL d mc ms kc ks pc (l0 :: l1 :: l2 :: L) (.int x :: st) σ I :=
  z_istore_n hd hn (zgd (j := 1) rfl hg) k
theorem z_ast2 {l0 l1 l2 : Value} {x : Nat} (hd : decode cc pc = .ok (.astore_n 2, 1)) (hn : 2 < nL) (hg : l1.category = 1) (k : ZG X own cc nL d mc ms kc ks (pc + 1) (l0 :: l1 :: .ref x :: L) st σ I) : ZG X own cc nL d mc ms kc ks pc (l0 :: l1 :: l2 :: L) (.ref x :: st) σ I :=
  z_astore_n hd hn (zgd (j := 1) rfl hg) k
theorem z_asn2 {l0 l1 l2 : Value} (hd : decode cc pc = .ok (.astore_n 2, 1)) (hn : 2 < nL) (hg : l1.category = 1) (k : ZG X own cc nL d mc ms kc ks (pc + 1) (l0 :: l1 :: .null :: L) st σ I) : ZG X own cc nL d mc ms kc ks pc (l0 :: l1 :: l2 :: L) (.null :: st) σ I :=
  z_astore_nN hd hn (zgd (j := 1) rfl hg) k
theorem z_lst2 {l0 l1 l2 l3 : Value} {x : Int64} (hd : decode cc pc = .ok (.lstore_n 2, 1)) (hn : 2 + 1 < nL) (hg : l1.category = 1) (k : ZG X own cc nL d mc ms kc ks (pc + 1) (l0 :: l1 :: .long x :: zj :: L) st σ I) : ZG X own cc nL d mc ms kc ks pc (l0 :: l1 :: l2 :: l3 :: L) (.long x :: st) σ I :=
  z_lstore_n hd hn (zgd (j := 1) rfl hg) k
theorem z_dst2 {l0 l1 l2 l3 : Value} {x : UInt64} (hd : decode cc pc = .ok (.dstore_n 2, 1)) (hn : 2 + 1 < nL) (hg : l1.category = 1) (k : ZG X own cc nL d mc ms kc ks (pc + 1) (l0 :: l1 :: .double x :: zj :: L) st σ I) : ZG X own cc nL d mc ms kc ks pc (l0 :: l1 :: l2 :: l3 :: L) (.double x :: st) σ I :=
  z_dstore_n hd hn (zgd (j := 1) rfl hg) k
theorem z_inc2 {l0 l1 : Value} {x w : Int32} {n : Int} (hd : decode cc pc = .ok (.iinc 2 n, 3)) (hw : Int32.ofInt n = w) (hn : 2 < nL) (hg : l1.category = 1) (k : ZG X own cc nL d mc ms kc ks (pc + 3) (l0 :: l1 :: .int (x + w) :: L) st σ I) : ZG X own cc nL d mc ms kc ks pc (l0 :: l1 :: .int x :: L) st σ I :=
  z_iinc (v := x + w) hd rfl (by rw [hw]) hn (zgd (j := 1) rfl hg) k
theorem z_fg2 {l0 l1 l2 : Value} (k : ZG X own cc nL d mc ms kc ks pc (l0 :: l1 :: zj :: L) st σ I) : ZG X own cc nL d mc ms kc ks pc (l0 :: l1 :: l2 :: L) st σ I :=
  z_forget (fun i u hu hv => by
    by_cases e : i = 2
    · subst e; cases hu; cases hv
    · have e2 : (l0 :: l1 :: zj :: L).set 2 l2 = l0 :: l1 :: l2 :: L := rfl
      rw [← e2, List.getElem?_set_ne (Ne.symm e)]; exact hu) k
theorem z_ist3 {l0 l1 l2 l3 : Value} {x : Int32} (hd : decode cc pc = .ok (.istore_n 3, 1)) (hn : 3 < nL) (hg : l2.category = 1) (k : ZG X own cc nL d mc ms kc ks (pc + 1) (l0 :: l1 :: l2 :: .int x :: L) st σ I) : ZG X own cc nL d mc ms kc ks pc (l0 :: l1 :: l2 :: l3 :: L) (.int x :: st) σ I :=
  z_istore_n hd hn (zgd (j := 2) rfl hg) k
theorem z_ast3 {l0 l1 l2 l3 : Value} {x : Nat} (hd : decode cc pc = .ok (.astore_n 3, 1)) (hn : 3 < nL) (hg : l2.category = 1) (k : ZG X own cc nL d mc ms kc ks (pc + 1) (l0 :: l1 :: l2 :: .ref x :: L) st σ I) : ZG X own cc nL d mc ms kc ks pc (l0 :: l1 :: l2 :: l3 :: L) (.ref x :: st) σ I :=
  z_astore_n hd hn (zgd (j := 2) rfl hg) k
theorem z_asn3 {l0 l1 l2 l3 : Value} (hd : decode cc pc = .ok (.astore_n 3, 1)) (hn : 3 < nL) (hg : l2.category = 1) (k : ZG X own cc nL d mc ms kc ks (pc + 1) (l0 :: l1 :: l2 :: .null :: L) st σ I) : ZG X own cc nL d mc ms kc ks pc (l0 :: l1 :: l2 :: l3 :: L) (.null :: st) σ I :=
  z_astore_nN hd hn (zgd (j := 2) rfl hg) k
theorem z_lst3 {l0 l1 l2 l3 l4 : Value} {x : Int64} (hd : decode cc pc = .ok (.lstore_n 3, 1)) (hn : 3 + 1 < nL) (hg : l2.category = 1) (k : ZG X own cc nL d mc ms kc ks (pc + 1) (l0 :: l1 :: l2 :: .long x :: zj :: L) st σ I) : ZG X own cc nL d mc ms kc ks pc (l0 :: l1 :: l2 :: l3 :: l4 :: L) (.long x :: st) σ I :=
  z_lstore_n hd hn (zgd (j := 2) rfl hg) k
theorem z_dst3 {l0 l1 l2 l3 l4 : Value} {x : UInt64} (hd : decode cc pc = .ok (.dstore_n 3, 1)) (hn : 3 + 1 < nL) (hg : l2.category = 1) (k : ZG X own cc nL d mc ms kc ks (pc + 1) (l0 :: l1 :: l2 :: .double x :: zj :: L) st σ I) : ZG X own cc nL d mc ms kc ks pc (l0 :: l1 :: l2 :: l3 :: l4 :: L) (.double x :: st) σ I :=
  z_dstore_n hd hn (zgd (j := 2) rfl hg) k
theorem z_inc3 {l0 l1 l2 : Value} {x w : Int32} {n : Int} (hd : decode cc pc = .ok (.iinc 3 n, 3)) (hw : Int32.ofInt n = w) (hn : 3 < nL) (hg : l2.category = 1) (k : ZG X own cc nL d mc ms kc ks (pc + 3) (l0 :: l1 :: l2 :: .int (x + w) :: L) st σ I) : ZG X own cc nL d mc ms kc ks pc (l0 :: l1 :: l2 :: .int x :: L) st σ I :=
  z_iinc (v := x + w) hd rfl (by rw [hw]) hn (zgd (j := 2) rfl hg) k
theorem z_fg3 {l0 l1 l2 l3 : Value} (k : ZG X own cc nL d mc ms kc ks pc (l0 :: l1 :: l2 :: zj :: L) st σ I) : ZG X own cc nL d mc ms kc ks pc (l0 :: l1 :: l2 :: l3 :: L) st σ I :=
  z_forget (fun i u hu hv => by
    by_cases e : i = 3
    · subst e; cases hu; cases hv
    · have e2 : (l0 :: l1 :: l2 :: zj :: L).set 3 l3 = l0 :: l1 :: l2 :: l3 :: L := rfl
      rw [← e2, List.getElem?_set_ne (Ne.symm e)]; exact hu) k
theorem z_ist4 {l0 l1 l2 l3 l4 : Value} {x : Int32} (hd : decode cc pc = .ok (.istore 4, 2)) (hn : 4 < nL) (hg : l3.category = 1) (k : ZG X own cc nL d mc ms kc ks (pc + 2) (l0 :: l1 :: l2 :: l3 :: .int x :: L) st σ I) : ZG X own cc nL d mc ms kc ks pc (l0 :: l1 :: l2 :: l3 :: l4 :: L) (.int x :: st) σ I :=
  z_istore hd hn (zgd (j := 3) rfl hg) k
theorem z_ast4 {l0 l1 l2 l3 l4 : Value} {x : Nat} (hd : decode cc pc = .ok (.astore 4, 2)) (hn : 4 < nL) (hg : l3.category = 1) (k : ZG X own cc nL d mc ms kc ks (pc + 2) (l0 :: l1 :: l2 :: l3 :: .ref x :: L) st σ I) : ZG X own cc nL d mc ms kc ks pc (l0 :: l1 :: l2 :: l3 :: l4 :: L) (.ref x :: st) σ I :=
  z_astore hd hn (zgd (j := 3) rfl hg) k
theorem z_asn4 {l0 l1 l2 l3 l4 : Value} (hd : decode cc pc = .ok (.astore 4, 2)) (hn : 4 < nL) (hg : l3.category = 1) (k : ZG X own cc nL d mc ms kc ks (pc + 2) (l0 :: l1 :: l2 :: l3 :: .null :: L) st σ I) : ZG X own cc nL d mc ms kc ks pc (l0 :: l1 :: l2 :: l3 :: l4 :: L) (.null :: st) σ I :=
  z_astoreN hd hn (zgd (j := 3) rfl hg) k
theorem z_lst4 {l0 l1 l2 l3 l4 l5 : Value} {x : Int64} (hd : decode cc pc = .ok (.lstore 4, 2)) (hn : 4 + 1 < nL) (hg : l3.category = 1) (k : ZG X own cc nL d mc ms kc ks (pc + 2) (l0 :: l1 :: l2 :: l3 :: .long x :: zj :: L) st σ I) : ZG X own cc nL d mc ms kc ks pc (l0 :: l1 :: l2 :: l3 :: l4 :: l5 :: L) (.long x :: st) σ I :=
  z_lstore hd hn (zgd (j := 3) rfl hg) k
theorem z_dst4 {l0 l1 l2 l3 l4 l5 : Value} {x : UInt64} (hd : decode cc pc = .ok (.dstore 4, 2)) (hn : 4 + 1 < nL) (hg : l3.category = 1) (k : ZG X own cc nL d mc ms kc ks (pc + 2) (l0 :: l1 :: l2 :: l3 :: .double x :: zj :: L) st σ I) : ZG X own cc nL d mc ms kc ks pc (l0 :: l1 :: l2 :: l3 :: l4 :: l5 :: L) (.double x :: st) σ I :=
  z_dstore hd hn (zgd (j := 3) rfl hg) k
theorem z_inc4 {l0 l1 l2 l3 : Value} {x w : Int32} {n : Int} (hd : decode cc pc = .ok (.iinc 4 n, 3)) (hw : Int32.ofInt n = w) (hn : 4 < nL) (hg : l3.category = 1) (k : ZG X own cc nL d mc ms kc ks (pc + 3) (l0 :: l1 :: l2 :: l3 :: .int (x + w) :: L) st σ I) : ZG X own cc nL d mc ms kc ks pc (l0 :: l1 :: l2 :: l3 :: .int x :: L) st σ I :=
  z_iinc (v := x + w) hd rfl (by rw [hw]) hn (zgd (j := 3) rfl hg) k
theorem z_fg4 {l0 l1 l2 l3 l4 : Value} (k : ZG X own cc nL d mc ms kc ks pc (l0 :: l1 :: l2 :: l3 :: zj :: L) st σ I) : ZG X own cc nL d mc ms kc ks pc (l0 :: l1 :: l2 :: l3 :: l4 :: L) st σ I :=
  z_forget (fun i u hu hv => by
    by_cases e : i = 4
    · subst e; cases hu; cases hv
    · have e2 : (l0 :: l1 :: l2 :: l3 :: zj :: L).set 4 l4 = l0 :: l1 :: l2 :: l3 :: l4 :: L := rfl
      rw [← e2, List.getElem?_set_ne (Ne.symm e)]; exact hu) k
theorem z_ist5 {l0 l1 l2 l3 l4 l5 : Value} {x : Int32} (hd : decode cc pc = .ok (.istore 5, 2)) (hn : 5 < nL) (hg : l4.category = 1) (k : ZG X own cc nL d mc ms kc ks (pc + 2) (l0 :: l1 :: l2 :: l3 :: l4 :: .int x :: L) st σ I) : ZG X own cc nL d mc ms kc ks pc (l0 :: l1 :: l2 :: l3 :: l4 :: l5 :: L) (.int x :: st) σ I :=
  z_istore hd hn (zgd (j := 4) rfl hg) k
theorem z_ast5 {l0 l1 l2 l3 l4 l5 : Value} {x : Nat} (hd : decode cc pc = .ok (.astore 5, 2)) (hn : 5 < nL) (hg : l4.category = 1) (k : ZG X own cc nL d mc ms kc ks (pc + 2) (l0 :: l1 :: l2 :: l3 :: l4 :: .ref x :: L) st σ I) : ZG X own cc nL d mc ms kc ks pc (l0 :: l1 :: l2 :: l3 :: l4 :: l5 :: L) (.ref x :: st) σ I :=
  z_astore hd hn (zgd (j := 4) rfl hg) k
theorem z_asn5 {l0 l1 l2 l3 l4 l5 : Value} (hd : decode cc pc = .ok (.astore 5, 2)) (hn : 5 < nL) (hg : l4.category = 1) (k : ZG X own cc nL d mc ms kc ks (pc + 2) (l0 :: l1 :: l2 :: l3 :: l4 :: .null :: L) st σ I) : ZG X own cc nL d mc ms kc ks pc (l0 :: l1 :: l2 :: l3 :: l4 :: l5 :: L) (.null :: st) σ I :=
  z_astoreN hd hn (zgd (j := 4) rfl hg) k
theorem z_lst5 {l0 l1 l2 l3 l4 l5 l6 : Value} {x : Int64} (hd : decode cc pc = .ok (.lstore 5, 2)) (hn : 5 + 1 < nL) (hg : l4.category = 1) (k : ZG X own cc nL d mc ms kc ks (pc + 2) (l0 :: l1 :: l2 :: l3 :: l4 :: .long x :: zj :: L) st σ I) : ZG X own cc nL d mc ms kc ks pc (l0 :: l1 :: l2 :: l3 :: l4 :: l5 :: l6 :: L) (.long x :: st) σ I :=
  z_lstore hd hn (zgd (j := 4) rfl hg) k
theorem z_dst5 {l0 l1 l2 l3 l4 l5 l6 : Value} {x : UInt64} (hd : decode cc pc = .ok (.dstore 5, 2)) (hn : 5 + 1 < nL) (hg : l4.category = 1) (k : ZG X own cc nL d mc ms kc ks (pc + 2) (l0 :: l1 :: l2 :: l3 :: l4 :: .double x :: zj :: L) st σ I) : ZG X own cc nL d mc ms kc ks pc (l0 :: l1 :: l2 :: l3 :: l4 :: l5 :: l6 :: L) (.double x :: st) σ I :=
  z_dstore hd hn (zgd (j := 4) rfl hg) k
theorem z_inc5 {l0 l1 l2 l3 l4 : Value} {x w : Int32} {n : Int} (hd : decode cc pc = .ok (.iinc 5 n, 3)) (hw : Int32.ofInt n = w) (hn : 5 < nL) (hg : l4.category = 1) (k : ZG X own cc nL d mc ms kc ks (pc + 3) (l0 :: l1 :: l2 :: l3 :: l4 :: .int (x + w) :: L) st σ I) : ZG X own cc nL d mc ms kc ks pc (l0 :: l1 :: l2 :: l3 :: l4 :: .int x :: L) st σ I :=
  z_iinc (v := x + w) hd rfl (by rw [hw]) hn (zgd (j := 4) rfl hg) k
theorem z_fg5 {l0 l1 l2 l3 l4 l5 : Value} (k : ZG X own cc nL d mc ms kc ks pc (l0 :: l1 :: l2 :: l3 :: l4 :: zj :: L) st σ I) : ZG X own cc nL d mc ms kc ks pc (l0 :: l1 :: l2 :: l3 :: l4 :: l5 :: L) st σ I :=
  z_forget (fun i u hu hv => by
    by_cases e : i = 5
    · subst e; cases hu; cases hv
    · have e2 : (l0 :: l1 :: l2 :: l3 :: l4 :: zj :: L).set 5 l5 = l0 :: l1 :: l2 :: l3 :: l4 :: l5 :: L := rfl
      rw [← e2, List.getElem?_set_ne (Ne.symm e)]; exact hu) k
theorem z_ist6 {l0 l1 l2 l3 l4 l5 l6 : Value} {x : Int32} (hd : decode cc pc = .ok (.istore 6, 2)) (hn : 6 < nL) (hg : l5.category = 1) (k : ZG X own cc nL d mc ms kc ks (pc + 2) (l0 :: l1 :: l2 :: l3 :: l4 :: l5 :: .int x :: L) st σ I) : ZG X own cc nL d mc ms kc ks pc (l0 :: l1 :: l2 :: l3 :: l4 :: l5 :: l6 :: L) (.int x :: st) σ I :=
  z_istore hd hn (zgd (j := 5) rfl hg) k
theorem z_ast6 {l0 l1 l2 l3 l4 l5 l6 : Value} {x : Nat} (hd : decode cc pc = .ok (.astore 6, 2)) (hn : 6 < nL) (hg : l5.category = 1) (k : ZG X own cc nL d mc ms kc ks (pc + 2) (l0 :: l1 :: l2 :: l3 :: l4 :: l5 :: .ref x :: L) st σ I) : ZG X own cc nL d mc ms kc ks pc (l0 :: l1 :: l2 :: l3 :: l4 :: l5 :: l6 :: L) (.ref x :: st) σ I :=
  z_astore hd hn (zgd (j := 5) rfl hg) k
theorem z_asn6 {l0 l1 l2 l3 l4 l5 l6 : Value} (hd : decode cc pc = .ok (.astore 6, 2)) (hn : 6 < nL) (hg : l5.category = 1) (k : ZG X own cc nL d mc ms kc ks (pc + 2) (l0 :: l1 :: l2 :: l3 :: l4 :: l5 :: .null :: L) st σ I) : ZG X own cc nL d mc ms kc ks pc (l0 :: l1 :: l2 :: l3 :: l4 :: l5 :: l6 :: L) (.null :: st) σ I :=
  z_astoreN hd hn (zgd (j := 5) rfl hg) k
theorem z_lst6 {l0 l1 l2 l3 l4 l5 l6 l7 : Value} {x : Int64} (hd : decode cc pc = .ok (.lstore 6, 2)) (hn : 6 + 1 < nL) (hg : l5.category = 1) (k : ZG X own cc nL d mc ms kc ks (pc + 2) (l0 :: l1 :: l2 :: l3 :: l4 :: l5 :: .long x :: zj :: L) st σ I) : ZG X own cc nL d mc ms kc ks pc (l0 :: l1 :: l2 :: l3 :: l4 :: l5 :: l6 :: l7 :: L) (.long x :: st) σ I :=
  z_lstore hd hn (zgd (j := 5) rfl hg) k
theorem z_dst6 {l0 l1 l2 l3 l4 l5 l6 l7 : Value} {x : UInt64} (hd : decode cc pc = .ok (.dstore 6, 2)) (hn : 6 + 1 < nL) (hg : l5.category = 1) (k : ZG X own cc nL d mc ms kc ks (pc + 2) (l0 :: l1 :: l2 :: l3 :: l4 :: l5 :: .double x :: zj :: L) st σ I) : ZG X own cc nL d mc ms kc ks pc (l0 :: l1 :: l2 :: l3 :: l4 :: l5 :: l6 :: l7 :: L) (.double x :: st) σ I :=
  z_dstore hd hn (zgd (j := 5) rfl hg) k
theorem z_inc6 {l0 l1 l2 l3 l4 l5 : Value} {x w : Int32} {n : Int} (hd : decode cc pc = .ok (.iinc 6 n, 3)) (hw : Int32.ofInt n = w) (hn : 6 < nL) (hg : l5.category = 1) (k : ZG X own cc nL d mc ms kc ks (pc + 3) (l0 :: l1 :: l2 :: l3 :: l4 :: l5 :: .int (x + w) :: L) st σ I) : ZG X own cc nL d mc ms kc ks pc (l0 :: l1 :: l2 :: l3 :: l4 :: l5 :: .int x :: L) st σ I :=
  z_iinc (v := x + w) hd rfl (by rw [hw]) hn (zgd (j := 5) rfl hg) k
theorem z_fg6 {l0 l1 l2 l3 l4 l5 l6 : Value} (k : ZG X own cc nL d mc ms kc ks pc (l0 :: l1 :: l2 :: l3 :: l4 :: l5 :: zj :: L) st σ I) : ZG X own cc nL d mc ms kc ks pc (l0 :: l1 :: l2 :: l3 :: l4 :: l5 :: l6 :: L) st σ I :=
  z_forget (fun i u hu hv => by
    by_cases e : i = 6
    · subst e; cases hu; cases hv
    · have e2 : (l0 :: l1 :: l2 :: l3 :: l4 :: l5 :: zj :: L).set 6 l6 = l0 :: l1 :: l2 :: l3 :: l4 :: l5 :: l6 :: L := rfl
      rw [← e2, List.getElem?_set_ne (Ne.symm e)]; exact hu) k
theorem z_ist7 {l0 l1 l2 l3 l4 l5 l6 l7 : Value} {x : Int32} (hd : decode cc pc = .ok (.istore 7, 2)) (hn : 7 < nL) (hg : l6.category = 1) (k : ZG X own cc nL d mc ms kc ks (pc + 2) (l0 :: l1 :: l2 :: l3 :: l4 :: l5 :: l6 :: .int x :: L) st σ I) : ZG X own cc nL d mc ms kc ks pc (l0 :: l1 :: l2 :: l3 :: l4 :: l5 :: l6 :: l7 :: L) (.int x :: st) σ I :=
  z_istore hd hn (zgd (j := 6) rfl hg) k
theorem z_ast7 {l0 l1 l2 l3 l4 l5 l6 l7 : Value} {x : Nat} (hd : decode cc pc = .ok (.astore 7, 2)) (hn : 7 < nL) (hg : l6.category = 1) (k : ZG X own cc nL d mc ms kc ks (pc + 2) (l0 :: l1 :: l2 :: l3 :: l4 :: l5 :: l6 :: .ref x :: L) st σ I) : ZG X own cc nL d mc ms kc ks pc (l0 :: l1 :: l2 :: l3 :: l4 :: l5 :: l6 :: l7 :: L) (.ref x :: st) σ I :=
  z_astore hd hn (zgd (j := 6) rfl hg) k
theorem z_asn7 {l0 l1 l2 l3 l4 l5 l6 l7 : Value} (hd : decode cc pc = .ok (.astore 7, 2)) (hn : 7 < nL) (hg : l6.category = 1) (k : ZG X own cc nL d mc ms kc ks (pc + 2) (l0 :: l1 :: l2 :: l3 :: l4 :: l5 :: l6 :: .null :: L) st σ I) : ZG X own cc nL d mc ms kc ks pc (l0 :: l1 :: l2 :: l3 :: l4 :: l5 :: l6 :: l7 :: L) (.null :: st) σ I :=
  z_astoreN hd hn (zgd (j := 6) rfl hg) k
theorem z_lst7 {l0 l1 l2 l3 l4 l5 l6 l7 l8 : Value} {x : Int64} (hd : decode cc pc = .ok (.lstore 7, 2)) (hn : 7 + 1 < nL) (hg : l6.category = 1) (k : ZG X own cc nL d mc ms kc ks (pc + 2) (l0 :: l1 :: l2 :: l3 :: l4 :: l5 :: l6 :: .long x :: zj :: L) st σ I) : ZG X own cc nL d mc ms kc ks pc (l0 :: l1 :: l2 :: l3 :: l4 :: l5 :: l6 :: l7 :: l8 :: L) (.long x :: st) σ I :=
  z_lstore hd hn (zgd (j := 6) rfl hg) k
theorem z_dst7 {l0 l1 l2 l3 l4 l5 l6 l7 l8 : Value} {x : UInt64} (hd : decode cc pc = .ok (.dstore 7, 2)) (hn : 7 + 1 < nL) (hg : l6.category = 1) (k : ZG X own cc nL d mc ms kc ks (pc + 2) (l0 :: l1 :: l2 :: l3 :: l4 :: l5 :: l6 :: .double x :: zj :: L) st σ I) : ZG X own cc nL d mc ms kc ks pc (l0 :: l1 :: l2 :: l3 :: l4 :: l5 :: l6 :: l7 :: l8 :: L) (.double x :: st) σ I :=
  z_dstore hd hn (zgd (j := 6) rfl hg) k
theorem z_inc7 {l0 l1 l2 l3 l4 l5 l6 : Value} {x w : Int32} {n : Int} (hd : decode cc pc = .ok (.iinc 7 n, 3)) (hw : Int32.ofInt n = w) (hn : 7 < nL) (hg : l6.category = 1) (k : ZG X own cc nL d mc ms kc ks (pc + 3) (l0 :: l1 :: l2 :: l3 :: l4 :: l5 :: l6 :: .int (x + w) :: L) st σ I) : ZG X own cc nL d mc ms kc ks pc (l0 :: l1 :: l2 :: l3 :: l4 :: l5 :: l6 :: .int x :: L) st σ I :=
  z_iinc (v := x + w) hd rfl (by rw [hw]) hn (zgd (j := 6) rfl hg) k
theorem z_fg7 {l0 l1 l2 l3 l4 l5 l6 l7 : Value} (k : ZG X own cc nL d mc ms kc ks pc (l0 :: l1 :: l2 :: l3 :: l4 :: l5 :: l6 :: zj :: L) st σ I) : ZG X own cc nL d mc ms kc ks pc (l0 :: l1 :: l2 :: l3 :: l4 :: l5 :: l6 :: l7 :: L) st σ I :=
  z_forget (fun i u hu hv => by
    by_cases e : i = 7
    · subst e; cases hu; cases hv
    · have e2 : (l0 :: l1 :: l2 :: l3 :: l4 :: l5 :: l6 :: zj :: L).set 7 l7 = l0 :: l1 :: l2 :: l3 :: l4 :: l5 :: l6 :: l7 :: L := rfl
      rw [← e2, List.getElem?_set_ne (Ne.symm e)]; exact hu) k
theorem z_ist8 {l0 l1 l2 l3 l4 l5 l6 l7 l8 : Value} {x : Int32} (hd : decode cc pc = .ok (.istore 8, 2)) (hn : 8 < nL) (hg : l7.category = 1) (k : ZG X own cc nL d mc ms kc ks (pc + 2) (l0 :: l1 :: l2 :: l3 :: l4 :: l5 :: l6 :: l7 :: .int x :: L) st σ I) : ZG X own cc nL d mc ms kc ks pc (l0 :: l1 :: l2 :: l3 :: l4 :: l5 :: l6 :: l7 :: l8 :: L) (.int x :: st) σ I :=
  z_istore hd hn (zgd (j := 7) rfl hg) k
theorem z_ast8 {l0 l1 l2 l3 l4 l5 l6 l7 l8 : Value} {x : Nat} (hd : decode cc pc = .ok (.astore 8, 2)) (hn : 8 < nL) (hg : l7.category = 1) (k : ZG X own cc nL d mc ms kc ks (pc + 2) (l0 :: l1 :: l2 :: l3 :: l4 :: l5 :: l6 :: l7 :: .ref x :: L) st σ I) : ZG X own cc nL d mc ms kc ks pc (l0 :: l1 :: l2 :: l3 :: l4 :: l5 :: l6 :: l7 :: l8 :: L) (.ref x :: st) σ I :=
  z_astore hd hn (zgd (j := 7) rfl hg) k
theorem z_asn8 {l0 l1 l2 l3 l4 l5 l6 l7 l8 : Value} (hd : decode cc pc = .ok (.astore 8, 2)) (hn : 8 < nL) (hg : l7.category = 1) (k : ZG X own cc nL d mc ms kc ks (pc + 2) (l0 :: l1 :: l2 :: l3 :: l4 :: l5 :: l6 :: l7 :: .null :: L) st σ I) : ZG X own cc nL d mc ms kc ks pc (l0 :: l1 :: l2 :: l3 :: l4 :: l5 :: l6 :: l7 :: l8 :: L) (.null :: st) σ I :=
  z_astoreN hd hn (zgd (j := 7) rfl hg) k
theorem z_lst8 {l0 l1 l2 l3 l4 l5 l6 l7 l8 l9 : Value} {x : Int64} (hd : decode cc pc = .ok (.lstore 8, 2)) (hn : 8 + 1 < nL) (hg : l7.category = 1) (k : ZG X own cc nL d mc ms kc ks (pc + 2) (l0 :: l1 :: l2 :: l3 :: l4 :: l5 :: l6 :: l7 :: .long x :: zj :: L) st σ I) : ZG X own cc nL d mc ms kc ks pc (l0 :: l1 :: l2 :: l3 :: l4 :: l5 :: l6 :: l7 :: l8 :: l9 :: L) (.long x :: st) σ I :=
  z_lstore hd hn (zgd (j := 7) rfl hg) k
theorem z_dst8 {l0 l1 l2 l3 l4 l5 l6 l7 l8 l9 : Value} {x : UInt64} (hd : decode cc pc = .ok (.dstore 8, 2)) (hn : 8 + 1 < nL) (hg : l7.category = 1) (k : ZG X own cc nL d mc ms kc ks (pc + 2) (l0 :: l1 :: l2 :: l3 :: l4 :: l5 :: l6 :: l7 :: .double x :: zj :: L) st σ I) : ZG X own cc nL d mc ms kc ks pc (l0 :: l1 :: l2 :: l3 :: l4 :: l5 :: l6 :: l7 :: l8 :: l9 :: L) (.double x :: st) σ I :=
  z_dstore hd hn (zgd (j := 7) rfl hg) k
theorem z_inc8 {l0 l1 l2 l3 l4 l5 l6 l7 : Value} {x w : Int32} {n : Int} (hd : decode cc pc = .ok (.iinc 8 n, 3)) (hw : Int32.ofInt n = w) (hn : 8 < nL) (hg : l7.category = 1) (k : ZG X own cc nL d mc ms kc ks (pc + 3) (l0 :: l1 :: l2 :: l3 :: l4 :: l5 :: l6 :: l7 :: .int (x + w) :: L) st σ I) : ZG X own cc nL d mc ms kc ks pc (l0 :: l1 :: l2 :: l3 :: l4 :: l5 :: l6 :: l7 :: .int x :: L) st σ I :=
  z_iinc (v := x + w) hd rfl (by rw [hw]) hn (zgd (j := 7) rfl hg) k
theorem z_fg8 {l0 l1 l2 l3 l4 l5 l6 l7 l8 : Value} (k : ZG X own cc nL d mc ms kc ks pc (l0 :: l1 :: l2 :: l3 :: l4 :: l5 :: l6 :: l7 :: zj :: L) st σ I) : ZG X own cc nL d mc ms kc ks pc (l0 :: l1 :: l2 :: l3 :: l4 :: l5 :: l6 :: l7 :: l8 :: L) st σ I :=
  z_forget (fun i u hu hv => by
    by_cases e : i = 8
    · subst e; cases hu; cases hv
    · have e2 : (l0 :: l1 :: l2 :: l3 :: l4 :: l5 :: l6 :: l7 :: zj :: L).set 8 l8 = l0 :: l1 :: l2 :: l3 :: l4 :: l5 :: l6 :: l7 :: l8 :: L := rfl
      rw [← e2, List.getElem?_set_ne (Ne.symm e)]; exact hu) k
theorem z_ist9 {l0 l1 l2 l3 l4 l5 l6 l7 l8 l9 : Value} {x : Int32} (hd : decode cc pc = .ok (.istore 9, 2)) (hn : 9 < nL) (hg : l8.category = 1) (k : ZG X own cc nL d mc ms kc ks (pc + 2) (l0 :: l1 :: l2 :: l3 :: l4 :: l5 :: l6 :: l7 :: l8 :: .int x :: L) st σ I) : ZG X own cc nL d mc ms kc ks pc (l0 :: l1 :: l2 :: l3 :: l4 :: l5 :: l6 :: l7 :: l8 :: l9 :: L) (.int x :: st) σ I :=
  z_istore hd hn (zgd (j := 8) rfl hg) k
theorem z_ast9 {l0 l1 l2 l3 l4 l5 l6 l7 l8 l9 : Value} {x : Nat} (hd : decode cc pc = .ok (.astore 9, 2)) (hn : 9 < nL) (hg : l8.category = 1) (k : ZG X own cc nL d mc ms kc ks (pc + 2) (l0 :: l1 :: l2 :: l3 :: l4 :: l5 :: l6 :: l7 :: l8 :: .ref x :: L) st σ I) : ZG X own cc nL d mc ms kc ks pc (l0 :: l1 :: l2 :: l3 :: l4 :: l5 :: l6 :: l7 :: l8 :: l9 :: L) (.ref x :: st) σ I :=
  z_astore hd hn (zgd (j := 8) rfl hg) k
theorem z_asn9 {l0 l1 l2 l3 l4 l5 l6 l7 l8 l9 : Value} (hd : decode cc pc = .ok (.astore 9, 2)) (hn : 9 < nL) (hg : l8.category = 1) (k : ZG X own cc nL d mc ms kc ks (pc + 2) (l0 :: l1 :: l2 :: l3 :: l4 :: l5 :: l6 :: l7 :: l8 :: .null :: L) st σ I) : ZG X own cc nL d mc ms kc ks pc (l0 :: l1 :: l2 :: l3 :: l4 :: l5 :: l6 :: l7 :: l8 :: l9 :: L) (.null :: st) σ I :=
  z_astoreN hd hn (zgd (j := 8) rfl hg) k
theorem z_lst9 {l0 l1 l2 l3 l4 l5 l6 l7 l8 l9 l10 : Value} {x : Int64} (hd : decode cc pc = .ok (.lstore 9, 2)) (hn : 9 + 1 < nL) (hg : l8.category = 1) (k : ZG X own cc nL d mc ms kc ks (pc + 2) (l0 :: l1 :: l2 :: l3 :: l4 :: l5 :: l6 :: l7 :: l8 :: .long x :: zj :: L) st σ I) : ZG X own cc nL d mc ms kc ks pc (l0 :: l1 :: l2 :: l3 :: l4 :: l5 :: l6 :: l7 :: l8 :: l9 :: l10 :: L) (.long x :: st) σ I :=
  z_lstore hd hn (zgd (j := 8) rfl hg) k
theorem z_dst9 {l0 l1 l2 l3 l4 l5 l6 l7 l8 l9 l10 : Value} {x : UInt64} (hd : decode cc pc = .ok (.dstore 9, 2)) (hn : 9 + 1 < nL) (hg : l8.category = 1) (k : ZG X own cc nL d mc ms kc ks (pc + 2) (l0 :: l1 :: l2 :: l3 :: l4 :: l5 :: l6 :: l7 :: l8 :: .double x :: zj :: L) st σ I) : ZG X own cc nL d mc ms kc ks pc (l0 :: l1 :: l2 :: l3 :: l4 :: l5 :: l6 :: l7 :: l8 :: l9 :: l10 :: L) (.double x :: st) σ I :=
  z_dstore hd hn (zgd (j := 8) rfl hg) k
theorem z_inc9 {l0 l1 l2 l3 l4 l5 l6 l7 l8 : Value} {x w : Int32} {n : Int} (hd : decode cc pc = .ok (.iinc 9 n, 3)) (hw : Int32.ofInt n = w) (hn : 9 < nL) (hg : l8.category = 1) (k : ZG X own cc nL d mc ms kc ks (pc + 3) (l0 :: l1 :: l2 :: l3 :: l4 :: l5 :: l6 :: l7 :: l8 :: .int (x + w) :: L) st σ I) : ZG X own cc nL d mc ms kc ks pc (l0 :: l1 :: l2 :: l3 :: l4 :: l5 :: l6 :: l7 :: l8 :: .int x :: L) st σ I :=
  z_iinc (v := x + w) hd rfl (by rw [hw]) hn (zgd (j := 8) rfl hg) k
theorem z_fg9 {l0 l1 l2 l3 l4 l5 l6 l7 l8 l9 : Value} (k : ZG X own cc nL d mc ms kc ks pc (l0 :: l1 :: l2 :: l3 :: l4 :: l5 :: l6 :: l7 :: l8 :: zj :: L) st σ I) : ZG X own cc nL d mc ms kc ks pc (l0 :: l1 :: l2 :: l3 :: l4 :: l5 :: l6 :: l7 :: l8 :: l9 :: L) st σ I :=
  z_forget (fun i u hu hv => by
    by_cases e : i = 9
    · subst e; cases hu; cases hv
    · have e2 : (l0 :: l1 :: l2 :: l3 :: l4 :: l5 :: l6 :: l7 :: l8 :: zj :: L).set 9 l9 = l0 :: l1 :: l2 :: l3 :: l4 :: l5 :: l6 :: l7 :: l8 :: l9 :: L := rfl
      rw [← e2, List.getElem?_set_ne (Ne.symm e)]; exact hu) k
theorem z_ist10 {l0 l1 l2 l3 l4 l5 l6 l7 l8 l9 l10 : Value} {x : Int32} (hd : decode cc pc = .ok (.istore 10, 2)) (hn : 10 < nL) (hg : l9.category = 1) (k : ZG X own cc nL d mc ms kc ks (pc + 2) (l0 :: l1 :: l2 :: l3 :: l4 :: l5 :: l6 :: l7 :: l8 :: l9 :: .int x :: L) st σ I) : ZG X own cc nL d mc ms kc ks pc (l0 :: l1 :: l2 :: l3 :: l4 :: l5 :: l6 :: l7 :: l8 :: l9 :: l10 :: L) (.int x :: st) σ I :=
  z_istore hd hn (zgd (j := 9) rfl hg) k
theorem z_ast10 {l0 l1 l2 l3 l4 l5 l6 l7 l8 l9 l10 : Value} {x : Nat} (hd : decode cc pc = .ok (.astore 10, 2)) (hn : 10 < nL) (hg : l9.category = 1) (k : ZG X own cc nL d mc ms kc ks (pc + 2) (l0 :: l1 :: l2 :: l3 :: l4 :: l5 :: l6 :: l7 :: l8 :: l9 :: .ref x :: L) st σ I) : ZG X own cc nL d mc ms kc ks pc (l0 :: l1 :: l2 :: l3 :: l4 :: l5 :: l6 :: l7 :: l8 :: l9 :: l10 :: L) (.ref x :: st) σ I :=
  z_astore hd hn (zgd (j := 9) rfl hg) k
theorem z_asn10 {l0 l1 l2 l3 l4 l5 l6 l7 l8 l9 l10 : Value} (hd : decode cc pc = .ok (.astore 10, 2)) (hn : 10 < nL) (hg : l9.category = 1) (k : ZG X own cc nL d mc ms kc ks (pc + 2) (l0 :: l1 :: l2 :: l3 :: l4 :: l5 :: l6 :: l7 :: l8 :: l9 :: .null :: L) st σ I) : ZG X own cc nL d mc ms kc ks pc (l0 :: l1 :: l2 :: l3 :: l4 :: l5 :: l6 :: l7 :: l8 :: l9 :: l10 :: L) (.null :: st) σ I :=
  z_astoreN hd hn (zgd (j := 9) rfl hg) k
theorem z_lst10 {l0 l1 l2 l3 l4 l5 l6 l7 l8 l9 l10 l11 : Value} {x : Int64} (hd : decode cc pc = .ok (.lstore 10, 2)) (hn : 10 + 1 < nL) (hg : l9.category = 1) (k : ZG X own cc nL d mc ms kc ks (pc + 2) (l0 :: l1 :: l2 :: l3 :: l4 :: l5 :: l6 :: l7 :: l8 :: l9 :: .long x :: zj :: L) st σ I) : ZG X own cc nL d mc ms kc ks pc (l0 :: l1 :: l2 :: l3 :: l4 :: l5 :: l6 :: l7 :: l8 :: l9 :: l10 :: l11 :: L) (.long x :: st) σ I :=
  z_lstore hd hn (zgd (j := 9) rfl hg) k
theorem z_dst10 {l0 l1 l2 l3 l4 l5 l6 l7 l8 l9 l10 l11 : Value} {x : UInt64} (hd : decode cc pc = .ok (.dstore 10, 2)) (hn : 10 + 1 < nL) (hg : l9.category = 1) (k : ZG X own cc nL d mc ms kc ks (pc + 2) (l0 :: l1 :: l2 :: l3 :: l4 :: l5 :: l6 :: l7 :: l8 :: l9 :: .double x :: zj :: L) st σ I) : ZG X own cc nL d mc ms kc ks pc (l0 :: l1 :: l2 :: l3 :: l4 :: l5 :: l6 :: l7 :: l8 :: l9 :: l10 :: l11 :: L) (.double x :: st) σ I :=
  z_dstore hd hn (zgd (j := 9) rfl hg) k
theorem z_inc10 {l0 l1 l2 l3 l4 l5 l6 l7 l8 l9 : Value} {x w : Int32} {n : Int} (hd : decode cc pc = .ok (.iinc 10 n, 3)) (hw : Int32.ofInt n = w) (hn : 10 < nL) (hg : l9.category = 1) (k : ZG X own cc nL d mc ms kc ks (pc + 3) (l0 :: l1 :: l2 :: l3 :: l4 :: l5 :: l6 :: l7 :: l8 :: l9 :: .int (x + w) :: L) st σ I) : ZG X own cc nL d mc ms kc ks pc (l0 :: l1 :: l2 :: l3 :: l4 :: l5 :: l6 :: l7 :: l8 :: l9 :: .int x :: L) st σ I :=
  z_iinc (v := x + w) hd rfl (by rw [hw]) hn (zgd (j := 9) rfl hg) k
theorem z_fg10 {l0 l1 l2 l3 l4 l5 l6 l7 l8 l9 l10 : Value} (k : ZG X own cc nL d mc ms kc ks pc (l0 :: l1 :: l2 :: l3 :: l4 :: l5 :: l6 :: l7 :: l8 :: l9 :: zj :: L) st σ I) : ZG X own cc nL d mc ms kc ks pc (l0 :: l1 :: l2 :: l3 :: l4 :: l5 :: l6 :: l7 :: l8 :: l9 :: l10 :: L) st σ I :=
  z_forget (fun i u hu hv => by
    by_cases e : i = 10
    · subst e; cases hu; cases hv
    · have e2 : (l0 :: l1 :: l2 :: l3 :: l4 :: l5 :: l6 :: l7 :: l8 :: l9 :: zj :: L).set 10 l10 = l0 :: l1 :: l2 :: l3 :: l4 :: l5 :: l6 :: l7 :: l8 :: l9 :: l10 :: L := rfl
      rw [← e2, List.getElem?_set_ne (Ne.symm e)]; exact hu) k
theorem z_eireturn {v v' : Int32} {I' : ZI} (hE : ZEnd X (some .int) mc ms (fun r0 σ0 I0 => r0 = some (.int v') ∧ σ0 = σ ∧ I0 = I')) (hd : decode cc pc = .ok (.ireturn, 1)) (hv : v = v') (hI : I = I') : ZG X own cc nL d mc ms mc ms pc L [.int v] σ I :=
  z_iret hE hd ⟨by rw [hv], rfl, hI⟩
theorem z_elreturn {v v' : Int64} {I' : ZI} (hE : ZEnd X (some .long) mc ms (fun r0 σ0 I0 => r0 = some (.long v') ∧ σ0 = σ ∧ I0 = I')) (hd : decode cc pc = .ok (.lreturn, 1)) (hv : v = v') (hI : I = I') : ZG X own cc nL d mc ms mc ms pc L [.long v] σ I :=
  z_lret hE hd ⟨by rw [hv], rfl, hI⟩
theorem z_efreturn {v v' : UInt32} {I' : ZI} (hE : ZEnd X (some .float) mc ms (fun r0 σ0 I0 => r0 = some (.float v') ∧ σ0 = σ ∧ I0 = I')) (hd : decode cc pc = .ok (.freturn, 1)) (hv : v = v') (hI : I = I') : ZG X own cc nL d mc ms mc ms pc L [.float v] σ I :=
  z_fret hE hd ⟨by rw [hv], rfl, hI⟩
theorem z_ezreturn {v v' : Int32} {I' : ZI} (hE : ZEnd X (some .boolean) mc ms (fun r0 σ0 I0 => r0 = some (.int v') ∧ σ0 = σ ∧ I0 = I')) (hd : decode cc pc = .ok (.ireturn, 1)) (h01 : v = 0 ∨ v = 1) (hv : v = v') (hI : I = I') : ZG X own cc nL d mc ms mc ms pc L [.int v] σ I :=
  z_zret hE hd (by rcases h01 with rfl | rfl <;> rfl) ⟨by rw [hv], rfl, hI⟩
theorem z_evreturn {I' : ZI} (hE : ZEnd X none mc ms (fun r0 σ0 I0 => r0 = none ∧ σ0 = σ ∧ I0 = I')) (hd : decode cc pc = .ok (.return_, 1)) (hI : I = I') : ZG X own cc nL d mc ms mc ms pc L [] σ I :=
  z_vret hE hd ⟨rfl, rfl, hI⟩
theorem zup_z (I : ZI) (a k : Nat) (x : Int32) (q : Nat) : zup I a k x q = if q = a then upd (I a) k x else I q := rfl
theorem zcp_z (I : ZI) (a : Nat) (f : Nat → Int32) (q : Nat) : zcp I a f q = if q = a then f else I q := rfl
theorem zup_zcp (I : ZI) (a k : Nat) (x : Int32) : zup I a k x = zcp I a (upd (I a) k x) := rfl
theorem zcp_same (I : ZI) (a : Nat) : zcp I a (I a) = I := by
  funext q
  by_cases h : q = a
  · subst h; exact if_pos rfl
  · exact if_neg h
theorem zcp_at (I : ZI) (a : Nat) (f : Nat → Int32) : zcp I a f a = f := if_pos rfl
theorem zcp_ne (I : ZI) {a q : Nat} (f : Nat → Int32) (h : q ≠ a) : zcp I a f q = I q := if_neg h
theorem zcp_zcp (I : ZI) (a : Nat) (f g : Nat → Int32) : zcp (zcp I a f) a g = zcp I a g := by
  funext q
  by_cases h : q = a
  · subst h; rw [zcp_at, zcp_at]
  · rw [zcp_ne _ _ h, zcp_ne _ _ h, zcp_ne _ _ h]
theorem upd_at (f : Nat → Int32) (k : Nat) (x : Int32) : upd f k x k = x := if_pos rfl
theorem upd_ne (f : Nat → Int32) {k j : Nat} (x : Int32) (h : j ≠ k) : upd f k x j = f j := if_neg h
end ZC1
end
section
/-! ===== the shape behind the two constructors ===== -/
def Sg : List ZC := [(0, 9, [3, 20, 107, 115, 116, 136, 137, 139, 0]), (0, 8, [4, 7, 9, 0, 0]), (0, 5, [5, 0]), (0, 6, [6]), (1, 100, []), (0, 6, [8]), (1, 6, []), (0, 7, [10, 12, 14, 16, 18, 0]), (0, 6, [11]), (1, 20, []), (0, 6, [13]), (1, 20, []), (0, 6, [15]), (1, 20, []), (0, 6, [17]), (1, 400, []), (0, 6, [19]), (1, 400, []), (0, 0, [21, 0, 0]), (2, 2, [22, 39, 56, 73, 90]), (0, 8, [23, 26, 28, 0, 0]), (0, 5, [24, 0]), (0, 6, [25]), (1, 100, []), (0, 6, [27]), (1, 6, []), (0, 7, [29, 31, 33, 35, 37, 0]), (0, 6, [30]), (1, 20, []), (0, 6, [32]), (1, 20, []), (0, 6, [34]), (1, 20, []), (0, 6, [36]), (1, 400, []), (0, 6, [38]), (1, 400, []), (0, 8, [40, 43, 45, 0, 0]), (0, 5, [41, 0]), (0, 6, [42]), (1, 100, []), (0, 6, [44]), (1, 6, []), (0, 7, [46, 48, 50, 52, 54, 0]), (0, 6, [47]), (1, 20, []), (0, 6, [49]), (1, 20, []), (0, 6, [51]), (1, 20, []), (0, 6, [53]), (1, 400, []), (0, 6, [55]), (1, 400, []), (0, 8, [57, 60, 62, 0, 0]), (0, 5, [58, 0]), (0, 6, [59]), (1, 100, []), (0, 6, [61]), (1, 6, []), (0, 7, [63, 65, 67, 69, 71, 0]), (0, 6, [64]), (1, 20, []), (0, 6, [66]), (1, 20, []), (0, 6, [68]), (1, 20, []), (0, 6, [70]), (1, 400, []), (0, 6, [72]), (1, 400, []), (0, 8, [74, 77, 79, 0, 0]), (0, 5, [75, 0]), (0, 6, [76]), (1, 100, []), (0, 6, [78]), (1, 6, []), (0, 7, [80, 82, 84, 86, 88, 0]), (0, 6, [81]), (1, 20, []), (0, 6, [83]), (1, 20, []), (0, 6, [85]), (1, 20, []), (0, 6, [87]), (1, 400, []), (0, 6, [89]), (1, 400, []), (0, 8, [91, 94, 96, 0, 0]), (0, 5, [92, 0]), (0, 6, [93]), (1, 100, []), (0, 6, [95]), (1, 6, []), (0, 7, [97, 99, 101, 103, 105, 0]), (0, 6, [98]), (1, 20, []), (0, 6, [100]), (1, 20, []), (0, 6, [102]), (1, 20, []), (0, 6, [104]), (1, 400, []), (0, 6, [106]), (1, 400, []), (0, 3, [108, 109, 111, 113]), (0, 2, [0]), (0, 6, [110]), (1, 20, []), (0, 6, [112]), (1, 20, []), (0, 6, [114]), (1, 5, []), (2, 1, [141, 161, 181, 201, 221, 241]), (0, 4, [117, 119, 121, 123, 125, 0, 0]), (0, 6, [118]), (1, 20, []), (0, 6, [120]), (1, 20, []), (0, 6, [122]), (1, 20, []), (0, 6, [124]), (1, 100, []), (0, 1, [126, 128, 130, 132, 134, 0, 0]), (0, 6, [127]), (1, 20, []), (0, 6, [129]), (1, 20, []), (0, 6, [131]), (1, 20, []), (0, 6, [133]), (1, 20, []), (0, 6, [135]), (1, 20, []), (0, 2, [0]), (0, 6, [138]), (1, 20, []), (0, 6, [140]), (1, 20, []), (0, 4, [142, 144, 146, 148, 150, 0, 0]), (0, 6, [143]), (1, 20, []), (0, 6, [145]), (1, 20, []), (0, 6, [147]), (1, 20, []), (0, 6, [149]), (1, 100, []), (0, 1, [151, 153, 155, 157, 159, 0, 0]), (0, 6, [152]), (1, 20, []), (0, 6, [154]), (1, 20, []), (0, 6, [156]), (1, 20, []), (0, 6, [158]), (1, 20, []), (0, 6, [160]), (1, 20, []), (0, 4, [162, 164, 166, 168, 170, 0, 0]), (0, 6, [163]), (1, 20, []), (0, 6, [165]), (1, 20, []), (0, 6, [167]), (1, 20, []), (0, 6, [169]), (1, 100, []), (0, 1, [171, 173, 175, 177, 179, 0, 0]), (0, 6, [172]), (1, 20, []), (0, 6, [174]), (1, 20, []), (0, 6, [176]), (1, 20, []), (0, 6, [178]), (1, 20, []), (0, 6, [180]), (1, 20, []), (0, 4, [182, 184, 186, 188, 190, 0, 0]), (0, 6, [183]), (1, 20, []), (0, 6, [185]), (1, 20, []), (0, 6, [187]), (1, 20, []), (0, 6, [189]), (1, 100, []), (0, 1, [191, 193, 195, 197, 199, 0, 0]), (0, 6, [192]), (1, 20, []), (0, 6, [194]), (1, 20, []), (0, 6, [196]), (1, 20, []), (0, 6, [198]), (1, 20, []), (0, 6, [200]), (1, 20, []), (0, 4, [202, 204, 206, 208, 210, 0, 0]), (0, 6, [203]), (1, 20, []), (0, 6, [205]), (1, 20, []), (0, 6, [207]), (1, 20, []), (0, 6, [209]), (1, 100, []), (0, 1, [211, 213, 215, 217, 219, 0, 0]), (0, 6, [212]), (1, 20, []), (0, 6, [214]), (1, 20, []), (0, 6, [216]), (1, 20, []), (0, 6, [218]), (1, 20, []), (0, 6, [220]), (1, 20, []), (0, 4, [222, 224, 226, 228, 230, 0, 0]), (0, 6, [223]), (1, 20, []), (0, 6, [225]), (1, 20, []), (0, 6, [227]), (1, 20, []), (0, 6, [229]), (1, 100, []), (0, 1, [231, 233, 235, 237, 239, 0, 0]), (0, 6, [232]), (1, 20, []), (0, 6, [234]), (1, 20, []), (0, 6, [236]), (1, 20, []), (0, 6, [238]), (1, 20, []), (0, 6, [240]), (1, 20, []), (0, 4, [242, 244, 246, 248, 250, 0, 0]), (0, 6, [243]), (1, 20, []), (0, 6, [245]), (1, 20, []), (0, 6, [247]), (1, 20, []), (0, 6, [249]), (1, 100, []), (0, 1, [251, 253, 255, 257, 259, 0, 0]), (0, 6, [252]), (1, 20, []), (0, 6, [254]), (1, 20, []), (0, 6, [256]), (1, 20, []), (0, 6, [258]), (1, 20, []), (0, 6, [260]), (1, 20, []), (0, 10, [262, 263, 0, 0, 264, 265, 266, 267, 0, 268, 269, 270, 0, 271, 272, 273, 0]), (1, 540, []), (1, 2700, []), (1, 20, []), (1, 20, []), (1, 100, []), (1, 20, []), (1, 20, []), (1, 20, []), (1, 20, []), (1, 20, []), (1, 20, []), (1, 20, [])]
def RowAt (a n : Nat) : Prop := Sg[a]? = some (0, 6, [a + 3]) ∧ Sg[a + 1]? = some (1, n, []) ∧ n < 1000
def QsAt (q : Nat) : Prop := Sg[q]? = some (0, 5, [q + 3, 0]) ∧ RowAt (q + 1) 100
def ShAt (h : Nat) : Prop := Sg[h]? = some (0, 7, [h + 3, h + 5, h + 7, h + 9, h + 11, 0]) ∧ RowAt (h + 1) 20 ∧ RowAt (h + 3) 20 ∧ RowAt (h + 5) 20 ∧ RowAt (h + 7) 400 ∧ RowAt (h + 9) 400
def StAt (s : Nat) : Prop := Sg[s]? = some (0, 8, [s + 3, s + 6, s + 8, 0, 0]) ∧ QsAt (s + 1) ∧ RowAt (s + 4) 6 ∧ ShAt (s + 6)
def LyAt (y : Nat) : Prop := Sg[y]? = some (0, 1, [y + 3, y + 5, y + 7, y + 9, y + 11, 0, 0]) ∧ RowAt (y + 1) 20 ∧ RowAt (y + 3) 20 ∧ RowAt (y + 5) 20 ∧ RowAt (y + 7) 20 ∧ RowAt (y + 9) 20
def PpAt (p : Nat) : Prop := Sg[p]? = some (0, 4, [p + 3, p + 5, p + 7, p + 9, p + 11, 0, 0]) ∧ RowAt (p + 1) 20 ∧ RowAt (p + 3) 20 ∧ RowAt (p + 5) 20 ∧ RowAt (p + 7) 100 ∧ LyAt (p + 9)
def LoAt (o : Nat) : Prop := Sg[o]? = some (0, 2, [0])
/-- a row's number at any place, 0 where it has none -/
def rget (n : Nat) (f : Nat → Int32) (i : Int32) : Int32 := if i < 0 ∨ nI n ≤ i then 0 else f i.toNatClampNeg
def rset (n : Nat) (f : Nat → Int32) (i x : Int32) : Nat → Int32 := if i < 0 ∨ nI n ≤ i then f else upd f i.toNatClampNeg x
theorem rget_in {n k : Nat} {f : Nat → Int32} (hk : k < n) (hn : n < 1000) : rget n f (nI k) = f k := by
  have h1 : ¬ (nI k < 0 ∨ nI n ≤ nI k) := by
    rintro (h | h)
    · exact nI_pos (by omega) h
    · have := (nI_leI (by omega) (by omega)).mp h
      omega
  rw [rget, if_neg h1, nI_clamp (by omega)]
theorem rset_in {n k : Nat} {f : Nat → Int32} {x : Int32} (hk : k < n) (hn : n < 1000) : rset n f (nI k) x = upd f k x := by
  have h1 : ¬ (nI k < 0 ∨ nI n ≤ nI k) := by
    rintro (h | h)
    · exact nI_pos (by omega) h
    · have := (nI_leI (by omega) (by omega)).mp h
      omega
  rw [rset, if_neg h1, nI_clamp (by omega)]
theorem r_ix {x : Int32} {n : Nat} (hn : n < 1000) (h1 : ¬ x < 0) (h2 : ¬ nI n ≤ x) : ∃ k, k < n ∧ x = nI k := by
  rcases pk_ix x (n := n) (by omega) with h | h | h
  · exact absurd h h1
  · exact absurd h h2
  · exact h
end
section
/-! ===== rows and lots ===== -/
theorem s_get {I : ZI} {a n : Nat} {i : Int32} (h : RowAt a n) : ZE yX6_get cX6_get 2 (some FieldType.int) 0 [.ref a, .int i] Sg I (some (.int (rget n (I (a + 1)) i))) I := by
  obtain ⟨h1, h2, h3⟩ := h
  refine ZSp.of (own := RX6) (L := [.ref a, .int i]) mX6_get rfl (List.all_eq_true.mp rfl) (Nat.le_of_ble_eq_true rfl) rfl (fun X hE hN => ?_)
  refine z_iload_n dX6_get_0 rfl ?_
  refine z_if_lt (tgt := 22) dX6_get_1 (by decide) (fun hb => ?_) (fun hb => ?_)
  · refine z_iconst (v := 0) dX6_get_22 rfl ?_
    exact z_eireturn hE dX6_get_23 (by rw [rget, if_pos (Or.inl hb)]) rfl
  · refine z_iload_n dX6_get_4 rfl ?_
    refine z_aload_n dX6_get_5 rfl ?_
    refine z_getR fRX6_7 dX6_get_6 (by first | assumption | rfl) (by rfl) ?_
    refine z_alen dX6_get_9 (by first | assumption | rfl) ?_
    refine z_icmp_ge (tgt := 22) dX6_get_10 (by decide) (fun hc => ?_) (fun hc => ?_)
    · refine z_iconst (v := 0) dX6_get_22 rfl ?_
      exact z_eireturn hE dX6_get_23 (by rw [rget, if_pos (Or.inr hc)]) rfl
    · refine z_aload_n dX6_get_13 rfl ?_
      refine z_getR fRX6_7 dX6_get_14 (by first | assumption | rfl) (by rfl) ?_
      refine z_iload_n dX6_get_17 rfl ?_
      obtain ⟨k, hk, rfl⟩ := r_ix h3 hb hc
      refine z_ialdN dX6_get_18 h2 rfl hk (by omega) ?_
      refine z_goto (tgt := 23) dX6_get_19 (by decide) ?_
      exact z_eireturn hE dX6_get_23 (by rw [rget_in hk h3]) rfl
theorem s_getN {I : ZI} {a n k : Nat} {i : Int32} (h : RowAt a n) (hi : i = nI k) (hk : k < n) : ZE yX6_get cX6_get 2 (some FieldType.int) 0 [.ref a, .int i] Sg I (some (.int (I (a + 1) k))) I :=
  (s_get h).of_eq (by rw [hi, rget_in hk h.2.2]) rfl
theorem s_set {I : ZI} {a n : Nat} {i x : Int32} (h : RowAt a n) : ZE yX6_set cX6_set 3 none 0 [.ref a, .int i, .int x] Sg I none (zcp I (a + 1) (rset n (I (a + 1)) i x)) := by
  obtain ⟨h1, h2, h3⟩ := h
  refine ZSp.of (own := RX6) (L := [.ref a, .int i, .int x]) mX6_set rfl (List.all_eq_true.mp rfl) (Nat.le_of_ble_eq_true rfl) rfl (fun X hE hN => ?_)
  refine z_iload_n dX6_set_0 rfl ?_
  refine z_if_lt (tgt := 20) dX6_set_1 (by decide) (fun hb => ?_) (fun hb => ?_)
  · exact z_evreturn hE dX6_set_20 (by rw [rset, if_pos (Or.inl hb), zcp_same])
  · refine z_iload_n dX6_set_4 rfl ?_
    refine z_aload_n dX6_set_5 rfl ?_
    refine z_getR fRX6_7 dX6_set_6 (by first | assumption | rfl) (by rfl) ?_
    refine z_alen dX6_set_9 (by first | assumption | rfl) ?_
    refine z_icmp_ge (tgt := 20) dX6_set_10 (by decide) (fun hc => ?_) (fun hc => ?_)
    · exact z_evreturn hE dX6_set_20 (by rw [rset, if_pos (Or.inr hc), zcp_same])
    · refine z_aload_n dX6_set_13 rfl ?_
      refine z_getR fRX6_7 dX6_set_14 (by first | assumption | rfl) (by rfl) ?_
      refine z_iload_n dX6_set_17 rfl ?_
      refine z_iload_n dX6_set_18 rfl ?_
      obtain ⟨k, hk, rfl⟩ := r_ix h3 hb hc
      refine z_iastN dX6_set_19 h2 rfl hk (by omega) ?_
      exact z_evreturn hE dX6_set_20 (by rw [rset_in hk h3, zup_zcp])
theorem s_setN {I : ZI} {a n k : Nat} {i x : Int32} (h : RowAt a n) (hi : i = nI k) (hk : k < n) : ZE yX6_set cX6_set 3 none 0 [.ref a, .int i, .int x] Sg I none (zup I (a + 1) k x) :=
  (s_set h).of_eq rfl (by rw [hi, rset_in hk h.2.2, zup_zcp])
def swI (f : Nat → Int32) (i j : Nat) : Nat → Int32 := fun k => if k = j then f i else if k = i then f j else f k
theorem s_exchange {I : ZI} {a n i j : Nat} {x y : Int32} (h : RowAt a n) (hx : x = nI i) (hy : y = nI j) (hi : i < n) (hj : j < n) : ZE yX6_exchange cX6_exchange 4 none 0 [.ref a, .int x, .int y] Sg I none (zcp I (a + 1) (swI (I (a + 1)) i j)) := by
  obtain ⟨h1, h2, h3⟩ := h
  subst hx
  subst hy
  refine ZSp.of (own := RX6) (L := [.ref a, .int (nI i), .int (nI j), zj]) mX6_exchange rfl (List.all_eq_true.mp rfl) (Nat.le_of_ble_eq_true rfl) rfl (fun X hE hN => ?_)
  refine z_iload_n dX6_exchange_0 rfl ?_
  refine z_if_lt (tgt := 52) dX6_exchange_1 (by decide) (fun hb => absurd hb (nI_pos (by omega))) (fun _ => ?_)
  refine z_iload_n dX6_exchange_4 rfl ?_
  refine z_aload_n dX6_exchange_5 rfl ?_
  refine z_getR fRX6_7 dX6_exchange_6 (by first | assumption | rfl) (by rfl) ?_
  refine z_alen dX6_exchange_9 (by first | assumption | rfl) ?_
  refine z_icmp_ge (tgt := 52) dX6_exchange_10 (by decide) (fun hb => absurd hb (nI_ge hi (by omega))) (fun _ => ?_)
  refine z_iload_n dX6_exchange_13 rfl ?_
  refine z_if_lt (tgt := 52) dX6_exchange_14 (by decide) (fun hb => absurd hb (nI_pos (by omega))) (fun _ => ?_)
  refine z_iload_n dX6_exchange_17 rfl ?_
  refine z_aload_n dX6_exchange_18 rfl ?_
  refine z_getR fRX6_7 dX6_exchange_19 (by first | assumption | rfl) (by rfl) ?_
  refine z_alen dX6_exchange_22 (by first | assumption | rfl) ?_
  refine z_icmp_ge (tgt := 52) dX6_exchange_23 (by decide) (fun hb => absurd hb (nI_ge hj (by omega))) (fun _ => ?_)
  refine z_aload_n dX6_exchange_26 rfl ?_
  refine z_getR fRX6_7 dX6_exchange_27 (by first | assumption | rfl) (by rfl) ?_
  refine z_iload_n dX6_exchange_30 rfl ?_
  refine z_ialdN dX6_exchange_31 h2 rfl hi (by omega) ?_
  refine z_ist3 dX6_exchange_32 (by decide) rfl ?_
  refine z_aload_n dX6_exchange_33 rfl ?_
  refine z_getR fRX6_7 dX6_exchange_34 (by first | assumption | rfl) (by rfl) ?_
  refine z_iload_n dX6_exchange_37 rfl ?_
  refine z_aload_n dX6_exchange_38 rfl ?_
  refine z_getR fRX6_7 dX6_exchange_39 (by first | assumption | rfl) (by rfl) ?_
  refine z_iload_n dX6_exchange_42 rfl ?_
  refine z_ialdN dX6_exchange_43 h2 rfl hj (by omega) ?_
  refine z_iastN dX6_exchange_44 h2 rfl hi (by omega) ?_
  refine z_aload_n dX6_exchange_45 rfl ?_
  refine z_getR fRX6_7 dX6_exchange_46 (by first | assumption | rfl) (by rfl) ?_
  refine z_iload_n dX6_exchange_49 rfl ?_
  refine z_iload_n dX6_exchange_50 rfl ?_
  refine z_iastN dX6_exchange_51 h2 rfl hj (by omega) ?_
  exact z_evreturn hE dX6_exchange_52 (by
    funext q
    rw [zup_z, zcp_z]
    by_cases hq : q = a + 1
    · subst hq
      rw [if_pos rfl, if_pos rfl]
      funext k
      rw [zup_at, swI, upd, upd]
    · rw [if_neg hq, if_neg hq, zup_ne _ _ _ hq])
/-- the copy of a row into another one of its length -/
def rcopy (n : Nat) (f g : Nat → Int32) : Nat → Int32 := va_cpy f g 0 0 n
theorem rcopy_in {n k : Nat} {f g : Nat → Int32} (hk : k < n) : rcopy n f g k = f k := by
  rw [rcopy, pk_cpy_in (Nat.zero_le _) (by omega)]
  congr 1
  omega
theorem s_rowCopy {I : ZI} {a c n : Nat} (h : RowAt a n) (hc : RowAt c n) : ZE yX6_copy cX6_copy 2 none 1 [.ref a, .ref c] Sg I none (zcp I (a + 1) (rcopy n (I (c + 1)) (I (a + 1)))) := by
  obtain ⟨h1, h2, h3⟩ := h
  obtain ⟨g1, g2, g3⟩ := hc
  refine ZSp.of (own := RX6) (L := [.ref a, .ref c]) mX6_copy rfl (List.all_eq_true.mp rfl) (Nat.le_of_ble_eq_true rfl) rfl (fun X hE hN => ?_)
  refine z_aload_n dX6_copy_0 rfl ?_
  refine z_getR fRX6_7 dX6_copy_1 (by first | assumption | rfl) (by rfl) ?_
  refine z_iconst (v := 0) dX6_copy_4 rfl ?_
  refine z_aload_n dX6_copy_5 rfl ?_
  refine z_getR fRX6_7 dX6_copy_6 (by first | assumption | rfl) (by rfl) ?_
  refine z_iconst (v := 0) dX6_copy_9 rfl ?_
  refine z_aload_n dX6_copy_10 rfl ?_
  refine z_getR fRX6_7 dX6_copy_11 (by first | assumption | rfl) (by rfl) ?_
  refine z_alen dX6_copy_14 (by first | assumption | rfl) ?_
  refine z_aload_n dX6_copy_15 rfl ?_
  refine z_getR fRX6_7 dX6_copy_16 (by first | assumption | rfl) (by rfl) ?_
  refine z_alen dX6_copy_19 (by first | assumption | rfl) ?_
  refine z_mmin gRX6_13 j_min_static j_math_ini j_min_code dX6_copy_20 (by decide) (Nat.le_of_ble_eq_true rfl) (Nat.le_refl _) (Nat.le_refl _) ?_
  rw [if_neg (nI_nlt (Nat.le_refl _) (by omega))]
  refine z_acopy gRX6_19 j_acp_native j_acp_static j_sys_ini dX6_copy_23 (by decide) (Nat.le_of_ble_eq_true rfl) g2 h2 (nI_pos (by omega)) (by rw [nI_clamp (by omega)]; omega) (by rw [nI_clamp (by omega)]; omega) ?_
  rw [nI_clamp (by omega)]
  exact z_evreturn hE dX6_copy_26 rfl
end
section
/-! ===== numbers: lots, mixing, collecting; what a version is ===== -/
def lx (x : Int32) : Int32 := 1103515245 * x + 12345
def lvv (x : Int32) (m : Nat) : Nat := (x.toBitVec.toNat / 65536) % m
theorem lvv_lt (x : Int32) {m : Nat} (h : 0 < m) : lvv x m < m := Nat.mod_lt _ h
def mixA : Nat → Int32 × (Nat → Int32) → Int32 × (Nat → Int32)
  | 0, p => p
  | i + 1, p => mixA i (lx p.1, swI p.2 (i + 1) (lvv (lx p.1) (i + 2)))
def swN (f : Nat → Nat) (i j : Nat) : Nat → Nat := fun k => if k = j then f i else if k = i then f j else f k
def mixN : Nat → Int32 × (Nat → Nat) → Int32 × (Nat → Nat)
  | 0, p => p
  | i + 1, p => mixN i (lx p.1, swN p.2 (i + 1) (lvv (lx p.1) (i + 2)))
/-- the row f holds the numbers g below n -/
def Rp (f : Nat → Int32) (g : Nat → Nat) (n : Nat) : Prop := ∀ k, k < n → f k = nI (g k)
theorem Rp.sw {f : Nat → Int32} {g : Nat → Nat} {n i j : Nat} (h : Rp f g n) (hi : i < n) (hj : j < n) : Rp (swI f i j) (swN g i j) n := by
  intro k hk
  unfold swI swN
  by_cases h1 : k = j
  · rw [if_pos h1, if_pos h1, h i hi]
  · rw [if_neg h1, if_neg h1]
    by_cases h2 : k = i
    · rw [if_pos h2, if_pos h2, h j hj]
    · rw [if_neg h2, if_neg h2, h k hk]
theorem mix_rp : ∀ (i : Nat) (x : Int32) (f : Nat → Int32) (g : Nat → Nat) (n : Nat), i < n ∨ i = 0 → Rp f g n → (mixA i (x, f)).1 = (mixN i (x, g)).1 ∧ Rp (mixA i (x, f)).2 (mixN i (x, g)).2 n
  | 0, x, f, g, n, _, h => ⟨rfl, h⟩
  | i + 1, x, f, g, n, hi, h => by
    have hi : i + 1 < n := by omega
    have hl := lvv_lt (lx x) (show 0 < i + 2 by omega)
    exact mix_rp i (lx x) _ _ n (Or.inl (by omega)) (h.sw hi (show lvv (lx x) (i + 2) < n by omega))
/-- f lists just the numbers of S, each once -/
def En (f : Nat → Nat) (n : Nat) (S : Nat → Prop) : Prop := (∀ k, k < n → S (f k)) ∧ (∀ s, S s → ∃ k, k < n ∧ f k = s) ∧ ∀ k l, k < l → l < n → f k ≠ f l
theorem En.inj {f : Nat → Nat} {n : Nat} {S : Nat → Prop} (h : En f n S) {k l : Nat} (hk : k < n) (hl : l < n) (e : f k = f l) : k = l := by
  rcases Nat.lt_trichotomy k l with h1 | h1 | h1
  · exact absurd e (h.2.2 k l h1 hl)
  · exact h1
  · exact absurd e.symm (h.2.2 l k h1 hk)
theorem En.sw {f : Nat → Nat} {n i j : Nat} {S : Nat → Prop} (h : En f n S) (hi : i < n) (hj : j < n) : En (swN f i j) n S := by
  have key : ∀ k, k < n → ∃ k', k' < n ∧ swN f i j k = f k' ∧ swN f i j k' = f k ∧ (∀ l, l < n → ∀ l', l' < n → swN f i j l = f l' → l' = k' → l = k ∨ True) := by
    intro k hk
    unfold swN
    by_cases h1 : k = j
    · subst h1
      refine ⟨i, hi, by simp, ?_, fun _ _ _ _ _ _ => Or.inr trivial⟩
      by_cases h2 : i = k
      · subst h2; simp
      · simp [h2]
    · by_cases h2 : k = i
      · subst h2
        exact ⟨j, hj, by simp [h1], by simp, fun _ _ _ _ _ _ => Or.inr trivial⟩
      · exact ⟨k, hk, by simp [h1, h2], by simp [h1, h2], fun _ _ _ _ _ _ => Or.inr trivial⟩
  refine ⟨fun k hk => ?_, fun s hs => ?_, fun k l hkl hl he => ?_⟩
  · obtain ⟨k', h1, h2, -⟩ := key k hk
    rw [h2]
    exact h.1 k' h1
  · obtain ⟨k, h1, h2⟩ := h.2.1 s hs
    obtain ⟨k', h3, -, h4, -⟩ := key k h1
    exact ⟨k', h3, by rw [h4, h2]⟩
  · have hk : k < n := by omega
    unfold swN at he
    by_cases a1 : k = j
    · have a2 : l ≠ j := by omega
      rw [if_pos a1, if_neg a2] at he
      by_cases a3 : l = i
      · rw [if_pos a3] at he
        have := h.inj hi hj he
        omega
      · rw [if_neg a3] at he
        have := h.inj hi hl he
        omega
    · rw [if_neg a1] at he
      by_cases a2 : l = j
      · rw [if_pos a2] at he
        by_cases a3 : k = i
        · rw [if_pos a3] at he
          have := h.inj hj hi he
          omega
        · rw [if_neg a3] at he
          have := h.inj hk hi he
          omega
      · rw [if_neg a2] at he
        by_cases a3 : k = i
        · rw [if_pos a3] at he
          have a4 : l ≠ i := by omega
          rw [if_neg a4] at he
          have := h.inj hj hl he
          omega
        · rw [if_neg a3] at he
          by_cases a4 : l = i
          · rw [if_pos a4] at he
            have := h.inj hk hj he
            omega
          · rw [if_neg a4] at he
            have := h.inj hk hl he
            omega
theorem En.mix : ∀ (i : Nat) (x : Int32) (f : Nat → Nat) (n : Nat) (S : Nat → Prop), i < n ∨ i = 0 → En f n S → En (mixN i (x, f)).2 n S
  | 0, x, f, n, S, _, h => h
  | i + 1, x, f, n, S, hi, h => by
    have hi : i + 1 < n := by omega
    have hl := lvv_lt (lx x) (show 0 < i + 2 by omega)
    exact En.mix i (lx x) _ n S (Or.inl (by omega)) (h.sw hi (show lvv (lx x) (i + 2) < n by omega))
theorem En.congr {f g : Nat → Nat} {n : Nat} {S S' : Nat → Prop} (h : En f n S) (hf : ∀ k, k < n → g k = f k) (hS : ∀ s, S s ↔ S' s) : En g n S' := by
  refine ⟨fun k hk => ?_, fun s hs => ?_, fun k l hkl hl he => ?_⟩
  · rw [hf k hk]; exact (hS _).mp (h.1 k hk)
  · obtain ⟨k, h1, h2⟩ := h.2.1 s ((hS s).mpr hs)
    exact ⟨k, h1, by rw [hf k h1, h2]⟩
  · rw [hf k (by omega), hf l hl] at he
    exact h.2.2 k l hkl hl he
/-- the numbers below n with P, in ascending order -/
def col (P : Nat → Bool) : Nat → Nat × (Nat → Nat)
  | 0 => (0, fun _ => 0)
  | n + 1 => if P n = true then ((col P n).1 + 1, fun k => if k = (col P n).1 then n else (col P n).2 k) else col P n
theorem col_yes {P : Nat → Bool} {n : Nat} (h : P n = true) : col P (n + 1) = ((col P n).1 + 1, fun k => if k = (col P n).1 then n else (col P n).2 k) := by rw [col, if_pos h]
theorem col_no {P : Nat → Bool} {n : Nat} (h : ¬ P n = true) : col P (n + 1) = col P n := by rw [col, if_neg h]
theorem col_le (P : Nat → Bool) : ∀ n, (col P n).1 ≤ n
  | 0 => Nat.le_refl _
  | n + 1 => by
    have := col_le P n
    by_cases h : P n = true
    · rw [col_yes h]; show (col P n).1 + 1 ≤ n + 1; omega
    · rw [col_no h]; omega
theorem col_mono (P : Nat → Bool) {m : Nat} : ∀ {n : Nat}, m ≤ n → (col P m).1 ≤ (col P n).1
  | 0, h => by rw [show m = 0 by omega]; exact Nat.le_refl _
  | n + 1, h => by
    rcases Nat.lt_or_ge m (n + 1) with h1 | h1
    · have := col_mono P (m := m) (n := n) (by omega)
      by_cases h2 : P n = true
      · rw [col_yes h2]; show _ ≤ (col P n).1 + 1; omega
      · rw [col_no h2]; exact this
    · rw [show m = n + 1 by omega]; exact Nat.le_refl _
theorem col_en (P : Nat → Bool) : ∀ n, En (col P n).2 (col P n).1 (fun q => q < n ∧ P q = true) ∧ ∀ k, k < (col P n).1 → (col P n).2 k < n
  | 0 => ⟨⟨fun k hk => absurd hk (Nat.not_lt_zero k), fun s hs => absurd hs.1 (Nat.not_lt_zero s), fun k l _ hl => absurd hl (Nat.not_lt_zero l)⟩, fun k hk => absurd hk (Nat.not_lt_zero k)⟩
  | n + 1 => by
    obtain ⟨⟨h1, h2, h3⟩, h4⟩ := col_en P n
    by_cases h : P n = true
    · rw [col_yes h]
      refine ⟨⟨fun k hk => ?_, fun s hs => ?_, fun k l hkl hl => ?_⟩, fun k hk => ?_⟩
      · show (if k = _ then n else _) < n + 1 ∧ P (if k = _ then n else _) = true
        by_cases hk2 : k = (col P n).1
        · rw [if_pos hk2]; exact ⟨Nat.lt_succ_self n, h⟩
        · rw [if_neg hk2]
          have hk3 : k < (col P n).1 + 1 := hk
          obtain ⟨a, b⟩ := h1 k (by omega)
          exact ⟨by omega, b⟩
      · by_cases hs2 : s = n
        · exact ⟨(col P n).1, Nat.lt_succ_self _, by show (if (col P n).1 = (col P n).1 then n else _) = s; rw [if_pos rfl, hs2]⟩
        · obtain ⟨k, a, b⟩ := h2 s ⟨by omega, hs.2⟩
          exact ⟨k, Nat.lt_succ_of_lt a, by show (if k = _ then n else _) = s; rw [if_neg (by omega), b]⟩
      · show (if k = _ then n else _) ≠ (if l = _ then n else _)
        have hl3 : l < (col P n).1 + 1 := hl
        rw [if_neg (show ¬ k = (col P n).1 by omega)]
        by_cases hl2 : l = (col P n).1
        · rw [if_pos hl2]
          have := h4 k (by omega)
          omega
        · rw [if_neg hl2]
          exact h3 k l hkl (by omega)
      · show (if k = _ then n else _) < n + 1
        have hk3 : k < (col P n).1 + 1 := hk
        by_cases hk2 : k = (col P n).1
        · rw [if_pos hk2]; omega
        · rw [if_neg hk2]
          have := h4 k (by omega)
          omega
    · rw [col_no h]
      refine ⟨⟨fun k hk => ⟨by have := (h1 k hk).1; omega, (h1 k hk).2⟩, fun s hs => ?_, h3⟩, fun k hk => by have := h4 k hk; omega⟩
      by_cases hs2 : s = n
      · rw [hs2] at hs; exact absurd hs.2 h
      · exact h2 s ⟨by omega, hs.2⟩
theorem col_congr {P Q : Nat → Bool} : ∀ {n : Nat}, (∀ k, k < n → P k = Q k) → col P n = col Q n
  | 0, _ => rfl
  | n + 1, h => by
    have ih := col_congr (P := P) (Q := Q) (n := n) (fun k hk => h k (by omega))
    by_cases h1 : P n = true
    · rw [col_yes h1, col_yes (by rw [← h n (Nat.lt_succ_self n)]; exact h1), ih]
    · rw [col_no h1, col_no (by rw [← h n (Nat.lt_succ_self n)]; exact h1), ih]
/-! questions: qd q w is the number w of question q (0 height, 1 right, 2 keeps, 3 group, 4 choices) -/
abbrev Qd : Type := Nat → Nat → Nat
def QV (nq : Nat) (qd : Qd) : Prop := nq ≤ 20 ∧ ∀ q, q < nq → 1 ≤ qd q 0 ∧ qd q 0 ≤ 9 ∧ 2 ≤ qd q 4 ∧ qd q 4 ≤ 5 ∧ qd q 1 < qd q 4 ∧ qd q 2 < 2 ^ qd q 4 ∧ qd q 3 ≤ 5
def tog (qd : Qd) (a b : Nat) : Bool := decide (a = b ∨ (qd a 3 ≠ 0 ∧ qd a 3 = qd b 3))
def lead (qd : Qd) (q : Nat) : Bool := decide (∀ k, k < q → tog qd k q = false)
def loose (qd : Qd) (q : Nat) (k : Nat) : Bool := !(qd q 2).testBit k
/-- the units in their mixed order, and the lots' state behind it -/
def mxU (nq : Nat) (qd : Qd) (seed : Int32) : Int32 × (Nat → Nat) := mixN ((col (lead qd) nq).1 - 1) (seed, (col (lead qd) nq).2)
def mxM (nq : Nat) (qd : Qd) (x : Int32) (u : Nat) : Int32 × (Nat → Nat) := mixN ((col (tog qd u) nq).1 - 1) (x, (col (tog qd u) nq).2)
def mxO (nq : Nat) (qd : Qd) (u : Nat → Nat) (x : Int32) : Nat → Int32 × Nat × (Nat → Nat)
  | 0 => (x, 0, fun _ => 0)
  | k + 1 => ((mxM nq qd (mxO nq qd u x k).1 (u k)).1, (mxO nq qd u x k).2.1 + (col (tog qd (u k)) nq).1, fun p => if p < (mxO nq qd u x k).2.1 then (mxO nq qd u x k).2.2 p else (mxM nq qd (mxO nq qd u x k).1 (u k)).2 (p - (mxO nq qd u x k).2.1))
def Ord3 (nq : Nat) (qd : Qd) (seed : Int32) : Int32 × Nat × (Nat → Nat) := mxO nq qd (mxU nq qd seed).2 (mxU nq qd seed).1 (col (lead qd) nq).1
/-- the order of a version -/
def Od (nq : Nat) (qd : Qd) (seed : Int32) : Nat → Nat := (Ord3 nq qd seed).2.2
def mxL (qd : Qd) (x : Int32) (q : Nat) : Int32 × (Nat → Nat) := mixN ((col (loose qd q) (qd q 4)).1 - 1) (x, (col (loose qd q) (qd q 4)).2)
def mxX (qd : Qd) (O : Nat → Nat) (x : Int32) : Nat → Int32
  | 0 => x
  | p + 1 => (mxL qd (mxX qd O x p) (O p)).1
/-- the choice at the place k of a question q whose loose choices are mixed from x on -/
def chq (qd : Qd) (x : Int32) (q k : Nat) : Nat := if loose qd q k = true then (mxL qd x q).2 (col (loose qd q) k).1 else k
/-- the last place below n with the right choice -/
def kyq (c : Nat → Nat) (r : Nat) : Nat → Nat
  | 0 => 0
  | n + 1 => if c n = r then n else kyq c r n
/-- the lots' state at the choices of a place; the choices and the key of a version -/
def Xs (nq : Nat) (qd : Qd) (seed : Int32) (p : Nat) : Int32 := mxX qd (Od nq qd seed) (Ord3 nq qd seed).1 p
def Ch (nq : Nat) (qd : Qd) (seed : Int32) (p k : Nat) : Nat := chq qd (Xs nq qd seed p) (Od nq qd seed p) k
def Ky (nq : Nat) (qd : Qd) (seed : Int32) (p : Nat) : Nat := kyq (Ch nq qd seed p) (qd (Od nq qd seed p) 1) (qd (Od nq qd seed p) 4)
end
section
/-! ===== lots and their mixing of a row ===== -/
theorem z_ushr16 (x : Int32) : (x.toUInt32 >>> ((16 : Int32).toUInt32 &&& Int32.toUInt32 31)).toInt32 = nI (x.toBitVec.toNat / 65536) := by
  have h1 := pk_ushr x 16 16 (by decide)
  have h2 : x.toBitVec.toNat < 2 ^ 32 := x.toBitVec.isLt
  have h3 : (nI (x.toBitVec.toNat / 65536)).toBitVec.toNat = x.toBitVec.toNat / 65536 := pk_tn (by omega)
  apply Int32.toBitVec_inj.mp
  apply BitVec.eq_of_toNat_eq
  rw [h1, h3]
theorem s_begin {I : ZI} {o : Nat} {x : Int32} (h : LoAt o) : ZE yX2_begin cX2_begin 2 none 0 [.ref o, .int x] Sg I none (zup I o 0 x) := by
  have h1 : Sg[o]? = some (0, 2, [0]) := h
  refine ZSp.of (own := RX2) (L := [.ref o, .int x]) mX2_begin rfl (List.all_eq_true.mp rfl) (Nat.le_of_ble_eq_true rfl) rfl (fun X hE hN => ?_)
  refine z_aload_n dX2_begin_0 rfl ?_
  refine z_iload_n dX2_begin_1 rfl ?_
  refine z_putI fRX2_7 dX2_begin_2 (by first | assumption | rfl) (by rfl) ?_
  exact z_evreturn hE dX2_begin_5 rfl
theorem s_next {I : ZI} {o m : Nat} {y : Int32} (h : LoAt o) (hy : y = nI m) (h0 : 0 < m) (hm : m < 1000) : ZE yX2_next cX2_next 2 (some FieldType.int) 0 [.ref o, .int y] Sg I (some (.int (nI (lvv (lx (I o 0)) m)))) (zup I o 0 (lx (I o 0))) := by
  have h1 : Sg[o]? = some (0, 2, [0]) := h
  subst hy
  refine ZSp.of (own := RX2) (L := [.ref o, .int (nI m)]) mX2_next rfl (List.all_eq_true.mp rfl) (Nat.le_of_ble_eq_true rfl) rfl (fun X hE hN => ?_)
  refine z_aload_n dX2_next_0 rfl ?_
  refine z_ldc kRX2_13 dX2_next_1 ?_
  refine z_aload_n dX2_next_3 rfl ?_
  refine z_getI fRX2_7 dX2_next_4 (by first | assumption | rfl) (by rfl) ?_
  refine z_imul dX2_next_7 ?_
  refine z_sipush (v := 12345) dX2_next_8 rfl ?_
  refine z_iadd dX2_next_11 ?_
  refine z_putI fRX2_7 dX2_next_12 (by first | assumption | rfl) (by rfl) ?_
  refine z_iload_n dX2_next_15 rfl ?_
  refine z_if_le (tgt := 31) dX2_next_16 (by decide) (fun hb => absurd hb (nI_nle h0 (by omega))) (fun _ => ?_)
  refine z_aload_n dX2_next_19 rfl ?_
  refine z_getI fRX2_7 dX2_next_20 (by first | assumption | rfl) (by rfl) ?_
  refine z_bipush (v := 16) dX2_next_23 rfl ?_
  refine z_iushr dX2_next_25 ?_
  refine z_iload_n dX2_next_26 rfl ?_
  refine z_irem dX2_next_27 (nI_ne0 h0 (by omega)) ?_
  refine z_goto (tgt := 32) dX2_next_28 (by decide) ?_
  exact z_eireturn hE dX2_next_32 (by
    rw [zup_at, upd_at, z_ushr16, pk_rem (by have := (lx (I o 0)).toBitVec.isLt; show _ / 65536 < _; omega) h0 (by omega)]
    rfl) rfl
/-- a row's mixing: the lots' state at o, the row's ints at a + 1 -/
theorem s_lotsMix {o a n m : Nat} {y : Int32} (ho : LoAt o) (ha : RowAt a n) (hoa : o ≠ a + 1) (hm : m ≤ n) (hy : y = nI m) (I : ZI) :
    ZE yX2_mix cX2_mix 4 none 1 [.ref o, .ref a, .int y] Sg I none (zup (zcp I (a + 1) (mixA (m - 1) (I o 0, I (a + 1))).2) o 0 (mixA (m - 1) (I o 0, I (a + 1))).1) := by
  subst hy
  have hn := ha.2.2
  have h1 : Sg[o]? = some (0, 2, [0]) := ho
  have ha1 := ha.1
  refine ZSp.of (own := RX2) (L := [.ref o, .ref a, .int (nI m), zj]) mX2_mix rfl (List.all_eq_true.mp rfl) (Nat.le_of_ble_eq_true rfl) rfl (fun X hE hN => ?_)
  have loop : ∀ (i : Nat) (J : ZI), i < n ∨ i = 0 → (∀ q, q ≠ o → q ≠ a + 1 → J q = I q) → (∀ k, k ≠ 0 → J o k = I o k) → mixA i (J o 0, J (a + 1)) = mixA (m - 1) (I o 0, I (a + 1)) → (ZG X RX2 cX2_mix 4 1 0 0 0 0 4 [.ref o, .ref a, .int (nI m), .int (nI i)] [] Sg J) := by
    intro i
    induction i with
    | zero =>
      intro J _ hJ hJo hf
      refine z_iload_n dX2_mix_4 rfl ?_
      refine z_iconst (v := 1) dX2_mix_5 rfl ?_
      refine z_icmp_lt (tgt := 27) dX2_mix_6 (by decide) (fun _ => ?_) (fun hb => absurd (nI_lt (show 0 < 1 by omega) (by omega)) hb)
      exact z_evreturn hE dX2_mix_27 (by
        funext q
        have hf' : (J o 0, J (a + 1)) = mixA (m - 1) (I o 0, I (a + 1)) := hf
        rw [← hf', zup_z]
        by_cases hq : q = o
        · subst hq
          rw [if_pos rfl]
          funext k
          by_cases hk : k = 0
          · subst hk; rw [upd_at]
          · rw [upd_ne _ _ hk, hJo k hk, zcp_ne _ _ hoa]
        · rw [if_neg hq, zcp_z]
          by_cases hq2 : q = a + 1
          · subst hq2; rw [if_pos rfl]
          · rw [if_neg hq2, hJ q hq hq2])
    | succ i ih =>
      intro J hi hJ hJo hf
      have hi : i + 1 < n := by omega
      refine z_iload_n dX2_mix_4 rfl ?_
      refine z_iconst (v := 1) dX2_mix_5 rfl ?_
      refine z_icmp_lt (tgt := 27) dX2_mix_6 (by decide) (fun hb => absurd hb (nI_nlt (show 1 ≤ i + 1 by omega) (by omega))) (fun _ => ?_)
      refine z_aload_n dX2_mix_9 rfl ?_
      refine z_iload_n dX2_mix_10 rfl ?_
      refine z_aload_n dX2_mix_11 rfl ?_
      refine z_iload_n dX2_mix_12 rfl ?_
      refine z_iconst (v := 1) dX2_mix_13 rfl ?_
      refine z_iadd dX2_mix_14 ?_
      refine z_cV1s mX2_next gRX2_14 dX2_mix_15 (s_next ho (nI_1 (i + 1)) (by omega) (by omega)) (by decide) (by first | assumption | rfl) (by rfl) (Nat.le_of_ble_eq_true rfl) (Nat.le_refl _) (Nat.le_refl _) ?_
      refine z_cV2n mX6_exchange gRX2_18 dX2_mix_18 (s_exchange ha rfl rfl hi (Nat.lt_of_lt_of_le (lvv_lt _ (show 0 < i + 1 + 1 by omega)) (by omega))) (by decide) (by first | assumption | rfl) (by rfl) (Nat.le_of_ble_eq_true rfl) (Nat.le_refl _) (Nat.le_refl _) ?_
      refine z_inc3 (w := (-1)) dX2_mix_21 rfl (by decide) rfl ?_
      refine z_goto (tgt := 4) dX2_mix_24 (by decide) ?_
      rw [show nI (i + 1) + (-1) = nI i from pk_m1 i]
      refine ih _ (Or.inl (by omega)) (fun q hq hq2 => ?_) (fun k hk => ?_) ?_
      · rw [zcp_ne _ _ hq2, zup_ne _ _ _ hq, hJ q hq hq2]
      · rw [zcp_ne _ _ hoa, zup_at, upd_ne _ _ hk, hJo k hk]
      · rw [zcp_ne _ _ hoa, zup_at, upd_at, zcp_at, zup_ne _ _ _ (Ne.symm hoa), ← hf]
        rfl
  refine z_iload_n dX2_mix_0 rfl ?_
  refine z_iconst (v := 1) dX2_mix_1 rfl ?_
  refine z_isub dX2_mix_2 ?_
  refine z_ist3 dX2_mix_3 (by decide) rfl ?_
  by_cases hm0 : m = 0
  · subst hm0
    refine z_iload_n dX2_mix_4 rfl ?_
    refine z_iconst (v := 1) dX2_mix_5 rfl ?_
    refine z_icmp_lt (tgt := 27) dX2_mix_6 (by decide) (fun _ => ?_) (fun hb => absurd ((show (nI 0 - 1 : Int32) < 1 by decide)) hb)
    exact z_evreturn hE dX2_mix_27 (by
      show I = zup (zcp I (a + 1) (I (a + 1))) o 0 (I o 0)
      rw [zcp_same]
      funext q
      rw [zup_z]
      by_cases hq : q = o
      · subst hq
        rw [if_pos rfl]
        funext k
        by_cases hk : k = 0
        · subst hk; rw [upd_at]
        · rw [upd_ne _ _ hk]
      · rw [if_neg hq])
  · have e : nI m - 1 = nI (m - 1) := by
      rw [show m = (m - 1) + 1 by omega]
      exact nI_pred (m - 1)
    rw [e]
    exact loop (m - 1) I (by omega) (fun _ _ _ => rfl) (fun _ _ => rfl) rfl
end
section
/-! ===== the questions of a state ===== -/
theorem z_five (i w : Nat) : nI i * 5 + nI w = nI (5 * i + w) := by
  show nI i * nI 5 + nI w = _
  rw [pk_mul, nI_add, Nat.mul_comm]
def Qs (I : ZI) (q nq : Nat) (qd : Qd) : Prop := I q 1 = nI nq ∧ ∀ i, i < nq → ∀ w, w < 5 → I (q + 1 + 1) (5 * i + w) = nI (qd i w)
theorem s_numberAt {I : ZI} {q i w : Nat} {x y : Int32} (h : QsAt q) (hx : x = nI i) (hy : y = nI w) (hi : i < 20) (hw : w < 5) : ZE yX5_number cX5_number 3 (some FieldType.int) 1 [.ref q, .int x, .int y] Sg I (some (.int (I (q + 1 + 1) (5 * i + w)))) I := by
  obtain ⟨h1, h2⟩ := h
  refine ZSp.of (own := RX5) (L := [.ref q, .int x, .int y]) mX5_number rfl (List.all_eq_true.mp rfl) (Nat.le_of_ble_eq_true rfl) rfl (fun X hE hN => ?_)
  refine z_aload_n dX5_number_0 rfl ?_
  refine z_getR fRX5_14 dX5_number_1 (by first | assumption | rfl) (by rfl) ?_
  refine z_iload_n dX5_number_4 rfl ?_
  refine z_iconst (v := 5) dX5_number_5 rfl ?_
  refine z_imul dX5_number_6 ?_
  refine z_iload_n dX5_number_7 rfl ?_
  refine z_iadd dX5_number_8 ?_
  have h3 := h2.1
  refine z_cV1s mX6_get gRX5_24 dX5_number_9 (s_getN h2 (show x * 5 + y = nI (5 * i + w) by rw [hx, hy, z_five]) (by omega)) (by decide) (by first | assumption | rfl) (by rfl) (Nat.le_of_ble_eq_true rfl) (Nat.le_refl _) (Nat.le_refl _) ?_
  exact z_eireturn hE dX5_number_12 rfl rfl
theorem s_number {I : ZI} {q i w nq : Nat} {qd : Qd} {x y : Int32} (h : QsAt q) (hQ : Qs I q nq qd) (hn : nq ≤ 20) (hx : x = nI i) (hy : y = nI w) (hi : i < nq) (hw : w < 5) : ZE yX5_number cX5_number 3 (some FieldType.int) 1 [.ref q, .int x, .int y] Sg I (some (.int (nI (qd i w)))) I :=
  (s_numberAt h hx hy (by omega) hw).of_eq (by rw [hQ.2 i hi w hw]) rfl
theorem s_put {I : ZI} {q i w : Nat} {x y v : Int32} (h : QsAt q) (hx : x = nI i) (hy : y = nI w) (hi : i < 20) (hw : w < 5) : ZE yX5_put cX5_put 4 none 1 [.ref q, .int x, .int y, .int v] Sg I none (zup I (q + 1 + 1) (5 * i + w) v) := by
  obtain ⟨h1, h2⟩ := h
  refine ZSp.of (own := RX5) (L := [.ref q, .int x, .int y, .int v]) mX5_put rfl (List.all_eq_true.mp rfl) (Nat.le_of_ble_eq_true rfl) rfl (fun X hE hN => ?_)
  refine z_aload_n dX5_put_0 rfl ?_
  refine z_getR fRX5_14 dX5_put_1 (by first | assumption | rfl) (by rfl) ?_
  refine z_iload_n dX5_put_4 rfl ?_
  refine z_iconst (v := 5) dX5_put_5 rfl ?_
  refine z_imul dX5_put_6 ?_
  refine z_iload_n dX5_put_7 rfl ?_
  refine z_iadd dX5_put_8 ?_
  refine z_iload_n dX5_put_9 rfl ?_
  have h3 := h2.1
  refine z_cV2n mX6_set gRX5_28 dX5_put_10 (s_setN h2 (show x * 5 + y = nI (5 * i + w) by rw [hx, hy, z_five]) (by omega)) (by decide) (by first | assumption | rfl) (by rfl) (Nat.le_of_ble_eq_true rfl) (Nat.le_refl _) (Nat.le_refl _) ?_
  exact z_evreturn hE dX5_put_13 rfl
theorem s_has {I : ZI} {q : Nat} {x : Int32} (h : QsAt q) : ZE yX5_has cX5_has 2 (some FieldType.boolean) 0 [.ref q, .int x] Sg I (some (.int (if x < 0 ∨ I q 1 ≤ x then 0 else 1))) I := by
  obtain ⟨h1, h2⟩ := h
  refine ZSp.of (own := RX5) (L := [.ref q, .int x]) mX5_has rfl (List.all_eq_true.mp rfl) (Nat.le_of_ble_eq_true rfl) rfl (fun X hE hN => ?_)
  refine z_iload_n dX5_has_0 rfl ?_
  refine z_if_lt (tgt := 16) dX5_has_1 (by decide) (fun hb => ?_) (fun hb => ?_)
  · refine z_iconst (v := 0) dX5_has_16 rfl ?_
    exact z_ezreturn hE dX5_has_17 (by decide) (by rw [if_pos (Or.inl hb)]) rfl
  · refine z_iload_n dX5_has_4 rfl ?_
    refine z_aload_n dX5_has_5 rfl ?_
    refine z_getI fRX5_20 dX5_has_6 (by first | assumption | rfl) (by rfl) ?_
    refine z_icmp_ge (tgt := 16) dX5_has_9 (by decide) (fun hc => ?_) (fun hc => ?_)
    · refine z_iconst (v := 0) dX5_has_16 rfl ?_
      exact z_ezreturn hE dX5_has_17 (by decide) (by rw [if_pos (Or.inr hc)]) rfl
    · refine z_iconst (v := 1) dX5_has_12 rfl ?_
      refine z_goto (tgt := 17) dX5_has_13 (by decide) ?_
      exact z_ezreturn hE dX5_has_17 (by decide) (by rw [if_neg (fun h => h.elim hb hc)]) rfl
def alw (w v c : Int32) : Prop := (w = 0 ∧ ¬ v < 1 ∧ ¬ 9 < v) ∨ (w = 1 ∧ ¬ v < 0 ∧ v < c) ∨ (w = 2 ∧ ¬ v < 0 ∧ v < 1 <<< (c &&& 31)) ∨ (w = 3 ∧ ¬ v < 0 ∧ ¬ 5 < v)
theorem z_sw4 (w : Int32) : w = 0 ∨ w = 1 ∨ w = 2 ∨ w = 3 ∨ (w.toInt < 0 ∨ 3 < w.toInt) := by
  by_cases h0 : w = 0
  · exact Or.inl h0
  by_cases h1 : w = 1
  · exact Or.inr (Or.inl h1)
  by_cases h2 : w = 2
  · exact Or.inr (Or.inr (Or.inl h2))
  by_cases h3 : w = 3
  · exact Or.inr (Or.inr (Or.inr (Or.inl h3)))
  refine Or.inr (Or.inr (Or.inr (Or.inr ?_)))
  have e : ∀ k : Int32, w ≠ k → w.toInt ≠ k.toInt := fun k hk h => hk (Int32.toInt_inj.mp h)
  have a0 := e 0 h0
  have a1 := e 1 h1
  have a2 := e 2 h2
  have a3 := e 3 h3
  have b0 : (0 : Int32).toInt = 0 := rfl
  have b1 : (1 : Int32).toInt = 1 := rfl
  have b2 : (2 : Int32).toInt = 2 := rfl
  have b3 : (3 : Int32).toInt = 3 := rfl
  omega
theorem s_allows {I : ZI} {w v c : Int32} {r : Int32} (hr1 : alw w v c → r = 1) (hr0 : ¬ alw w v c → r = 0) : ZE yX5_allows cX5_allows 3 (some FieldType.boolean) 0 [.int w, .int v, .int c] Sg I (some (.int r)) I := by
  refine ZSp.of (own := RX5) (L := [.int w, .int v, .int c]) mX5_allows rfl (List.all_eq_true.mp rfl) (Nat.le_of_ble_eq_true rfl) rfl (fun X hE hN => ?_)
  refine z_iload_n dX5_allows_0 rfl ?_
  rcases z_sw4 w with rfl | rfl | rfl | rfl | hw
  · refine z_tableIn (off := 31) (tgt := 32) dX5_allows_1 (by decide) (by decide) (by decide) (by decide) ?_
    refine z_iload_n dX5_allows_32 rfl ?_
    refine z_iconst (v := 1) dX5_allows_33 rfl ?_
    refine z_icmp_lt (tgt := 47) dX5_allows_34 (by decide) (fun hb => ?_) (fun hb => ?_)
    · refine z_iconst (v := 0) dX5_allows_47 rfl ?_
      exact z_ezreturn hE dX5_allows_48 (by decide) (hr0 (by rintro (⟨h, a, b⟩ | ⟨h, a, b⟩ | ⟨h, a, b⟩ | ⟨h, a, b⟩) <;> first | exact absurd h (by decide) | exact a hb)).symm rfl
    · refine z_iload_n dX5_allows_37 rfl ?_
      refine z_bipush (v := 9) dX5_allows_38 rfl ?_
      refine z_icmp_gt (tgt := 47) dX5_allows_40 (by decide) (fun hc => ?_) (fun hc => ?_)
      · refine z_iconst (v := 0) dX5_allows_47 rfl ?_
        exact z_ezreturn hE dX5_allows_48 (by decide) (hr0 (by rintro (⟨h, a, b⟩ | ⟨h, a, b⟩ | ⟨h, a, b⟩ | ⟨h, a, b⟩) <;> first | exact absurd h (by decide) | exact b hc)).symm rfl
      · refine z_iconst (v := 1) dX5_allows_43 rfl ?_
        refine z_goto (tgt := 48) dX5_allows_44 (by decide) ?_
        exact z_ezreturn hE dX5_allows_48 (by decide) (hr1 (Or.inl ⟨rfl, hb, hc⟩)).symm rfl
  · refine z_tableIn (off := 48) (tgt := 49) dX5_allows_1 (by decide) (by decide) (by decide) (by decide) ?_
    refine z_iload_n dX5_allows_49 rfl ?_
    refine z_if_lt (tgt := 62) dX5_allows_50 (by decide) (fun hb => ?_) (fun hb => ?_)
    · refine z_iconst (v := 0) dX5_allows_62 rfl ?_
      exact z_ezreturn hE dX5_allows_63 (by decide) (hr0 (by rintro (⟨h, a, b⟩ | ⟨h, a, b⟩ | ⟨h, a, b⟩ | ⟨h, a, b⟩) <;> first | exact absurd h (by decide) | exact a hb)).symm rfl
    · refine z_iload_n dX5_allows_53 rfl ?_
      refine z_iload_n dX5_allows_54 rfl ?_
      refine z_icmp_ge (tgt := 62) dX5_allows_55 (by decide) (fun hc => ?_) (fun hc => ?_)
      · refine z_iconst (v := 0) dX5_allows_62 rfl ?_
        exact z_ezreturn hE dX5_allows_63 (by decide) (hr0 (by rintro (⟨h, a, b⟩ | ⟨h, a, b⟩ | ⟨h, a, b⟩ | ⟨h, a, b⟩) <;> first | exact absurd h (by decide) | exact absurd b (Int32.not_lt.mpr hc))).symm rfl
      · refine z_iconst (v := 1) dX5_allows_58 rfl ?_
        refine z_goto (tgt := 63) dX5_allows_59 (by decide) ?_
        exact z_ezreturn hE dX5_allows_63 (by decide) (hr1 (Or.inr (Or.inl ⟨rfl, hb, Int32.not_le.mp hc⟩))).symm rfl
  · refine z_tableIn (off := 63) (tgt := 64) dX5_allows_1 (by decide) (by decide) (by decide) (by decide) ?_
    refine z_iload_n dX5_allows_64 rfl ?_
    refine z_if_lt (tgt := 79) dX5_allows_65 (by decide) (fun hb => ?_) (fun hb => ?_)
    · refine z_iconst (v := 0) dX5_allows_79 rfl ?_
      exact z_ezreturn hE dX5_allows_80 (by decide) (hr0 (by rintro (⟨h, a, b⟩ | ⟨h, a, b⟩ | ⟨h, a, b⟩ | ⟨h, a, b⟩) <;> first | exact absurd h (by decide) | exact a hb)).symm rfl
    · refine z_iload_n dX5_allows_68 rfl ?_
      refine z_iconst (v := 1) dX5_allows_69 rfl ?_
      refine z_iload_n dX5_allows_70 rfl ?_
      refine z_ishl dX5_allows_71 ?_
      refine z_icmp_ge (tgt := 79) dX5_allows_72 (by decide) (fun hc => ?_) (fun hc => ?_)
      · refine z_iconst (v := 0) dX5_allows_79 rfl ?_
        exact z_ezreturn hE dX5_allows_80 (by decide) (hr0 (by rintro (⟨h, a, b⟩ | ⟨h, a, b⟩ | ⟨h, a, b⟩ | ⟨h, a, b⟩) <;> first | exact absurd h (by decide) | exact absurd b (Int32.not_lt.mpr hc))).symm rfl
      · refine z_iconst (v := 1) dX5_allows_75 rfl ?_
        refine z_goto (tgt := 80) dX5_allows_76 (by decide) ?_
        exact z_ezreturn hE dX5_allows_80 (by decide) (hr1 (Or.inr (Or.inr (Or.inl ⟨rfl, hb, Int32.not_le.mp hc⟩)))).symm rfl
  · refine z_tableIn (off := 80) (tgt := 81) dX5_allows_1 (by decide) (by decide) (by decide) (by decide) ?_
    refine z_iload_n dX5_allows_81 rfl ?_
    refine z_if_lt (tgt := 94) dX5_allows_82 (by decide) (fun hb => ?_) (fun hb => ?_)
    · refine z_iconst (v := 0) dX5_allows_94 rfl ?_
      exact z_ezreturn hE dX5_allows_95 (by decide) (hr0 (by rintro (⟨h, a, b⟩ | ⟨h, a, b⟩ | ⟨h, a, b⟩ | ⟨h, a, b⟩) <;> first | exact absurd h (by decide) | exact a hb)).symm rfl
    · refine z_iload_n dX5_allows_85 rfl ?_
      refine z_iconst (v := 5) dX5_allows_86 rfl ?_
      refine z_icmp_gt (tgt := 94) dX5_allows_87 (by decide) (fun hc => ?_) (fun hc => ?_)
      · refine z_iconst (v := 0) dX5_allows_94 rfl ?_
        exact z_ezreturn hE dX5_allows_95 (by decide) (hr0 (by rintro (⟨h, a, b⟩ | ⟨h, a, b⟩ | ⟨h, a, b⟩ | ⟨h, a, b⟩) <;> first | exact absurd h (by decide) | exact b hc)).symm rfl
      · refine z_iconst (v := 1) dX5_allows_90 rfl ?_
        refine z_goto (tgt := 95) dX5_allows_91 (by decide) ?_
        exact z_ezreturn hE dX5_allows_95 (by decide) (hr1 (Or.inr (Or.inr (Or.inr ⟨rfl, hb, hc⟩)))).symm rfl
  · refine z_tableOut (tgt := 96) dX5_allows_1 (hw) (by decide) ?_
    refine z_iconst (v := 0) dX5_allows_96 rfl ?_
    exact z_ezreturn hE dX5_allows_97 (by decide) (hr0 (by rintro (⟨rfl, a, b⟩ | ⟨rfl, a, b⟩ | ⟨rfl, a, b⟩ | ⟨rfl, a, b⟩) <;> exact absurd hw (by decide))).symm rfl
theorem s_together {I : ZI} {q nq i j : Nat} {qd : Qd} {x y : Int32} (h : QsAt q) (hQ : Qs I q nq qd) (hV : QV nq qd) (hx : x = nI i) (hy : y = nI j) (hi : i < nq) (hj : j < nq) : ZE yX5_together cX5_together 3 (some FieldType.boolean) 2 [.ref q, .int x, .int y] Sg I (some (.int (if tog qd i j = true then 1 else 0))) I := by
  have hn := hV.1
  have hgi := (hV.2 i hi).2.2.2.2.2.2
  have hgj := (hV.2 j hj).2.2.2.2.2.2
  have h1 := h.1
  subst hx
  subst hy
  refine ZSp.of (own := RX5) (L := [.ref q, .int (nI i), .int (nI j)]) mX5_together rfl (List.all_eq_true.mp rfl) (Nat.le_of_ble_eq_true rfl) rfl (fun X hE hN => ?_)
  refine z_iload_n dX5_together_0 rfl ?_
  refine z_iload_n dX5_together_1 rfl ?_
  refine z_icmp_eq (tgt := 29) dX5_together_2 (by decide) (fun hb => ?_) (fun hb => ?_)
  · refine z_iconst (v := 1) dX5_together_29 rfl ?_
    refine z_goto (tgt := 34) dX5_together_30 (by decide) ?_
    have e := (nI_eq (by omega) (by omega)).mp hb
    exact z_ezreturn hE dX5_together_34 (by decide) (by rw [if_pos (by simp [tog, e])]) rfl
  · refine z_aload_n dX5_together_5 rfl ?_
    refine z_iload_n dX5_together_6 rfl ?_
    refine z_iconst (v := 3) dX5_together_7 rfl ?_
    have e : i ≠ j := fun e => hb (by rw [e])
    refine z_cV2s mX5_number gRX5_36 dX5_together_8 (s_number h hQ hn rfl (show (3 : Int32) = nI 3 from rfl) hi (by omega)) (by decide) (by first | assumption | rfl) (by rfl) (Nat.le_of_ble_eq_true rfl) (Nat.le_refl _) (Nat.le_refl _) ?_
    refine z_if_eq (tgt := 33) dX5_together_11 (by decide) (fun hc => ?_) (fun hc => ?_)
    · refine z_iconst (v := 0) dX5_together_33 rfl ?_
      have e2 := (nI_eq (b := 0) (by omega) (by omega)).mp hc
      exact z_ezreturn hE dX5_together_34 (by decide) (by rw [if_neg (by simp [tog, e, e2])]) rfl
    · refine z_aload_n dX5_together_14 rfl ?_
      refine z_iload_n dX5_together_15 rfl ?_
      refine z_iconst (v := 3) dX5_together_16 rfl ?_
      have e2 : qd i 3 ≠ 0 := fun e => hc (by rw [e]; rfl)
      refine z_cV2s mX5_number gRX5_36 dX5_together_17 (s_number h hQ hn rfl (show (3 : Int32) = nI 3 from rfl) hi (by omega)) (by decide) (by first | assumption | rfl) (by rfl) (Nat.le_of_ble_eq_true rfl) (Nat.le_refl _) (Nat.le_refl _) ?_
      refine z_aload_n dX5_together_20 rfl ?_
      refine z_iload_n dX5_together_21 rfl ?_
      refine z_iconst (v := 3) dX5_together_22 rfl ?_
      refine z_cV2s mX5_number gRX5_36 dX5_together_23 (s_number h hQ hn rfl (show (3 : Int32) = nI 3 from rfl) hj (by omega)) (by decide) (by first | assumption | rfl) (by rfl) (Nat.le_of_ble_eq_true rfl) (Nat.le_refl _) (Nat.le_refl _) ?_
      refine z_icmp_ne (tgt := 33) dX5_together_26 (by decide) (fun hd => ?_) (fun hd => ?_)
      · refine z_iconst (v := 0) dX5_together_33 rfl ?_
        have e3 : qd i 3 ≠ qd j 3 := fun e => hd (by rw [e])
        exact z_ezreturn hE dX5_together_34 (by decide) (by rw [if_neg (by simp [tog, e, e3])]) rfl
      · refine z_iconst (v := 1) dX5_together_29 rfl ?_
        refine z_goto (tgt := 34) dX5_together_30 (by decide) ?_
        have e3 : qd i 3 = qd j 3 := (nI_eq (by omega) (by omega)).mp hd
        exact z_ezreturn hE dX5_together_34 (by decide) (by rw [if_pos (by simp [tog, e2, e3]; exact Or.inr (e3 ▸ e2))]) rfl
theorem s_isFirst {I : ZI} {q nq i : Nat} {qd : Qd} {x : Int32} (h : QsAt q) (hQ : Qs I q nq qd) (hV : QV nq qd) (hx : x = nI i) (hi : i < nq) : ZE yX5_isFirstOfUnit cX5_isFirstOfUnit 3 (some FieldType.boolean) 3 [.ref q, .int x] Sg I (some (.int (if lead qd i = true then 1 else 0))) I := by
  have hn := hV.1
  have h1 := h.1
  subst hx
  refine ZSp.of (own := RX5) (L := [.ref q, .int (nI i), zj]) mX5_isFirstOfUnit rfl (List.all_eq_true.mp rfl) (Nat.le_of_ble_eq_true rfl) rfl (fun X hE hN => ?_)
  have loop : ∀ (n k : Nat), k + n = i → (∀ j, j < k → tog qd j i = false) → (ZG X RX5 cX5_isFirstOfUnit 3 3 0 0 0 0 2 [.ref q, .int (nI i), .int (nI k)] [] Sg I) := by
    intro n
    induction n with
    | zero =>
      intro k hk hl
      refine z_iload_n dX5_isFirstOfUnit_2 rfl ?_
      refine z_iload_n dX5_isFirstOfUnit_3 rfl ?_
      refine z_icmp_ge (tgt := 24) dX5_isFirstOfUnit_4 (by decide) (fun _ => ?_) (fun hb => absurd (nI_le (by omega) (by omega)) hb)
      refine z_iconst (v := 1) dX5_isFirstOfUnit_24 rfl ?_
      exact z_ezreturn hE dX5_isFirstOfUnit_25 (by decide) (by rw [if_pos (by simp only [lead, decide_eq_true_eq]; exact fun j hj => hl j (by omega))]) rfl
    | succ n ih =>
      intro k hk hl
      refine z_iload_n dX5_isFirstOfUnit_2 rfl ?_
      refine z_iload_n dX5_isFirstOfUnit_3 rfl ?_
      refine z_icmp_ge (tgt := 24) dX5_isFirstOfUnit_4 (by decide) (fun hb => absurd hb (nI_ge (by omega) (by omega))) (fun _ => ?_)
      refine z_aload_n dX5_isFirstOfUnit_7 rfl ?_
      refine z_iload_n dX5_isFirstOfUnit_8 rfl ?_
      refine z_iload_n dX5_isFirstOfUnit_9 rfl ?_
      refine z_cV2s mX5_together gRX5_40 dX5_isFirstOfUnit_10 (s_together h hQ hV rfl rfl (show k < nq by omega) hi) (by decide) (by first | assumption | rfl) (by rfl) (Nat.le_of_ble_eq_true rfl) (Nat.le_refl _) (Nat.le_refl _) ?_
      refine z_if_eq (tgt := 18) dX5_isFirstOfUnit_13 (by decide) (fun hb => ?_) (fun hb => ?_)
      · refine z_inc2 (w := 1) dX5_isFirstOfUnit_18 rfl (by decide) rfl ?_
        refine z_goto (tgt := 2) dX5_isFirstOfUnit_21 (by decide) ?_
        rw [nI_1]
        refine ih (k + 1) (by omega) (fun j hj => ?_)
        by_cases hjk : j = k
        · subst hjk
          by_cases ht : tog qd j i = true
          · rw [if_pos ht] at hb
            exact absurd hb (by decide)
          · exact Bool.eq_false_iff.mpr ht
        · exact hl j (by omega)
      · refine z_iconst (v := 0) dX5_isFirstOfUnit_16 rfl ?_
        have ht : tog qd k i = true := by
          by_cases ht : tog qd k i = true
          · exact ht
          · rw [if_neg ht] at hb
            exact absurd rfl hb
        exact z_ezreturn hE dX5_isFirstOfUnit_17 (by decide) (by
          rw [if_neg]
          simp only [lead, decide_eq_true_eq]
          intro hall
          rw [hall k (by omega)] at ht
          cases ht) rfl
  refine z_iconst (v := 0) dX5_isFirstOfUnit_0 rfl ?_
  refine z_ist2 dX5_isFirstOfUnit_1 (by decide) rfl ?_
  exact loop i 0 (by omega) (fun j hj => absurd hj (Nat.not_lt_zero j))
theorem s_qAppend {I : ZI} {q c : Nat} {x1 x2 x3 x4 x5 : Int32} (h : QsAt q) (hc : I q 1 = nI c) (hc20 : c < 20) : ZE yX5_append cX5_append 7 (some FieldType.int) 2 [.ref q, .int x1, .int x2, .int x3, .int x4, .int x5] Sg I (some (.int (nI c)))
    (zup (zup (zup (zup (zup (zup I q 1 (nI (c + 1))) (q + 1 + 1) (5 * c + 0) x1) (q + 1 + 1) (5 * c + 1) x3) (q + 1 + 1) (5 * c + 2) x4) (q + 1 + 1) (5 * c + 3) x5) (q + 1 + 1) (5 * c + 4) x2) := by
  have h1 := h.1
  refine ZSp.of (own := RX5) (L := [.ref q, .int x1, .int x2, .int x3, .int x4, .int x5, zj]) mX5_append rfl (List.all_eq_true.mp rfl) (Nat.le_of_ble_eq_true rfl) rfl (fun X hE hN => ?_)
  refine z_aload_n dX5_append_0 rfl ?_
  refine z_getI fRX5_20 dX5_append_1 (by first | assumption | rfl) (by rfl) ?_
  rw [hc]
  refine z_ist6 dX5_append_4 (by decide) rfl ?_
  refine z_aload_n dX5_append_6 rfl ?_
  refine z_dup dX5_append_7 rfl ?_
  refine z_getI fRX5_20 dX5_append_8 (by first | assumption | rfl) (by rfl) ?_
  refine z_iconst (v := 1) dX5_append_11 rfl ?_
  refine z_iadd dX5_append_12 ?_
  refine z_putI fRX5_20 dX5_append_13 (by first | assumption | rfl) (by rfl) ?_
  refine z_aload_n dX5_append_16 rfl ?_
  refine z_iload dX5_append_17 rfl ?_
  refine z_iconst (v := 0) dX5_append_19 rfl ?_
  refine z_iload_n dX5_append_20 rfl ?_
  rw [hc, nI_1]
  refine z_cV3n mX5_put gRX5_32 dX5_append_21 (s_put h rfl (show (0 : Int32) = nI 0 from rfl) hc20 (by omega)) (by decide) (by first | assumption | rfl) (by rfl) (Nat.le_of_ble_eq_true rfl) (Nat.le_refl _) (Nat.le_refl _) ?_
  refine z_aload_n dX5_append_24 rfl ?_
  refine z_iload dX5_append_25 rfl ?_
  refine z_iconst (v := 1) dX5_append_27 rfl ?_
  refine z_iload_n dX5_append_28 rfl ?_
  refine z_cV3n mX5_put gRX5_32 dX5_append_29 (s_put h rfl (show (1 : Int32) = nI 1 from rfl) hc20 (by omega)) (by decide) (by first | assumption | rfl) (by rfl) (Nat.le_of_ble_eq_true rfl) (Nat.le_refl _) (Nat.le_refl _) ?_
  refine z_aload_n dX5_append_32 rfl ?_
  refine z_iload dX5_append_33 rfl ?_
  refine z_iconst (v := 2) dX5_append_35 rfl ?_
  refine z_iload dX5_append_36 rfl ?_
  refine z_cV3n mX5_put gRX5_32 dX5_append_38 (s_put h rfl (show (2 : Int32) = nI 2 from rfl) hc20 (by omega)) (by decide) (by first | assumption | rfl) (by rfl) (Nat.le_of_ble_eq_true rfl) (Nat.le_refl _) (Nat.le_refl _) ?_
  refine z_aload_n dX5_append_41 rfl ?_
  refine z_iload dX5_append_42 rfl ?_
  refine z_iconst (v := 3) dX5_append_44 rfl ?_
  refine z_iload dX5_append_45 rfl ?_
  refine z_cV3n mX5_put gRX5_32 dX5_append_47 (s_put h rfl (show (3 : Int32) = nI 3 from rfl) hc20 (by omega)) (by decide) (by first | assumption | rfl) (by rfl) (Nat.le_of_ble_eq_true rfl) (Nat.le_refl _) (Nat.le_refl _) ?_
  refine z_aload_n dX5_append_50 rfl ?_
  refine z_iload dX5_append_51 rfl ?_
  refine z_iconst (v := 4) dX5_append_53 rfl ?_
  refine z_iload_n dX5_append_54 rfl ?_
  refine z_cV3n mX5_put gRX5_32 dX5_append_55 (s_put h rfl (show (4 : Int32) = nI 4 from rfl) hc20 (by omega)) (by decide) (by first | assumption | rfl) (by rfl) (Nat.le_of_ble_eq_true rfl) (Nat.le_refl _) (Nat.le_refl _) ?_
  refine z_iload dX5_append_58 rfl ?_
  exact z_eireturn hE dX5_append_60 rfl rfl
/-- what delete leaves: the later questions one place down -/
theorem s_qDelete {I : ZI} {q c x : Nat} {y : Int32} (h : QsAt q) (hc : I q 1 = nI (c + 1)) (hc20 : c < 20) (hy : y = nI x) (hx : x ≤ c) : ZP yX5_delete cX5_delete 4 none 2 [.ref q, .int y] Sg I (fun r J => r = none ∧ (∀ a, a ≠ q → a ≠ q + 1 + 1 → J a = I a) ∧ J q = upd (I q) 1 (nI c) ∧ (∀ k, k < 5 * x → J (q + 1 + 1) k = I (q + 1 + 1) k) ∧ ∀ k, 5 * x ≤ k → k < 5 * c → J (q + 1 + 1) k = I (q + 1 + 1) (k + 5)) := by
  have h1 := h.1
  subst hy
  have hqq : q + 1 + 1 ≠ q := by omega
  refine ZSp.of (own := RX5) (L := [.ref q, .int (nI x), zj, zj]) mX5_delete rfl (List.all_eq_true.mp rfl) (Nat.le_of_ble_eq_true rfl) rfl (fun X hE hN => ?_)
  have inner : ∀ (m w i : Nat) (J : ZI), w + m = 5 → i < c → (∀ a, a ≠ q → a ≠ q + 1 + 1 → J a = I a) → J q = upd (I q) 1 (nI c) → (∀ k, k < 5 * x → J (q + 1 + 1) k = I (q + 1 + 1) k) → (∀ k, 5 * x ≤ k → k < 5 * i + w → J (q + 1 + 1) k = I (q + 1 + 1) (k + 5)) → (∀ k, 5 * i + w ≤ k → x ≤ i → J (q + 1 + 1) k = I (q + 1 + 1) k) → x ≤ i →
      (∀ J' : ZI, (∀ a, a ≠ q → a ≠ q + 1 + 1 → J' a = I a) → J' q = upd (I q) 1 (nI c) → (∀ k, k < 5 * x → J' (q + 1 + 1) k = I (q + 1 + 1) k) → (∀ k, 5 * x ≤ k → k < 5 * (i + 1) → J' (q + 1 + 1) k = I (q + 1 + 1) (k + 5)) → (∀ k, 5 * (i + 1) ≤ k → J' (q + 1 + 1) k = I (q + 1 + 1) k) → (ZG X RX5 cX5_delete 4 2 0 0 0 0 12 [.ref q, .int (nI x), .int (nI (i + 1)), zj] [] Sg J')) →
      (ZG X RX5 cX5_delete 4 2 0 0 0 0 22 [.ref q, .int (nI x), .int (nI i), .int (nI w)] [] Sg J) := by
    intro m
    induction m with
    | zero =>
      intro w i J hw hi a1 a2 a3 a4 a5 hxi kk
      refine z_iload_n dX5_delete_22 rfl ?_
      refine z_iconst (v := 5) dX5_delete_23 rfl ?_
      refine z_icmp_ge (tgt := 47) dX5_delete_24 (by decide) (fun _ => ?_) (fun hb => absurd (nI_le (show 5 ≤ w by omega) (by omega)) hb)
      refine z_inc2 (w := 1) dX5_delete_47 rfl (by decide) rfl ?_
      refine z_goto (tgt := 12) dX5_delete_50 (by decide) ?_
      rw [nI_1]
      refine z_fg3 ?_
      exact kk J a1 a2 a3 (fun k hk1 hk2 => a4 k hk1 (by omega)) (fun k hk => a5 k (by omega) hxi)
    | succ m ih =>
      intro w i J hw hi a1 a2 a3 a4 a5 hxi kk
      refine z_iload_n dX5_delete_22 rfl ?_
      refine z_iconst (v := 5) dX5_delete_23 rfl ?_
      refine z_icmp_ge (tgt := 47) dX5_delete_24 (by decide) (fun hb => absurd hb (nI_ge (b := 5) (show w < 5 by omega) (by omega))) (fun _ => ?_)
      refine z_aload_n dX5_delete_27 rfl ?_
      refine z_iload_n dX5_delete_28 rfl ?_
      refine z_iload_n dX5_delete_29 rfl ?_
      refine z_aload_n dX5_delete_30 rfl ?_
      refine z_iload_n dX5_delete_31 rfl ?_
      refine z_iconst (v := 1) dX5_delete_32 rfl ?_
      refine z_iadd dX5_delete_33 ?_
      refine z_iload_n dX5_delete_34 rfl ?_
      refine z_cV2s mX5_number gRX5_36 dX5_delete_35 (s_numberAt h (nI_1 i) rfl (by omega) (by omega)) (by decide) (by first | assumption | rfl) (by rfl) (Nat.le_of_ble_eq_true rfl) (Nat.le_refl _) (Nat.le_refl _) ?_
      refine z_cV3n mX5_put gRX5_32 dX5_delete_38 (s_put h rfl rfl (by omega) (by omega)) (by decide) (by first | assumption | rfl) (by rfl) (Nat.le_of_ble_eq_true rfl) (Nat.le_refl _) (Nat.le_refl _) ?_
      refine z_inc3 (w := 1) dX5_delete_41 rfl (by decide) rfl ?_
      refine z_goto (tgt := 22) dX5_delete_44 (by decide) ?_
      rw [nI_1]
      refine ih (w + 1) i _ (by omega) hi (fun a ha hb => ?_) ?_ (fun k hk => ?_) (fun k hk1 hk2 => ?_) (fun k hk _ => ?_) hxi kk
      · rw [zup_ne _ _ _ hb, a1 a ha hb]
      · rw [zup_ne _ _ _ hqq.symm, a2]
      · rw [zup_at, upd_ne _ _ (by omega), a3 k hk]
      · rw [zup_at]
        by_cases hk : k = 5 * i + w
        · subst hk
          rw [upd_at, a5 _ (by omega) hxi]
          congr 1
          omega
        · rw [upd_ne _ _ hk, a4 k hk1 (by omega)]
      · rw [zup_at, upd_ne _ _ (by omega), a5 k (by omega) hxi]
  have outer : ∀ (n i : Nat) (J : ZI), i + n = c → x ≤ i → (∀ a, a ≠ q → a ≠ q + 1 + 1 → J a = I a) → J q = upd (I q) 1 (nI c) → (∀ k, k < 5 * x → J (q + 1 + 1) k = I (q + 1 + 1) k) → (∀ k, 5 * x ≤ k → k < 5 * i → J (q + 1 + 1) k = I (q + 1 + 1) (k + 5)) → (∀ k, 5 * i ≤ k → J (q + 1 + 1) k = I (q + 1 + 1) k) → (ZG X RX5 cX5_delete 4 2 0 0 0 0 12 [.ref q, .int (nI x), .int (nI i), zj] [] Sg J) := by
    intro n
    induction n with
    | zero =>
      intro i J hi hxi a1 a2 a3 a4 a5
      refine z_iload_n dX5_delete_12 rfl ?_
      refine z_aload_n dX5_delete_13 rfl ?_
      refine z_getI fRX5_20 dX5_delete_14 (by first | assumption | rfl) (by rfl) ?_
      refine z_icmp_ge (tgt := 53) dX5_delete_17 (by decide) (fun _ => ?_) (fun hb => absurd (by rw [a2, upd_at]; exact nI_le (by omega) (by omega)) hb)
      exact z_vret hE dX5_delete_53 ⟨rfl, rfl, a1, a2, a3, fun k hk1 hk2 => a4 k hk1 (by omega)⟩
    | succ n ih =>
      intro i J hi hxi a1 a2 a3 a4 a5
      refine z_iload_n dX5_delete_12 rfl ?_
      refine z_aload_n dX5_delete_13 rfl ?_
      refine z_getI fRX5_20 dX5_delete_14 (by first | assumption | rfl) (by rfl) ?_
      refine z_icmp_ge (tgt := 53) dX5_delete_17 (by decide) (fun hb => absurd hb (by rw [a2, upd_at]; exact nI_ge (by omega) (by omega))) (fun _ => ?_)
      refine z_iconst (v := 0) dX5_delete_20 rfl ?_
      refine z_ist3 dX5_delete_21 (by decide) rfl ?_
      exact inner 5 0 i J rfl (by omega) a1 a2 a3 (fun k hk1 hk2 => a4 k hk1 (by omega)) (fun k hk _ => a5 k (by omega)) hxi (fun J' b1 b2 b3 b4 b5 => ih (i + 1) J' (by omega) (by omega) b1 b2 b3 b4 b5)
  refine z_aload_n dX5_delete_0 rfl ?_
  refine z_dup dX5_delete_1 rfl ?_
  refine z_getI fRX5_20 dX5_delete_2 (by first | assumption | rfl) (by rfl) ?_
  refine z_iconst (v := 1) dX5_delete_5 rfl ?_
  refine z_isub dX5_delete_6 ?_
  refine z_putI fRX5_20 dX5_delete_7 (by first | assumption | rfl) (by rfl) ?_
  refine z_iload_n dX5_delete_10 rfl ?_
  refine z_ist2 dX5_delete_11 (by decide) rfl ?_
  rw [hc, nI_pred]
  exact outer (c - x) x _ (by omega) (Nat.le_refl x) (fun a ha _ => zup_ne _ _ _ ha) (zup_at _ _ _ _) (fun k _ => by rw [zup_ne _ _ _ hqq]) (fun k hk1 hk2 => absurd hk2 (by omega)) (fun k _ => by rw [zup_ne _ _ _ hqq])
theorem s_qCopy {I : ZI} {q o : Nat} (h : QsAt q) (ho : QsAt o) (hne : o ≠ q + 1 + 1) : ZE yX5_copy cX5_copy 2 none 2 [.ref q, .ref o] Sg I none (zup (zcp I (q + 1 + 1) (rcopy 100 (I (o + 1 + 1)) (I (q + 1 + 1)))) q 1 (I o 1)) := by
  have h1 := h.1
  have h2 := h.2.1
  have g1 := ho.1
  refine ZSp.of (own := RX5) (L := [.ref q, .ref o]) mX5_copy rfl (List.all_eq_true.mp rfl) (Nat.le_of_ble_eq_true rfl) rfl (fun X hE hN => ?_)
  refine z_aload_n dX5_copy_0 rfl ?_
  refine z_getR fRX5_14 dX5_copy_1 (by first | assumption | rfl) (by rfl) ?_
  refine z_aload_n dX5_copy_4 rfl ?_
  refine z_getR fRX5_14 dX5_copy_5 (by first | assumption | rfl) (by rfl) ?_
  refine z_cV1n mX6_copy gRX5_44 dX5_copy_8 (s_rowCopy h.2 ho.2) (by decide) (by first | assumption | rfl) (by rfl) (Nat.le_of_ble_eq_true rfl) (Nat.le_refl _) (Nat.le_refl _) ?_
  refine z_aload_n dX5_copy_11 rfl ?_
  refine z_aload_n dX5_copy_12 rfl ?_
  refine z_getI fRX5_20 dX5_copy_13 (by first | assumption | rfl) (by rfl) ?_
  refine z_putI fRX5_20 dX5_copy_16 (by first | assumption | rfl) (by rfl) ?_
  rw [zcp_ne _ _ hne]
  exact z_evreturn hE dX5_copy_19 rfl
end
section
/-! ===== a version lists each question once (fb_holes: out of kit/laws/COUNTS) ===== -/
theorem fb_holes : ∀ (m n : Nat) (f : Nat → Nat), (∀ i, i < n → f i < m) → (∀ i j, i < j → j < n → f i ≠ f j) → n ≤ m := by
  intro m
  induction m with
  | zero =>
    intro n f h1 _
    rcases Nat.eq_zero_or_pos n with h | h
    · omega
    · exact absurd (h1 0 h) (Nat.not_lt_zero _)
  | succ m ih =>
    intro n f h1 h2
    by_cases hx : ∃ i, i < n ∧ f i = m
    · obtain ⟨a, ha, hfa⟩ := hx
      have hg := ih (n - 1) (fun i => if i < a then f i else f (i + 1)) (by
        intro i hi
        by_cases q : i < a
        · simp only [if_pos q]
          have b1 := h1 i (by omega)
          have b2 := h2 i a q ha
          omega
        · simp only [if_neg q]
          have b1 := h1 (i + 1) (by omega)
          have b2 := h2 a (i + 1) (by omega) (by omega)
          omega) (by
        intro i j hij hj
        by_cases q : i < a
        · by_cases r : j < a
          · simp only [if_pos q, if_pos r]
            exact h2 i j hij (by omega)
          · simp only [if_pos q, if_neg r]
            exact h2 i (j + 1) (by omega) (by omega)
        · have r : ¬ j < a := by omega
          simp only [if_neg q, if_neg r]
          exact h2 (i + 1) (j + 1) (by omega) (by omega))
      omega
    · have hg := ih n f (fun i hi => by
        have b1 := h1 i hi
        have b2 : f i ≠ m := fun e => hx ⟨i, hi, e⟩
        omega) h2
      omega
theorem tog_refl (qd : Qd) (a : Nat) : tog qd a a = true := by simp [tog]
theorem tog_symm {qd : Qd} {a b : Nat} (h : tog qd a b = true) : tog qd b a = true := by
  simp only [tog, decide_eq_true_eq] at h ⊢
  rcases h with h | ⟨h1, h2⟩
  · exact Or.inl h.symm
  · exact Or.inr ⟨by rw [← h2]; exact h1, h2.symm⟩
theorem tog_trans {qd : Qd} {a b c : Nat} (h : tog qd a b = true) (h' : tog qd b c = true) : tog qd a c = true := by
  simp only [tog, decide_eq_true_eq] at h h' ⊢
  rcases h with rfl | ⟨h1, h2⟩
  · exact h'
  · rcases h' with rfl | ⟨h3, h4⟩
    · exact Or.inr ⟨h1, h2⟩
    · exact Or.inr ⟨h1, h2.trans h4⟩
theorem col_none {P : Nat → Bool} : ∀ {n : Nat}, (∀ k, k < n → P k = false) → (col P n).1 = 0
  | 0, _ => rfl
  | n + 1, h => by
    rw [col_no (by rw [h n (Nat.lt_succ_self n)]; decide)]
    exact col_none (fun k hk => h k (by omega))
theorem col_idx {P : Nat → Bool} : ∀ {n i : Nat}, i < (col P n).1 → ∃ j, j < n ∧ P j = true ∧ (col P j).1 = i
  | 0, i, h => absurd h (Nat.not_lt_zero i)
  | n + 1, i, h => by
    by_cases h1 : P n = true
    · rw [col_yes h1] at h
      have h2 : i < (col P n).1 + 1 := h
      by_cases h3 : i = (col P n).1
      · exact ⟨n, Nat.lt_succ_self n, h1, h3.symm⟩
      · obtain ⟨j, a, b, c⟩ := col_idx (P := P) (n := n) (i := i) (by omega)
        exact ⟨j, by omega, b, c⟩
    · rw [col_no h1] at h
      obtain ⟨j, a, b, c⟩ := col_idx (P := P) (n := n) (i := i) h
      exact ⟨j, by omega, b, c⟩
theorem lead_none {qd : Qd} {u : Nat} (h : lead qd u = true) : (col (tog qd u) u).1 = 0 := by
  simp only [lead, decide_eq_true_eq] at h
  refine col_none (fun k hk => ?_)
  by_cases h1 : tog qd u k = true
  · have := tog_symm h1
    rw [h k hk] at this
    cases this
  · exact Bool.eq_false_iff.mpr h1
theorem lead_one {qd : Qd} {u v q : Nat} (hu : lead qd u = true) (hv : lead qd v = true) (h1 : tog qd u q = true) (h2 : tog qd v q = true) : u = v := by
  have h3 := tog_trans h1 (tog_symm h2)
  simp only [lead, decide_eq_true_eq] at hu hv
  rcases Nat.lt_trichotomy u v with h | h | h
  · rw [hv u h] at h3; cases h3
  · exact h
  · have h4 := tog_symm h3
    rw [hu v h] at h4; cases h4
theorem lead_some (qd : Qd) (q : Nat) : ∃ u, u ≤ q ∧ lead qd u = true ∧ tog qd u q = true := by
  obtain ⟨u, h1, h2⟩ := pk_least (fun u => tog qd u q = true) ⟨q, tog_refl qd q⟩
  refine ⟨u, ?_, ?_, h1⟩
  · rcases Nat.lt_or_ge q u with h | h
    · exact absurd (tog_refl qd q) (h2 q h)
    · exact h
  · simp only [lead, decide_eq_true_eq]
    intro k hk
    by_cases h3 : tog qd k u = true
    · exact absurd (tog_trans h3 h1) (h2 k hk)
    · exact Bool.eq_false_iff.mpr h3
theorem En.count {f : Nat → Nat} {m n : Nat} (h : En f m (fun q => q < n)) : m = n := by
  have h1 : m ≤ n := fb_holes n m f h.1 h.2.2
  have h2 : n ≤ m := by
    have hx : ∀ s, s < n → ∃ k, k < m ∧ f k = s := h.2.1
    refine fb_holes m n (fun s => if hs : s < n then Classical.choose (hx s hs) else 0) (fun s hs => ?_) (fun s t hst ht he => ?_)
    · simp only [dif_pos hs]
      exact (Classical.choose_spec (hx s hs)).1
    · have hs : s < n := by omega
      simp only [dif_pos hs, dif_pos ht] at he
      have e1 := (Classical.choose_spec (hx s hs)).2
      have e2 := (Classical.choose_spec (hx t ht)).2
      rw [he, e2] at e1
      omega
  omega
theorem mxU_en (nq : Nat) (qd : Qd) (seed : Int32) : En (mxU nq qd seed).2 (col (lead qd) nq).1 (fun q => q < nq ∧ lead qd q = true) := by
  refine En.mix _ _ _ _ _ ?_ (col_en (lead qd) nq).1
  omega
theorem mxM_en (nq : Nat) (qd : Qd) (x : Int32) (u : Nat) : En (mxM nq qd x u).2 (col (tog qd u) nq).1 (fun q => q < nq ∧ tog qd u q = true) := by
  refine En.mix _ _ _ _ _ ?_ (col_en (tog qd u) nq).1
  omega
theorem mxL_en (qd : Qd) (x : Int32) (q : Nat) : En (mxL qd x q).2 (col (loose qd q) (qd q 4)).1 (fun k => k < qd q 4 ∧ loose qd q k = true) := by
  refine En.mix _ _ _ _ _ ?_ (col_en (loose qd q) (qd q 4)).1
  omega
theorem mxO_en {nq : Nat} {qd : Qd} {u : Nat → Nat} {x : Int32} {m : Nat} (hu : En u m (fun q => q < nq ∧ lead qd q = true)) : ∀ k, k ≤ m → En (mxO nq qd u x k).2.2 (mxO nq qd u x k).2.1 (fun q => q < nq ∧ ∃ i, i < k ∧ tog qd (u i) q = true)
  | 0, _ => ⟨fun k hk => absurd hk (Nat.not_lt_zero k), fun s hs => by obtain ⟨-, i, hi, -⟩ := hs; exact absurd hi (Nat.not_lt_zero i), fun k l _ hl => absurd hl (Nat.not_lt_zero l)⟩
  | k + 1, hk => by
    have ih := mxO_en (nq := nq) (qd := qd) (u := u) (x := x) hu k (by omega)
    have hm := mxM_en nq qd (mxO nq qd u x k).1 (u k)
    have hlk := hu.1 k (by omega)
    rw [mxO]
    generalize mxO nq qd u x k = M at ih hm ⊢
    obtain ⟨x1, pl, o⟩ := M
    show En (fun p => if p < pl then o p else (mxM nq qd x1 (u k)).2 (p - pl)) (pl + (col (tog qd (u k)) nq).1) _
    generalize (col (tog qd (u k)) nq).1 = c at hm ⊢
    generalize (mxM nq qd x1 (u k)).2 = g at hm ⊢
    have ih : En o pl (fun q => q < nq ∧ ∃ i, i < k ∧ tog qd (u i) q = true) := ih
    have f1 : ∀ p, p < pl → (fun p => if p < pl then o p else g (p - pl)) p = o p := fun p h => if_pos h
    have f2 : ∀ p, ¬ p < pl → (fun p => if p < pl then o p else g (p - pl)) p = g (p - pl) := fun p h => if_neg h
    generalize (fun p => if p < pl then o p else g (p - pl)) = F at f1 f2 ⊢
    refine ⟨fun p hp => ?_, fun s hs => ?_, fun p r hpr hr he => ?_⟩
    · by_cases h1 : p < pl
      · rw [f1 p h1]
        obtain ⟨a, i, b, d⟩ := ih.1 p h1
        exact ⟨a, i, by omega, d⟩
      · rw [f2 p h1]
        obtain ⟨a, b⟩ := hm.1 (p - pl) (by omega)
        exact ⟨a, k, Nat.lt_succ_self k, b⟩
    · obtain ⟨a, i, b, d⟩ := hs
      by_cases h1 : i = k
      · subst h1
        obtain ⟨j, e1, e2⟩ := hm.2.1 s ⟨a, d⟩
        exact ⟨pl + j, by omega, by rw [f2 _ (by omega), Nat.add_sub_cancel_left, e2]⟩
      · obtain ⟨j, e1, e2⟩ := ih.2.1 s ⟨a, i, by omega, d⟩
        exact ⟨j, by omega, by rw [f1 _ e1, e2]⟩
    · by_cases h1 : p < pl
      · rw [f1 p h1] at he
        by_cases h2 : r < pl
        · rw [f1 r h2] at he
          exact ih.2.2 p r hpr h2 he
        · rw [f2 r h2] at he
          obtain ⟨-, i, hi, b⟩ := ih.1 p h1
          obtain ⟨-, d⟩ := hm.1 (r - pl) (by omega)
          rw [← he] at d
          have e1 := lead_one (hu.1 i (by omega)).2 hlk.2 b d
          exact hu.2.2 i k hi (by omega) e1
      · rw [f2 p h1, f2 r (by omega)] at he
        exact hm.2.2 (p - pl) (r - pl) (by omega) (by omega) he
theorem Od_en0 (nq : Nat) (qd : Qd) (seed : Int32) : En (Od nq qd seed) (Ord3 nq qd seed).2.1 (fun q => q < nq) := by
  have hu := mxU_en nq qd seed
  refine (mxO_en (x := (mxU nq qd seed).1) hu _ (Nat.le_refl _)).congr (fun _ _ => rfl) (fun s => ⟨fun h => h.1, fun h => ⟨h, ?_⟩⟩)
  obtain ⟨u, h1, h2, h3⟩ := lead_some qd s
  obtain ⟨i, h4, h5⟩ := hu.2.1 u ⟨by omega, h2⟩
  exact ⟨i, h4, by rw [h5]; exact h3⟩
theorem Ord3_n (nq : Nat) (qd : Qd) (seed : Int32) : (Ord3 nq qd seed).2.1 = nq := (Od_en0 nq qd seed).count
theorem Od_en (nq : Nat) (qd : Qd) (seed : Int32) : En (Od nq qd seed) nq (fun q => q < nq) := by
  have h := Od_en0 nq qd seed
  rw [Ord3_n] at h
  exact h
theorem chq_lt {qd : Qd} {x : Int32} {q k : Nat} (hk : k < qd q 4) : chq qd x q k < qd q 4 := by
  unfold chq
  by_cases h : loose qd q k = true
  · rw [if_pos h]
    refine ((mxL_en qd x q).1 _ ?_).1
    have h1 : (col (loose qd q) (k + 1)).1 ≤ (col (loose qd q) (qd q 4)).1 := col_mono _ hk
    rw [col_yes h] at h1
    have h2 : (col (loose qd q) k).1 + 1 ≤ (col (loose qd q) (qd q 4)).1 := h1
    omega
  · rw [if_neg h]; exact hk
theorem chq_onto {qd : Qd} {x : Int32} {q r : Nat} (hr : r < qd q 4) : ∃ k, k < qd q 4 ∧ chq qd x q k = r := by
  by_cases h : loose qd q r = true
  · obtain ⟨i, h1, h2⟩ := (mxL_en qd x q).2.1 r ⟨hr, h⟩
    obtain ⟨j, h3, h4, h5⟩ := col_idx h1
    exact ⟨j, h3, by rw [chq, if_pos h4, h5, h2]⟩
  · exact ⟨r, hr, by rw [chq, if_neg h]⟩
theorem kyq_spec {c : Nat → Nat} {r : Nat} : ∀ {n : Nat}, (∃ k, k < n ∧ c k = r) → kyq c r n < n ∧ c (kyq c r n) = r
  | 0, h => by obtain ⟨k, hk, -⟩ := h; exact absurd hk (Nat.not_lt_zero k)
  | n + 1, h => by
    rw [kyq]
    by_cases h1 : c n = r
    · rw [if_pos h1]; exact ⟨Nat.lt_succ_self n, h1⟩
    · rw [if_neg h1]
      obtain ⟨k, hk, e⟩ := h
      have hkn : k ≠ n := fun e2 => h1 (e2 ▸ e)
      obtain ⟨a, b⟩ := kyq_spec (c := c) (r := r) (n := n) ⟨k, by omega, e⟩
      exact ⟨by omega, b⟩
theorem Ky_lt {nq : Nat} {qd : Qd} {seed : Int32} {p : Nat} (hV : QV nq qd) (hp : p < nq) : Ky nq qd seed p < qd (Od nq qd seed p) 4 ∧ Ch nq qd seed p (Ky nq qd seed p) = qd (Od nq qd seed p) 1 := by
  have h1 := (Od_en nq qd seed).1 p hp
  exact kyq_spec (chq_onto (hV.2 _ h1).2.2.2.2.1)
theorem Ch_lt {nq : Nat} {qd : Qd} {seed : Int32} {p k : Nat} (hk : k < qd (Od nq qd seed p) 4) : Ch nq qd seed p k < qd (Od nq qd seed p) 4 := chq_lt hk
theorem z_bit : ∀ K, K < 32 → ∀ c, c < 5 → ((nI K >>> (nI c &&& 31)) &&& 1 = (0 : Int32) ↔ K.testBit c = false) := by decide +kernel
end
section
/-! ===== papers and their mixing ===== -/
theorem at_q : QsAt 2 := ⟨rfl, rfl, rfl, by decide⟩
theorem at_units : RowAt 107 20 := ⟨rfl, rfl, by decide⟩
theorem at_members : RowAt 109 20 := ⟨rfl, rfl, by decide⟩
theorem at_loose : RowAt 111 5 := ⟨rfl, rfl, by decide⟩
theorem at_lots : LoAt 106 := rfl
theorem Qs.keep {I J : ZI} {q nq : Nat} {qd : Qd} (h : Qs I q nq qd) (h1 : J q = I q) (h2 : J (q + 1 + 1) = I (q + 1 + 1)) : Qs J q nq qd := ⟨by rw [h1]; exact h.1, fun i hi w hw => by rw [h2]; exact h.2 i hi w hw⟩
theorem s_pAppend {I : ZI} {p c q : Nat} {x : Int32} (h : PpAt p) (hc : I p 5 = nI c) (hc20 : c < 20) (hx : x = nI q) (hq : q < 20) : ZE yX4_append cX4_append 2 none 1 [.ref p, .int x] Sg I none (zup (zup (zup I (p + 1 + 1) c (nI q)) (p + 3 + 1) q (nI c)) p 5 (nI (c + 1))) := by
  obtain ⟨h0, h1, h2, h3, h4, h5⟩ := h
  have g1 := h1.1
  have g2 := h2.1
  subst hx
  refine ZSp.of (own := RX4) (L := [.ref p, .int (nI q)]) mX4_append rfl (List.all_eq_true.mp rfl) (Nat.le_of_ble_eq_true rfl) rfl (fun X hE hN => ?_)
  refine z_aload_n dX4_append_0 rfl ?_
  refine z_getR fRX4_14 dX4_append_1 (by first | assumption | rfl) (by rfl) ?_
  refine z_aload_n dX4_append_4 rfl ?_
  refine z_getI fRX4_36 dX4_append_5 (by first | assumption | rfl) (by rfl) ?_
  refine z_iload_n dX4_append_8 rfl ?_
  rw [hc]
  refine z_cV2n mX6_set gRX4_40 dX4_append_9 (s_setN h1 rfl hc20) (by decide) (by first | assumption | rfl) (by rfl) (Nat.le_of_ble_eq_true rfl) (Nat.le_refl _) (Nat.le_refl _) ?_
  refine z_aload_n dX4_append_12 rfl ?_
  refine z_getR fRX4_20 dX4_append_13 (by first | assumption | rfl) (by rfl) ?_
  refine z_iload_n dX4_append_16 rfl ?_
  refine z_aload_n dX4_append_17 rfl ?_
  refine z_getI fRX4_36 dX4_append_18 (by first | assumption | rfl) (by rfl) ?_
  rw [zup_ne _ _ _ (show p ≠ p + 1 + 1 by omega), hc]
  refine z_cV2n mX6_set gRX4_40 dX4_append_21 (s_setN h2 rfl hq) (by decide) (by first | assumption | rfl) (by rfl) (Nat.le_of_ble_eq_true rfl) (Nat.le_refl _) (Nat.le_refl _) ?_
  refine z_aload_n dX4_append_24 rfl ?_
  refine z_dup dX4_append_25 rfl ?_
  refine z_getI fRX4_36 dX4_append_26 (by first | assumption | rfl) (by rfl) ?_
  refine z_iconst (v := 1) dX4_append_29 rfl ?_
  refine z_iadd dX4_append_30 ?_
  refine z_putI fRX4_36 dX4_append_31 (by first | assumption | rfl) (by rfl) ?_
  rw [zup_ne _ _ _ (show p ≠ p + 3 + 1 by omega), zup_ne _ _ _ (show p ≠ p + 1 + 1 by omega), hc, nI_1]
  exact z_evreturn hE dX4_append_34 rfl
theorem s_choiceAt {I : ZI} {p i k : Nat} {x y : Int32} (h : PpAt p) (hx : x = nI i) (hy : y = nI k) (hi : i < 20) (hk : k < 5) : ZE yX4_choiceAt cX4_choiceAt 3 (some FieldType.int) 1 [.ref p, .int x, .int y] Sg I (some (.int (I (p + 7 + 1) (5 * i + k)))) I := by
  obtain ⟨h0, h1, h2, h3, h4, h5⟩ := h
  have g4 := h4.1
  refine ZSp.of (own := RX4) (L := [.ref p, .int x, .int y]) mX4_choiceAt rfl (List.all_eq_true.mp rfl) (Nat.le_of_ble_eq_true rfl) rfl (fun X hE hN => ?_)
  refine z_aload_n dX4_choiceAt_0 rfl ?_
  refine z_getR fRX4_26 dX4_choiceAt_1 (by first | assumption | rfl) (by rfl) ?_
  refine z_iload_n dX4_choiceAt_4 rfl ?_
  refine z_iconst (v := 5) dX4_choiceAt_5 rfl ?_
  refine z_imul dX4_choiceAt_6 ?_
  refine z_iload_n dX4_choiceAt_7 rfl ?_
  refine z_iadd dX4_choiceAt_8 ?_
  refine z_cV1s mX6_get gRX4_44 dX4_choiceAt_9 (s_getN h4 (show x * 5 + y = nI (5 * i + k) by rw [hx, hy, z_five]) (by omega)) (by decide) (by first | assumption | rfl) (by rfl) (Nat.le_of_ble_eq_true rfl) (Nat.le_refl _) (Nat.le_refl _) ?_
  exact z_eireturn hE dX4_choiceAt_12 rfl rfl
theorem s_putChoice {I : ZI} {p i k : Nat} {x y v : Int32} (h : PpAt p) (hx : x = nI i) (hy : y = nI k) (hi : i < 20) (hk : k < 5) : ZE yX4_putChoice cX4_putChoice 4 none 1 [.ref p, .int x, .int y, .int v] Sg I none (zup I (p + 7 + 1) (5 * i + k) v) := by
  obtain ⟨h0, h1, h2, h3, h4, h5⟩ := h
  have g4 := h4.1
  refine ZSp.of (own := RX4) (L := [.ref p, .int x, .int y, .int v]) mX4_putChoice rfl (List.all_eq_true.mp rfl) (Nat.le_of_ble_eq_true rfl) rfl (fun X hE hN => ?_)
  refine z_aload_n dX4_putChoice_0 rfl ?_
  refine z_getR fRX4_26 dX4_putChoice_1 (by first | assumption | rfl) (by rfl) ?_
  refine z_iload_n dX4_putChoice_4 rfl ?_
  refine z_iconst (v := 5) dX4_putChoice_5 rfl ?_
  refine z_imul dX4_putChoice_6 ?_
  refine z_iload_n dX4_putChoice_7 rfl ?_
  refine z_iadd dX4_putChoice_8 ?_
  refine z_iload_n dX4_putChoice_9 rfl ?_
  refine z_cV2n mX6_set gRX4_40 dX4_putChoice_10 (s_setN h4 (show x * 5 + y = nI (5 * i + k) by rw [hx, hy, z_five]) (by omega)) (by decide) (by first | assumption | rfl) (by rfl) (Nat.le_of_ble_eq_true rfl) (Nat.le_refl _) (Nat.le_refl _) ?_
  exact z_evreturn hE dX4_putChoice_13 rfl
theorem s_hasPlace {I : ZI} {p : Nat} {x : Int32} (h : PpAt p) : ZE yX4_hasPlace cX4_hasPlace 2 (some FieldType.boolean) 0 [.ref p, .int x] Sg I (some (.int (if x < 0 ∨ I p 5 ≤ x then 0 else 1))) I := by
  have h0 := h.1
  refine ZSp.of (own := RX4) (L := [.ref p, .int x]) mX4_hasPlace rfl (List.all_eq_true.mp rfl) (Nat.le_of_ble_eq_true rfl) rfl (fun X hE hN => ?_)
  refine z_iload_n dX4_hasPlace_0 rfl ?_
  refine z_if_lt (tgt := 16) dX4_hasPlace_1 (by decide) (fun hb => ?_) (fun hb => ?_)
  · refine z_iconst (v := 0) dX4_hasPlace_16 rfl ?_
    exact z_ezreturn hE dX4_hasPlace_17 (by decide) (by rw [if_pos (Or.inl hb)]) rfl
  · refine z_iload_n dX4_hasPlace_4 rfl ?_
    refine z_aload_n dX4_hasPlace_5 rfl ?_
    refine z_getI fRX4_36 dX4_hasPlace_6 (by first | assumption | rfl) (by rfl) ?_
    refine z_icmp_ge (tgt := 16) dX4_hasPlace_9 (by decide) (fun hc => ?_) (fun hc => ?_)
    · refine z_iconst (v := 0) dX4_hasPlace_16 rfl ?_
      exact z_ezreturn hE dX4_hasPlace_17 (by decide) (by rw [if_pos (Or.inr hc)]) rfl
    · refine z_iconst (v := 1) dX4_hasPlace_12 rfl ?_
      refine z_goto (tgt := 17) dX4_hasPlace_13 (by decide) ?_
      exact z_ezreturn hE dX4_hasPlace_17 (by decide) (by rw [if_neg (fun h => h.elim hb hc)]) rfl
theorem s_listUnits {I : ZI} {nq : Nat} {qd : Qd} (hQ : Qs I 2 nq qd) (hV : QV nq qd) : ZP yX3_listUnits cX3_listUnits 4 (some FieldType.int) 4 [.ref 105, .ref 2] Sg I (fun r J => r = some (.int (nI (col (lead qd) nq).1)) ∧ (∀ a, a ≠ 108 → J a = I a) ∧ Rp (J 108) (col (lead qd) nq).2 (col (lead qd) nq).1) := by
  have hn := hV.1
  have hq1 := at_q.1
  refine ZSp.of (own := RX3) (L := [.ref 105, .ref 2, zj, zj]) mX3_listUnits rfl (List.all_eq_true.mp rfl) (Nat.le_of_ble_eq_true rfl) rfl (fun X hE hN => ?_)
  have loop : ∀ (n k : Nat) (J : ZI), k + n = nq → (∀ a, a ≠ 108 → J a = I a) → Rp (J 108) (col (lead qd) k).2 (col (lead qd) k).1 → (ZG X RX3 cX3_listUnits 4 4 0 0 0 0 4 [.ref 105, .ref 2, .int (nI (col (lead qd) k).1), .int (nI k)] [] Sg J) := by
    intro n
    induction n with
    | zero =>
      intro k J hk hJ hR
      have e : k = nq := by omega
      subst e
      refine z_iload_n dX3_listUnits_4 rfl ?_
      refine z_aload_n dX3_listUnits_5 rfl ?_
      refine z_getI fRX3_61 dX3_listUnits_6 (by first | assumption | rfl) (by rfl) ?_
      refine z_icmp_ge (tgt := 38) dX3_listUnits_9 (by decide) (fun _ => ?_) (fun hb => absurd (by rw [hJ 2 (by decide), hQ.1]; exact nI_le (Nat.le_refl _) (by omega)) hb)
      refine z_iload_n dX3_listUnits_38 rfl ?_
      exact z_iret hE dX3_listUnits_39 ⟨rfl, rfl, hJ, hR⟩
    | succ n ih =>
      intro k J hk hJ hR
      have hQJ : Qs J 2 nq qd := hQ.keep (hJ _ (by decide)) (hJ _ (by decide))
      refine z_iload_n dX3_listUnits_4 rfl ?_
      refine z_aload_n dX3_listUnits_5 rfl ?_
      refine z_getI fRX3_61 dX3_listUnits_6 (by first | assumption | rfl) (by rfl) ?_
      refine z_icmp_ge (tgt := 38) dX3_listUnits_9 (by decide) (fun hb => absurd hb (by rw [hJ 2 (by decide), hQ.1]; exact nI_ge (by omega) (by omega))) (fun _ => ?_)
      refine z_aload_n dX3_listUnits_12 rfl ?_
      refine z_iload_n dX3_listUnits_13 rfl ?_
      refine z_cV1s mX5_isFirstOfUnit gRX3_64 dX3_listUnits_14 (s_isFirst at_q hQJ hV rfl (show k < nq by omega)) (by decide) (by first | assumption | rfl) (by rfl) (Nat.le_of_ble_eq_true rfl) (Nat.le_refl _) (Nat.le_refl _) ?_
      refine z_if_eq (tgt := 32) dX3_listUnits_17 (by decide) (fun hb => ?_) (fun hb => ?_)
      · refine z_inc3 (w := 1) dX3_listUnits_32 rfl (by decide) rfl ?_
        refine z_goto (tgt := 4) dX3_listUnits_35 (by decide) ?_
        have hl : ¬ lead qd k = true := fun h => by rw [if_pos h] at hb; exact absurd hb (by decide)
        rw [nI_1]
        refine (congrArg (fun z => (ZG X RX3 cX3_listUnits 4 4 0 0 0 0 4 [.ref 105, .ref 2, .int (nI z), .int (nI (k + 1))] [] Sg J)) (show (col (lead qd) k).1 = (col (lead qd) (k + 1)).1 by rw [col_no hl])).mpr ?_
        exact ih (k + 1) J (by omega) hJ (by rw [col_no hl]; exact hR)
      · refine z_aload_n dX3_listUnits_20 rfl ?_
        refine z_getR fRX3_23 dX3_listUnits_21 (by first | assumption | rfl) (by rfl) ?_
        refine z_iload_n dX3_listUnits_24 rfl ?_
        refine z_iload_n dX3_listUnits_25 rfl ?_
        have hl : lead qd k = true := by
          by_cases h : lead qd k = true
          · exact h
          · rw [if_neg h] at hb; exact absurd rfl hb
        have hc : (col (lead qd) k).1 < 20 := by have := col_le (lead qd) k; omega
        refine z_cV2n mX6_set gRX3_68 dX3_listUnits_26 (s_setN at_units rfl hc) (by decide) (by first | assumption | rfl) (by rfl) (Nat.le_of_ble_eq_true rfl) (Nat.le_refl _) (Nat.le_refl _) ?_
        refine z_inc2 (w := 1) dX3_listUnits_29 rfl (by decide) rfl ?_
        refine z_inc3 (w := 1) dX3_listUnits_32 rfl (by decide) rfl ?_
        refine z_goto (tgt := 4) dX3_listUnits_35 (by decide) ?_
        rw [nI_1, nI_1]
        refine (congrArg (fun z => (ZG X RX3 cX3_listUnits 4 4 0 0 0 0 4 [.ref 105, .ref 2, .int (nI z), .int (nI (k + 1))] [] Sg _)) (show (col (lead qd) k).1 + 1 = (col (lead qd) (k + 1)).1 by rw [col_yes hl])).mpr ?_
        refine ih (k + 1) _ (by omega) (fun a ha => by rw [zup_ne _ _ _ ha]; exact hJ a ha) ?_
        rw [col_yes hl]
        intro j hj
        show zup J 108 _ _ 108 j = nI (if j = (col (lead qd) k).1 then k else (col (lead qd) k).2 j)
        rw [zup_at]
        by_cases hjc : j = (col (lead qd) k).1
        · rw [if_pos hjc, hjc, upd_at]
        · rw [if_neg hjc, upd_ne _ _ hjc]
          have hj2 : j < (col (lead qd) k).1 + 1 := hj
          exact hR j (by omega)
  refine z_iconst (v := 0) dX3_listUnits_0 rfl ?_
  refine z_ist2 dX3_listUnits_1 (by decide) rfl ?_
  refine z_iconst (v := 0) dX3_listUnits_2 rfl ?_
  refine z_ist3 dX3_listUnits_3 (by decide) rfl ?_
  exact loop nq 0 I (by omega) (fun _ _ => rfl) (fun k hk => absurd hk (Nat.not_lt_zero k))
end
section
/-! ===== a unit's and a question's mixing ===== -/
theorem s_mixUnit {I : ZI} {nq u p pl : Nat} {qd : Qd} {y : Int32} (hQ : Qs I 2 nq qd) (hV : QV nq qd) (hp : PpAt p) (hp2 : 113 < p) (hy : y = nI u) (hu : u < nq) (hl : lead qd u = true) (hpl : I p 5 = nI pl) (hpc : pl + (col (tog qd u) nq).1 ≤ 20) :
    ZP yX3_mixUnit cX3_mixUnit 6 none 3 [.ref 105, .ref 2, .int y, .ref p] Sg I (fun r J => r = none ∧ (∀ a, a ≠ 106 → a ≠ 110 → a ≠ p → a ≠ p + 1 + 1 → a ≠ p + 3 + 1 → J a = I a) ∧ J 106 0 = (mxM nq qd (I 106 0) u).1 ∧ J p 5 = nI (pl + (col (tog qd u) nq).1) ∧ (∀ k, k ≠ 5 → J p k = I p k)
      ∧ (∀ i, i < (col (tog qd u) nq).1 → J (p + 1 + 1) (pl + i) = nI ((mxM nq qd (I 106 0) u).2 i)) ∧ (∀ i, i < pl → J (p + 1 + 1) i = I (p + 1 + 1) i)
      ∧ (∀ i, i < (col (tog qd u) nq).1 → J (p + 3 + 1) ((mxM nq qd (I 106 0) u).2 i) = nI (pl + i)) ∧ ∀ q, (∀ i, i < (col (tog qd u) nq).1 → (mxM nq qd (I 106 0) u).2 i ≠ q) → J (p + 3 + 1) q = I (p + 3 + 1) q) := by
  have hn := hV.1
  have hq1 := at_q.1
  have hcn := col_le (tog qd u) nq
  have hen := mxM_en nq qd (I 106 0) u
  have hp0 := hp.1
  subst hy
  generalize hg : (mxM nq qd (I 106 0) u).2 = g at hen ⊢
  generalize hx1 : (mxM nq qd (I 106 0) u).1 = x1
  generalize hc : (col (tog qd u) nq).1 = c at hcn hen hpc ⊢
  refine ZSp.of (own := RX3) (L := [.ref 105, .ref 2, .int (nI u), .ref p, zj, zj]) mX3_mixUnit rfl (List.all_eq_true.mp rfl) (Nat.le_of_ble_eq_true rfl) rfl (fun X hE hN => ?_)
  have loop2 : ∀ (n i : Nat) (J : ZI), i + n = c → (∀ a, a ≠ 106 → a ≠ 110 → a ≠ p → a ≠ p + 1 + 1 → a ≠ p + 3 + 1 → J a = I a) → J 106 0 = x1 → Rp (J 110) g c → J p 5 = nI (pl + i) → (∀ k, k ≠ 5 → J p k = I p k)
      → (∀ j, j < i → J (p + 1 + 1) (pl + j) = nI (g j)) → (∀ j, j < pl → J (p + 1 + 1) j = I (p + 1 + 1) j) → (∀ j, j < i → J (p + 3 + 1) (g j) = nI (pl + j)) → (∀ q, (∀ j, j < i → g j ≠ q) → J (p + 3 + 1) q = I (p + 3 + 1) q) → (ZG X RX3 cX3_mixUnit 6 3 0 0 0 0 61 [.ref 105, .ref 2, .int (nI u), .ref p, .int (nI c), .int (nI i)] [] Sg J) := by
    intro n
    induction n with
    | zero =>
      intro i J hi a1 a2 a3 a4 a5 a6 a7 a8 a9
      have e : i = c := by omega
      subst e
      refine z_iload dX3_mixUnit_61 rfl ?_
      refine z_iload dX3_mixUnit_63 rfl ?_
      refine z_icmp_ge (tgt := 87) dX3_mixUnit_65 (by decide) (fun _ => ?_) (fun hb => absurd (nI_le (Nat.le_refl _) (by omega)) hb)
      exact z_vret hE dX3_mixUnit_87 ⟨rfl, rfl, a1, a2, a4, a5, a6, a7, a8, a9⟩
    | succ n ih =>
      intro i J hi a1 a2 a3 a4 a5 a6 a7 a8 a9
      refine z_iload dX3_mixUnit_61 rfl ?_
      refine z_iload dX3_mixUnit_63 rfl ?_
      refine z_icmp_ge (tgt := 87) dX3_mixUnit_65 (by decide) (fun hb => absurd hb (nI_ge (by omega) (by omega))) (fun _ => ?_)
      refine z_aload_n dX3_mixUnit_68 rfl ?_
      refine z_aload_n dX3_mixUnit_69 rfl ?_
      refine z_getR fRX3_27 dX3_mixUnit_70 (by first | assumption | rfl) (by rfl) ?_
      refine z_iload dX3_mixUnit_73 rfl ?_
      refine z_cV1s mX6_get gRX3_50 dX3_mixUnit_75 (s_getN at_members rfl (show i < 20 by omega)) (by decide) (by first | assumption | rfl) (by rfl) (Nat.le_of_ble_eq_true rfl) (Nat.le_refl _) (Nat.le_refl _) ?_
      rw [show J (109 + 1) i = nI (g i) from a3 i (by omega)]
      have hgi := (hen.1 i (by omega)).1
      refine z_cV1n mX4_append gRX3_76 dX3_mixUnit_78 (s_pAppend hp a4 (by omega) rfl (by omega)) (by decide) (by first | assumption | rfl) (by rfl) (Nat.le_of_ble_eq_true rfl) (Nat.le_refl _) (Nat.le_refl _) ?_
      refine z_inc5 (w := 1) dX3_mixUnit_81 rfl (by decide) rfl ?_
      refine z_goto (tgt := 61) dX3_mixUnit_84 (by decide) ?_
      rw [nI_1]
      have q1 : p ≠ p + 1 + 1 := by omega
      have q2 : p ≠ p + 3 + 1 := by omega
      have q3 : p + 1 + 1 ≠ p + 3 + 1 := by omega
      refine ih (i + 1) _ (by omega) (fun a h1 h2 h3 h4 h5 => ?_) ?_ ?_ ?_ (fun k hk => ?_) (fun j hj => ?_) (fun j hj => ?_) (fun j hj => ?_) (fun q hq => ?_)
      · rw [zup_ne _ _ _ h3, zup_ne _ _ _ h5, zup_ne _ _ _ h4, a1 a h1 h2 h3 h4 h5]
      · rw [zup_ne _ _ _ (show 106 ≠ p by omega), zup_ne _ _ _ (show 106 ≠ p + 3 + 1 by omega), zup_ne _ _ _ (show 106 ≠ p + 1 + 1 by omega), a2]
      · rw [zup_ne _ _ _ (show 110 ≠ p by omega), zup_ne _ _ _ (show 110 ≠ p + 3 + 1 by omega), zup_ne _ _ _ (show 110 ≠ p + 1 + 1 by omega)]
        exact a3
      · rw [zup_at, upd_at]
        rfl
      · rw [zup_at, upd_ne _ _ hk, zup_ne _ _ _ q2, zup_ne _ _ _ q1, a5 k hk]
      · rw [zup_ne _ _ _ q1.symm, zup_ne _ _ _ q3, zup_at]
        by_cases hji : j = i
        · rw [hji, upd_at]
        · rw [upd_ne _ _ (by omega), a6 j (by omega)]
      · rw [zup_ne _ _ _ q1.symm, zup_ne _ _ _ q3, zup_at, upd_ne _ _ (by omega), a7 j hj]
      · rw [zup_ne _ _ _ q2.symm, zup_at]
        by_cases hji : j = i
        · rw [hji, upd_at]
        · rw [upd_ne _ _ (fun e => hji (hen.inj (by omega) (by omega) e)), zup_ne _ _ _ q3.symm, a8 j (by omega)]
      · rw [zup_ne _ _ _ q2.symm, zup_at, upd_ne _ _ (fun e => hq i (Nat.lt_succ_self i) e.symm), zup_ne _ _ _ q3.symm]
        exact a9 q (fun j hj => hq j (by omega))
  have loop1 : ∀ (n k : Nat) (J : ZI), k + n = nq → u ≤ k → (∀ a, a ≠ 110 → J a = I a) → Rp (J 110) (col (tog qd u) k).2 (col (tog qd u) k).1 → (ZG X RX3 cX3_mixUnit 6 3 0 0 0 0 6 [.ref 105, .ref 2, .int (nI u), .ref p, .int (nI (col (tog qd u) k).1), .int (nI k)] [] Sg J) := by
    intro n
    induction n with
    | zero =>
      intro k J hk huk hJ hR
      have e : k = nq := by omega
      subst e
      refine z_iload dX3_mixUnit_6 rfl ?_
      refine z_aload_n dX3_mixUnit_8 rfl ?_
      refine z_getI fRX3_61 dX3_mixUnit_9 (by first | assumption | rfl) (by rfl) ?_
      refine z_icmp_ge (tgt := 45) dX3_mixUnit_12 (by decide) (fun _ => ?_) (fun hb => absurd (by rw [hJ 2 (by decide), hQ.1]; exact nI_le (Nat.le_refl _) (by omega)) hb)
      refine z_aload_n dX3_mixUnit_45 rfl ?_
      refine z_getR fRX3_12 dX3_mixUnit_46 (by first | assumption | rfl) (by rfl) ?_
      refine z_aload_n dX3_mixUnit_49 rfl ?_
      refine z_getR fRX3_27 dX3_mixUnit_50 (by first | assumption | rfl) (by rfl) ?_
      refine z_iload dX3_mixUnit_53 rfl ?_
      have hm := mix_rp ((col (tog qd u) k).1 - 1) (J 106 0) (J 110) (col (tog qd u) k).2 (col (tog qd u) k).1 (by omega) hR
      rw [hJ 106 (by decide), show mixN ((col (tog qd u) k).1 - 1) (I 106 0, (col (tog qd u) k).2) = mxM k qd (I 106 0) u from rfl, hg, hx1, hc] at hm
      have e106 : J 106 0 = I 106 0 := by rw [hJ 106 (by decide)]
      refine z_cV2n mX2_mix gRX3_40 dX3_mixUnit_55 (s_lotsMix at_lots at_members (by decide) (show (col (tog qd u) k).1 ≤ 20 by omega) rfl J) (by decide) (by first | assumption | rfl) (by rfl) (Nat.le_of_ble_eq_true rfl) (Nat.le_refl _) (Nat.le_refl _) ?_
      rw [hc, e106]
      refine z_iconst (v := 0) dX3_mixUnit_58 rfl ?_
      refine z_ist5 dX3_mixUnit_59 (by decide) rfl ?_
      have q3 : p + 1 + 1 ≠ p + 3 + 1 := by omega
      refine loop2 c 0 _ (by omega) (fun a h1 h2 h3 h4 h5 => ?_) ?_ ?_ ?_ (fun k hk => ?_) (fun j hj => absurd hj (Nat.not_lt_zero j)) (fun j hj => ?_) (fun j hj => absurd hj (Nat.not_lt_zero j)) (fun q hq => ?_)
      · rw [zup_ne _ _ _ h1, zcp_ne _ _ h2, hJ a h2]
      · rw [zup_at, upd_at]
        exact hm.1
      · rw [zup_ne _ _ _ (by decide)]
        show Rp (zcp J 110 _ 110) g c
        rw [zcp_at]
        exact hm.2
      · rw [zup_ne _ _ _ (show p ≠ 106 by omega), zcp_ne _ _ (show p ≠ 109 + 1 by omega), hJ p (by omega)]
        exact hpl
      · rw [zup_ne _ _ _ (show p ≠ 106 by omega), zcp_ne _ _ (show p ≠ 109 + 1 by omega), hJ p (by omega)]
      · rw [zup_ne _ _ _ (show p + 1 + 1 ≠ 106 by omega), zcp_ne _ _ (show p + 1 + 1 ≠ 109 + 1 by omega), hJ _ (by omega)]
      · rw [zup_ne _ _ _ (show p + 3 + 1 ≠ 106 by omega), zcp_ne _ _ (show p + 3 + 1 ≠ 109 + 1 by omega), hJ _ (by omega)]
    | succ n ih =>
      intro k J hk huk hJ hR
      have hQJ : Qs J 2 nq qd := hQ.keep (hJ _ (by decide)) (hJ _ (by decide))
      refine z_iload dX3_mixUnit_6 rfl ?_
      refine z_aload_n dX3_mixUnit_8 rfl ?_
      refine z_getI fRX3_61 dX3_mixUnit_9 (by first | assumption | rfl) (by rfl) ?_
      refine z_icmp_ge (tgt := 45) dX3_mixUnit_12 (by decide) (fun hb => absurd hb (by rw [hJ 2 (by decide), hQ.1]; exact nI_ge (by omega) (by omega))) (fun _ => ?_)
      refine z_aload_n dX3_mixUnit_15 rfl ?_
      refine z_iload_n dX3_mixUnit_16 rfl ?_
      refine z_iload dX3_mixUnit_17 rfl ?_
      refine z_cV2s mX5_together gRX3_72 dX3_mixUnit_19 (s_together at_q hQJ hV rfl rfl hu (show k < nq by omega)) (by decide) (by first | assumption | rfl) (by rfl) (Nat.le_of_ble_eq_true rfl) (Nat.le_refl _) (Nat.le_refl _) ?_
      refine z_if_eq (tgt := 39) dX3_mixUnit_22 (by decide) (fun hb => ?_) (fun hb => ?_)
      · refine z_inc5 (w := 1) dX3_mixUnit_39 rfl (by decide) rfl ?_
        refine z_goto (tgt := 6) dX3_mixUnit_42 (by decide) ?_
        have hl : ¬ tog qd u k = true := fun h => by rw [if_pos h] at hb; exact absurd hb (by decide)
        rw [nI_1]
        refine (congrArg (fun z => (ZG X RX3 cX3_mixUnit 6 3 0 0 0 0 6 [.ref 105, .ref 2, .int (nI u), .ref p, .int (nI z), .int (nI (k + 1))] [] Sg J)) (show (col (tog qd u) k).1 = (col (tog qd u) (k + 1)).1 by rw [col_no hl])).mpr ?_
        exact ih (k + 1) J (by omega) (by omega) hJ (by rw [col_no hl]; exact hR)
      · refine z_aload_n dX3_mixUnit_25 rfl ?_
        refine z_getR fRX3_27 dX3_mixUnit_26 (by first | assumption | rfl) (by rfl) ?_
        refine z_iload dX3_mixUnit_29 rfl ?_
        refine z_iload dX3_mixUnit_31 rfl ?_
        have hl : tog qd u k = true := by
          by_cases h : tog qd u k = true
          · exact h
          · rw [if_neg h] at hb; exact absurd rfl hb
        have hc2 : (col (tog qd u) k).1 < 20 := by have := col_le (tog qd u) k; omega
        refine z_cV2n mX6_set gRX3_68 dX3_mixUnit_33 (s_setN at_members rfl hc2) (by decide) (by first | assumption | rfl) (by rfl) (Nat.le_of_ble_eq_true rfl) (Nat.le_refl _) (Nat.le_refl _) ?_
        refine z_inc4 (w := 1) dX3_mixUnit_36 rfl (by decide) rfl ?_
        refine z_inc5 (w := 1) dX3_mixUnit_39 rfl (by decide) rfl ?_
        refine z_goto (tgt := 6) dX3_mixUnit_42 (by decide) ?_
        rw [nI_1, nI_1]
        refine (congrArg (fun z => (ZG X RX3 cX3_mixUnit 6 3 0 0 0 0 6 [.ref 105, .ref 2, .int (nI u), .ref p, .int (nI z), .int (nI (k + 1))] [] Sg _)) (show (col (tog qd u) k).1 + 1 = (col (tog qd u) (k + 1)).1 by rw [col_yes hl])).mpr ?_
        refine ih (k + 1) _ (by omega) (by omega) (fun a ha => by rw [zup_ne _ _ _ ha]; exact hJ a ha) ?_
        rw [col_yes hl]
        intro j hj
        show zup J 110 _ _ 110 j = nI (if j = (col (tog qd u) k).1 then k else (col (tog qd u) k).2 j)
        rw [zup_at]
        by_cases hjc : j = (col (tog qd u) k).1
        · rw [if_pos hjc, hjc, upd_at]
        · rw [if_neg hjc, upd_ne _ _ hjc]
          have hj2 : j < (col (tog qd u) k).1 + 1 := hj
          exact hR j (by omega)
  refine z_iconst (v := 0) dX3_mixUnit_0 rfl ?_
  refine z_ist4 dX3_mixUnit_1 (by decide) rfl ?_
  refine z_iload_n dX3_mixUnit_3 rfl ?_
  refine z_ist5 dX3_mixUnit_4 (by decide) rfl ?_
  refine (congrArg (fun z => (ZG X RX3 cX3_mixUnit 6 3 0 0 0 0 6 [.ref 105, .ref 2, .int (nI u), .ref p, .int (nI z), .int (nI u)] [] Sg I)) (show 0 = (col (tog qd u) u).1 from (lead_none hl).symm)).mpr ?_
  exact loop1 (nq - u) u I (by omega) (Nat.le_refl u) (fun _ _ => rfl) (fun k hk => absurd hk (by rw [lead_none hl]; exact Nat.not_lt_zero k))
theorem s_listLoose {I : ZI} {q n K : Nat} {qd : Qd} {x y : Int32} (hx : x = nI n) (hy : y = nI K) (hn : n ≤ 5) (hK : K < 32) (hqK : qd q 2 = K) : ZP yX3_listLoose cX3_listLoose 5 (some FieldType.int) 1 [.ref 105, .int x, .int y] Sg I (fun r J => r = some (.int (nI (col (loose qd q) n).1)) ∧ (∀ a, a ≠ 112 → J a = I a) ∧ Rp (J 112) (col (loose qd q) n).2 (col (loose qd q) n).1) := by
  subst hx
  subst hy
  refine ZSp.of (own := RX3) (L := [.ref 105, .int (nI n), .int (nI K), zj, zj]) mX3_listLoose rfl (List.all_eq_true.mp rfl) (Nat.le_of_ble_eq_true rfl) rfl (fun X hE hN => ?_)
  have loop : ∀ (m k : Nat) (J : ZI), k + m = n → (∀ a, a ≠ 112 → J a = I a) → Rp (J 112) (col (loose qd q) k).2 (col (loose qd q) k).1 → (ZG X RX3 cX3_listLoose 5 1 0 0 0 0 5 [.ref 105, .int (nI n), .int (nI K), .int (nI (col (loose qd q) k).1), .int (nI k)] [] Sg J) := by
    intro m
    induction m with
    | zero =>
      intro k J hk hJ hR
      have e : k = n := by omega
      subst e
      refine z_iload dX3_listLoose_5 rfl ?_
      refine z_iload_n dX3_listLoose_7 rfl ?_
      refine z_icmp_ge (tgt := 39) dX3_listLoose_8 (by decide) (fun _ => ?_) (fun hb => absurd (nI_le (Nat.le_refl _) (by omega)) hb)
      refine z_iload_n dX3_listLoose_39 rfl ?_
      exact z_iret hE dX3_listLoose_40 ⟨rfl, rfl, hJ, hR⟩
    | succ m ih =>
      intro k J hk hJ hR
      have hbit := z_bit K hK k (by omega)
      refine z_iload dX3_listLoose_5 rfl ?_
      refine z_iload_n dX3_listLoose_7 rfl ?_
      refine z_icmp_ge (tgt := 39) dX3_listLoose_8 (by decide) (fun hb => absurd hb (nI_ge (by omega) (by omega))) (fun _ => ?_)
      refine z_iload_n dX3_listLoose_11 rfl ?_
      refine z_iload dX3_listLoose_12 rfl ?_
      refine z_ishr dX3_listLoose_14 ?_
      refine z_iconst (v := 1) dX3_listLoose_15 rfl ?_
      refine z_iand dX3_listLoose_16 ?_
      refine z_if_ne (tgt := 33) dX3_listLoose_17 (by decide) (fun hb => ?_) (fun hb => ?_)
      · refine z_inc4 (w := 1) dX3_listLoose_33 rfl (by decide) rfl ?_
        refine z_goto (tgt := 5) dX3_listLoose_36 (by decide) ?_
        have hl : ¬ loose qd q k = true := fun h => hb (hbit.mpr (by simpa [loose, hqK] using h))
        rw [nI_1]
        refine (congrArg (fun z => (ZG X RX3 cX3_listLoose 5 1 0 0 0 0 5 [.ref 105, .int (nI n), .int (nI K), .int (nI z), .int (nI (k + 1))] [] Sg J)) (show (col (loose qd q) k).1 = (col (loose qd q) (k + 1)).1 by rw [col_no hl])).mpr ?_
        exact ih (k + 1) J (by omega) hJ (by rw [col_no hl]; exact hR)
      · refine z_aload_n dX3_listLoose_20 rfl ?_
        refine z_getR fRX3_30 dX3_listLoose_21 (by first | assumption | rfl) (by rfl) ?_
        refine z_iload_n dX3_listLoose_24 rfl ?_
        refine z_iload dX3_listLoose_25 rfl ?_
        have hl : loose qd q k = true := by
          have := hbit.mp hb
          simp [loose, hqK, this]
        have hc : (col (loose qd q) k).1 < 5 := by have := col_le (loose qd q) k; omega
        refine z_cV2n mX6_set gRX3_68 dX3_listLoose_27 (s_setN at_loose rfl hc) (by decide) (by first | assumption | rfl) (by rfl) (Nat.le_of_ble_eq_true rfl) (Nat.le_refl _) (Nat.le_refl _) ?_
        refine z_inc3 (w := 1) dX3_listLoose_30 rfl (by decide) rfl ?_
        refine z_inc4 (w := 1) dX3_listLoose_33 rfl (by decide) rfl ?_
        refine z_goto (tgt := 5) dX3_listLoose_36 (by decide) ?_
        rw [nI_1, nI_1]
        refine (congrArg (fun z => (ZG X RX3 cX3_listLoose 5 1 0 0 0 0 5 [.ref 105, .int (nI n), .int (nI K), .int (nI z), .int (nI (k + 1))] [] Sg _)) (show (col (loose qd q) k).1 + 1 = (col (loose qd q) (k + 1)).1 by rw [col_yes hl])).mpr ?_
        refine ih (k + 1) _ (by omega) (fun a ha => by rw [zup_ne _ _ _ ha]; exact hJ a ha) ?_
        rw [col_yes hl]
        intro j hj
        show zup J 112 _ _ 112 j = nI (if j = (col (loose qd q) k).1 then k else (col (loose qd q) k).2 j)
        rw [zup_at]
        by_cases hjc : j = (col (loose qd q) k).1
        · rw [if_pos hjc, hjc, upd_at]
        · rw [if_neg hjc, upd_ne _ _ hjc]
          have hj2 : j < (col (loose qd q) k).1 + 1 := hj
          exact hR j (by omega)
  refine z_iconst (v := 0) dX3_listLoose_0 rfl ?_
  refine z_ist3 dX3_listLoose_1 (by decide) rfl ?_
  refine z_iconst (v := 0) dX3_listLoose_2 rfl ?_
  refine z_ist4 dX3_listLoose_3 (by decide) rfl ?_
  exact loop n 0 I (by omega) (fun _ _ => rfl) (fun k hk => absurd hk (Nat.not_lt_zero k))
end
section
/-! ===== a version's mixing ===== -/
theorem s_mixChoices {I : ZI} {nq q p i : Nat} {qd : Qd} {y : Int32} (hQ : Qs I 2 nq qd) (hV : QV nq qd) (hp : PpAt p) (hp2 : 113 < p) (hy : y = nI i) (hi : i < 20) (hqi : I (p + 1 + 1) i = nI q) (hq : q < nq) :
    ZP yX3_mixChoices cX3_mixChoices 10 none 2 [.ref 105, .ref 2, .int y, .ref p] Sg I (fun r J => r = none ∧ (∀ a, a ≠ 106 → a ≠ 112 → a ≠ p + 7 + 1 → a ≠ p + 5 + 1 → J a = I a) ∧ J 106 0 = (mxL qd (I 106 0) q).1
      ∧ (∀ k, k < qd q 4 → J (p + 7 + 1) (5 * i + k) = nI (chq qd (I 106 0) q k)) ∧ (∀ j, (j < 5 * i ∨ 5 * i + qd q 4 ≤ j) → J (p + 7 + 1) j = I (p + 7 + 1) j)
      ∧ J (p + 5 + 1) i = nI (kyq (chq qd (I 106 0) q) (qd q 1) (qd q 4)) ∧ ∀ j, j ≠ i → J (p + 5 + 1) j = I (p + 5 + 1) j) := by
  have hn := hV.1
  have hq1 := at_q.1
  have hp0 := hp.1
  have hp1 := hp.2.1.1
  have hp3 := hp.2.2.2.1.1
  obtain ⟨v1, v2, v3, v4, v5, v6, v7⟩ := hV.2 q hq
  have hK : qd q 2 < 32 := Nat.lt_of_lt_of_le v6 (Nat.pow_le_pow_right (by decide) v4 : 2 ^ qd q 4 ≤ 2 ^ 5)
  have hcn := col_le (loose qd q) (qd q 4)
  have hon := chq_onto (qd := qd) (x := I 106 0) (q := q) v5
  have hml : ∀ k, chq qd (I 106 0) q k = if loose qd q k = true then (mxL qd (I 106 0) q).2 (col (loose qd q) k).1 else k := fun k => rfl
  subst hy
  generalize hch : chq qd (I 106 0) q = ch at hon hml ⊢
  generalize hg : (mxL qd (I 106 0) q).2 = g at hml
  generalize hx1 : (mxL qd (I 106 0) q).1 = x1
  have q57 : p + 5 + 1 ≠ p + 7 + 1 := by omega
  refine ZSp.of (own := RX3) (L := [.ref 105, .ref 2, .int (nI i), .ref p, zj, zj, zj, zj, zj, zj]) mX3_mixChoices rfl (List.all_eq_true.mp rfl) (Nat.le_of_ble_eq_true rfl) rfl (fun X hE hN => ?_)
  have loop : ∀ (m k : Nat) (J : ZI), k + m = qd q 4 → (∀ a, a ≠ 106 → a ≠ 112 → a ≠ p + 7 + 1 → a ≠ p + 5 + 1 → J a = I a) → J 106 0 = x1 → Rp (J 112) g (col (loose qd q) (qd q 4)).1
      → (∀ j, j < k → J (p + 7 + 1) (5 * i + j) = nI (ch j)) → (∀ j, (j < 5 * i ∨ 5 * i + k ≤ j) → J (p + 7 + 1) j = I (p + 7 + 1) j) → ((∃ j, j < k ∧ ch j = qd q 1) → J (p + 5 + 1) i = nI (kyq ch (qd q 1) k)) → (∀ j, j ≠ i → J (p + 5 + 1) j = I (p + 5 + 1) j)
      → (ZG X RX3 cX3_mixChoices 10 2 0 0 0 0 53 [.ref 105, .ref 2, .int (nI i), .ref p, .int (nI q), .int (nI (qd q 4)), .int (nI (qd q 2)), .int (nI (col (loose qd q) k).1), .int (nI k), zj] [] Sg J) := by
    intro m
    induction m with
    | zero =>
      intro k J hk a1 a2 a3 a4 a5 a6 a7
      have e : k = qd q 4 := by omega
      subst e
      refine z_iload dX3_mixChoices_53 rfl ?_
      refine z_iload dX3_mixChoices_55 rfl ?_
      refine z_icmp_ge (tgt := 125) dX3_mixChoices_57 (by decide) (fun _ => ?_) (fun hb => absurd (nI_le (Nat.le_refl _) (by omega)) hb)
      exact z_vret hE dX3_mixChoices_125 ⟨rfl, rfl, a1, a2, a4, a5, a6 hon, a7⟩
    | succ m ih =>
      intro k J hk a1 a2 a3 a4 a5 a6 a7
      have hbit := z_bit (qd q 2) hK k (by omega)
      have hQJ : ∀ J' : ZI, (∀ a, a ≠ 106 → a ≠ 112 → a ≠ p + 7 + 1 → a ≠ p + 5 + 1 → J' a = I a) → Qs J' 2 nq qd := fun J' h => hQ.keep (h _ (by decide) (by decide) (by omega) (by omega)) (h _ (by decide) (by decide) (by omega) (by omega))
      have tail : ∀ J' : ZI, (∀ a, a ≠ 106 → a ≠ 112 → a ≠ p + 7 + 1 → a ≠ p + 5 + 1 → J' a = I a) → J' 106 0 = x1 → Rp (J' 112) g (col (loose qd q) (qd q 4)).1
          → (∀ j, j < k + 1 → J' (p + 7 + 1) (5 * i + j) = nI (ch j)) → (∀ j, (j < 5 * i ∨ 5 * i + (k + 1) ≤ j) → J' (p + 7 + 1) j = I (p + 7 + 1) j) → ((∃ j, j < k + 1 ∧ ch j = qd q 1) → J' (p + 5 + 1) i = nI (kyq ch (qd q 1) (k + 1))) → (∀ j, j ≠ i → J' (p + 5 + 1) j = I (p + 5 + 1) j)
          → (ZG X RX3 cX3_mixChoices 10 2 0 0 0 0 119 [.ref 105, .ref 2, .int (nI i), .ref p, .int (nI q), .int (nI (qd q 4)), .int (nI (qd q 2)), .int (nI (col (loose qd q) (k + 1)).1), .int (nI k), .int (nI (ch k))] [] Sg J') := by
        intro J' b1 b2 b3 b4 b5 b6 b7
        refine z_inc8 (w := 1) dX3_mixChoices_119 rfl (by decide) rfl ?_
        refine z_goto (tgt := 53) dX3_mixChoices_122 (by decide) ?_
        refine z_fg9 ?_
        rw [nI_1]
        exact ih (k + 1) J' (by omega) b1 b2 b3 b4 b5 b6 b7
      have mid : (ZG X RX3 cX3_mixChoices 10 2 0 0 0 0 88 [.ref 105, .ref 2, .int (nI i), .ref p, .int (nI q), .int (nI (qd q 4)), .int (nI (qd q 2)), .int (nI (col (loose qd q) (k + 1)).1), .int (nI k), .int (nI (ch k))] [] Sg J) := by
        refine z_aload_n dX3_mixChoices_88 rfl ?_
        refine z_iload_n dX3_mixChoices_89 rfl ?_
        refine z_iload dX3_mixChoices_90 rfl ?_
        refine z_iload dX3_mixChoices_92 rfl ?_
        refine z_cV3n mX4_putChoice gRX3_89 dX3_mixChoices_94 (s_putChoice hp rfl rfl hi (show k < 5 by omega)) (by decide) (by first | assumption | rfl) (by rfl) (Nat.le_of_ble_eq_true rfl) (Nat.le_refl _) (Nat.le_refl _) ?_
        have b1 : ∀ a, a ≠ 106 → a ≠ 112 → a ≠ p + 7 + 1 → a ≠ p + 5 + 1 → zup J (p + 7 + 1) (5 * i + k) (nI (ch k)) a = I a := fun a h1 h2 h3 h4 => by rw [zup_ne _ _ _ h3, a1 a h1 h2 h3 h4]
        have b4 : ∀ j, j < k + 1 → zup J (p + 7 + 1) (5 * i + k) (nI (ch k)) (p + 7 + 1) (5 * i + j) = nI (ch j) := fun j hj => by
          rw [zup_at]
          by_cases hjk : j = k
          · rw [hjk, upd_at]
          · rw [upd_ne _ _ (by omega), a4 j (by omega)]
        have b5 : ∀ j, (j < 5 * i ∨ 5 * i + (k + 1) ≤ j) → zup J (p + 7 + 1) (5 * i + k) (nI (ch k)) (p + 7 + 1) j = I (p + 7 + 1) j := fun j hj => by rw [zup_at, upd_ne _ _ (by omega), a5 j (by omega)]
        refine z_iload dX3_mixChoices_97 rfl ?_
        refine z_aload_n dX3_mixChoices_99 rfl ?_
        refine z_iload dX3_mixChoices_100 rfl ?_
        refine z_iconst (v := 1) dX3_mixChoices_102 rfl ?_
        refine z_cV2s mX5_number gRX3_82 dX3_mixChoices_103 (s_number at_q (hQJ _ b1) hn rfl (show (1 : Int32) = nI 1 from rfl) hq (by decide)) (by decide) (by first | assumption | rfl) (by rfl) (Nat.le_of_ble_eq_true rfl) (Nat.le_refl _) (Nat.le_refl _) ?_
        have hck : ch k < 5 := by rw [← hch]; have := chq_lt (qd := qd) (x := I 106 0) (q := q) (k := k) (by omega); omega
        refine z_icmp_ne (tgt := 119) dX3_mixChoices_106 (by decide) (fun hb => ?_) (fun hb => ?_)
        · have hne : ch k ≠ qd q 1 := fun e => hb (by rw [e])
          refine tail _ b1 ?_ ?_ b4 b5 (fun h => ?_) (fun j hj => ?_)
          · rw [zup_ne _ _ _ (show 106 ≠ p + 7 + 1 by omega), a2]
          · rw [zup_ne _ _ _ (show 112 ≠ p + 7 + 1 by omega)]; exact a3
          · rw [zup_ne _ _ _ q57, kyq, if_neg hne]
            obtain ⟨j, h1, h2⟩ := h
            exact a6 ⟨j, by have e : j ≠ k := fun e => hne (e ▸ h2); omega, h2⟩
          · rw [zup_ne _ _ _ q57, a7 j hj]
        · refine z_aload_n dX3_mixChoices_109 rfl ?_
          refine z_getR fRX3_93 dX3_mixChoices_110 (by first | assumption | rfl) (by rfl) ?_
          refine z_iload_n dX3_mixChoices_113 rfl ?_
          refine z_iload dX3_mixChoices_114 rfl ?_
          have heq : ch k = qd q 1 := (nI_eq (by omega) (by omega)).mp hb
          refine z_cV2n mX6_set gRX3_68 dX3_mixChoices_116 (s_setN hp.2.2.2.1 rfl hi) (by decide) (by first | assumption | rfl) (by rfl) (Nat.le_of_ble_eq_true rfl) (Nat.le_refl _) (Nat.le_refl _) ?_
          refine tail _ (fun a h1 h2 h3 h4 => ?_) ?_ ?_ (fun j hj => ?_) (fun j hj => ?_) (fun h => ?_) (fun j hj => ?_)
          · rw [zup_ne _ _ _ h4, b1 a h1 h2 h3 h4]
          · rw [zup_ne _ _ _ (show 106 ≠ p + 5 + 1 by omega), zup_ne _ _ _ (show 106 ≠ p + 7 + 1 by omega), a2]
          · rw [zup_ne _ _ _ (show 112 ≠ p + 5 + 1 by omega), zup_ne _ _ _ (show 112 ≠ p + 7 + 1 by omega)]; exact a3
          · rw [zup_ne _ _ _ q57.symm, b4 j hj]
          · rw [zup_ne _ _ _ q57.symm, b5 j hj]
          · rw [zup_at, upd_at, kyq, if_pos heq]
          · rw [zup_at, upd_ne _ _ hj, zup_ne _ _ _ q57, a7 j hj]
      refine z_iload dX3_mixChoices_53 rfl ?_
      refine z_iload dX3_mixChoices_55 rfl ?_
      refine z_icmp_ge (tgt := 125) dX3_mixChoices_57 (by decide) (fun hb => absurd hb (nI_ge (by omega) (by omega))) (fun _ => ?_)
      refine z_iload dX3_mixChoices_60 rfl ?_
      refine z_ist9 dX3_mixChoices_62 (by decide) rfl ?_
      refine z_iload dX3_mixChoices_64 rfl ?_
      refine z_iload dX3_mixChoices_66 rfl ?_
      refine z_ishr dX3_mixChoices_68 ?_
      refine z_iconst (v := 1) dX3_mixChoices_69 rfl ?_
      refine z_iand dX3_mixChoices_70 ?_
      refine z_if_ne (tgt := 88) dX3_mixChoices_71 (by decide) (fun hb => ?_) (fun hb => ?_)
      · have hl : ¬ loose qd q k = true := fun h => hb (hbit.mpr (by simpa [loose] using h))
        have e1 : ch k = k := by rw [hml k, if_neg hl]
        rw [e1, col_no hl] at mid
        exact mid
      · refine z_aload_n dX3_mixChoices_74 rfl ?_
        refine z_getR fRX3_30 dX3_mixChoices_75 (by first | assumption | rfl) (by rfl) ?_
        refine z_iload dX3_mixChoices_78 rfl ?_
        have hl : loose qd q k = true := by
          have := hbit.mp hb
          simp [loose, this]
        have e1 : ch k = g (col (loose qd q) k).1 := by rw [hml k, if_pos hl]
        have hc1 : (col (loose qd q) k).1 + 1 ≤ (col (loose qd q) (qd q 4)).1 := by
          have := col_mono (loose qd q) (m := k + 1) (n := qd q 4) (by omega)
          rw [col_yes hl] at this
          exact this
        refine z_cV1s mX6_get gRX3_50 dX3_mixChoices_80 (s_getN at_loose rfl (show (col (loose qd q) k).1 < 5 by omega)) (by decide) (by first | assumption | rfl) (by rfl) (Nat.le_of_ble_eq_true rfl) (Nat.le_refl _) (Nat.le_refl _) ?_
        rw [show J (111 + 1) (col (loose qd q) k).1 = nI (ch k) by rw [e1]; exact a3 _ (by omega)]
        refine z_ist9 dX3_mixChoices_83 (by decide) rfl ?_
        refine z_inc7 (w := 1) dX3_mixChoices_85 rfl (by decide) rfl ?_
        rw [nI_1, show (col (loose qd q) k).1 + 1 = (col (loose qd q) (k + 1)).1 by rw [col_yes hl]]
        exact mid
  refine z_aload_n dX3_mixChoices_0 rfl ?_
  refine z_getR fRX3_79 dX3_mixChoices_1 (by first | assumption | rfl) (by rfl) ?_
  refine z_iload_n dX3_mixChoices_4 rfl ?_
  refine z_cV1s mX6_get gRX3_50 dX3_mixChoices_5 (s_getN hp.2.1 rfl hi) (by decide) (by first | assumption | rfl) (by rfl) (Nat.le_of_ble_eq_true rfl) (Nat.le_refl _) (Nat.le_refl _) ?_
  rw [hqi]
  refine z_ist4 dX3_mixChoices_8 (by decide) rfl ?_
  refine z_aload_n dX3_mixChoices_10 rfl ?_
  refine z_iload dX3_mixChoices_11 rfl ?_
  refine z_iconst (v := 4) dX3_mixChoices_13 rfl ?_
  refine z_cV2s mX5_number gRX3_82 dX3_mixChoices_14 (s_number at_q hQ hn rfl (show (4 : Int32) = nI 4 from rfl) hq (by decide)) (by decide) (by first | assumption | rfl) (by rfl) (Nat.le_of_ble_eq_true rfl) (Nat.le_refl _) (Nat.le_refl _) ?_
  refine z_ist5 dX3_mixChoices_17 (by decide) rfl ?_
  refine z_aload_n dX3_mixChoices_19 rfl ?_
  refine z_iload dX3_mixChoices_20 rfl ?_
  refine z_iconst (v := 2) dX3_mixChoices_22 rfl ?_
  refine z_cV2s mX5_number gRX3_82 dX3_mixChoices_23 (s_number at_q hQ hn rfl (show (2 : Int32) = nI 2 from rfl) hq (by decide)) (by decide) (by first | assumption | rfl) (by rfl) (Nat.le_of_ble_eq_true rfl) (Nat.le_refl _) (Nat.le_refl _) ?_
  refine z_ist6 dX3_mixChoices_26 (by decide) rfl ?_
  refine z_aload_n dX3_mixChoices_28 rfl ?_
  refine z_getR fRX3_12 dX3_mixChoices_29 (by first | assumption | rfl) (by rfl) ?_
  refine z_aload_n dX3_mixChoices_32 rfl ?_
  refine z_getR fRX3_30 dX3_mixChoices_33 (by first | assumption | rfl) (by rfl) ?_
  refine z_aload_n dX3_mixChoices_36 rfl ?_
  refine z_iload dX3_mixChoices_37 rfl ?_
  refine z_iload dX3_mixChoices_39 rfl ?_
  refine z_cV2p mX3_listLoose gRX3_86 dX3_mixChoices_41 (s_listLoose rfl rfl v4 hK rfl) (by decide) (by first | assumption | rfl) (by rfl) (Nat.le_of_ble_eq_true rfl) (Nat.le_refl _) (Nat.le_refl _) (fun r J hq => ?_)
  obtain ⟨rfl, hJ, hR⟩ := hq
  have hm := mix_rp ((col (loose qd q) (qd q 4)).1 - 1) (J 106 0) (J 112) (col (loose qd q) (qd q 4)).2 (col (loose qd q) (qd q 4)).1 (by omega) hR
  have e106 : J 106 0 = I 106 0 := by rw [hJ 106 (by decide)]
  rw [e106, show mixN ((col (loose qd q) (qd q 4)).1 - 1) (I 106 0, (col (loose qd q) (qd q 4)).2) = mxL qd (I 106 0) q from rfl, hg, hx1] at hm
  refine z_cV2n mX2_mix gRX3_40 dX3_mixChoices_44 (s_lotsMix at_lots at_loose (by decide) (show (col (loose qd q) (qd q 4)).1 ≤ 5 by omega) rfl J) (by decide) (by first | assumption | rfl) (by rfl) (Nat.le_of_ble_eq_true rfl) (Nat.le_refl _) (Nat.le_refl _) ?_
  rw [e106]
  refine z_iconst (v := 0) dX3_mixChoices_47 rfl ?_
  refine z_ist7 dX3_mixChoices_48 (by decide) rfl ?_
  refine z_iconst (v := 0) dX3_mixChoices_50 rfl ?_
  refine z_ist8 dX3_mixChoices_51 (by decide) rfl ?_
  refine loop (qd q 4) 0 _ (by omega) (fun a h1 h2 h3 h4 => ?_) ?_ ?_ (fun j hj => absurd hj (Nat.not_lt_zero j)) (fun j hj => ?_) (fun h => by obtain ⟨j, hj, -⟩ := h; exact absurd hj (Nat.not_lt_zero j)) (fun j hj => ?_)
  · rw [zup_ne _ _ _ h1, zcp_ne _ _ h2, hJ a h2]
  · rw [zup_at, upd_at]; exact hm.1
  · rw [zup_ne _ _ _ (by decide)]
    show Rp (zcp J 112 _ 112) g _
    rw [zcp_at]
    exact hm.2
  · rw [zup_ne _ _ _ (show p + 7 + 1 ≠ 106 by omega), zcp_ne _ _ (show p + 7 + 1 ≠ 111 + 1 by omega), hJ _ (by omega)]
  · rw [zup_ne _ _ _ (show p + 5 + 1 ≠ 106 by omega), zcp_ne _ _ (show p + 5 + 1 ≠ 111 + 1 by omega), hJ _ (by omega)]
/-- a paper is the version of the seed -/
def Pm (I : ZI) (p nq : Nat) (qd : Qd) (seed : Int32) : Prop := I p 5 = nI nq ∧ Rp (I (p + 1 + 1)) (Od nq qd seed) nq ∧ (∀ i, i < nq → I (p + 3 + 1) (Od nq qd seed i) = nI i) ∧ (∀ i, i < nq → ∀ k, k < qd (Od nq qd seed i) 4 → I (p + 7 + 1) (5 * i + k) = nI (Ch nq qd seed i k)) ∧ Rp (I (p + 5 + 1)) (Ky nq qd seed) nq
theorem s_mix {I : ZI} {nq p : Nat} {qd : Qd} {seed : Int32} (hQ : Qs I 2 nq qd) (hV : QV nq qd) (hp : PpAt p) (hp2 : 113 < p) :
    ZP yX3_mix cX3_mix 6 none 5 [.ref 105, .ref 2, .int seed, .ref p] Sg I (fun r J => r = none ∧ (∀ a, a ≠ 106 → a ≠ 108 → a ≠ 110 → a ≠ 112 → a ≠ p → a ≠ p + 1 + 1 → a ≠ p + 3 + 1 → a ≠ p + 5 + 1 → a ≠ p + 7 + 1 → J a = I a) ∧ (∀ k, k ≠ 5 → J p k = I p k) ∧ Pm J p nq qd seed) := by
  have hn := hV.1
  have hp0 := hp.1
  have hue := mxU_en nq qd seed
  have hoe := Od_en nq qd seed
  have h3n := Ord3_n nq qd seed
  have hcn := col_le (lead qd) nq
  have q1 : p ≠ p + 1 + 1 := by omega
  have q2 : p ≠ p + 3 + 1 := by omega
  have q3 : p + 1 + 1 ≠ p + 3 + 1 := by omega
  have q5 : p + 1 + 1 ≠ p + 5 + 1 := by omega
  have q6 : p + 3 + 1 ≠ p + 5 + 1 := by omega
  have q7 : p + 5 + 1 ≠ p + 7 + 1 := by omega
  refine ZSp.of (own := RX3) (L := [.ref 105, .ref 2, .int seed, .ref p, zj, zj]) mX3_mix rfl (List.all_eq_true.mp rfl) (Nat.le_of_ble_eq_true rfl) rfl (fun X hE hN => ?_)
  have loop2 : ∀ (n i : Nat) (m : Int32) (J : ZI), i + n = nq → (∀ a, a ≠ 106 → a ≠ 108 → a ≠ 110 → a ≠ 112 → a ≠ p → a ≠ p + 1 + 1 → a ≠ p + 3 + 1 → a ≠ p + 5 + 1 → a ≠ p + 7 + 1 → J a = I a) → (∀ k, k ≠ 5 → J p k = I p k) → J p 5 = nI nq → Rp (J (p + 1 + 1)) (Od nq qd seed) nq → (∀ j, j < nq → J (p + 3 + 1) (Od nq qd seed j) = nI j)
      → J 106 0 = Xs nq qd seed i → (∀ j, j < i → ∀ k, k < qd (Od nq qd seed j) 4 → J (p + 7 + 1) (5 * j + k) = nI (Ch nq qd seed j k)) → (∀ j, j < i → J (p + 5 + 1) j = nI (Ky nq qd seed j)) → (ZG X RX3 cX3_mix 6 5 0 0 0 0 67 [.ref 105, .ref 2, .int seed, .ref p, .int m, .int (nI i)] [] Sg J) := by
    intro n
    induction n with
    | zero =>
      intro i m J hi a1 a2 a3 a4 a5 a6 a7 a8
      have e : i = nq := by omega
      subst e
      refine z_iload dX3_mix_67 rfl ?_
      refine z_aload_n dX3_mix_69 rfl ?_
      refine z_getI fRX3_44 dX3_mix_70 (by first | assumption | rfl) (by rfl) ?_
      refine z_icmp_ge (tgt := 90) dX3_mix_73 (by decide) (fun _ => ?_) (fun hb => absurd (by rw [a3]; exact nI_le (Nat.le_refl _) (by omega)) hb)
      exact z_vret hE dX3_mix_90 ⟨rfl, rfl, a1, a2, a3, a4, a5, a7, a8⟩
    | succ n ih =>
      intro i m J hi a1 a2 a3 a4 a5 a6 a7 a8
      have hQJ : Qs J 2 nq qd := hQ.keep (a1 _ (by decide) (by decide) (by decide) (by decide) (by omega) (by omega) (by omega) (by omega) (by omega)) (a1 _ (by decide) (by decide) (by decide) (by decide) (by omega) (by omega) (by omega) (by omega) (by omega))
      have hO := hoe.1 i (by omega)
      refine z_iload dX3_mix_67 rfl ?_
      refine z_aload_n dX3_mix_69 rfl ?_
      refine z_getI fRX3_44 dX3_mix_70 (by first | assumption | rfl) (by rfl) ?_
      refine z_icmp_ge (tgt := 90) dX3_mix_73 (by decide) (fun hb => absurd hb (by rw [a3]; exact nI_ge (by omega) (by omega))) (fun _ => ?_)
      refine z_aload_n dX3_mix_76 rfl ?_
      refine z_aload_n dX3_mix_77 rfl ?_
      refine z_iload dX3_mix_78 rfl ?_
      refine z_aload_n dX3_mix_80 rfl ?_
      refine z_cV3p mX3_mixChoices gRX3_58 dX3_mix_81 (s_mixChoices hQJ hV hp hp2 rfl (show i < 20 by omega) (a4 i (by omega)) hO) (by decide) (by first | assumption | rfl) (by rfl) (Nat.le_of_ble_eq_true rfl) (Nat.le_refl _) (Nat.le_refl _) (fun r J hq => ?_)
      obtain ⟨rfl, b1, b2, b3, b4, b5, b6⟩ := hq
      refine z_inc5 (w := 1) dX3_mix_84 rfl (by decide) rfl ?_
      refine z_goto (tgt := 67) dX3_mix_87 (by decide) ?_
      rw [nI_1]
      have hO5 := (hV.2 _ hO).2.2.2.1
      refine ih (i + 1) m _ (by omega) (fun a h1 h2 h3 h4 h5 h6 h7 h8 h9 => ?_) (fun k hk => ?_) ?_ ?_ (fun j hj => ?_) ?_ (fun j hj k hk => ?_) (fun j hj => ?_)
      · rw [b1 a h1 h4 h9 h8, a1 a h1 h2 h3 h4 h5 h6 h7 h8 h9]
      · rw [b1 p (by omega) (by omega) (by omega) (by omega), a2 k hk]
      · rw [b1 p (by omega) (by omega) (by omega) (by omega), a3]
      · rw [b1 (p + 1 + 1) (by omega) (by omega) (by omega) (by omega)]; exact a4
      · rw [b1 (p + 3 + 1) (by omega) (by omega) (by omega) (by omega), a5 j hj]
      · rw [b2, a6]; rfl
      · by_cases hji : j = i
        · subst hji
          rw [b3 k hk, a6]; rfl
        · have hOj := hoe.1 j (by omega)
          have hOj5 := (hV.2 _ hOj).2.2.2.1
          rw [b4 _ (by omega), a7 j (by omega) k hk]
      · by_cases hji : j = i
        · subst hji
          rw [b5, a6]; rfl
        · rw [b6 j hji, a8 j (by omega)]
  have loop1 : ∀ (n i : Nat) (J : ZI), i + n = (col (lead qd) nq).1 → (∀ a, a ≠ 106 → a ≠ 108 → a ≠ 110 → a ≠ p → a ≠ p + 1 + 1 → a ≠ p + 3 + 1 → J a = I a) → (∀ k, k ≠ 5 → J p k = I p k) → Rp (J 108) (mxU nq qd seed).2 (col (lead qd) nq).1
      → J 106 0 = (mxO nq qd (mxU nq qd seed).2 (mxU nq qd seed).1 i).1 → J p 5 = nI (mxO nq qd (mxU nq qd seed).2 (mxU nq qd seed).1 i).2.1 → Rp (J (p + 1 + 1)) (mxO nq qd (mxU nq qd seed).2 (mxU nq qd seed).1 i).2.2 (mxO nq qd (mxU nq qd seed).2 (mxU nq qd seed).1 i).2.1
      → (∀ j, j < (mxO nq qd (mxU nq qd seed).2 (mxU nq qd seed).1 i).2.1 → J (p + 3 + 1) ((mxO nq qd (mxU nq qd seed).2 (mxU nq qd seed).1 i).2.2 j) = nI j) → (ZG X RX3 cX3_mix 6 5 0 0 0 0 36 [.ref 105, .ref 2, .int seed, .ref p, .int (nI (col (lead qd) nq).1), .int (nI i)] [] Sg J) := by
    intro n
    induction n with
    | zero =>
      intro i J hi a1 a2 a3 a4 a5 a6 a7
      have e : i = (col (lead qd) nq).1 := by omega
      subst e
      refine z_iload dX3_mix_36 rfl ?_
      refine z_iload dX3_mix_38 rfl ?_
      refine z_icmp_ge (tgt := 64) dX3_mix_40 (by decide) (fun _ => ?_) (fun hb => absurd (nI_le (Nat.le_refl _) (by omega)) hb)
      refine z_iconst (v := 0) dX3_mix_64 rfl ?_
      refine z_ist5 dX3_mix_65 (by decide) rfl ?_
      have e3 : (mxO nq qd (mxU nq qd seed).2 (mxU nq qd seed).1 (col (lead qd) nq).1).2.1 = nq := h3n
      rw [e3] at a5 a6 a7
      exact loop2 nq 0 _ J (by omega) (fun a h1 h2 h3 h4 h5 h6 h7 h8 h9 => a1 a h1 h2 h3 h5 h6 h7) a2 a5 a6 a7 a4 (fun j hj => absurd hj (Nat.not_lt_zero j)) (fun j hj => absurd hj (Nat.not_lt_zero j))
    | succ n ih =>
      intro i J hi a1 a2 a3 a4 a5 a6 a7
      have hQJ : Qs J 2 nq qd := hQ.keep (a1 _ (by decide) (by decide) (by decide) (by omega) (by omega) (by omega)) (a1 _ (by decide) (by decide) (by decide) (by omega) (by omega) (by omega))
      have hu := hue.1 i (by omega)
      have en1 := mxO_en (x := (mxU nq qd seed).1) hue (i + 1) (by omega)
      have hle : (mxO nq qd (mxU nq qd seed).2 (mxU nq qd seed).1 (i + 1)).2.1 ≤ nq := fb_holes nq _ _ (fun k hk => (en1.1 k hk).1) en1.2.2
      have hst : mxO nq qd (mxU nq qd seed).2 (mxU nq qd seed).1 (i + 1) = ((mxM nq qd (mxO nq qd (mxU nq qd seed).2 (mxU nq qd seed).1 i).1 ((mxU nq qd seed).2 i)).1, (mxO nq qd (mxU nq qd seed).2 (mxU nq qd seed).1 i).2.1 + (col (tog qd ((mxU nq qd seed).2 i)) nq).1, fun p => if p < (mxO nq qd (mxU nq qd seed).2 (mxU nq qd seed).1 i).2.1 then (mxO nq qd (mxU nq qd seed).2 (mxU nq qd seed).1 i).2.2 p else (mxM nq qd (mxO nq qd (mxU nq qd seed).2 (mxU nq qd seed).1 i).1 ((mxU nq qd seed).2 i)).2 (p - (mxO nq qd (mxU nq qd seed).2 (mxU nq qd seed).1 i).2.1)) := rfl
      have hih := ih (i + 1)
      rw [hst] at hle hih en1
      generalize mxO nq qd (mxU nq qd seed).2 (mxU nq qd seed).1 i = M at a4 a5 a6 a7 hle hih en1
      obtain ⟨x, pl, o⟩ := M
      have a4 : J 106 0 = x := a4
      have a5 : J p 5 = nI pl := a5
      have a6 : Rp (J (p + 1 + 1)) o pl := a6
      have a7 : ∀ j, j < pl → J (p + 3 + 1) (o j) = nI j := a7
      have hle : pl + (col (tog qd ((mxU nq qd seed).2 i)) nq).1 ≤ nq := hle
      refine z_iload dX3_mix_36 rfl ?_
      refine z_iload dX3_mix_38 rfl ?_
      refine z_icmp_ge (tgt := 64) dX3_mix_40 (by decide) (fun hb => absurd hb (nI_ge (by omega) (by omega))) (fun _ => ?_)
      refine z_aload_n dX3_mix_43 rfl ?_
      refine z_aload_n dX3_mix_44 rfl ?_
      refine z_aload_n dX3_mix_45 rfl ?_
      refine z_getR fRX3_23 dX3_mix_46 (by first | assumption | rfl) (by rfl) ?_
      refine z_iload dX3_mix_49 rfl ?_
      refine z_cV1s mX6_get gRX3_50 dX3_mix_51 (s_getN at_units rfl (show i < 20 by omega)) (by decide) (by first | assumption | rfl) (by rfl) (Nat.le_of_ble_eq_true rfl) (Nat.le_refl _) (Nat.le_refl _) ?_
      rw [show J (107 + 1) i = nI ((mxU nq qd seed).2 i) from a3 i (by omega)]
      refine z_aload_n dX3_mix_54 rfl ?_
      refine z_cV3p mX3_mixUnit gRX3_54 dX3_mix_55 (s_mixUnit hQJ hV hp hp2 rfl hu.1 hu.2 a5 (by omega)) (by decide) (by first | assumption | rfl) (by rfl) (Nat.le_of_ble_eq_true rfl) (Nat.le_refl _) (Nat.le_refl _) (fun r J hq => ?_)
      obtain ⟨rfl, b1, b2, b3, b4, b5, b6, b7, b8⟩ := hq
      refine z_inc5 (w := 1) dX3_mix_58 rfl (by decide) rfl ?_
      refine z_goto (tgt := 36) dX3_mix_61 (by decide) ?_
      rw [nI_1]
      rw [a4] at b2 b5 b7 b8
      generalize (mxU nq qd seed).2 i = u at *
      generalize (col (tog qd u) nq).1 = c at *
      generalize mxM nq qd x u = MM at *
      obtain ⟨x', g⟩ := MM
      have en1 : En (fun p => if p < pl then o p else g (p - pl)) (pl + c) _ := en1
      have f1 : ∀ p, p < pl → (fun p => if p < pl then o p else g (p - pl)) p = o p := fun p h => if_pos h
      have f2 : ∀ p, ¬ p < pl → (fun p => if p < pl then o p else g (p - pl)) p = g (p - pl) := fun p h => if_neg h
      refine hih _ (by omega) (fun a h1 h2 h3 h4 h5 h6 => ?_) (fun k hk => ?_) ?_ b2 b3 (fun j hj => ?_) (fun j hj => ?_)
      · rw [b1 a h1 h3 h4 h5 h6, a1 a h1 h2 h3 h4 h5 h6]
      · rw [b4 k hk, a2 k hk]
      · rw [b1 108 (by decide) (by decide) (by omega) (by omega) (by omega)]; exact a3
      · have hj : j < pl + c := hj
        show _ = nI (if j < pl then o j else g (j - pl))
        by_cases h1 : j < pl
        · rw [if_pos h1, b6 j h1, a6 j h1]
        · rw [if_neg h1]
          have := b5 (j - pl) (by omega)
          rw [show pl + (j - pl) = j by omega] at this
          exact this
      · have hj : j < pl + c := hj
        by_cases h1 : j < pl
        · refine (congrArg (J (p + 3 + 1)) (if_pos h1 : (if j < pl then o j else g (j - pl)) = o j)).trans ?_
          rw [b8 (o j) (fun k hk e => ?_), a7 j h1]
          have e1 := f1 j h1
          have e2 := f2 (pl + k) (by omega)
          rw [Nat.add_sub_cancel_left] at e2
          have := en1.inj (k := j) (l := pl + k) hj (by omega) (e1.trans ((show o j = g k from e.symm).trans e2.symm))
          omega
        · refine (congrArg (J (p + 3 + 1)) (if_neg h1 : (if j < pl then o j else g (j - pl)) = g (j - pl))).trans ?_
          have := b7 (j - pl) (by omega)
          rw [show pl + (j - pl) = j by omega] at this
          exact this
  refine z_aload_n dX3_mix_0 rfl ?_
  refine z_getR fRX3_12 dX3_mix_1 (by first | assumption | rfl) (by rfl) ?_
  refine z_iload_n dX3_mix_4 rfl ?_
  refine z_cV1n mX2_begin gRX3_33 dX3_mix_5 (s_begin at_lots) (by decide) (by first | assumption | rfl) (by rfl) (Nat.le_of_ble_eq_true rfl) (Nat.le_refl _) (Nat.le_refl _) ?_
  refine z_aload_n dX3_mix_8 rfl ?_
  refine z_aload_n dX3_mix_9 rfl ?_
  refine z_cV1p mX3_listUnits gRX3_36 dX3_mix_10 (s_listUnits (hQ.keep (zup_ne _ _ _ (by decide)) (zup_ne _ _ _ (by decide))) hV) (by decide) (by first | assumption | rfl) (by rfl) (Nat.le_of_ble_eq_true rfl) (Nat.le_refl _) (Nat.le_refl _) (fun r J hq => ?_)
  obtain ⟨rfl, hJ, hR⟩ := hq
  refine z_ist4 dX3_mix_13 (by decide) rfl ?_
  refine z_aload_n dX3_mix_15 rfl ?_
  refine z_getR fRX3_12 dX3_mix_16 (by first | assumption | rfl) (by rfl) ?_
  refine z_aload_n dX3_mix_19 rfl ?_
  refine z_getR fRX3_23 dX3_mix_20 (by first | assumption | rfl) (by rfl) ?_
  refine z_iload dX3_mix_23 rfl ?_
  have hm := mix_rp ((col (lead qd) nq).1 - 1) (J 106 0) (J 108) (col (lead qd) nq).2 (col (lead qd) nq).1 (by omega) hR
  have e106 : J 106 0 = seed := by rw [hJ 106 (by decide), zup_at, upd_at]
  rw [e106, show mixN ((col (lead qd) nq).1 - 1) (seed, (col (lead qd) nq).2) = mxU nq qd seed from rfl] at hm
  refine z_cV2n mX2_mix gRX3_40 dX3_mix_25 (s_lotsMix at_lots at_units (by decide) (show (col (lead qd) nq).1 ≤ 20 by omega) rfl J) (by decide) (by first | assumption | rfl) (by rfl) (Nat.le_of_ble_eq_true rfl) (Nat.le_refl _) (Nat.le_refl _) ?_
  rw [e106]
  refine z_aload_n dX3_mix_28 rfl ?_
  refine z_iconst (v := 0) dX3_mix_29 rfl ?_
  refine z_putI fRX3_44 dX3_mix_30 (by first | assumption | rfl) (by rfl) ?_
  refine z_iconst (v := 0) dX3_mix_33 rfl ?_
  refine z_ist5 dX3_mix_34 (by decide) rfl ?_
  refine loop1 (col (lead qd) nq).1 0 _ (by omega) (fun a h1 h2 h3 h4 h5 h6 => ?_) (fun k hk => ?_) ?_ ?_ ?_ (fun j hj => absurd hj (Nat.not_lt_zero j)) (fun j hj => absurd hj (Nat.not_lt_zero j))
  · rw [zup_ne _ _ _ h4, zup_ne _ _ _ h1, zcp_ne _ _ h2, hJ a h2, zup_ne _ _ _ h1]
  · rw [zup_at, upd_ne _ _ hk, zup_ne _ _ _ (show p ≠ 106 by omega), zcp_ne _ _ (show p ≠ 107 + 1 by omega), hJ p (by omega), zup_ne _ _ _ (show p ≠ 106 by omega)]
  · rw [zup_ne _ _ _ (show 108 ≠ p by omega), zup_ne _ _ _ (by decide)]
    show Rp (zcp J 108 _ 108) _ _
    rw [zcp_at]
    exact hm.2
  · rw [zup_ne _ _ _ (show 106 ≠ p by omega), zup_at, upd_at]
    exact hm.1
  · rw [zup_at, upd_at]
    rfl
end
section
/-! ===== pages in numbers ===== -/
/-- how many more pages k places from p on need, with l lines left on the page at hand, pages of L lines -/
def nd (h : Nat → Nat) (L : Nat) : Nat → Nat → Nat → Nat
  | 0, _, _ => 0
  | k + 1, p, l => if l < h p then 1 + nd h L k (p + 1) (L - h p) else nd h L k (p + 1) (l - h p)
def ndp (h : Nat → Nat) (L n p : Nat) : Nat := nd h L (n - p) p 0
def lmf (h : Nat → Nat) (n M : Nat) : Nat → Nat → Nat
  | 0, l => l
  | k + 1, l => if M < ndp h l n 0 then lmf h n M k (l + 1) else l
def eef (h : Nat → Nat) (L n left : Nat) : Nat → Nat → Nat
  | 0, e => e
  | k + 1, e => if left < ndp h L n e then eef h L n left k (e + 1) else e
def mxh (h : Nat → Nat) : Nat → Nat
  | 0 => 0
  | n + 1 => if mxh h n < h n then h n else mxh h n
def pst (h : Nat → Nat) (L n M : Nat) : Nat → Nat
  | 0 => 0
  | i + 1 => eef h L n (M - i - 1) (n - (pst h L n M i + 1)) (pst h L n M i + 1)
/-- the heights of k places from s on, together -/
def smh (h : Nat → Nat) (s : Nat) : Nat → Nat
  | 0 => 0
  | k + 1 => smh h s k + h (s + k)
theorem nd_two (h : Nat → Nat) (L : Nat) : ∀ (k p : Nat), (∀ l l', l ≤ l' → l' ≤ L → nd h L k p l' ≤ nd h L k p l) ∧ ∀ l l', l ≤ L → l' ≤ L → nd h L k p l' ≤ 1 + nd h L k p l
  | 0, p => ⟨fun _ _ _ _ => Nat.le_refl _, fun _ _ _ _ => Nat.zero_le _⟩
  | k + 1, p => by
    obtain ⟨a, b⟩ := nd_two h L k (p + 1)
    refine ⟨fun l l' h1 h2 => ?_, fun l l' h1 h2 => ?_⟩
    · rw [nd, nd]
      by_cases c1 : l' < h p
      · rw [if_pos c1, if_pos (by omega)]; exact Nat.le_refl _
      · rw [if_neg c1]
        by_cases c2 : l < h p
        · rw [if_pos c2]; exact b _ _ (by omega) (by omega)
        · rw [if_neg c2]; exact a _ _ (by omega) (by omega)
    · rw [nd, nd]
      by_cases c1 : l' < h p
      · rw [if_pos c1]
        by_cases c2 : l < h p
        · rw [if_pos c2]; omega
        · rw [if_neg c2]
          have := a (l - h p) (L - h p) (by omega) (by omega)
          omega
      · rw [if_neg c1]
        by_cases c2 : l < h p
        · rw [if_pos c2]
          have := b (L - h p) (l' - h p) (by omega) (by omega)
          omega
        · rw [if_neg c2]; exact b _ _ (by omega) (by omega)
theorem nd_L (h : Nat → Nat) {L L' : Nat} (hL : L ≤ L') : ∀ (k p l l' : Nat), l ≤ l' → l' ≤ L' → nd h L' k p l' ≤ nd h L k p l
  | 0, _, _, _, _, _ => Nat.le_refl _
  | k + 1, p, l, l', h1, h2 => by
    rw [nd, nd]
    by_cases c1 : l' < h p
    · rw [if_pos c1, if_pos (by omega)]
      have := nd_L h hL k (p + 1) (L - h p) (L' - h p) (by omega) (by omega)
      omega
    · rw [if_neg c1]
      by_cases c2 : l < h p
      · rw [if_pos c2]
        have e1 := (nd_two h L' k (p + 1)).2 (L' - h p) (l' - h p) (by omega) (by omega)
        have e2 := nd_L h hL k (p + 1) (L - h p) (L' - h p) (by omega) (by omega)
        omega
      · rw [if_neg c2]
        exact nd_L h hL k (p + 1) (l - h p) (l' - h p) (by omega) (by omega)
theorem nd_le (h : Nat → Nat) (L : Nat) : ∀ (k p l : Nat), nd h L k p l ≤ k
  | 0, _, _ => Nat.le_refl _
  | k + 1, p, l => by
    rw [nd]
    by_cases c : l < h p
    · rw [if_pos c]; have := nd_le h L k (p + 1) (L - h p); omega
    · rw [if_neg c]; have := nd_le h L k (p + 1) (l - h p); omega
theorem ndp_le (h : Nat → Nat) (L n p : Nat) : ndp h L n p ≤ n - p := nd_le h L _ _ _
theorem ndp_end (h : Nat → Nat) (L n : Nat) : ndp h L n n = 0 := by rw [ndp, Nat.sub_self]; rfl
theorem ndp_pos {h : Nat → Nat} {L n p : Nat} (hp : p < n) (h1 : 1 ≤ h p) : ndp h L n p = 1 + nd h L (n - (p + 1)) (p + 1) (L - h p) := by
  rw [ndp, show n - p = (n - (p + 1)) + 1 by omega, nd, if_pos (by omega)]
theorem mxh_le {h : Nat → Nat} : ∀ {n i : Nat}, i < n → h i ≤ mxh h n
  | 0, i, hi => absurd hi (Nat.not_lt_zero i)
  | n + 1, i, hi => by
    rw [mxh]
    by_cases c : mxh h n < h n
    · rw [if_pos c]
      by_cases e : i = n
      · rw [e]; exact Nat.le_refl _
      · have := mxh_le (h := h) (n := n) (i := i) (by omega); omega
    · rw [if_neg c]
      by_cases e : i = n
      · rw [e]; omega
      · exact mxh_le (h := h) (n := n) (i := i) (by omega)
theorem mxh_ub {h : Nat → Nat} {m : Nat} : ∀ {n : Nat}, (∀ i, i < n → h i ≤ m) → mxh h n ≤ m
  | 0, _ => Nat.zero_le _
  | n + 1, hm => by
    rw [mxh]
    have := mxh_ub (h := h) (m := m) (n := n) (fun i hi => hm i (by omega))
    have := hm n (Nat.lt_succ_self n)
    by_cases c : mxh h n < h n
    · rw [if_pos c]; exact this
    · rw [if_neg c]; omega
theorem lmf_spec {h : Nat → Nat} {n M lines : Nat} (hM : M = ndp h lines n 0) : ∀ (k l : Nat), l + k = lines → l ≤ lmf h n M k l ∧ lmf h n M k l ≤ lines ∧ ndp h (lmf h n M k l) n 0 ≤ M
  | 0, l, hl => by
    have : l = lines := by omega
    subst this
    exact ⟨Nat.le_refl _, Nat.le_refl _, by rw [hM]; exact Nat.le_refl _⟩
  | k + 1, l, hl => by
    rw [lmf]
    by_cases c : M < ndp h l n 0
    · rw [if_pos c]
      obtain ⟨a, b, d⟩ := lmf_spec hM k (l + 1) (by omega)
      exact ⟨by omega, b, d⟩
    · rw [if_neg c]
      exact ⟨Nat.le_refl _, by omega, by omega⟩
/-- the earliest end of a page from s on, with left pages behind it -/
theorem eef_spec {h : Nat → Nat} {L n s left : Nat} (hs : ndp h L n s = left + 1) : ∀ (k e l : Nat), e + k = n → s < e → l ≤ L → ndp h L n s = 1 + nd h L (n - e) e l → s < eef h L n left k e ∧ eef h L n left k e ≤ n ∧ ndp h L n (eef h L n left k e) = left
  | 0, e, l, he, hse, hl, hnd => by
    have : e = n := by omega
    subst this
    rw [Nat.sub_self] at hnd
    have e0 : nd h L 0 e l = 0 := rfl
    rw [e0] at hnd
    exact ⟨hse, Nat.le_refl _, by rw [eef, ndp_end]; omega⟩
  | k + 1, e, l, he, hse, hl, hnd => by
    rw [eef]
    have hen : n - e = (n - (e + 1)) + 1 := by omega
    by_cases c : left < ndp h L n e
    · rw [if_pos c]
      have c2 : ¬ l < h e := by
        intro c2
        rw [ndp, hen, nd] at c
        rw [hen, nd, if_pos c2] at hnd
        by_cases c3 : 0 < h e
        · rw [if_pos c3] at c; omega
        · omega
      rw [hen, nd, if_neg c2] at hnd
      exact eef_spec hs k (e + 1) (l - h e) (by omega) (by omega) (by omega) hnd
    · rw [if_neg c]
      have h1 := (nd_two h L (n - e) e).1 0 l (Nat.zero_le _) hl
      have h2 : nd h L (n - e) e 0 = ndp h L n e := rfl
      exact ⟨hse, by omega, by omega⟩
theorem pst_spec {h : Nat → Nat} {L n M : Nat} (hh : ∀ i, i < n → 1 ≤ h i ∧ h i ≤ L) (hM : ndp h L n 0 = M) : ∀ i, i ≤ M → pst h L n M i ≤ n ∧ ndp h L n (pst h L n M i) = M - i ∧ (i < M → pst h L n M i < pst h L n M (i + 1) ∧ pst h L n M (i + 1) ≤ n)
  | 0, _ => by
    refine ⟨Nat.zero_le _, hM, fun h0 => ?_⟩
    have hn : 0 < n := by
      rcases Nat.eq_zero_or_pos n with e | e
      · subst e; rw [ndp_end] at hM; omega
      · exact e
    have := eef_spec (left := M - 0 - 1) (show ndp h L n 0 = M - 0 - 1 + 1 by omega) (n - (0 + 1)) (0 + 1) (L - h 0) (by omega) (by omega) (by omega) (ndp_pos hn (hh 0 hn).1)
    exact ⟨this.1, this.2.1⟩
  | i + 1, hi => by
    obtain ⟨a, b, c⟩ := pst_spec hh hM i (by omega)
    have hp : pst h L n M i < n := by
      rcases Nat.lt_or_ge (pst h L n M i) n with e | e
      · exact e
      · have : pst h L n M i = n := by omega
        rw [this, ndp_end] at b
        omega
    have h1 := eef_spec (left := M - i - 1) (show ndp h L n (pst h L n M i) = M - i - 1 + 1 by omega) (n - (pst h L n M i + 1)) (pst h L n M i + 1) (L - h (pst h L n M i)) (by omega) (by omega) (by omega) (ndp_pos hp (hh _ hp).1)
    have h1 : pst h L n M i < pst h L n M (i + 1) ∧ pst h L n M (i + 1) ≤ n ∧ ndp h L n (pst h L n M (i + 1)) = M - i - 1 := h1
    refine ⟨h1.2.1, by rw [h1.2.2]; omega, fun h2 => ?_⟩
    have hp2 : pst h L n M (i + 1) < n := by
      rcases Nat.lt_or_ge (pst h L n M (i + 1)) n with e | e
      · exact e
      · have e2 : pst h L n M (i + 1) = n := by omega
        have e3 := h1.2.2
        rw [e2, ndp_end] at e3
        omega
    have h3 := eef_spec (left := M - (i + 1) - 1) (show ndp h L n (pst h L n M (i + 1)) = M - (i + 1) - 1 + 1 by omega) (n - (pst h L n M (i + 1) + 1)) (pst h L n M (i + 1) + 1) (L - h (pst h L n M (i + 1))) (by omega) (by omega) (by omega) (ndp_pos hp2 (hh _ hp2).1)
    exact ⟨h3.1, h3.2.1⟩
theorem pst_end {h : Nat → Nat} {L n M : Nat} (hh : ∀ i, i < n → 1 ≤ h i ∧ h i ≤ L) (hM : ndp h L n 0 = M) : pst h L n M M = n := by
  obtain ⟨a, b, -⟩ := pst_spec hh hM M (Nat.le_refl _)
  rcases Nat.lt_or_ge (pst h L n M M) n with e | e
  · rw [ndp_pos e (hh _ e).1] at b; omega
  · omega
/-! the pages of a version -/
def Hq (nq : Nat) (qd : Qd) (seed : Int32) (p : Nat) : Nat := qd (Od nq qd seed p) 0
def Pn (nq : Nat) (qd : Qd) (seed : Int32) (lines : Nat) : Nat := ndp (Hq nq qd seed) lines nq 0
def Lm (nq : Nat) (qd : Qd) (seed : Int32) (lines : Nat) : Nat := lmf (Hq nq qd seed) nq (Pn nq qd seed lines) (lines - mxh (Hq nq qd seed) nq) (mxh (Hq nq qd seed) nq)
def Ps (nq : Nat) (qd : Qd) (seed : Int32) (lines : Nat) : Nat → Nat := pst (Hq nq qd seed) (Lm nq qd seed lines) nq (Pn nq qd seed lines)
theorem Hq_in {nq : Nat} {qd : Qd} {seed : Int32} (hV : QV nq qd) {p : Nat} (hp : p < nq) : 1 ≤ Hq nq qd seed p ∧ Hq nq qd seed p ≤ 9 := by
  have := hV.2 _ ((Od_en nq qd seed).1 p hp)
  exact ⟨this.1, this.2.1⟩
theorem Lm_spec {nq : Nat} {qd : Qd} {seed : Int32} {lines : Nat} (hV : QV nq qd) (hl : 9 ≤ lines) : (∀ i, i < nq → 1 ≤ Hq nq qd seed i ∧ Hq nq qd seed i ≤ Lm nq qd seed lines) ∧ Lm nq qd seed lines ≤ lines ∧ ndp (Hq nq qd seed) (Lm nq qd seed lines) nq 0 = Pn nq qd seed lines := by
  have hm : mxh (Hq nq qd seed) nq ≤ 9 := mxh_ub (fun i hi => (Hq_in hV hi).2)
  obtain ⟨a, b, c⟩ := lmf_spec (h := Hq nq qd seed) (n := nq) (M := Pn nq qd seed lines) (lines := lines) rfl (lines - mxh (Hq nq qd seed) nq) (mxh (Hq nq qd seed) nq) (by omega)
  have a : mxh (Hq nq qd seed) nq ≤ Lm nq qd seed lines := a
  have b : Lm nq qd seed lines ≤ lines := b
  have c : ndp (Hq nq qd seed) (Lm nq qd seed lines) nq 0 ≤ Pn nq qd seed lines := c
  refine ⟨fun i hi => ⟨(Hq_in hV hi).1, Nat.le_trans (mxh_le hi) a⟩, b, Nat.le_antisymm c ?_⟩
  exact nd_L (Hq nq qd seed) b _ _ 0 0 (Nat.le_refl _) (Nat.zero_le _)
theorem Ps_spec {nq : Nat} {qd : Qd} {seed : Int32} {lines : Nat} (hV : QV nq qd) (hl : 9 ≤ lines) : (∀ i, i < Pn nq qd seed lines → Ps nq qd seed lines i < Ps nq qd seed lines (i + 1) ∧ Ps nq qd seed lines (i + 1) ≤ nq) ∧ Ps nq qd seed lines (Pn nq qd seed lines) = nq := by
  obtain ⟨a, b, c⟩ := Lm_spec (seed := seed) hV hl
  exact ⟨fun i hi => (pst_spec a c i (by omega)).2.2 hi, pst_end a c⟩
/-- the page of a place -/
theorem Ps_page {nq : Nat} {qd : Qd} {seed : Int32} {lines p : Nat} (hV : QV nq qd) (hl : 9 ≤ lines) (hp : p < nq) : ∃ i k, i < Pn nq qd seed lines ∧ k < Ps nq qd seed lines (i + 1) - Ps nq qd seed lines i ∧ p = Ps nq qd seed lines i + k := by
  obtain ⟨a, b⟩ := Ps_spec (seed := seed) hV hl
  have key : ∀ m, m ≤ Pn nq qd seed lines → p < Ps nq qd seed lines m → ∃ i, i < m ∧ Ps nq qd seed lines i ≤ p ∧ p < Ps nq qd seed lines (i + 1) := by
    intro m
    induction m with
    | zero => intro _ h; exact absurd h (Nat.not_lt_zero p)
    | succ m ih =>
      intro hm h
      rcases Nat.lt_or_ge p (Ps nq qd seed lines m) with h1 | h1
      · obtain ⟨i, h2, h3⟩ := ih (by omega) h1
        exact ⟨i, by omega, h3⟩
      · exact ⟨m, Nat.lt_succ_self m, h1, h⟩
  obtain ⟨i, h1, h2, h3⟩ := key _ (Nat.le_refl _) (by rw [b]; exact hp)
  exact ⟨i, p - Ps nq qd seed lines i, h1, by omega, by omega⟩
theorem Pn_le {nq : Nat} {qd : Qd} {seed : Int32} {lines : Nat} : Pn nq qd seed lines ≤ nq := Nat.le_trans (ndp_le _ _ _ _) (Nat.sub_le _ _)
theorem smh_le {h : Nat → Nat} {s : Nat} : ∀ {k : Nat}, (∀ i, i < k → h (s + i) ≤ 9) → smh h s k ≤ 9 * k
  | 0, _ => Nat.le_refl _
  | k + 1, hh => by
    have := smh_le (h := h) (s := s) (k := k) (fun i hi => hh i (by omega))
    have := hh k (Nat.lt_succ_self k)
    rw [smh]
    omega
end
section
/-! ===== the layout of a paper ===== -/
theorem z_max (a b : Nat) (ha : a < 1000) (hb : b < 1000) : (if nI a < nI b then nI b else nI a) = nI (if a < b then b else a) := by
  by_cases h : a < b
  · rw [if_pos h, if_pos (nI_lt h (by omega))]
  · rw [if_neg h, if_neg (nI_nlt (by omega) (by omega))]
theorem s_pagesFrom {I : ZI} {y n p0 Lq : Nat} {h : Nat → Nat} {x z : Int32} (hy : LyAt y) (hn : I y 5 = nI n) (hn20 : n ≤ 20) (hR : Rp (I (y + 1 + 1)) h n) (hx : x = nI p0) (hp0 : p0 ≤ n) (hz : z = nI Lq) (hL : Lq ≤ 60) (hh : ∀ i, i < n → h i ≤ Lq) : ZE yX1_pagesFrom cX1_pagesFrom 7 (some FieldType.int) 1 [.ref y, .int x, .int z] Sg I (some (.int (nI (ndp h Lq n p0)))) I := by
  have hy0 := hy.1
  have hy1 := hy.2.1.1
  subst hx
  subst hz
  refine ZSp.of (own := RX1) (L := [.ref y, .int (nI p0), .int (nI Lq), zj, zj, zj, zj]) mX1_pagesFrom rfl (List.all_eq_true.mp rfl) (Nat.le_of_ble_eq_true rfl) rfl (fun X hE hN => ?_)
  have loop : ∀ (k p l c : Nat), p + k = n → l ≤ Lq → c + nd h Lq (n - p) p l = ndp h Lq n p0 → (ZG X RX1 cX1_pagesFrom 7 1 0 0 0 0 8 [.ref y, .int (nI p0), .int (nI Lq), .int (nI c), .int (nI l), .int (nI p), zj] [] Sg I) := by
    intro k
    induction k with
    | zero =>
      intro p l c hp hl hc
      have e : p = n := by omega
      subst e
      rw [Nat.sub_self] at hc
      have e0 : nd h Lq 0 p l = 0 := rfl
      rw [e0] at hc
      refine z_iload dX1_pagesFrom_8 rfl ?_
      refine z_aload_n dX1_pagesFrom_10 rfl ?_
      refine z_getI fRX1_38 dX1_pagesFrom_11 (by first | assumption | rfl) (by rfl) ?_
      refine z_icmp_ge (tgt := 54) dX1_pagesFrom_14 (by decide) (fun _ => ?_) (fun hb => absurd (by rw [hn]; exact nI_le (Nat.le_refl _) (by omega)) hb)
      refine z_iload_n dX1_pagesFrom_54 rfl ?_
      exact z_eireturn hE dX1_pagesFrom_55 (by rw [← hc]; rfl) rfl
    | succ k ih =>
      intro p l c hp hl hc
      have hhp := hh p (by omega)
      have hcn : c ≤ ndp h Lq n p0 := by omega
      have hc20 := ndp_le h Lq n p0
      rw [show n - p = (n - (p + 1)) + 1 by omega, nd] at hc
      have join : ∀ (l' c' : Nat), h p ≤ l' → l' ≤ Lq → c' + nd h Lq (n - (p + 1)) (p + 1) (l' - h p) = ndp h Lq n p0 → (ZG X RX1 cX1_pagesFrom 7 1 0 0 0 0 41 [.ref y, .int (nI p0), .int (nI Lq), .int (nI c'), .int (nI l'), .int (nI p), .int (nI (h p))] [] Sg I) := by
        intro l' c' h1 h2 h3
        refine z_iload dX1_pagesFrom_41 rfl ?_
        refine z_iload dX1_pagesFrom_43 rfl ?_
        refine z_isub dX1_pagesFrom_45 ?_
        refine z_ist4 dX1_pagesFrom_46 (by decide) rfl ?_
        refine z_inc5 (w := 1) dX1_pagesFrom_48 rfl (by decide) rfl ?_
        refine z_goto (tgt := 8) dX1_pagesFrom_51 (by decide) ?_
        rw [pk_sub h1, nI_1]
        refine z_fg6 ?_
        exact ih (p + 1) (l' - h p) c' (by omega) (by omega) h3
      refine z_iload dX1_pagesFrom_8 rfl ?_
      refine z_aload_n dX1_pagesFrom_10 rfl ?_
      refine z_getI fRX1_38 dX1_pagesFrom_11 (by first | assumption | rfl) (by rfl) ?_
      refine z_icmp_ge (tgt := 54) dX1_pagesFrom_14 (by decide) (fun hb => absurd hb (by rw [hn]; exact nI_ge (by omega) (by omega))) (fun _ => ?_)
      refine z_aload_n dX1_pagesFrom_17 rfl ?_
      refine z_getR fRX1_14 dX1_pagesFrom_18 (by first | assumption | rfl) (by rfl) ?_
      refine z_iload dX1_pagesFrom_21 rfl ?_
      refine z_cV1s mX6_get gRX1_44 dX1_pagesFrom_23 (s_getN hy.2.1 rfl (show p < 20 by omega)) (by decide) (by first | assumption | rfl) (by rfl) (Nat.le_of_ble_eq_true rfl) (Nat.le_refl _) (Nat.le_refl _) ?_
      rw [hR p (by omega)]
      refine z_ist6 dX1_pagesFrom_26 (by decide) rfl ?_
      refine z_iload dX1_pagesFrom_28 rfl ?_
      refine z_iload dX1_pagesFrom_30 rfl ?_
      refine z_icmp_le (tgt := 41) dX1_pagesFrom_32 (by decide) (fun hb => ?_) (fun hb => ?_)
      · have hle : h p ≤ l := (nI_leI (by omega) (by omega)).mp hb
        rw [if_neg (by omega)] at hc
        exact join l c hle hl hc
      · have hlt : l < h p := by
          rcases Nat.lt_or_ge l (h p) with q | q
          · exact q
          · exact absurd (nI_le q (by omega)) hb
        rw [if_pos hlt] at hc
        refine z_inc3 (w := 1) dX1_pagesFrom_35 rfl (by decide) rfl ?_
        refine z_iload_n dX1_pagesFrom_38 rfl ?_
        refine z_ist4 dX1_pagesFrom_39 (by decide) rfl ?_
        rw [nI_1]
        exact join Lq (c + 1) hhp (Nat.le_refl _) (by omega)
  refine z_iconst (v := 0) dX1_pagesFrom_0 rfl ?_
  refine z_ist3 dX1_pagesFrom_1 (by decide) rfl ?_
  refine z_iconst (v := 0) dX1_pagesFrom_2 rfl ?_
  refine z_ist4 dX1_pagesFrom_3 (by decide) rfl ?_
  refine z_iload_n dX1_pagesFrom_5 rfl ?_
  refine z_ist5 dX1_pagesFrom_6 (by decide) rfl ?_
  exact loop (n - p0) p0 0 0 (by omega) (Nat.zero_le _) (by rw [Nat.zero_add]; rfl)
theorem s_lowestLimit {I : ZI} {y n M lines : Nat} {h : Nat → Nat} {x : Int32} (hy : LyAt y) (hn : I y 5 = nI n) (hn20 : n ≤ 20) (hR : Rp (I (y + 1 + 1)) h n) (hM : I y 6 = nI M) (hMd : M = ndp h lines n 0) (hx : x = nI lines) (hl9 : 9 ≤ lines) (hl60 : lines ≤ 60) (hh : ∀ i, i < n → h i ≤ 9) : ZE yX1_lowestLimit cX1_lowestLimit 4 (some FieldType.int) 2 [.ref y, .int x] Sg I (some (.int (nI (lmf h n M (lines - mxh h n) (mxh h n))))) I := by
  have hy0 := hy.1
  have hy1 := hy.2.1.1
  have hM20 : M ≤ n := by rw [hMd]; have := ndp_le h lines n 0; omega
  have hmx : mxh h n ≤ 9 := mxh_ub hh
  subst hx
  refine ZSp.of (own := RX1) (L := [.ref y, .int (nI lines), zj, zj]) mX1_lowestLimit rfl (List.all_eq_true.mp rfl) (Nat.le_of_ble_eq_true rfl) rfl (fun X hE hN => ?_)
  have loop2 : ∀ (k l : Nat), l + k = lines → mxh h n ≤ l → (ZG X RX1 cX1_lowestLimit 4 2 0 0 0 0 31 [.ref y, .int (nI lines), .int (nI l), .int (nI n)] [] Sg I) → True := fun _ _ _ _ _ => trivial
  have loop2 : ∀ (k l : Nat), l + k = lines → mxh h n ≤ l → lmf h n M k l = lmf h n M (lines - mxh h n) (mxh h n) → (ZG X RX1 cX1_lowestLimit 4 2 0 0 0 0 31 [.ref y, .int (nI lines), .int (nI l), .int (nI n)] [] Sg I) := by
    intro k
    induction k with
    | zero =>
      intro l hl hm hv
      have e : l = lines := by omega
      subst e
      refine z_iload_n dX1_lowestLimit_31 rfl ?_
      refine z_iload_n dX1_lowestLimit_32 rfl ?_
      refine z_icmp_ge (tgt := 55) dX1_lowestLimit_33 (by decide) (fun _ => ?_) (fun hb => absurd (nI_le (Nat.le_refl _) (by omega)) hb)
      refine z_iload_n dX1_lowestLimit_55 rfl ?_
      exact z_eireturn hE dX1_lowestLimit_56 (by rw [← hv]; rfl) rfl
    | succ k ih =>
      intro l hl hm hv
      have hnl := ndp_le h l n 0
      rw [lmf] at hv
      refine z_iload_n dX1_lowestLimit_31 rfl ?_
      refine z_iload_n dX1_lowestLimit_32 rfl ?_
      refine z_icmp_ge (tgt := 55) dX1_lowestLimit_33 (by decide) (fun hb => absurd hb (nI_ge (by omega) (by omega))) (fun _ => ?_)
      refine z_aload_n dX1_lowestLimit_36 rfl ?_
      refine z_iconst (v := 0) dX1_lowestLimit_37 rfl ?_
      refine z_iload_n dX1_lowestLimit_38 rfl ?_
      refine z_cV2s mX1_pagesFrom gRX1_58 dX1_lowestLimit_39 (s_pagesFrom hy hn hn20 hR (show (0 : Int32) = nI 0 from rfl) (Nat.zero_le n) rfl (by omega) (fun i hi => Nat.le_trans (mxh_le hi) hm)) (by decide) (by first | assumption | rfl) (by rfl) (Nat.le_of_ble_eq_true rfl) (Nat.le_refl _) (Nat.le_refl _) ?_
      refine z_aload_n dX1_lowestLimit_42 rfl ?_
      refine z_getI fRX1_61 dX1_lowestLimit_43 (by first | assumption | rfl) (by rfl) ?_
      rw [hM]
      refine z_icmp_le (tgt := 55) dX1_lowestLimit_46 (by decide) (fun hb => ?_) (fun hb => ?_)
      · refine z_iload_n dX1_lowestLimit_55 rfl ?_
        have hle : ndp h l n 0 ≤ M := (nI_leI (by omega) (by omega)).mp hb
        rw [if_neg (by omega)] at hv
        exact z_eireturn hE dX1_lowestLimit_56 (by rw [← hv]) rfl
      · have hlt : M < ndp h l n 0 := by
          rcases Nat.lt_or_ge M (ndp h l n 0) with q | q
          · exact q
          · exact absurd (nI_le q (by omega)) hb
        rw [if_pos hlt] at hv
        refine z_inc2 (w := 1) dX1_lowestLimit_49 rfl (by decide) rfl ?_
        refine z_goto (tgt := 31) dX1_lowestLimit_52 (by decide) ?_
        rw [nI_1]
        exact ih (l + 1) (by omega) (by omega) hv
  have loop1 : ∀ (k i : Nat), i + k = n → (ZG X RX1 cX1_lowestLimit 4 2 0 0 0 0 4 [.ref y, .int (nI lines), .int (nI (mxh h i)), .int (nI i)] [] Sg I) := by
    intro k
    induction k with
    | zero =>
      intro i hi
      have e : i = n := by omega
      subst e
      refine z_iload_n dX1_lowestLimit_4 rfl ?_
      refine z_aload_n dX1_lowestLimit_5 rfl ?_
      refine z_getI fRX1_38 dX1_lowestLimit_6 (by first | assumption | rfl) (by rfl) ?_
      refine z_icmp_ge (tgt := 31) dX1_lowestLimit_9 (by decide) (fun _ => ?_) (fun hb => absurd (by rw [hn]; exact nI_le (Nat.le_refl _) (by omega)) hb)
      exact loop2 (lines - mxh h i) (mxh h i) (by omega) (Nat.le_refl _) rfl
    | succ k ih =>
      intro i hi
      have hhi := hh i (by omega)
      have hmi : mxh h i ≤ 9 := mxh_ub (fun j hj => hh j (by omega))
      refine z_iload_n dX1_lowestLimit_4 rfl ?_
      refine z_aload_n dX1_lowestLimit_5 rfl ?_
      refine z_getI fRX1_38 dX1_lowestLimit_6 (by first | assumption | rfl) (by rfl) ?_
      refine z_icmp_ge (tgt := 31) dX1_lowestLimit_9 (by decide) (fun hb => absurd hb (by rw [hn]; exact nI_ge (by omega) (by omega))) (fun _ => ?_)
      refine z_iload_n dX1_lowestLimit_12 rfl ?_
      refine z_aload_n dX1_lowestLimit_13 rfl ?_
      refine z_getR fRX1_14 dX1_lowestLimit_14 (by first | assumption | rfl) (by rfl) ?_
      refine z_iload_n dX1_lowestLimit_17 rfl ?_
      refine z_cV1s mX6_get gRX1_44 dX1_lowestLimit_18 (s_getN hy.2.1 rfl (show i < 20 by omega)) (by decide) (by first | assumption | rfl) (by rfl) (Nat.le_of_ble_eq_true rfl) (Nat.le_refl _) (Nat.le_refl _) ?_
      rw [hR i (by omega)]
      refine z_mmax gRX1_75 j_max_static j_math_ini j_max_code dX1_lowestLimit_21 (by decide) (Nat.le_of_ble_eq_true rfl) (Nat.le_refl _) (Nat.le_refl _) ?_
      rw [z_max _ _ (by omega) (by omega)]
      refine z_ist2 dX1_lowestLimit_24 (by decide) rfl ?_
      refine z_inc3 (w := 1) dX1_lowestLimit_25 rfl (by decide) rfl ?_
      refine z_goto (tgt := 4) dX1_lowestLimit_28 (by decide) ?_
      rw [nI_1]
      exact ih (i + 1) (by omega)
  refine z_iconst (v := 0) dX1_lowestLimit_0 rfl ?_
  refine z_ist2 dX1_lowestLimit_1 (by decide) rfl ?_
  refine z_iconst (v := 0) dX1_lowestLimit_2 rfl ?_
  refine z_ist3 dX1_lowestLimit_3 (by decide) rfl ?_
  exact loop1 n 0 (by omega)
theorem s_earliestEnd {I : ZI} {y n s left Lq : Nat} {h : Nat → Nat} {x z u : Int32} (hy : LyAt y) (hn : I y 5 = nI n) (hn20 : n ≤ 20) (hR : Rp (I (y + 1 + 1)) h n) (hx : x = nI s) (hs : s < n) (hz : z = nI left) (hleft : left ≤ 20) (hu : u = nI Lq) (hL : Lq ≤ 60) (hh : ∀ i, i < n → h i ≤ Lq) : ZE yX1_earliestEnd cX1_earliestEnd 5 (some FieldType.int) 2 [.ref y, .int x, .int z, .int u] Sg I (some (.int (nI (eef h Lq n left (n - (s + 1)) (s + 1))))) I := by
  have hy0 := hy.1
  subst hx
  subst hz
  subst hu
  refine ZSp.of (own := RX1) (L := [.ref y, .int (nI s), .int (nI left), .int (nI Lq), zj]) mX1_earliestEnd rfl (List.all_eq_true.mp rfl) (Nat.le_of_ble_eq_true rfl) rfl (fun X hE hN => ?_)
  have loop : ∀ (k e : Nat), e + k = n → eef h Lq n left k e = eef h Lq n left (n - (s + 1)) (s + 1) → (ZG X RX1 cX1_earliestEnd 5 2 0 0 0 0 5 [.ref y, .int (nI s), .int (nI left), .int (nI Lq), .int (nI e)] [] Sg I) := by
    intro k
    induction k with
    | zero =>
      intro e he hv
      have e1 : e = n := by omega
      subst e1
      refine z_iload dX1_earliestEnd_5 rfl ?_
      refine z_aload_n dX1_earliestEnd_7 rfl ?_
      refine z_getI fRX1_38 dX1_earliestEnd_8 (by first | assumption | rfl) (by rfl) ?_
      refine z_icmp_ge (tgt := 31) dX1_earliestEnd_11 (by decide) (fun _ => ?_) (fun hb => absurd (by rw [hn]; exact nI_le (Nat.le_refl _) (by omega)) hb)
      refine z_iload dX1_earliestEnd_31 rfl ?_
      exact z_eireturn hE dX1_earliestEnd_33 (by rw [← hv]; rfl) rfl
    | succ k ih =>
      intro e he hv
      have hnl := ndp_le h Lq n e
      rw [eef] at hv
      refine z_iload dX1_earliestEnd_5 rfl ?_
      refine z_aload_n dX1_earliestEnd_7 rfl ?_
      refine z_getI fRX1_38 dX1_earliestEnd_8 (by first | assumption | rfl) (by rfl) ?_
      refine z_icmp_ge (tgt := 31) dX1_earliestEnd_11 (by decide) (fun hb => absurd hb (by rw [hn]; exact nI_ge (by omega) (by omega))) (fun _ => ?_)
      refine z_aload_n dX1_earliestEnd_14 rfl ?_
      refine z_iload dX1_earliestEnd_15 rfl ?_
      refine z_iload_n dX1_earliestEnd_17 rfl ?_
      refine z_cV2s mX1_pagesFrom gRX1_58 dX1_earliestEnd_18 (s_pagesFrom hy hn hn20 hR rfl (show e ≤ n by omega) rfl hL hh) (by decide) (by first | assumption | rfl) (by rfl) (Nat.le_of_ble_eq_true rfl) (Nat.le_refl _) (Nat.le_refl _) ?_
      refine z_iload_n dX1_earliestEnd_21 rfl ?_
      refine z_icmp_le (tgt := 31) dX1_earliestEnd_22 (by decide) (fun hb => ?_) (fun hb => ?_)
      · refine z_iload dX1_earliestEnd_31 rfl ?_
        have hle : ndp h Lq n e ≤ left := (nI_leI (by omega) (by omega)).mp hb
        rw [if_neg (by omega)] at hv
        exact z_eireturn hE dX1_earliestEnd_33 (by rw [← hv]) rfl
      · have hlt : left < ndp h Lq n e := by
          rcases Nat.lt_or_ge left (ndp h Lq n e) with q | q
          · exact q
          · exact absurd (nI_le q (by omega)) hb
        rw [if_pos hlt] at hv
        refine z_inc4 (w := 1) dX1_earliestEnd_25 rfl (by decide) rfl ?_
        refine z_goto (tgt := 5) dX1_earliestEnd_28 (by decide) ?_
        rw [nI_1]
        exact ih (e + 1) (by omega) hv
  refine z_iload_n dX1_earliestEnd_0 rfl ?_
  refine z_iconst (v := 1) dX1_earliestEnd_1 rfl ?_
  refine z_iadd dX1_earliestEnd_2 ?_
  refine z_ist4 dX1_earliestEnd_3 (by decide) rfl ?_
  rw [nI_1]
  exact loop (n - (s + 1)) (s + 1) (by omega) rfl
theorem s_fill {I : ZI} {y n s e i : Nat} {h : Nat → Nat} {x z u : Int32} (hy : LyAt y) (hn20 : n ≤ 20) (hR : Rp (I (y + 1 + 1)) h n) (hx : x = nI i) (hi : i < 20) (hz : z = nI s) (hu : u = nI e) (hse : s ≤ e) (hen : e ≤ n) :
    ZP yX1_fill cX1_fill 6 none 1 [.ref y, .int x, .int z, .int u] Sg I (fun r J => r = none ∧ (∀ a, a ≠ y + 3 + 1 → a ≠ y + 5 + 1 → a ≠ y + 7 + 1 → a ≠ y + 9 + 1 → J a = I a) ∧ (∀ k, k < e - s → J (y + 3 + 1) (s + k) = nI i) ∧ (∀ p, (p < s ∨ e ≤ p) → J (y + 3 + 1) p = I (y + 3 + 1) p) ∧ (∀ k, k < e - s → J (y + 5 + 1) (s + k) = nI (smh h s k)) ∧ (∀ p, (p < s ∨ e ≤ p) → J (y + 5 + 1) p = I (y + 5 + 1) p)
      ∧ J (y + 7 + 1) = upd (I (y + 7 + 1)) i (nI (e - s)) ∧ J (y + 9 + 1) = upd (I (y + 9 + 1)) i (nI (smh h s (e - s)))) := by
  obtain ⟨hy0, hy1, hy2, hy3, hy4, hy5⟩ := hy
  have g1 := hy1.1
  have g2 := hy2.1
  have g3 := hy3.1
  have g4 := hy4.1
  have g5 := hy5.1
  subst hx
  subst hz
  subst hu
  refine ZSp.of (own := RX1) (L := [.ref y, .int (nI i), .int (nI s), .int (nI e), zj, zj]) mX1_fill rfl (List.all_eq_true.mp rfl) (Nat.le_of_ble_eq_true rfl) rfl (fun X hE hN => ?_)
  have loop : ∀ (m k : Nat) (J : ZI), s + k + m = e → (∀ a, a ≠ y + 3 + 1 → a ≠ y + 5 + 1 → J a = I a) → (∀ j, j < k → J (y + 3 + 1) (s + j) = nI i) → (∀ p, (p < s ∨ s + k ≤ p) → J (y + 3 + 1) p = I (y + 3 + 1) p) → (∀ j, j < k → J (y + 5 + 1) (s + j) = nI (smh h s j)) → (∀ p, (p < s ∨ s + k ≤ p) → J (y + 5 + 1) p = I (y + 5 + 1) p) → (ZG X RX1 cX1_fill 6 1 0 0 0 0 6 [.ref y, .int (nI i), .int (nI s), .int (nI e), .int (nI (smh h s k)), .int (nI (s + k))] [] Sg J) := by
    intro m
    induction m with
    | zero =>
      intro k J hk a1 a2 a3 a4 a5
      have e1 : s + k = e := by omega
      have e2 : k = e - s := by omega
      refine z_iload dX1_fill_6 rfl ?_
      refine z_iload_n dX1_fill_8 rfl ?_
      refine z_icmp_ge (tgt := 53) dX1_fill_9 (by decide) (fun _ => ?_) (fun hb => absurd (nI_le (by omega) (by omega)) hb)
      refine z_aload_n dX1_fill_53 rfl ?_
      refine z_getR fRX1_26 dX1_fill_54 (by first | assumption | rfl) (by rfl) ?_
      refine z_iload_n dX1_fill_57 rfl ?_
      refine z_iload_n dX1_fill_58 rfl ?_
      refine z_iload_n dX1_fill_59 rfl ?_
      refine z_isub dX1_fill_60 ?_
      refine z_cV2n mX6_set gRX1_54 dX1_fill_61 (s_setN hy4 rfl hi) (by decide) (by first | assumption | rfl) (by rfl) (Nat.le_of_ble_eq_true rfl) (Nat.le_refl _) (Nat.le_refl _) ?_
      refine z_aload_n dX1_fill_64 rfl ?_
      refine z_getR fRX1_29 dX1_fill_65 (by first | assumption | rfl) (by rfl) ?_
      refine z_iload_n dX1_fill_68 rfl ?_
      refine z_iload dX1_fill_69 rfl ?_
      refine z_cV2n mX6_set gRX1_54 dX1_fill_71 (s_setN hy5 rfl hi) (by decide) (by first | assumption | rfl) (by rfl) (Nat.le_of_ble_eq_true rfl) (Nat.le_refl _) (Nat.le_refl _) ?_
      have n78 : y + 7 + 1 ≠ y + 9 + 1 := by omega
      exact z_vret hE dX1_fill_74 ⟨rfl, rfl, fun a h1 h2 h3 h4 => by rw [zup_ne _ _ _ h4, zup_ne _ _ _ h3, a1 a h1 h2], fun j hj => by rw [zup_ne _ _ _ (by omega), zup_ne _ _ _ (by omega), a2 j (by omega)], fun p hp => by rw [zup_ne _ _ _ (by omega), zup_ne _ _ _ (by omega), a3 p (by omega)], fun j hj => by rw [zup_ne _ _ _ (by omega), zup_ne _ _ _ (by omega), a4 j (by omega)], fun p hp => by rw [zup_ne _ _ _ (by omega), zup_ne _ _ _ (by omega), a5 p (by omega)], by rw [zup_ne _ _ _ n78, zup_at, a1 _ (by omega) (by omega), pk_sub hse], by rw [zup_at, zup_ne _ _ _ n78.symm, a1 _ (by omega) (by omega), e2]⟩
    | succ m ih =>
      intro k J hk a1 a2 a3 a4 a5
      have n35 : y + 3 + 1 ≠ y + 5 + 1 := by omega
      refine z_iload dX1_fill_6 rfl ?_
      refine z_iload_n dX1_fill_8 rfl ?_
      refine z_icmp_ge (tgt := 53) dX1_fill_9 (by decide) (fun hb => absurd hb (nI_ge (by omega) (by omega))) (fun _ => ?_)
      refine z_aload_n dX1_fill_12 rfl ?_
      refine z_getR fRX1_20 dX1_fill_13 (by first | assumption | rfl) (by rfl) ?_
      refine z_iload dX1_fill_16 rfl ?_
      refine z_iload_n dX1_fill_18 rfl ?_
      refine z_cV2n mX6_set gRX1_54 dX1_fill_19 (s_setN hy2 rfl (show s + k < 20 by omega)) (by decide) (by first | assumption | rfl) (by rfl) (Nat.le_of_ble_eq_true rfl) (Nat.le_refl _) (Nat.le_refl _) ?_
      refine z_aload_n dX1_fill_22 rfl ?_
      refine z_getR fRX1_23 dX1_fill_23 (by first | assumption | rfl) (by rfl) ?_
      refine z_iload dX1_fill_26 rfl ?_
      refine z_iload dX1_fill_28 rfl ?_
      refine z_cV2n mX6_set gRX1_54 dX1_fill_30 (s_setN hy3 rfl (show s + k < 20 by omega)) (by decide) (by first | assumption | rfl) (by rfl) (Nat.le_of_ble_eq_true rfl) (Nat.le_refl _) (Nat.le_refl _) ?_
      refine z_iload dX1_fill_33 rfl ?_
      refine z_aload_n dX1_fill_35 rfl ?_
      refine z_getR fRX1_14 dX1_fill_36 (by first | assumption | rfl) (by rfl) ?_
      refine z_iload dX1_fill_39 rfl ?_
      refine z_cV1s mX6_get gRX1_44 dX1_fill_41 (s_getN hy1 rfl (show s + k < 20 by omega)) (by decide) (by first | assumption | rfl) (by rfl) (Nat.le_of_ble_eq_true rfl) (Nat.le_refl _) (Nat.le_refl _) ?_
      rw [zup_ne _ _ _ (show y + 1 + 1 ≠ y + 5 + 1 by omega), zup_ne _ _ _ (show y + 1 + 1 ≠ y + 3 + 1 by omega), a1 (y + 1 + 1) (by omega) (by omega), hR (s + k) (by omega)]
      refine z_iadd dX1_fill_44 ?_
      refine z_ist4 dX1_fill_45 (by decide) rfl ?_
      refine z_inc5 (w := 1) dX1_fill_47 rfl (by decide) rfl ?_
      refine z_goto (tgt := 6) dX1_fill_50 (by decide) ?_
      rw [nI_add, nI_1]
      refine ih (k + 1) _ (by omega) (fun a h1 h2 => ?_) (fun j hj => ?_) (fun p hp => ?_) (fun j hj => ?_) (fun p hp => ?_)
      · rw [zup_ne _ _ _ h2, zup_ne _ _ _ h1, a1 a h1 h2]
      · rw [zup_ne _ _ _ n35, zup_at]
        by_cases hjk : j = k
        · rw [hjk, upd_at]
        · rw [upd_ne _ _ (by omega), a2 j (by omega)]
      · rw [zup_ne _ _ _ n35, zup_at, upd_ne _ _ (by omega), a3 p (by omega)]
      · rw [zup_at]
        by_cases hjk : j = k
        · rw [hjk, upd_at]
        · rw [upd_ne _ _ (by omega), zup_ne _ _ _ n35.symm, a4 j (by omega)]
      · rw [zup_at, upd_ne _ _ (by omega), zup_ne _ _ _ n35.symm, a5 p (by omega)]
  refine z_iconst (v := 0) dX1_fill_0 rfl ?_
  refine z_ist4 dX1_fill_1 (by decide) rfl ?_
  refine z_iload_n dX1_fill_3 rfl ?_
  refine z_ist5 dX1_fill_4 (by decide) rfl ?_
  exact loop (e - s) 0 I (by omega) (fun _ _ _ => rfl) (fun j hj => absurd hj (Nat.not_lt_zero j)) (fun _ _ => rfl) (fun j hj => absurd hj (Nat.not_lt_zero j)) (fun _ _ => rfl)
/-- a layout is that of the version of the seed, with pages of so many lines -/
def Ly (I : ZI) (y nq : Nat) (qd : Qd) (seed : Int32) (lines : Nat) : Prop := I y 6 = nI (Pn nq qd seed lines) ∧ ∀ i, i < Pn nq qd seed lines → I (y + 7 + 1) i = nI (Ps nq qd seed lines (i + 1) - Ps nq qd seed lines i) ∧ I (y + 9 + 1) i = nI (smh (Hq nq qd seed) (Ps nq qd seed lines i) (Ps nq qd seed lines (i + 1) - Ps nq qd seed lines i)) ∧ ∀ k, k < Ps nq qd seed lines (i + 1) - Ps nq qd seed lines i → I (y + 3 + 1) (Ps nq qd seed lines i + k) = nI i ∧ I (y + 5 + 1) (Ps nq qd seed lines i + k) = nI (smh (Hq nq qd seed) (Ps nq qd seed lines i) k)
theorem s_lay {I : ZI} {p nq lines : Nat} {qd : Qd} {seed x : Int32} (hQ : Qs I 2 nq qd) (hV : QV nq qd) (hp : PpAt p) (hp2 : 113 < p) (hP : Pm I p nq qd seed) (hx : x = nI lines) (hl9 : 9 ≤ lines) (hl60 : lines ≤ 60) :
    ZP yX1_lay cX1_lay 8 none 3 [.ref (p + 9), .ref 2, .ref p, .int x] Sg I (fun r J => r = none ∧ (∀ a, a ≠ p + 9 → a ≠ p + 9 + 1 + 1 → a ≠ p + 9 + 3 + 1 → a ≠ p + 9 + 5 + 1 → a ≠ p + 9 + 7 + 1 → a ≠ p + 9 + 9 + 1 → J a = I a) ∧ Ly J (p + 9) nq qd seed lines) := by
  have hn := hV.1
  have hp0 := hp.1
  have hp1 := hp.2.1.1
  have hy := hp.2.2.2.2.2
  have hy0 := hy.1
  have hy1 := hy.2.1.1
  have hq1 := at_q.1
  obtain ⟨L1, L2, L3⟩ := Lm_spec (seed := seed) hV hl9
  have hMn := Pn_le (nq := nq) (qd := qd) (seed := seed) (lines := lines)
  have hPs := Ps_spec (seed := seed) hV hl9
  have hPsn : ∀ i, Ps nq qd seed lines (i + 1) = eef (Hq nq qd seed) (Lm nq qd seed lines) nq (Pn nq qd seed lines - i - 1) (nq - (Ps nq qd seed lines i + 1)) (Ps nq qd seed lines i + 1) := fun _ => rfl
  subst hx
  refine ZSp.of (own := RX1) (L := [.ref (p + 9), .ref 2, .ref p, .int (nI lines), zj, zj, zj, zj]) mX1_lay rfl (List.all_eq_true.mp rfl) (Nat.le_of_ble_eq_true rfl) rfl (fun X hE hN => ?_)
  have loop2 : ∀ (m i : Nat) (t : Value) (J : ZI), i + m = Pn nq qd seed lines → (∀ a, a ≠ p + 9 → a ≠ p + 9 + 1 + 1 → a ≠ p + 9 + 3 + 1 → a ≠ p + 9 + 5 + 1 → a ≠ p + 9 + 7 + 1 → a ≠ p + 9 + 9 + 1 → J a = I a) → J (p + 9) 5 = nI nq → J (p + 9) 6 = nI (Pn nq qd seed lines) → Rp (J (p + 9 + 1 + 1)) (Hq nq qd seed) nq
      → (∀ j, j < i → J (p + 9 + 7 + 1) j = nI (Ps nq qd seed lines (j + 1) - Ps nq qd seed lines j) ∧ J (p + 9 + 9 + 1) j = nI (smh (Hq nq qd seed) (Ps nq qd seed lines j) (Ps nq qd seed lines (j + 1) - Ps nq qd seed lines j)) ∧ ∀ k, k < Ps nq qd seed lines (j + 1) - Ps nq qd seed lines j → J (p + 9 + 3 + 1) (Ps nq qd seed lines j + k) = nI j ∧ J (p + 9 + 5 + 1) (Ps nq qd seed lines j + k) = nI (smh (Hq nq qd seed) (Ps nq qd seed lines j) k))
      → (∀ j, j < i → Ps nq qd seed lines (j + 1) ≤ Ps nq qd seed lines i) → (ZG X RX1 cX1_lay 8 3 0 0 0 0 72 [.ref (p + 9), .ref 2, .ref p, .int (nI lines), .int (nI (Lm nq qd seed lines)), .int (nI (Ps nq qd seed lines i)), .int (nI i), zj] [] Sg J) := by
    intro m
    induction m with
    | zero =>
      intro i t J hi a1 a2 a3 a4 a5 a6
      have e : i = Pn nq qd seed lines := by omega
      refine z_iload dX1_lay_72 rfl ?_
      refine z_aload_n dX1_lay_74 rfl ?_
      refine z_getI fRX1_61 dX1_lay_75 (by first | assumption | rfl) (by rfl) ?_
      refine z_icmp_ge (tgt := 120) dX1_lay_78 (by decide) (fun _ => ?_) (fun hb => absurd (by rw [a3]; exact nI_le (by omega) (by omega)) hb)
      exact z_vret hE dX1_lay_120 ⟨rfl, rfl, a1, a3, fun j hj => a5 j (by omega)⟩
    | succ m ih =>
      intro i t J hi a1 a2 a3 a4 a5 a6
      have hpi := hPs.1 i (by omega)
      refine z_iload dX1_lay_72 rfl ?_
      refine z_aload_n dX1_lay_74 rfl ?_
      refine z_getI fRX1_61 dX1_lay_75 (by first | assumption | rfl) (by rfl) ?_
      refine z_icmp_ge (tgt := 120) dX1_lay_78 (by decide) (fun hb => absurd hb (by rw [a3]; exact nI_ge (by omega) (by omega))) (fun _ => ?_)
      refine z_aload_n dX1_lay_81 rfl ?_
      refine z_iload dX1_lay_82 rfl ?_
      refine z_aload_n dX1_lay_84 rfl ?_
      refine z_getI fRX1_61 dX1_lay_85 (by first | assumption | rfl) (by rfl) ?_
      refine z_iload dX1_lay_88 rfl ?_
      refine z_isub dX1_lay_90 ?_
      refine z_iconst (v := 1) dX1_lay_91 rfl ?_
      refine z_isub dX1_lay_92 ?_
      refine z_iload dX1_lay_93 rfl ?_
      rw [a3, show nI (Pn nq qd seed lines) - nI i - 1 = nI (Pn nq qd seed lines - i - 1) by rw [pk_sub (by omega)]; exact pk_sub (b := 1) (by omega)]
      refine z_cV3s mX1_earliestEnd gRX1_67 dX1_lay_95 (s_earliestEnd hy a2 hn a4 rfl (by omega) rfl (by omega) rfl (by omega) (fun j hj => (L1 j hj).2)) (by decide) (by first | assumption | rfl) (by rfl) (Nat.le_of_ble_eq_true rfl) (Nat.le_refl _) (Nat.le_refl _) ?_
      rw [← hPsn i]
      refine z_ist7 dX1_lay_98 (by decide) rfl ?_
      refine z_aload_n dX1_lay_100 rfl ?_
      refine z_iload dX1_lay_101 rfl ?_
      refine z_iload dX1_lay_103 rfl ?_
      refine z_iload dX1_lay_105 rfl ?_
      refine z_cV3p mX1_fill gRX1_71 dX1_lay_107 (s_fill (h := Hq nq qd seed) hy hn a4 rfl (show i < 20 by omega) rfl rfl (Nat.le_of_lt hpi.1) hpi.2) (by decide) (by first | assumption | rfl) (by rfl) (Nat.le_of_ble_eq_true rfl) (Nat.le_refl _) (Nat.le_refl _) (fun r J hq => ?_)
      obtain ⟨rfl, b1, b2, b3, b4, b5, b6, b7⟩ := hq
      refine z_iload dX1_lay_110 rfl ?_
      refine z_ist5 dX1_lay_112 (by decide) rfl ?_
      refine z_inc6 (w := 1) dX1_lay_114 rfl (by decide) rfl ?_
      refine z_goto (tgt := 72) dX1_lay_117 (by decide) ?_
      rw [nI_1]
      refine z_fg7 ?_
      refine ih (i + 1) t _ (by omega) (fun a h1 h2 h3 h4 h5 h6 => ?_) ?_ ?_ ?_ (fun j hj => ?_) (fun j hj => ?_)
      · rw [b1 a h3 h4 h5 h6, a1 a h1 h2 h3 h4 h5 h6]
      · rw [b1 _ (by omega) (by omega) (by omega) (by omega), a2]
      · rw [b1 _ (by omega) (by omega) (by omega) (by omega), a3]
      · rw [b1 _ (by omega) (by omega) (by omega) (by omega)]; exact a4
      · by_cases hji : j = i
        · subst hji
          rw [b6, b7, upd_at, upd_at]
          exact ⟨rfl, rfl, fun k hk => ⟨b2 k hk, b4 k hk⟩⟩
        · obtain ⟨c1, c2, c3⟩ := a5 j (by omega)
          have c4 := a6 j (by omega)
          rw [b6, b7, upd_ne _ _ hji, upd_ne _ _ hji]
          refine ⟨c1, c2, fun k hk => ?_⟩
          rw [b3 _ (by omega), b5 _ (by omega)]
          exact c3 k hk
      · by_cases hji : j = i
        · rw [hji]; exact Nat.le_refl _
        · have := a6 j (by omega)
          omega
  have loop1 : ∀ (m k : Nat) (J : ZI), k + m = nq → (∀ a, a ≠ p + 9 → a ≠ p + 9 + 1 + 1 → J a = I a) → J (p + 9) 5 = nI nq → (∀ j, j < k → J (p + 9 + 1 + 1) j = nI (Hq nq qd seed j)) → (ZG X RX1 cX1_lay 8 3 0 0 0 0 11 [.ref (p + 9), .ref 2, .ref p, .int (nI lines), .int (nI k), zj, zj, zj] [] Sg J) := by
    intro m
    induction m with
    | zero =>
      intro k J hk a1 a2 a3
      have e : k = nq := by omega
      subst e
      refine z_iload dX1_lay_11 rfl ?_
      refine z_aload_n dX1_lay_13 rfl ?_
      refine z_getI fRX1_38 dX1_lay_14 (by first | assumption | rfl) (by rfl) ?_
      refine z_icmp_ge (tgt := 49) dX1_lay_17 (by decide) (fun _ => ?_) (fun hb => absurd (by rw [a2]; exact nI_le (Nat.le_refl _) (by omega)) hb)
      refine z_aload_n dX1_lay_49 rfl ?_
      refine z_aload_n dX1_lay_50 rfl ?_
      refine z_iconst (v := 0) dX1_lay_51 rfl ?_
      refine z_iload_n dX1_lay_52 rfl ?_
      refine z_cV2s mX1_pagesFrom gRX1_58 dX1_lay_53 (s_pagesFrom (h := Hq k qd seed) hy a2 hn a3 (show (0 : Int32) = nI 0 from rfl) (Nat.zero_le k) rfl hl60 (fun i hi => Nat.le_trans (L1 i hi).2 L2)) (by decide) (by first | assumption | rfl) (by rfl) (Nat.le_of_ble_eq_true rfl) (Nat.le_refl _) (Nat.le_refl _) ?_
      refine z_putI fRX1_61 dX1_lay_56 (by first | assumption | rfl) (by rfl) ?_
      refine z_aload_n dX1_lay_59 rfl ?_
      refine z_iload_n dX1_lay_60 rfl ?_
      have c1 : zup J (p + 9) 6 (nI (ndp (Hq k qd seed) lines k 0)) (p + 9) 5 = nI k := by rw [zup_at, upd_ne _ _ (by decide)]; exact a2
      have c2 : Rp (zup J (p + 9) 6 (nI (ndp (Hq k qd seed) lines k 0)) (p + 9 + 1 + 1)) (Hq k qd seed) k := by rw [zup_ne _ _ _ (by omega)]; exact a3
      have c3 : zup J (p + 9) 6 (nI (ndp (Hq k qd seed) lines k 0)) (p + 9) 6 = nI (Pn k qd seed lines) := by rw [zup_at, upd_at]; rfl
      refine z_cV1s mX1_lowestLimit gRX1_64 dX1_lay_61 (s_lowestLimit hy c1 hn c2 c3 rfl rfl hl9 hl60 (fun i hi => (Hq_in hV hi).2)) (by decide) (by first | assumption | rfl) (by rfl) (Nat.le_of_ble_eq_true rfl) (Nat.le_refl _) (Nat.le_refl _) ?_
      refine z_ist4 dX1_lay_64 (by decide) rfl ?_
      refine z_iconst (v := 0) dX1_lay_66 rfl ?_
      refine z_ist5 dX1_lay_67 (by decide) rfl ?_
      refine z_iconst (v := 0) dX1_lay_69 rfl ?_
      refine z_ist6 dX1_lay_70 (by decide) rfl ?_
      exact loop2 (Pn k qd seed lines) 0 zj _ (by omega) (fun a h1 h2 h3 h4 h5 h6 => by rw [zup_ne _ _ _ h1, a1 a h1 h2]) c1 c3 c2 (fun j hj => absurd hj (Nat.not_lt_zero j)) (fun j hj => absurd hj (Nat.not_lt_zero j))
    | succ m ih =>
      intro k J hk a1 a2 a3
      have hQJ : Qs J 2 nq qd := hQ.keep (a1 _ (by omega) (by omega)) (a1 _ (by omega) (by omega))
      have hO := (Od_en nq qd seed).1 k (by omega)
      refine z_iload dX1_lay_11 rfl ?_
      refine z_aload_n dX1_lay_13 rfl ?_
      refine z_getI fRX1_38 dX1_lay_14 (by first | assumption | rfl) (by rfl) ?_
      refine z_icmp_ge (tgt := 49) dX1_lay_17 (by decide) (fun hb => absurd hb (by rw [a2]; exact nI_ge (by omega) (by omega))) (fun _ => ?_)
      refine z_aload_n dX1_lay_20 rfl ?_
      refine z_getR fRX1_14 dX1_lay_21 (by first | assumption | rfl) (by rfl) ?_
      refine z_iload dX1_lay_24 rfl ?_
      refine z_aload_n dX1_lay_26 rfl ?_
      refine z_aload_n dX1_lay_27 rfl ?_
      refine z_getR fRX1_41 dX1_lay_28 (by first | assumption | rfl) (by rfl) ?_
      refine z_iload dX1_lay_31 rfl ?_
      refine z_cV1s mX6_get gRX1_44 dX1_lay_33 (s_getN hp.2.1 rfl (show k < 20 by omega)) (by decide) (by first | assumption | rfl) (by rfl) (Nat.le_of_ble_eq_true rfl) (Nat.le_refl _) (Nat.le_refl _) ?_
      rw [a1 (p + 1 + 1) (by omega) (by omega), hP.2.1 k (by omega)]
      refine z_iconst (v := 0) dX1_lay_36 rfl ?_
      refine z_cV2s mX5_number gRX1_48 dX1_lay_37 (s_number at_q hQJ hn rfl (show (0 : Int32) = nI 0 from rfl) hO (by decide)) (by decide) (by first | assumption | rfl) (by rfl) (Nat.le_of_ble_eq_true rfl) (Nat.le_refl _) (Nat.le_refl _) ?_
      refine z_cV2n mX6_set gRX1_54 dX1_lay_40 (s_setN hy.2.1 rfl (show k < 20 by omega)) (by decide) (by first | assumption | rfl) (by rfl) (Nat.le_of_ble_eq_true rfl) (Nat.le_refl _) (Nat.le_refl _) ?_
      refine z_inc4 (w := 1) dX1_lay_43 rfl (by decide) rfl ?_
      refine z_goto (tgt := 11) dX1_lay_46 (by decide) ?_
      rw [nI_1]
      refine ih (k + 1) _ (by omega) (fun a h1 h2 => ?_) ?_ (fun j hj => ?_)
      · rw [zup_ne _ _ _ h2, a1 a h1 h2]
      · rw [zup_ne _ _ _ (by omega), a2]
      · rw [zup_at]
        by_cases hjk : j = k
        · rw [hjk, upd_at]; rfl
        · rw [upd_ne _ _ hjk, a3 j (by omega)]
  refine z_aload_n dX1_lay_0 rfl ?_
  refine z_aload_n dX1_lay_1 rfl ?_
  refine z_getI fRX1_32 dX1_lay_2 (by first | assumption | rfl) (by rfl) ?_
  refine z_putI fRX1_38 dX1_lay_5 (by first | assumption | rfl) (by rfl) ?_
  refine z_iconst (v := 0) dX1_lay_8 rfl ?_
  refine z_ist4 dX1_lay_9 (by decide) rfl ?_
  rw [hP.1]
  exact loop1 nq 0 _ (by omega) (fun a h1 _ => zup_ne _ _ _ h1) (by rw [zup_at, upd_at]) (fun j hj => absurd hj (Nat.not_lt_zero j))
end
section
/-! ===== sheets ===== -/
theorem z_twenty (i w : Nat) : nI i * 20 + nI w = nI (20 * i + w) := by
  show nI i * nI 20 + nI w = _
  rw [pk_mul, nI_add, Nat.mul_comm]
def mkI (m : Option Nat) : Int32 := match m with
  | none => -1
  | some m => nI m
def cR (m : Nat → Option Nat) (K : Nat → Nat) : Nat → Nat
  | 0 => 0
  | k + 1 => cR m K k + (if m k = some (K k) then 1 else 0)
def cW (m : Nat → Option Nat) (K : Nat → Nat) : Nat → Nat
  | 0 => 0
  | k + 1 => cW m K k + (if m k ≠ none ∧ m k ≠ some (K k) then 1 else 0)
def rk (P : Nat → Int32) (x : Int32) : Nat → Nat
  | 0 => 0
  | k + 1 => rk P x k + (if x < P k then 1 else 0)
/-- how many of the first k are x -/
def eqc (P : Nat → Int32) (x : Int32) : Nat → Nat
  | 0 => 0
  | k + 1 => eqc P x k + (if P k = x then 1 else 0)
theorem cRW_le (m : Nat → Option Nat) (K : Nat → Nat) : ∀ k, cR m K k + cW m K k ≤ k
  | 0 => Nat.le_refl _
  | k + 1 => by
    have ih := cRW_le m K k
    rw [cR, cW]
    by_cases h : m k = some (K k)
    · rw [if_pos h, if_neg (fun q => q.2 h)]; omega
    · rw [if_neg h]
      by_cases h2 : m k ≠ none ∧ m k ≠ some (K k)
      · rw [if_pos h2]; omega
      · rw [if_neg h2]; omega
theorem rk_le (P : Nat → Int32) (x : Int32) : ∀ k, rk P x k ≤ k
  | 0 => Nat.le_refl _
  | k + 1 => by
    have ih := rk_le P x k
    rw [rk]
    by_cases h : x < P k
    · rw [if_pos h]; omega
    · rw [if_neg h]; omega
theorem eqc_le (P : Nat → Int32) (x : Int32) : ∀ k, eqc P x k ≤ k
  | 0 => Nat.le_refl _
  | k + 1 => by
    have ih := eqc_le P x k
    rw [eqc]
    by_cases h : P k = x
    · rw [if_pos h]; omega
    · rw [if_neg h]; omega
theorem rk_congr {P Q : Nat → Int32} {x : Int32} : ∀ {k : Nat}, (∀ j, j < k → P j = Q j) → rk P x k = rk Q x k
  | 0, _ => rfl
  | k + 1, h => by rw [rk, rk, rk_congr (fun j hj => h j (by omega)), h k (Nat.lt_succ_self k)]
theorem eqc_congr {P Q : Nat → Int32} {x : Int32} : ∀ {k : Nat}, (∀ j, j < k → P j = Q j) → eqc P x k = eqc Q x k
  | 0, _ => rfl
  | k + 1, h => by rw [eqc, eqc, eqc_congr (fun j hj => h j (by omega)), h k (Nat.lt_succ_self k)]
theorem s_shHas {I : ZI} {h : Nat} {x : Int32} (hh : ShAt h) : ZE yX7_has cX7_has 2 (some FieldType.boolean) 0 [.ref h, .int x] Sg I (some (.int (if x < 0 ∨ I h 5 ≤ x then 0 else 1))) I := by
  have h0 := hh.1
  refine ZSp.of (own := RX7) (L := [.ref h, .int x]) mX7_has rfl (List.all_eq_true.mp rfl) (Nat.le_of_ble_eq_true rfl) rfl (fun X hE hN => ?_)
  refine z_iload_n dX7_has_0 rfl ?_
  refine z_if_lt (tgt := 16) dX7_has_1 (by decide) (fun hb => ?_) (fun hb => ?_)
  · refine z_iconst (v := 0) dX7_has_16 rfl ?_
    exact z_ezreturn hE dX7_has_17 (by decide) (by rw [if_pos (Or.inl hb)]) rfl
  · refine z_iload_n dX7_has_4 rfl ?_
    refine z_aload_n dX7_has_5 rfl ?_
    refine z_getI fRX7_32 dX7_has_6 (by first | assumption | rfl) (by rfl) ?_
    refine z_icmp_ge (tgt := 16) dX7_has_9 (by decide) (fun hc => ?_) (fun hc => ?_)
    · refine z_iconst (v := 0) dX7_has_16 rfl ?_
      exact z_ezreturn hE dX7_has_17 (by decide) (by rw [if_pos (Or.inr hc)]) rfl
    · refine z_iconst (v := 1) dX7_has_12 rfl ?_
      refine z_goto (tgt := 17) dX7_has_13 (by decide) ?_
      exact z_ezreturn hE dX7_has_17 (by decide) (by rw [if_neg (fun h => h.elim hb hc)]) rfl
theorem s_mark {I : ZI} {h t p : Nat} {x y : Int32} (hh : ShAt h) (hx : x = nI t) (hy : y = nI p) (ht : t < 20) (hp : p < 20) : ZE yX7_mark cX7_mark 3 (some FieldType.int) 1 [.ref h, .int x, .int y] Sg I (some (.int (I (h + 7 + 1) (20 * t + p)))) I := by
  obtain ⟨h0, h1, h2, h3, h4, h5⟩ := hh
  have g4 := h4.1
  refine ZSp.of (own := RX7) (L := [.ref h, .int x, .int y]) mX7_mark rfl (List.all_eq_true.mp rfl) (Nat.le_of_ble_eq_true rfl) rfl (fun X hE hN => ?_)
  refine z_aload_n dX7_mark_0 rfl ?_
  refine z_getR fRX7_26 dX7_mark_1 (by first | assumption | rfl) (by rfl) ?_
  refine z_iload_n dX7_mark_4 rfl ?_
  refine z_bipush (v := 20) dX7_mark_5 rfl ?_
  refine z_imul dX7_mark_7 ?_
  refine z_iload_n dX7_mark_8 rfl ?_
  refine z_iadd dX7_mark_9 ?_
  refine z_cV1s mX6_get gRX7_36 dX7_mark_10 (s_getN h4 (show x * 20 + y = nI (20 * t + p) by rw [hx, hy, z_twenty]) (by omega)) (by decide) (by first | assumption | rfl) (by rfl) (Nat.le_of_ble_eq_true rfl) (Nat.le_refl _) (Nat.le_refl _) ?_
  exact z_eireturn hE dX7_mark_13 rfl rfl
theorem s_pick {I : ZI} {h t p : Nat} {x y : Int32} (hh : ShAt h) (hx : x = nI t) (hy : y = nI p) (ht : t < 20) (hp : p < 20) : ZE yX7_pick cX7_pick 3 (some FieldType.int) 1 [.ref h, .int x, .int y] Sg I (some (.int (I (h + 9 + 1) (20 * t + p)))) I := by
  obtain ⟨h0, h1, h2, h3, h4, h5⟩ := hh
  have g5 := h5.1
  refine ZSp.of (own := RX7) (L := [.ref h, .int x, .int y]) mX7_pick rfl (List.all_eq_true.mp rfl) (Nat.le_of_ble_eq_true rfl) rfl (fun X hE hN => ?_)
  refine z_aload_n dX7_pick_0 rfl ?_
  refine z_getR fRX7_29 dX7_pick_1 (by first | assumption | rfl) (by rfl) ?_
  refine z_iload_n dX7_pick_4 rfl ?_
  refine z_bipush (v := 20) dX7_pick_5 rfl ?_
  refine z_imul dX7_pick_7 ?_
  refine z_iload_n dX7_pick_8 rfl ?_
  refine z_iadd dX7_pick_9 ?_
  refine z_cV1s mX6_get gRX7_36 dX7_pick_10 (s_getN h5 (show x * 20 + y = nI (20 * t + p) by rw [hx, hy, z_twenty]) (by omega)) (by decide) (by first | assumption | rfl) (by rfl) (Nat.le_of_ble_eq_true rfl) (Nat.le_refl _) (Nat.le_refl _) ?_
  exact z_eireturn hE dX7_pick_13 rfl rfl
def ptc (I : ZI) (h t : Nat) : Int32 := 4 * I (h + 3 + 1) t - I (h + 5 + 1) t
theorem s_points {I : ZI} {h t : Nat} {x : Int32} (hh : ShAt h) (hx : x = nI t) (ht : t < 20) : ZE yX7_points cX7_points 2 (some FieldType.int) 1 [.ref h, .int x] Sg I (some (.int (ptc I h t))) I := by
  obtain ⟨h0, h1, h2, h3, h4, h5⟩ := hh
  have g2 := h2.1
  have g3 := h3.1
  refine ZSp.of (own := RX7) (L := [.ref h, .int x]) mX7_points rfl (List.all_eq_true.mp rfl) (Nat.le_of_ble_eq_true rfl) rfl (fun X hE hN => ?_)
  refine z_iconst (v := 4) dX7_points_0 rfl ?_
  refine z_aload_n dX7_points_1 rfl ?_
  refine z_getR fRX7_20 dX7_points_2 (by first | assumption | rfl) (by rfl) ?_
  refine z_iload_n dX7_points_5 rfl ?_
  refine z_cV1s mX6_get gRX7_36 dX7_points_6 (s_getN h2 hx ht) (by decide) (by first | assumption | rfl) (by rfl) (Nat.le_of_ble_eq_true rfl) (Nat.le_refl _) (Nat.le_refl _) ?_
  refine z_imul dX7_points_9 ?_
  refine z_aload_n dX7_points_10 rfl ?_
  refine z_getR fRX7_23 dX7_points_11 (by first | assumption | rfl) (by rfl) ?_
  refine z_iload_n dX7_points_14 rfl ?_
  refine z_cV1s mX6_get gRX7_36 dX7_points_15 (s_getN h3 hx ht) (by decide) (by first | assumption | rfl) (by rfl) (Nat.le_of_ble_eq_true rfl) (Nat.le_refl _) (Nat.le_refl _) ?_
  refine z_isub dX7_points_18 ?_
  exact z_eireturn hE dX7_points_19 rfl rfl
theorem s_betterThan {I : ZI} {h t n : Nat} {x : Int32} (hh : ShAt h) (hn : I h 5 = nI n) (hn20 : n ≤ 20) (hx : x = nI t) (ht : t < 20) : ZE yX7_betterThan cX7_betterThan 5 (some FieldType.int) 2 [.ref h, .int x] Sg I (some (.int (nI (rk (ptc I h) (ptc I h t) n)))) I := by
  have h0 := hh.1
  subst hx
  refine ZSp.of (own := RX7) (L := [.ref h, .int (nI t), zj, zj, zj]) mX7_betterThan rfl (List.all_eq_true.mp rfl) (Nat.le_of_ble_eq_true rfl) rfl (fun X hE hN => ?_)
  have loop : ∀ (m k : Nat), k + m = n → (ZG X RX7 cX7_betterThan 5 2 0 0 0 0 11 [.ref h, .int (nI t), .int (ptc I h t), .int (nI (rk (ptc I h) (ptc I h t) k)), .int (nI k)] [] Sg I) := by
    intro m
    induction m with
    | zero =>
      intro k hk
      have e : k = n := by omega
      subst e
      refine z_iload dX7_betterThan_11 rfl ?_
      refine z_aload_n dX7_betterThan_13 rfl ?_
      refine z_getI fRX7_32 dX7_betterThan_14 (by first | assumption | rfl) (by rfl) ?_
      refine z_icmp_ge (tgt := 39) dX7_betterThan_17 (by decide) (fun _ => ?_) (fun hb => absurd (by rw [hn]; exact nI_le (Nat.le_refl _) (by omega)) hb)
      refine z_iload_n dX7_betterThan_39 rfl ?_
      exact z_eireturn hE dX7_betterThan_40 rfl rfl
    | succ m ih =>
      intro k hk
      have e1 : rk (ptc I h) (ptc I h t) (k + 1) = rk (ptc I h) (ptc I h t) k + (if ptc I h t < ptc I h k then 1 else 0) := rfl
      refine z_iload dX7_betterThan_11 rfl ?_
      refine z_aload_n dX7_betterThan_13 rfl ?_
      refine z_getI fRX7_32 dX7_betterThan_14 (by first | assumption | rfl) (by rfl) ?_
      refine z_icmp_ge (tgt := 39) dX7_betterThan_17 (by decide) (fun hb => absurd hb (by rw [hn]; exact nI_ge (by omega) (by omega))) (fun _ => ?_)
      refine z_aload_n dX7_betterThan_20 rfl ?_
      refine z_iload dX7_betterThan_21 rfl ?_
      refine z_cV1s mX7_points gRX7_57 dX7_betterThan_23 (s_points hh rfl (show k < 20 by omega)) (by decide) (by first | assumption | rfl) (by rfl) (Nat.le_of_ble_eq_true rfl) (Nat.le_refl _) (Nat.le_refl _) ?_
      refine z_iload_n dX7_betterThan_26 rfl ?_
      refine z_icmp_le (tgt := 33) dX7_betterThan_27 (by decide) (fun hb => ?_) (fun hb => ?_)
      · refine z_inc4 (w := 1) dX7_betterThan_33 rfl (by decide) rfl ?_
        refine z_goto (tgt := 11) dX7_betterThan_36 (by decide) ?_
        have := ih (k + 1) (by omega)
        rw [e1, if_neg (Int32.not_lt.mpr hb), Nat.add_zero] at this
        rw [nI_1]
        exact this
      · refine z_inc3 (w := 1) dX7_betterThan_30 rfl (by decide) rfl ?_
        refine z_inc4 (w := 1) dX7_betterThan_33 rfl (by decide) rfl ?_
        refine z_goto (tgt := 11) dX7_betterThan_36 (by decide) ?_
        have := ih (k + 1) (by omega)
        rw [e1, if_pos (Int32.not_le.mp hb)] at this
        rw [nI_1, nI_1]
        exact this
  refine z_aload_n dX7_betterThan_0 rfl ?_
  refine z_iload_n dX7_betterThan_1 rfl ?_
  refine z_cV1s mX7_points gRX7_57 dX7_betterThan_2 (s_points hh rfl ht) (by decide) (by first | assumption | rfl) (by rfl) (Nat.le_of_ble_eq_true rfl) (Nat.le_refl _) (Nat.le_refl _) ?_
  refine z_ist2 dX7_betterThan_5 (by decide) rfl ?_
  refine z_iconst (v := 0) dX7_betterThan_6 rfl ?_
  refine z_ist3 dX7_betterThan_7 (by decide) rfl ?_
  refine z_iconst (v := 0) dX7_betterThan_8 rfl ?_
  refine z_ist4 dX7_betterThan_9 (by decide) rfl ?_
  exact loop n 0 (by omega)
theorem s_standing {I : ZI} {h t n : Nat} {x : Int32} (hh : ShAt h) (hn : I h 5 = nI n) (hn20 : n ≤ 20) (hx : x = nI t) (ht : t < 20) : ZE yX7_standing cX7_standing 5 (some FieldType.int) 3 [.ref h, .int x] Sg I (some (.int (nI (rk (ptc I h) (ptc I h t) n + eqc (ptc I h) (ptc I h t) t)))) I := by
  have h0 := hh.1
  subst hx
  refine ZSp.of (own := RX7) (L := [.ref h, .int (nI t), zj, zj, zj]) mX7_standing rfl (List.all_eq_true.mp rfl) (Nat.le_of_ble_eq_true rfl) rfl (fun X hE hN => ?_)
  have loop : ∀ (m k : Nat), k + m = t → (ZG X RX7 cX7_standing 5 3 0 0 0 0 15 [.ref h, .int (nI t), .int (ptc I h t), .int (nI (rk (ptc I h) (ptc I h t) n + eqc (ptc I h) (ptc I h t) k)), .int (nI k)] [] Sg I) := by
    intro m
    induction m with
    | zero =>
      intro k hk
      have e : k = t := by omega
      subst e
      refine z_iload dX7_standing_15 rfl ?_
      refine z_iload_n dX7_standing_17 rfl ?_
      refine z_icmp_ge (tgt := 40) dX7_standing_18 (by decide) (fun _ => ?_) (fun hb => absurd (nI_le (Nat.le_refl _) (by omega)) hb)
      refine z_iload_n dX7_standing_40 rfl ?_
      exact z_eireturn hE dX7_standing_41 rfl rfl
    | succ m ih =>
      intro k hk
      have e1 : eqc (ptc I h) (ptc I h t) (k + 1) = eqc (ptc I h) (ptc I h t) k + (if ptc I h k = ptc I h t then 1 else 0) := rfl
      refine z_iload dX7_standing_15 rfl ?_
      refine z_iload_n dX7_standing_17 rfl ?_
      refine z_icmp_ge (tgt := 40) dX7_standing_18 (by decide) (fun hb => absurd hb (nI_ge (by omega) (by omega))) (fun _ => ?_)
      refine z_aload_n dX7_standing_21 rfl ?_
      refine z_iload dX7_standing_22 rfl ?_
      refine z_cV1s mX7_points gRX7_57 dX7_standing_24 (s_points hh rfl (show k < 20 by omega)) (by decide) (by first | assumption | rfl) (by rfl) (Nat.le_of_ble_eq_true rfl) (Nat.le_refl _) (Nat.le_refl _) ?_
      refine z_iload_n dX7_standing_27 rfl ?_
      refine z_icmp_ne (tgt := 34) dX7_standing_28 (by decide) (fun hb => ?_) (fun hb => ?_)
      · refine z_inc4 (w := 1) dX7_standing_34 rfl (by decide) rfl ?_
        refine z_goto (tgt := 15) dX7_standing_37 (by decide) ?_
        have := ih (k + 1) (by omega)
        rw [e1, if_neg hb, Nat.add_zero] at this
        rw [nI_1]
        exact this
      · refine z_inc3 (w := 1) dX7_standing_31 rfl (by decide) rfl ?_
        refine z_inc4 (w := 1) dX7_standing_34 rfl (by decide) rfl ?_
        refine z_goto (tgt := 15) dX7_standing_37 (by decide) ?_
        have := ih (k + 1) (by omega)
        rw [e1, if_pos hb, ← Nat.add_assoc] at this
        rw [nI_1, nI_1]
        exact this
  refine z_aload_n dX7_standing_0 rfl ?_
  refine z_iload_n dX7_standing_1 rfl ?_
  refine z_cV1s mX7_points gRX7_57 dX7_standing_2 (s_points hh rfl ht) (by decide) (by first | assumption | rfl) (by rfl) (Nat.le_of_ble_eq_true rfl) (Nat.le_refl _) (Nat.le_refl _) ?_
  refine z_ist2 dX7_standing_5 (by decide) rfl ?_
  refine z_aload_n dX7_standing_6 rfl ?_
  refine z_iload_n dX7_standing_7 rfl ?_
  refine z_cV1s mX7_betterThan gRX7_60 dX7_standing_8 (s_betterThan hh hn hn20 rfl ht) (by decide) (by first | assumption | rfl) (by rfl) (Nat.le_of_ble_eq_true rfl) (Nat.le_refl _) (Nat.le_refl _) ?_
  refine z_ist3 dX7_standing_11 (by decide) rfl ?_
  refine z_iconst (v := 0) dX7_standing_12 rfl ?_
  refine z_ist4 dX7_standing_13 (by decide) rfl ?_
  exact loop t 0 (by omega)
theorem s_pickers {I : ZI} {h q n : Nat} {x y : Int32} (hh : ShAt h) (hn : I h 5 = nI n) (hn20 : n ≤ 20) (hx : x = nI q) (hq : q < 20) : ZE yX7_pickers cX7_pickers 5 (some FieldType.int) 2 [.ref h, .int x, .int y] Sg I (some (.int (nI (eqc (fun s => I (h + 9 + 1) (20 * s + q)) y n)))) I := by
  have h0 := hh.1
  subst hx
  refine ZSp.of (own := RX7) (L := [.ref h, .int (nI q), .int y, zj, zj]) mX7_pickers rfl (List.all_eq_true.mp rfl) (Nat.le_of_ble_eq_true rfl) rfl (fun X hE hN => ?_)
  have loop : ∀ (m k : Nat), k + m = n → (ZG X RX7 cX7_pickers 5 2 0 0 0 0 5 [.ref h, .int (nI q), .int y, .int (nI (eqc (fun s => I (h + 9 + 1) (20 * s + q)) y k)), .int (nI k)] [] Sg I) := by
    intro m
    induction m with
    | zero =>
      intro k hk
      have e : k = n := by omega
      subst e
      refine z_iload dX7_pickers_5 rfl ?_
      refine z_aload_n dX7_pickers_7 rfl ?_
      refine z_getI fRX7_32 dX7_pickers_8 (by first | assumption | rfl) (by rfl) ?_
      refine z_icmp_ge (tgt := 34) dX7_pickers_11 (by decide) (fun _ => ?_) (fun hb => absurd (by rw [hn]; exact nI_le (Nat.le_refl _) (by omega)) hb)
      refine z_iload_n dX7_pickers_34 rfl ?_
      exact z_eireturn hE dX7_pickers_35 rfl rfl
    | succ m ih =>
      intro k hk
      have e1 : eqc (fun s => I (h + 9 + 1) (20 * s + q)) y (k + 1) = eqc (fun s => I (h + 9 + 1) (20 * s + q)) y k + (if I (h + 9 + 1) (20 * k + q) = y then 1 else 0) := rfl
      refine z_iload dX7_pickers_5 rfl ?_
      refine z_aload_n dX7_pickers_7 rfl ?_
      refine z_getI fRX7_32 dX7_pickers_8 (by first | assumption | rfl) (by rfl) ?_
      refine z_icmp_ge (tgt := 34) dX7_pickers_11 (by decide) (fun hb => absurd hb (by rw [hn]; exact nI_ge (by omega) (by omega))) (fun _ => ?_)
      refine z_aload_n dX7_pickers_14 rfl ?_
      refine z_iload dX7_pickers_15 rfl ?_
      refine z_iload_n dX7_pickers_17 rfl ?_
      refine z_cV2s mX7_pick gRX7_63 dX7_pickers_18 (s_pick hh rfl rfl (show k < 20 by omega) hq) (by decide) (by first | assumption | rfl) (by rfl) (Nat.le_of_ble_eq_true rfl) (Nat.le_refl _) (Nat.le_refl _) ?_
      refine z_iload_n dX7_pickers_21 rfl ?_
      refine z_icmp_ne (tgt := 28) dX7_pickers_22 (by decide) (fun hb => ?_) (fun hb => ?_)
      · refine z_inc4 (w := 1) dX7_pickers_28 rfl (by decide) rfl ?_
        refine z_goto (tgt := 5) dX7_pickers_31 (by decide) ?_
        have := ih (k + 1) (by omega)
        rw [e1, if_neg hb, Nat.add_zero] at this
        rw [nI_1]
        exact this
      · refine z_inc3 (w := 1) dX7_pickers_25 rfl (by decide) rfl ?_
        refine z_inc4 (w := 1) dX7_pickers_28 rfl (by decide) rfl ?_
        refine z_goto (tgt := 5) dX7_pickers_31 (by decide) ?_
        have := ih (k + 1) (by omega)
        rw [e1, if_pos hb] at this
        rw [nI_1, nI_1]
        exact this
  refine z_iconst (v := 0) dX7_pickers_0 rfl ?_
  refine z_ist3 dX7_pickers_1 (by decide) rfl ?_
  refine z_iconst (v := 0) dX7_pickers_2 rfl ?_
  refine z_ist4 dX7_pickers_3 (by decide) rfl ?_
  exact loop n 0 (by omega)
/-- a sheet's number by its kind -/
def shn (I : ZI) (h n t : Nat) (w : Int32) : Int32 := if w = 0 then I (h + 1 + 1) t else if w = 1 then ptc I h t else if w = 2 then I (h + 3 + 1) t else if w = 3 then I (h + 5 + 1) t else nI (1 + rk (ptc I h) (ptc I h t) n)
theorem s_shNumber {I : ZI} {h t n : Nat} {x w : Int32} (hh : ShAt h) (hn : I h 5 = nI n) (hn20 : n ≤ 20) (hx : x = nI t) (ht : t < 20) : ZE yX7_number cX7_number 3 (some FieldType.int) 3 [.ref h, .int x, .int w] Sg I (some (.int (shn I h n t w))) I := by
  have h0 := hh.1
  have g1 := hh.2.1.1
  have g2 := hh.2.2.1.1
  have g3 := hh.2.2.2.1.1
  subst hx
  refine ZSp.of (own := RX7) (L := [.ref h, .int (nI t), .int w]) mX7_number rfl (List.all_eq_true.mp rfl) (Nat.le_of_ble_eq_true rfl) rfl (fun X hE hN => ?_)
  refine z_iload_n dX7_number_0 rfl ?_
  rcases z_sw4 w with rfl | rfl | rfl | rfl | hw
  · refine z_tableIn (off := 31) (tgt := 32) dX7_number_1 (by decide) (by decide) (by decide) (by decide) ?_
    refine z_aload_n dX7_number_32 rfl ?_
    refine z_getR fRX7_14 dX7_number_33 (by first | assumption | rfl) (by rfl) ?_
    refine z_iload_n dX7_number_36 rfl ?_
    refine z_cV1s mX6_get gRX7_36 dX7_number_37 (s_getN hh.2.1 rfl ht) (by decide) (by first | assumption | rfl) (by rfl) (Nat.le_of_ble_eq_true rfl) (Nat.le_refl _) (Nat.le_refl _) ?_
    exact z_eireturn hE dX7_number_40 rfl rfl
  · refine z_tableIn (off := 40) (tgt := 41) dX7_number_1 (by decide) (by decide) (by decide) (by decide) ?_
    refine z_aload_n dX7_number_41 rfl ?_
    refine z_iload_n dX7_number_42 rfl ?_
    refine z_cV1s mX7_points gRX7_57 dX7_number_43 (s_points hh rfl ht) (by decide) (by first | assumption | rfl) (by rfl) (Nat.le_of_ble_eq_true rfl) (Nat.le_refl _) (Nat.le_refl _) ?_
    exact z_eireturn hE dX7_number_46 rfl rfl
  · refine z_tableIn (off := 46) (tgt := 47) dX7_number_1 (by decide) (by decide) (by decide) (by decide) ?_
    refine z_aload_n dX7_number_47 rfl ?_
    refine z_getR fRX7_20 dX7_number_48 (by first | assumption | rfl) (by rfl) ?_
    refine z_iload_n dX7_number_51 rfl ?_
    refine z_cV1s mX6_get gRX7_36 dX7_number_52 (s_getN hh.2.2.1 rfl ht) (by decide) (by first | assumption | rfl) (by rfl) (Nat.le_of_ble_eq_true rfl) (Nat.le_refl _) (Nat.le_refl _) ?_
    exact z_eireturn hE dX7_number_55 rfl rfl
  · refine z_tableIn (off := 55) (tgt := 56) dX7_number_1 (by decide) (by decide) (by decide) (by decide) ?_
    refine z_aload_n dX7_number_56 rfl ?_
    refine z_getR fRX7_23 dX7_number_57 (by first | assumption | rfl) (by rfl) ?_
    refine z_iload_n dX7_number_60 rfl ?_
    refine z_cV1s mX6_get gRX7_36 dX7_number_61 (s_getN hh.2.2.2.1 rfl ht) (by decide) (by first | assumption | rfl) (by rfl) (Nat.le_of_ble_eq_true rfl) (Nat.le_refl _) (Nat.le_refl _) ?_
    exact z_eireturn hE dX7_number_64 rfl rfl
  · refine z_tableOut (tgt := 65) dX7_number_1 (hw) (by decide) ?_
    refine z_iconst (v := 1) dX7_number_65 rfl ?_
    refine z_aload_n dX7_number_66 rfl ?_
    refine z_iload_n dX7_number_67 rfl ?_
    refine z_cV1s mX7_betterThan gRX7_60 dX7_number_68 (s_betterThan hh hn hn20 rfl ht) (by decide) (by first | assumption | rfl) (by rfl) (Nat.le_of_ble_eq_true rfl) (Nat.le_refl _) (Nat.le_refl _) ?_
    refine z_iadd dX7_number_71 ?_
    exact z_eireturn hE dX7_number_72 (by
      have n0 : w ≠ 0 := by rintro rfl; exact absurd hw (by decide)
      have n1 : w ≠ 1 := by rintro rfl; exact absurd hw (by decide)
      have n2 : w ≠ 2 := by rintro rfl; exact absurd hw (by decide)
      have n3 : w ≠ 3 := by rintro rfl; exact absurd hw (by decide)
      rw [shn, if_neg n0, if_neg n1, if_neg n2, if_neg n3]
      exact nI_add 1 _) rfl
/-- the choice that a mark is -/
def pkI (c : Nat → Nat) (m : Option Nat) : Int32 := match m with
  | none => -1
  | some m => nI (c m)
theorem mk_m1 (n : Nat) (hn : n < 1000) : nI n ≠ -1 := by
  intro h
  have h1 := congrArg Int32.toInt h
  rw [nI_toInt (by omega)] at h1
  have h2 : (-1 : Int32).toInt = -1 := rfl
  omega
theorem s_shAppend {I : ZI} {h p d nq t v : Nat} {qd : Qd} {seed x : Int32} {m : Nat → Option Nat} (hh : ShAt h) (ht : I h 5 = nI t) (ht20 : t < 20) (hV : QV nq qd) (hp : PpAt p) (hP : Pm I p nq qd seed) (hd : RowAt d 20) (hx : x = nI v)
    (hm : ∀ i, i < nq → I (d + 1) i = mkI (m i) ∧ ∀ k, m i = some k → k < qd (Od nq qd seed i) 4) (hfar : h + 11 ≤ d ∧ d + 1 < p ∨ h + 11 ≤ p ∧ p + 20 ≤ d) :
    ZP yX7_append cX7_append 10 (some FieldType.int) 2 [.ref h, .int x, .ref p, .ref d] Sg I (fun r J => r = some (.int (nI t)) ∧ (∀ a, a ≠ h → a ≠ h + 1 + 1 → a ≠ h + 3 + 1 → a ≠ h + 5 + 1 → a ≠ h + 7 + 1 → a ≠ h + 9 + 1 → J a = I a) ∧ J h = upd (I h) 5 (nI (t + 1)) ∧ J (h + 1 + 1) = upd (I (h + 1 + 1)) t (nI v)
      ∧ J (h + 3 + 1) = upd (I (h + 3 + 1)) t (nI (cR m (Ky nq qd seed) nq)) ∧ J (h + 5 + 1) = upd (I (h + 5 + 1)) t (nI (cW m (Ky nq qd seed) nq))
      ∧ (∀ i, i < nq → J (h + 7 + 1) (20 * t + i) = mkI (m i)) ∧ (∀ j, (j < 20 * t ∨ 20 * t + 20 ≤ j) → J (h + 7 + 1) j = I (h + 7 + 1) j)
      ∧ (∀ i, i < nq → J (h + 9 + 1) (20 * t + Od nq qd seed i) = pkI (Ch nq qd seed i) (m i)) ∧ ∀ j, (j < 20 * t ∨ 20 * t + 20 ≤ j) → J (h + 9 + 1) j = I (h + 9 + 1) j) := by
  have hn := hV.1
  have h0 := hh.1
  have g1 := hh.2.1.1
  have g2 := hh.2.2.1.1
  have g3 := hh.2.2.2.1.1
  have g4 := hh.2.2.2.2.1.1
  have g5 := hh.2.2.2.2.2.1
  have hp0 := hp.1
  have hp1 := hp.2.1.1
  have hp3 := hp.2.2.2.1.1
  have hd0 := hd.1
  have hoe := Od_en nq qd seed
  subst hx
  refine ZSp.of (own := RX7) (L := [.ref h, .int (nI v), .ref p, .ref d, zj, zj, zj, zj, zj, zj]) mX7_append rfl (List.all_eq_true.mp rfl) (Nat.le_of_ble_eq_true rfl) rfl (fun X hE hN => ?_)
  have loop : ∀ (n i : Nat) (J : ZI), i + n = nq → (∀ a, a ≠ h + 7 + 1 → a ≠ h + 9 + 1 → J a = I a) → (∀ j, j < i → J (h + 7 + 1) (20 * t + j) = mkI (m j)) → (∀ j, (j < 20 * t ∨ 20 * t + 20 ≤ j) → J (h + 7 + 1) j = I (h + 7 + 1) j)
      → (∀ j, j < i → J (h + 9 + 1) (20 * t + Od nq qd seed j) = pkI (Ch nq qd seed j) (m j)) → (∀ j, (j < 20 * t ∨ 20 * t + 20 ≤ j) → J (h + 9 + 1) j = I (h + 9 + 1) j)
      → (ZG X RX7 cX7_append 10 2 0 0 0 0 15 [.ref h, .int (nI v), .ref p, .ref d, .int (nI t), .int (nI (cR m (Ky nq qd seed) i)), .int (nI (cW m (Ky nq qd seed) i)), .int (nI i), zj, zj] [] Sg J) := by
    intro n
    induction n with
    | zero =>
      intro i J hi a1 a2 a3 a4 a5
      have e : i = nq := by omega
      subst e
      have hr := cRW_le m (Ky i qd seed) i
      have n1 : h ≠ h + 1 + 1 := by omega
      have n3 : h ≠ h + 3 + 1 := by omega
      have n5 : h ≠ h + 5 + 1 := by omega
      have n13 : h + 1 + 1 ≠ h + 3 + 1 := by omega
      have n15 : h + 1 + 1 ≠ h + 5 + 1 := by omega
      have n35 : h + 3 + 1 ≠ h + 5 + 1 := by omega
      refine z_iload dX7_append_15 rfl ?_
      refine z_aload_n dX7_append_17 rfl ?_
      refine z_getI fRX7_40 dX7_append_18 (by first | assumption | rfl) (by rfl) ?_
      refine z_icmp_ge (tgt := 128) dX7_append_21 (by decide) (fun _ => ?_) (fun hb => absurd (by rw [a1 p (by omega) (by omega), hP.1]; exact nI_le (Nat.le_refl _) (by omega)) hb)
      refine z_aload_n dX7_append_128 rfl ?_
      refine z_getR fRX7_14 dX7_append_129 (by first | assumption | rfl) (by rfl) ?_
      refine z_iload dX7_append_132 rfl ?_
      refine z_iload_n dX7_append_134 rfl ?_
      refine z_cV2n mX6_set gRX7_47 dX7_append_135 (s_setN hh.2.1 rfl ht20) (by decide) (by first | assumption | rfl) (by rfl) (Nat.le_of_ble_eq_true rfl) (Nat.le_refl _) (Nat.le_refl _) ?_
      refine z_aload_n dX7_append_138 rfl ?_
      refine z_getR fRX7_20 dX7_append_139 (by first | assumption | rfl) (by rfl) ?_
      refine z_iload dX7_append_142 rfl ?_
      refine z_iload dX7_append_144 rfl ?_
      refine z_cV2n mX6_set gRX7_47 dX7_append_146 (s_setN hh.2.2.1 rfl ht20) (by decide) (by first | assumption | rfl) (by rfl) (Nat.le_of_ble_eq_true rfl) (Nat.le_refl _) (Nat.le_refl _) ?_
      refine z_aload_n dX7_append_149 rfl ?_
      refine z_getR fRX7_23 dX7_append_150 (by first | assumption | rfl) (by rfl) ?_
      refine z_iload dX7_append_153 rfl ?_
      refine z_iload dX7_append_155 rfl ?_
      refine z_cV2n mX6_set gRX7_47 dX7_append_157 (s_setN hh.2.2.2.1 rfl ht20) (by decide) (by first | assumption | rfl) (by rfl) (Nat.le_of_ble_eq_true rfl) (Nat.le_refl _) (Nat.le_refl _) ?_
      refine z_aload_n dX7_append_160 rfl ?_
      refine z_dup dX7_append_161 rfl ?_
      refine z_getI fRX7_32 dX7_append_162 (by first | assumption | rfl) (by rfl) ?_
      refine z_iconst (v := 1) dX7_append_165 rfl ?_
      refine z_iadd dX7_append_166 ?_
      refine z_putI fRX7_32 dX7_append_167 (by first | assumption | rfl) (by rfl) ?_
      refine z_iload dX7_append_170 rfl ?_
      rw [zup_ne _ _ _ n5, zup_ne _ _ _ n3, zup_ne _ _ _ n1, a1 h (by omega) (by omega), ht, nI_1]
      exact z_iret hE dX7_append_172 ⟨rfl, rfl, fun a b0 b1 b2 b3 b4 b5 => by rw [zup_ne _ _ _ b0, zup_ne _ _ _ b3, zup_ne _ _ _ b2, zup_ne _ _ _ b1, a1 a b4 b5], by rw [zup_at, zup_ne _ _ _ n5, zup_ne _ _ _ n3, zup_ne _ _ _ n1, a1 h (by omega) (by omega)], by rw [zup_ne _ _ _ n1.symm, zup_ne _ _ _ n15, zup_ne _ _ _ n13, zup_at, a1 _ (by omega) (by omega)], by rw [zup_ne _ _ _ n3.symm, zup_ne _ _ _ n35, zup_at, zup_ne _ _ _ n13.symm, a1 _ (by omega) (by omega)], by rw [zup_ne _ _ _ n5.symm, zup_at, zup_ne _ _ _ n35.symm, zup_ne _ _ _ n15.symm, a1 _ (by omega) (by omega)], fun j hj => by rw [zup_ne _ _ _ (by omega), zup_ne _ _ _ (by omega), zup_ne _ _ _ (by omega), zup_ne _ _ _ (by omega), a2 j hj], fun j hj => by rw [zup_ne _ _ _ (by omega), zup_ne _ _ _ (by omega), zup_ne _ _ _ (by omega), zup_ne _ _ _ (by omega), a3 j hj], fun j hj => by rw [zup_ne _ _ _ (by omega), zup_ne _ _ _ (by omega), zup_ne _ _ _ (by omega), zup_ne _ _ _ (by omega), a4 j hj], fun j hj => by rw [zup_ne _ _ _ (by omega), zup_ne _ _ _ (by omega), zup_ne _ _ _ (by omega), zup_ne _ _ _ (by omega), a5 j hj]⟩
    | succ n ih =>
      intro i J hi a1 a2 a3 a4 a5
      have hO := hoe.1 i (by omega)
      have hO5 := (hV.2 _ hO).2.2.2.1
      have hKy := Ky_lt (seed := seed) hV (show i < nq by omega)
      have n79 : h + 7 + 1 ≠ h + 9 + 1 := by omega
      have r1 : cR m (Ky nq qd seed) (i + 1) = cR m (Ky nq qd seed) i + (if m i = some (Ky nq qd seed i) then 1 else 0) := rfl
      have r2 : cW m (Ky nq qd seed) (i + 1) = cW m (Ky nq qd seed) i + (if m i ≠ none ∧ m i ≠ some (Ky nq qd seed i) then 1 else 0) := rfl
      -- behind the marks: the sheet's two rows are written
      have tail : (ZG X RX7 cX7_append 10 2 0 0 0 0 93 [.ref h, .int (nI v), .ref p, .ref d, .int (nI t), .int (nI (cR m (Ky nq qd seed) i)), .int (nI (cW m (Ky nq qd seed) i)), .int (nI i), .int (mkI (m i)), .int (pkI (Ch nq qd seed i) (m i))] [] Sg (zup (zup J (h + 7 + 1) (20 * t + i) (mkI (m i))) (h + 9 + 1) (20 * t + Od nq qd seed i) (pkI (Ch nq qd seed i) (m i)))) := by
        have nxt : ∀ (c1 c2 : Nat), c1 = cR m (Ky nq qd seed) (i + 1) → c2 = cW m (Ky nq qd seed) (i + 1) → (ZG X RX7 cX7_append 10 2 0 0 0 0 122 [.ref h, .int (nI v), .ref p, .ref d, .int (nI t), .int (nI c1), .int (nI c2), .int (nI i), .int (mkI (m i)), .int (pkI (Ch nq qd seed i) (m i))] [] Sg (zup (zup J (h + 7 + 1) (20 * t + i) (mkI (m i))) (h + 9 + 1) (20 * t + Od nq qd seed i) (pkI (Ch nq qd seed i) (m i)))) := by
          intro c1 c2 e1 e2
          subst e1
          subst e2
          refine z_inc7 (w := 1) dX7_append_122 rfl (by decide) rfl ?_
          refine z_goto (tgt := 15) dX7_append_125 (by decide) ?_
          refine z_fg9 ?_
          refine z_fg8 ?_
          rw [nI_1]
          refine ih (i + 1) _ (by omega) (fun a b1 b2 => ?_) (fun j hj => ?_) (fun j hj => ?_) (fun j hj => ?_) (fun j hj => ?_)
          · rw [zup_ne _ _ _ b2, zup_ne _ _ _ b1, a1 a b1 b2]
          · rw [zup_ne _ _ _ n79, zup_at]
            by_cases hji : j = i
            · rw [hji, upd_at]
            · rw [upd_ne _ _ (by omega), a2 j (by omega)]
          · rw [zup_ne _ _ _ n79, zup_at, upd_ne _ _ (by omega), a3 j hj]
          · rw [zup_at]
            by_cases hji : j = i
            · rw [hji, upd_at]
            · rw [upd_ne _ _ (fun e => hji (hoe.inj (by omega) (by omega) (by omega))), zup_ne _ _ _ n79.symm, a4 j (by omega)]
          · rw [zup_at, upd_ne _ _ (by omega), zup_ne _ _ _ n79.symm, a5 j hj]
        refine z_iload dX7_append_93 rfl ?_
        refine z_aload_n dX7_append_95 rfl ?_
        refine z_getR fRX7_54 dX7_append_96 (by first | assumption | rfl) (by rfl) ?_
        refine z_iload dX7_append_99 rfl ?_
        refine z_cV1s mX6_get gRX7_36 dX7_append_101 (s_getN hp.2.2.2.1 rfl (show i < 20 by omega)) (by decide) (by first | assumption | rfl) (by rfl) (Nat.le_of_ble_eq_true rfl) (Nat.le_refl _) (Nat.le_refl _) ?_
        rw [zup_ne _ _ _ (show p + 5 + 1 ≠ h + 9 + 1 by omega), zup_ne _ _ _ (show p + 5 + 1 ≠ h + 7 + 1 by omega), a1 (p + 5 + 1) (by omega) (by omega), hP.2.2.2.2 i (by omega)]
        cases hmi : m i with
        | none =>
          rw [hmi] at nxt r1 r2
          refine z_icmp_ne (tgt := 113) dX7_append_104 (by decide) (fun hb => ?_) (fun hb => ?_)
          · refine z_iload dX7_append_113 rfl ?_
            refine z_iconst (v := -1) dX7_append_115 rfl ?_
            refine z_icmp_eq (tgt := 122) dX7_append_116 (by decide) (fun _ => ?_) (fun hb => absurd (rfl) hb)
            exact nxt _ _ (by rw [r1]; simp) (by rw [r2]; simp)
          · exact absurd hb.symm (mk_m1 _ (by omega))
        | some k =>
          have hk := (hm i (by omega)).2 k hmi
          rw [hmi] at nxt r1 r2
          refine z_icmp_ne (tgt := 113) dX7_append_104 (by decide) (fun hb => ?_) (fun hb => ?_)
          · refine z_iload dX7_append_113 rfl ?_
            refine z_iconst (v := -1) dX7_append_115 rfl ?_
            have hne : k ≠ Ky nq qd seed i := fun e => hb (by rw [e]; rfl)
            refine z_icmp_eq (tgt := 122) dX7_append_116 (by decide) (fun hb => absurd hb (mk_m1 k (by omega))) (fun _ => ?_)
            refine z_inc6 (w := 1) dX7_append_119 rfl (by decide) rfl ?_
            rw [nI_1]
            exact nxt _ _ (by rw [r1]; simp [hne]) (by rw [r2]; simp [hne])
          · refine z_inc5 (w := 1) dX7_append_107 rfl (by decide) rfl ?_
            refine z_goto (tgt := 122) dX7_append_110 (by decide) ?_
            have heq : k = Ky nq qd seed i := (nI_eq (by omega) (by omega)).mp hb
            rw [nI_1]
            exact nxt _ _ (by rw [r1]; simp [heq]) (by rw [r2]; simp [heq])
      have mid : (ZG X RX7 cX7_append 10 2 0 0 0 0 52 [.ref h, .int (nI v), .ref p, .ref d, .int (nI t), .int (nI (cR m (Ky nq qd seed) i)), .int (nI (cW m (Ky nq qd seed) i)), .int (nI i), .int (mkI (m i)), .int (pkI (Ch nq qd seed i) (m i))] [] Sg J) := by
        refine z_aload_n dX7_append_52 rfl ?_
        refine z_getR fRX7_26 dX7_append_53 (by first | assumption | rfl) (by rfl) ?_
        refine z_iload dX7_append_56 rfl ?_
        refine z_bipush (v := 20) dX7_append_58 rfl ?_
        refine z_imul dX7_append_60 ?_
        refine z_iload dX7_append_61 rfl ?_
        refine z_iadd dX7_append_63 ?_
        refine z_iload dX7_append_64 rfl ?_
        refine z_cV2n mX6_set gRX7_47 dX7_append_66 (s_set hh.2.2.2.2.1) (by decide) (by first | assumption | rfl) (by rfl) (Nat.le_of_ble_eq_true rfl) (Nat.le_refl _) (Nat.le_refl _) ?_
        rw [z_twenty, rset_in (show 20 * t + i < 400 by omega) (by decide), ← zup_zcp]
        refine z_aload_n dX7_append_69 rfl ?_
        refine z_getR fRX7_29 dX7_append_70 (by first | assumption | rfl) (by rfl) ?_
        refine z_iload dX7_append_73 rfl ?_
        refine z_bipush (v := 20) dX7_append_75 rfl ?_
        refine z_imul dX7_append_77 ?_
        refine z_aload_n dX7_append_78 rfl ?_
        refine z_getR fRX7_51 dX7_append_79 (by first | assumption | rfl) (by rfl) ?_
        refine z_iload dX7_append_82 rfl ?_
        refine z_cV1s mX6_get gRX7_36 dX7_append_84 (s_getN hp.2.1 rfl (show i < 20 by omega)) (by decide) (by first | assumption | rfl) (by rfl) (Nat.le_of_ble_eq_true rfl) (Nat.le_refl _) (Nat.le_refl _) ?_
        rw [zup_ne _ _ _ (show p + 1 + 1 ≠ h + 7 + 1 by omega), a1 (p + 1 + 1) (by omega) (by omega), hP.2.1 i (by omega)]
        refine z_iadd dX7_append_87 ?_
        refine z_iload dX7_append_88 rfl ?_
        refine z_cV2n mX6_set gRX7_47 dX7_append_90 (s_set hh.2.2.2.2.2) (by decide) (by first | assumption | rfl) (by rfl) (Nat.le_of_ble_eq_true rfl) (Nat.le_refl _) (Nat.le_refl _) ?_
        rw [z_twenty, rset_in (show 20 * t + Od nq qd seed i < 400 by omega) (by decide), ← zup_zcp]
        exact tail
      refine z_iload dX7_append_15 rfl ?_
      refine z_aload_n dX7_append_17 rfl ?_
      refine z_getI fRX7_40 dX7_append_18 (by first | assumption | rfl) (by rfl) ?_
      refine z_icmp_ge (tgt := 128) dX7_append_21 (by decide) (fun hb => absurd hb (by rw [a1 p (by omega) (by omega), hP.1]; exact nI_ge (by omega) (by omega))) (fun _ => ?_)
      refine z_aload_n dX7_append_24 rfl ?_
      refine z_iload dX7_append_25 rfl ?_
      refine z_cV1s mX6_get gRX7_36 dX7_append_27 (s_getN hd rfl (show i < 20 by omega)) (by decide) (by first | assumption | rfl) (by rfl) (Nat.le_of_ble_eq_true rfl) (Nat.le_refl _) (Nat.le_refl _) ?_
      rw [a1 (d + 1) (by omega) (by omega), (hm i (by omega)).1]
      cases hmi : m i with
      | none =>
        rw [hmi] at mid
        refine z_ist8 dX7_append_30 (by decide) rfl ?_
        refine z_iload dX7_append_32 rfl ?_
        refine z_iconst (v := -1) dX7_append_34 rfl ?_
        refine z_icmp_ne (tgt := 42) dX7_append_35 (by decide) (fun hb => absurd (rfl) hb) (fun _ => ?_)
        refine z_iconst (v := -1) dX7_append_38 rfl ?_
        refine z_goto (tgt := 50) dX7_append_39 (by decide) ?_
        refine z_ist9 dX7_append_50 (by decide) rfl ?_
        exact mid
      | some k =>
        have hk := (hm i (by omega)).2 k hmi
        rw [hmi] at mid
        refine z_ist8 dX7_append_30 (by decide) rfl ?_
        refine z_iload dX7_append_32 rfl ?_
        refine z_iconst (v := -1) dX7_append_34 rfl ?_
        refine z_icmp_ne (tgt := 42) dX7_append_35 (by decide) (fun _ => ?_) (fun hb => absurd hb (mk_m1 k (by omega)))
        refine z_aload_n dX7_append_42 rfl ?_
        refine z_iload dX7_append_43 rfl ?_
        refine z_iload dX7_append_45 rfl ?_
        refine z_cV2s mX4_choiceAt gRX7_43 dX7_append_47 (s_choiceAt hp rfl (show mkI (some k) = nI k from rfl) (show i < 20 by omega) (show k < 5 by omega)) (by decide) (by first | assumption | rfl) (by rfl) (Nat.le_of_ble_eq_true rfl) (Nat.le_refl _) (Nat.le_refl _) ?_
        rw [a1 (p + 7 + 1) (by omega) (by omega), hP.2.2.2.1 i (by omega) k hk]
        refine z_ist9 dX7_append_50 (by decide) rfl ?_
        exact mid
  refine z_aload_n dX7_append_0 rfl ?_
  refine z_getI fRX7_32 dX7_append_1 (by first | assumption | rfl) (by rfl) ?_
  refine z_ist4 dX7_append_4 (by decide) rfl ?_
  refine z_iconst (v := 0) dX7_append_6 rfl ?_
  refine z_ist5 dX7_append_7 (by decide) rfl ?_
  refine z_iconst (v := 0) dX7_append_9 rfl ?_
  refine z_ist6 dX7_append_10 (by decide) rfl ?_
  refine z_iconst (v := 0) dX7_append_12 rfl ?_
  refine z_ist7 dX7_append_13 (by decide) rfl ?_
  rw [ht]
  exact loop nq 0 I (by omega) (fun _ _ _ => rfl) (fun j hj => absurd hj (Nat.not_lt_zero j)) (fun _ _ => rfl) (fun j hj => absurd hj (Nat.not_lt_zero j)) (fun _ _ => rfl)
end
