section
-- ===== PART A: goes FIRST, ahead of the names: the tables' words, and 'selects' of the private methods out of them =====
/-- a private method of a class that the tables say can be made, by its rows of tables_1 -/
def lw_okq (q : MethodName × Nat) : Prop := (q.1.cls ≠ "java/lang/invoke/MethodHandle" ∧ q.1.cls ≠ "java/lang/invoke/VarHandle") ∧ Cond.instantiable q.1.cls q.2 ∈ tables_1 ∧ Cond.privateMethod q.1 ∈ tables_1 ∧ Cond.instanceMethod q.1 ∈ tables_1
theorem lw_p0 : lw_okq (⟨"ClashDay$DayReader", "readClause", "(LClashDay$Board;I)Z"⟩, 2) := ⟨⟨by decide +kernel, by decide +kernel⟩, List.mem_of_getElem? (i := 65) (by decide +kernel), List.mem_of_getElem? (i := 492) (by decide +kernel), List.mem_of_getElem? (i := 493) (by decide +kernel)⟩
theorem lw_p1 : lw_okq (⟨"ClashDay$DayReader", "readDay", "(LClashDay$Board;)Z"⟩, 2) := ⟨⟨by decide +kernel, by decide +kernel⟩, List.mem_of_getElem? (i := 65) (by decide +kernel), List.mem_of_getElem? (i := 554) (by decide +kernel), List.mem_of_getElem? (i := 555) (by decide +kernel)⟩
theorem lw_p2 : lw_okq (⟨"ClashDay$DayReader", "readNumber", "(III)Z"⟩, 2) := ⟨⟨by decide +kernel, by decide +kernel⟩, List.mem_of_getElem? (i := 65) (by decide +kernel), List.mem_of_getElem? (i := 558) (by decide +kernel), List.mem_of_getElem? (i := 559) (by decide +kernel)⟩
theorem lw_p3 : lw_okq (⟨"ClashDay$DayReader", "readPaper", "(LClashDay$Board;)Z"⟩, 2) := ⟨⟨by decide +kernel, by decide +kernel⟩, List.mem_of_getElem? (i := 65) (by decide +kernel), List.mem_of_getElem? (i := 566) (by decide +kernel), List.mem_of_getElem? (i := 567) (by decide +kernel)⟩
theorem lw_p4 : lw_okq (⟨"ClashDay$DayReader", "readCandidate", "(LClashDay$Board;)Z"⟩, 2) := ⟨⟨by decide +kernel, by decide +kernel⟩, List.mem_of_getElem? (i := 65) (by decide +kernel), List.mem_of_getElem? (i := 574) (by decide +kernel), List.mem_of_getElem? (i := 575) (by decide +kernel)⟩
theorem lw_p5 : lw_okq (⟨"ClashDay$DayReader", "readTaken", "(LClashDay$Board;)Z"⟩, 2) := ⟨⟨by decide +kernel, by decide +kernel⟩, List.mem_of_getElem? (i := 65) (by decide +kernel), List.mem_of_getElem? (i := 582) (by decide +kernel), List.mem_of_getElem? (i := 583) (by decide +kernel)⟩
theorem lw_p6 : lw_okq (⟨"ClashDay$RuleReader", "readClause", "(LClashDay$Rule;I)Z"⟩, 2) := ⟨⟨by decide +kernel, by decide +kernel⟩, List.mem_of_getElem? (i := 79) (by decide +kernel), List.mem_of_getElem? (i := 612) (by decide +kernel), List.mem_of_getElem? (i := 613) (by decide +kernel)⟩
theorem lw_p7 : lw_okq (⟨"ClashDay$RuleReader", "readSum", "(LClashDay$Rule;)Z"⟩, 2) := ⟨⟨by decide +kernel, by decide +kernel⟩, List.mem_of_getElem? (i := 79) (by decide +kernel), List.mem_of_getElem? (i := 623) (by decide +kernel), List.mem_of_getElem? (i := 624) (by decide +kernel)⟩
theorem lw_p8 : lw_okq (⟨"ClashDay$RuleReader", "readValue", "(LClashDay$Rule;)Z"⟩, 2) := ⟨⟨by decide +kernel, by decide +kernel⟩, List.mem_of_getElem? (i := 79) (by decide +kernel), List.mem_of_getElem? (i := 627) (by decide +kernel), List.mem_of_getElem? (i := 628) (by decide +kernel)⟩
theorem lw_p9 : lw_okq (⟨"ClashDay$RuleReader", "readTest", "(LClashDay$Rule;I)Z"⟩, 2) := ⟨⟨by decide +kernel, by decide +kernel⟩, List.mem_of_getElem? (i := 79) (by decide +kernel), List.mem_of_getElem? (i := 650) (by decide +kernel), List.mem_of_getElem? (i := 651) (by decide +kernel)⟩
theorem lw_p10 : lw_okq (⟨"ClashDay$RuleReader", "readFact", "(LClashDay$Rule;I)Z"⟩, 2) := ⟨⟨by decide +kernel, by decide +kernel⟩, List.mem_of_getElem? (i := 79) (by decide +kernel), List.mem_of_getElem? (i := 654) (by decide +kernel), List.mem_of_getElem? (i := 655) (by decide +kernel)⟩
theorem lw_p11 : lw_okq (⟨"ClashDay", "remember", "()V"⟩, 14) := ⟨⟨by decide +kernel, by decide +kernel⟩, List.mem_of_getElem? (i := 22) (by decide +kernel), List.mem_of_getElem? (i := 738) (by decide +kernel), List.mem_of_getElem? (i := 739) (by decide +kernel)⟩
theorem lw_p12 : lw_okq (⟨"ClashDay", "ruleInForce", "()LClashDay$Rule;"⟩, 14) := ⟨⟨by decide +kernel, by decide +kernel⟩, List.mem_of_getElem? (i := 22) (by decide +kernel), List.mem_of_getElem? (i := 742) (by decide +kernel), List.mem_of_getElem? (i := 743) (by decide +kernel)⟩
theorem lw_p13 : lw_okq (⟨"ClashDay$Turns", "leastThatCan", "(LClashDay$Board;)I"⟩, 3) := ⟨⟨by decide +kernel, by decide +kernel⟩, List.mem_of_getElem? (i := 297) (by decide +kernel), List.mem_of_getElem? (i := 750) (by decide +kernel), List.mem_of_getElem? (i := 751) (by decide +kernel)⟩
theorem lw_p14 : lw_okq (⟨"ClashDay$Planner", "prepare", "(LClashDay$Board;II)V"⟩, 13) := ⟨⟨by decide +kernel, by decide +kernel⟩, List.mem_of_getElem? (i := 239) (by decide +kernel), List.mem_of_getElem? (i := 759) (by decide +kernel), List.mem_of_getElem? (i := 760) (by decide +kernel)⟩
theorem lw_p15 : lw_okq (⟨"ClashDay$Planner", "follow", "(IIIII)V"⟩, 13) := ⟨⟨by decide +kernel, by decide +kernel⟩, List.mem_of_getElem? (i := 239) (by decide +kernel), List.mem_of_getElem? (i := 780) (by decide +kernel), List.mem_of_getElem? (i := 781) (by decide +kernel)⟩
def lw_privs_1 : List (MethodName × Nat) := [(⟨"ClashDay$DayReader", "readClause", "(LClashDay$Board;I)Z"⟩, 2), (⟨"ClashDay$DayReader", "readDay", "(LClashDay$Board;)Z"⟩, 2), (⟨"ClashDay$DayReader", "readNumber", "(III)Z"⟩, 2), (⟨"ClashDay$DayReader", "readPaper", "(LClashDay$Board;)Z"⟩, 2), (⟨"ClashDay$DayReader", "readCandidate", "(LClashDay$Board;)Z"⟩, 2), (⟨"ClashDay$DayReader", "readTaken", "(LClashDay$Board;)Z"⟩, 2), (⟨"ClashDay$RuleReader", "readClause", "(LClashDay$Rule;I)Z"⟩, 2), (⟨"ClashDay$RuleReader", "readSum", "(LClashDay$Rule;)Z"⟩, 2), (⟨"ClashDay$RuleReader", "readValue", "(LClashDay$Rule;)Z"⟩, 2), (⟨"ClashDay$RuleReader", "readTest", "(LClashDay$Rule;I)Z"⟩, 2), (⟨"ClashDay$RuleReader", "readFact", "(LClashDay$Rule;I)Z"⟩, 2), (⟨"ClashDay", "remember", "()V"⟩, 14), (⟨"ClashDay", "ruleInForce", "()LClashDay$Rule;"⟩, 14), (⟨"ClashDay$Turns", "leastThatCan", "(LClashDay$Board;)I"⟩, 3), (⟨"ClashDay$Planner", "prepare", "(LClashDay$Board;II)V"⟩, 13), (⟨"ClashDay$Planner", "follow", "(IIIII)V"⟩, 13)]
theorem lw_r1 : ∀ q ∈ lw_privs_1, lw_okq q := List.forall_mem_cons.mpr ⟨lw_p0, List.forall_mem_cons.mpr ⟨lw_p1, List.forall_mem_cons.mpr ⟨lw_p2, List.forall_mem_cons.mpr ⟨lw_p3, List.forall_mem_cons.mpr ⟨lw_p4, List.forall_mem_cons.mpr ⟨lw_p5, List.forall_mem_cons.mpr ⟨lw_p6, List.forall_mem_cons.mpr ⟨lw_p7, List.forall_mem_cons.mpr ⟨lw_p8, List.forall_mem_cons.mpr ⟨lw_p9, List.forall_mem_cons.mpr ⟨lw_p10, List.forall_mem_cons.mpr ⟨lw_p11, List.forall_mem_cons.mpr ⟨lw_p12, List.forall_mem_cons.mpr ⟨lw_p13, List.forall_mem_cons.mpr ⟨lw_p14, List.forall_mem_cons.mpr ⟨lw_p15, fun _ h => absurd h List.not_mem_nil⟩⟩⟩⟩⟩⟩⟩⟩⟩⟩⟩⟩⟩⟩⟩⟩
theorem lw_p16 : lw_okq (⟨"ClashDay$Planner", "weigh", "(III)V"⟩, 13) := ⟨⟨by decide +kernel, by decide +kernel⟩, List.mem_of_getElem? (i := 239) (by decide +kernel), List.mem_of_getElem? (i := 784) (by decide +kernel), List.mem_of_getElem? (i := 785) (by decide +kernel)⟩
theorem lw_p17 : lw_okq (⟨"ClashDay$Planner", "leastSlot", "(III)I"⟩, 13) := ⟨⟨by decide +kernel, by decide +kernel⟩, List.mem_of_getElem? (i := 239) (by decide +kernel), List.mem_of_getElem? (i := 795) (by decide +kernel), List.mem_of_getElem? (i := 796) (by decide +kernel)⟩
theorem lw_p18 : lw_okq (⟨"ClashDay$Turns", "dearest", "(LClashDay$Board;LClashDay$Rule;)I"⟩, 3) := ⟨⟨by decide +kernel, by decide +kernel⟩, List.mem_of_getElem? (i := 297) (by decide +kernel), List.mem_of_getElem? (i := 807) (by decide +kernel), List.mem_of_getElem? (i := 808) (by decide +kernel)⟩
theorem lw_p19 : lw_okq (⟨"ClashDay$Turns", "gatherFacts", "(LClashDay$Board;I)V"⟩, 3) := ⟨⟨by decide +kernel, by decide +kernel⟩, List.mem_of_getElem? (i := 297) (by decide +kernel), List.mem_of_getElem? (i := 821) (by decide +kernel), List.mem_of_getElem? (i := 822) (by decide +kernel)⟩
theorem lw_p20 : lw_okq (⟨"ClashDay$Rule", "valueOf", "(II[J[J)J"⟩, 5) := ⟨⟨by decide +kernel, by decide +kernel⟩, List.mem_of_getElem? (i := 390) (by decide +kernel), List.mem_of_getElem? (i := 834) (by decide +kernel), List.mem_of_getElem? (i := 835) (by decide +kernel)⟩
theorem lw_p21 : lw_okq (⟨"ClashDay$Lines", "spellRun", "(IIC)V"⟩, 4) := ⟨⟨by decide +kernel, by decide +kernel⟩, List.mem_of_getElem? (i := 369) (by decide +kernel), List.mem_of_getElem? (i := 943) (by decide +kernel), List.mem_of_getElem? (i := 944) (by decide +kernel)⟩
theorem lw_p22 : lw_okq (⟨"ClashDay$Lines", "put", "(IC)V"⟩, 4) := ⟨⟨by decide +kernel, by decide +kernel⟩, List.mem_of_getElem? (i := 369) (by decide +kernel), List.mem_of_getElem? (i := 947) (by decide +kernel), List.mem_of_getElem? (i := 948) (by decide +kernel)⟩
theorem lw_p23 : lw_okq (⟨"ClashDay$Lines", "watchSlot", "(LClashDay$Board;II)V"⟩, 4) := ⟨⟨by decide +kernel, by decide +kernel⟩, List.mem_of_getElem? (i := 369) (by decide +kernel), List.mem_of_getElem? (i := 988) (by decide +kernel), List.mem_of_getElem? (i := 989) (by decide +kernel)⟩
theorem lw_p24 : lw_okq (⟨"ClashDay$Lines", "leastThatCan", "(I)I"⟩, 4) := ⟨⟨by decide +kernel, by decide +kernel⟩, List.mem_of_getElem? (i := 369) (by decide +kernel), List.mem_of_getElem? (i := 995) (by decide +kernel), List.mem_of_getElem? (i := 996) (by decide +kernel)⟩
theorem lw_p25 : lw_okq (⟨"ClashDay$Trials", "goOnWithRow", "(IIII)V"⟩, 13) := ⟨⟨by decide +kernel, by decide +kernel⟩, List.mem_of_getElem? (i := 314) (by decide +kernel), List.mem_of_getElem? (i := 1020) (by decide +kernel), List.mem_of_getElem? (i := 1021) (by decide +kernel)⟩
theorem lw_p26 : lw_okq (⟨"ClashDay$Trials", "isAsNoted", "(LClashDay$Notes;LClashDay$Rule;)Z"⟩, 13) := ⟨⟨by decide +kernel, by decide +kernel⟩, List.mem_of_getElem? (i := 314) (by decide +kernel), List.mem_of_getElem? (i := 1080) (by decide +kernel), List.mem_of_getElem? (i := 1081) (by decide +kernel)⟩
theorem lw_p27 : lw_okq (⟨"ClashDay$Trials", "gainOf", "(I)I"⟩, 13) := ⟨⟨by decide +kernel, by decide +kernel⟩, List.mem_of_getElem? (i := 314) (by decide +kernel), List.mem_of_getElem? (i := 1111) (by decide +kernel), List.mem_of_getElem? (i := 1112) (by decide +kernel)⟩
theorem lw_p28 : lw_okq (⟨"ClashDay$Trials", "isSettled", "(I)Z"⟩, 13) := ⟨⟨by decide +kernel, by decide +kernel⟩, List.mem_of_getElem? (i := 314) (by decide +kernel), List.mem_of_getElem? (i := 1115) (by decide +kernel), List.mem_of_getElem? (i := 1116) (by decide +kernel)⟩
theorem lw_p29 : lw_okq (⟨"ClashDay$Trials", "drawIllness", "(I)V"⟩, 13) := ⟨⟨by decide +kernel, by decide +kernel⟩, List.mem_of_getElem? (i := 314) (by decide +kernel), List.mem_of_getElem? (i := 1182) (by decide +kernel), List.mem_of_getElem? (i := 1183) (by decide +kernel)⟩
theorem lw_p30 : lw_okq (⟨"ClashDay$Trials", "nextDraw", "()I"⟩, 13) := ⟨⟨by decide +kernel, by decide +kernel⟩, List.mem_of_getElem? (i := 314) (by decide +kernel), List.mem_of_getElem? (i := 1186) (by decide +kernel), List.mem_of_getElem? (i := 1187) (by decide +kernel)⟩
theorem lw_p31 : lw_okq (⟨"ClashDayModel", "four", "(I)V"⟩, 58) := ⟨⟨by decide +kernel, by decide +kernel⟩, List.mem_of_getElem? (i := 1217) (by decide +kernel), List.mem_of_getElem? (i := 1403) (by decide +kernel), List.mem_of_getElem? (i := 1404) (by decide +kernel)⟩
def lw_privs_2 : List (MethodName × Nat) := [(⟨"ClashDay$Planner", "weigh", "(III)V"⟩, 13), (⟨"ClashDay$Planner", "leastSlot", "(III)I"⟩, 13), (⟨"ClashDay$Turns", "dearest", "(LClashDay$Board;LClashDay$Rule;)I"⟩, 3), (⟨"ClashDay$Turns", "gatherFacts", "(LClashDay$Board;I)V"⟩, 3), (⟨"ClashDay$Rule", "valueOf", "(II[J[J)J"⟩, 5), (⟨"ClashDay$Lines", "spellRun", "(IIC)V"⟩, 4), (⟨"ClashDay$Lines", "put", "(IC)V"⟩, 4), (⟨"ClashDay$Lines", "watchSlot", "(LClashDay$Board;II)V"⟩, 4), (⟨"ClashDay$Lines", "leastThatCan", "(I)I"⟩, 4), (⟨"ClashDay$Trials", "goOnWithRow", "(IIII)V"⟩, 13), (⟨"ClashDay$Trials", "isAsNoted", "(LClashDay$Notes;LClashDay$Rule;)Z"⟩, 13), (⟨"ClashDay$Trials", "gainOf", "(I)I"⟩, 13), (⟨"ClashDay$Trials", "isSettled", "(I)Z"⟩, 13), (⟨"ClashDay$Trials", "drawIllness", "(I)V"⟩, 13), (⟨"ClashDay$Trials", "nextDraw", "()I"⟩, 13), (⟨"ClashDayModel", "four", "(I)V"⟩, 58)]
theorem lw_r2 : ∀ q ∈ lw_privs_2, lw_okq q := List.forall_mem_cons.mpr ⟨lw_p16, List.forall_mem_cons.mpr ⟨lw_p17, List.forall_mem_cons.mpr ⟨lw_p18, List.forall_mem_cons.mpr ⟨lw_p19, List.forall_mem_cons.mpr ⟨lw_p20, List.forall_mem_cons.mpr ⟨lw_p21, List.forall_mem_cons.mpr ⟨lw_p22, List.forall_mem_cons.mpr ⟨lw_p23, List.forall_mem_cons.mpr ⟨lw_p24, List.forall_mem_cons.mpr ⟨lw_p25, List.forall_mem_cons.mpr ⟨lw_p26, List.forall_mem_cons.mpr ⟨lw_p27, List.forall_mem_cons.mpr ⟨lw_p28, List.forall_mem_cons.mpr ⟨lw_p29, List.forall_mem_cons.mpr ⟨lw_p30, List.forall_mem_cons.mpr ⟨lw_p31, fun _ h => absurd h List.not_mem_nil⟩⟩⟩⟩⟩⟩⟩⟩⟩⟩⟩⟩⟩⟩⟩⟩
theorem lw_p32 : lw_okq (⟨"ClashDayModel", "readsAll", "()Z"⟩, 58) := ⟨⟨by decide +kernel, by decide +kernel⟩, List.mem_of_getElem? (i := 1217) (by decide +kernel), List.mem_of_getElem? (i := 1415) (by decide +kernel), List.mem_of_getElem? (i := 1416) (by decide +kernel)⟩
theorem lw_p33 : lw_okq (⟨"ClashDayModel", "clauseHere", "()Z"⟩, 58) := ⟨⟨by decide +kernel, by decide +kernel⟩, List.mem_of_getElem? (i := 1217) (by decide +kernel), List.mem_of_getElem? (i := 1419) (by decide +kernel), List.mem_of_getElem? (i := 1420) (by decide +kernel)⟩
theorem lw_p34 : lw_okq (⟨"ClashDayModel", "see", "()I"⟩, 58) := ⟨⟨by decide +kernel, by decide +kernel⟩, List.mem_of_getElem? (i := 1217) (by decide +kernel), List.mem_of_getElem? (i := 1423) (by decide +kernel), List.mem_of_getElem? (i := 1424) (by decide +kernel)⟩
theorem lw_p35 : lw_okq (⟨"ClashDayModel", "isDayWord", "()Z"⟩, 58) := ⟨⟨by decide +kernel, by decide +kernel⟩, List.mem_of_getElem? (i := 1217) (by decide +kernel), List.mem_of_getElem? (i := 1427) (by decide +kernel), List.mem_of_getElem? (i := 1428) (by decide +kernel)⟩
theorem lw_p36 : lw_okq (⟨"ClashDayModel", "isWord", "(J)Z"⟩, 58) := ⟨⟨by decide +kernel, by decide +kernel⟩, List.mem_of_getElem? (i := 1217) (by decide +kernel), List.mem_of_getElem? (i := 1432) (by decide +kernel), List.mem_of_getElem? (i := 1433) (by decide +kernel)⟩
theorem lw_p37 : lw_okq (⟨"ClashDayModel", "isLetter", "(I)Z"⟩, 58) := ⟨⟨by decide +kernel, by decide +kernel⟩, List.mem_of_getElem? (i := 1217) (by decide +kernel), List.mem_of_getElem? (i := 1436) (by decide +kernel), List.mem_of_getElem? (i := 1437) (by decide +kernel)⟩
theorem lw_p38 : lw_okq (⟨"ClashDayModel", "fails", "(II)Z"⟩, 58) := ⟨⟨by decide +kernel, by decide +kernel⟩, List.mem_of_getElem? (i := 1217) (by decide +kernel), List.mem_of_getElem? (i := 1444) (by decide +kernel), List.mem_of_getElem? (i := 1445) (by decide +kernel)⟩
theorem lw_p39 : lw_okq (⟨"ClashDayModel", "dayLineHere", "(I)Z"⟩, 58) := ⟨⟨by decide +kernel, by decide +kernel⟩, List.mem_of_getElem? (i := 1217) (by decide +kernel), List.mem_of_getElem? (i := 1448) (by decide +kernel), List.mem_of_getElem? (i := 1449) (by decide +kernel)⟩
theorem lw_p40 : lw_okq (⟨"ClashDayModel", "isDayHere", "(I)Z"⟩, 58) := ⟨⟨by decide +kernel, by decide +kernel⟩, List.mem_of_getElem? (i := 1217) (by decide +kernel), List.mem_of_getElem? (i := 1452) (by decide +kernel), List.mem_of_getElem? (i := 1453) (by decide +kernel)⟩
theorem lw_p41 : lw_okq (⟨"ClashDayModel", "passWord", "()V"⟩, 58) := ⟨⟨by decide +kernel, by decide +kernel⟩, List.mem_of_getElem? (i := 1217) (by decide +kernel), List.mem_of_getElem? (i := 1456) (by decide +kernel), List.mem_of_getElem? (i := 1457) (by decide +kernel)⟩
theorem lw_p42 : lw_okq (⟨"ClashDayModel", "cellHere", "(III)Z"⟩, 58) := ⟨⟨by decide +kernel, by decide +kernel⟩, List.mem_of_getElem? (i := 1217) (by decide +kernel), List.mem_of_getElem? (i := 1460) (by decide +kernel), List.mem_of_getElem? (i := 1461) (by decide +kernel)⟩
theorem lw_p43 : lw_okq (⟨"ClashDayModel", "numberHere", "(II)Z"⟩, 58) := ⟨⟨by decide +kernel, by decide +kernel⟩, List.mem_of_getElem? (i := 1217) (by decide +kernel), List.mem_of_getElem? (i := 1464) (by decide +kernel), List.mem_of_getElem? (i := 1465) (by decide +kernel)⟩
theorem lw_p44 : lw_okq (⟨"ClashDayModel", "isDigit", "(I)Z"⟩, 58) := ⟨⟨by decide +kernel, by decide +kernel⟩, List.mem_of_getElem? (i := 1217) (by decide +kernel), List.mem_of_getElem? (i := 1468) (by decide +kernel), List.mem_of_getElem? (i := 1469) (by decide +kernel)⟩
theorem lw_p45 : lw_okq (⟨"ClashDayModel", "isPaperHere", "(I)Z"⟩, 58) := ⟨⟨by decide +kernel, by decide +kernel⟩, List.mem_of_getElem? (i := 1217) (by decide +kernel), List.mem_of_getElem? (i := 1475) (by decide +kernel), List.mem_of_getElem? (i := 1476) (by decide +kernel)⟩
theorem lw_p46 : lw_okq (⟨"ClashDayModel", "isCandidateHere", "(I)Z"⟩, 58) := ⟨⟨by decide +kernel, by decide +kernel⟩, List.mem_of_getElem? (i := 1217) (by decide +kernel), List.mem_of_getElem? (i := 1479) (by decide +kernel), List.mem_of_getElem? (i := 1480) (by decide +kernel)⟩
theorem lw_p47 : lw_okq (⟨"ClashDayModel", "isTakenHere", "()Z"⟩, 58) := ⟨⟨by decide +kernel, by decide +kernel⟩, List.mem_of_getElem? (i := 1217) (by decide +kernel), List.mem_of_getElem? (i := 1483) (by decide +kernel), List.mem_of_getElem? (i := 1484) (by decide +kernel)⟩
def lw_privs_3 : List (MethodName × Nat) := [(⟨"ClashDayModel", "readsAll", "()Z"⟩, 58), (⟨"ClashDayModel", "clauseHere", "()Z"⟩, 58), (⟨"ClashDayModel", "see", "()I"⟩, 58), (⟨"ClashDayModel", "isDayWord", "()Z"⟩, 58), (⟨"ClashDayModel", "isWord", "(J)Z"⟩, 58), (⟨"ClashDayModel", "isLetter", "(I)Z"⟩, 58), (⟨"ClashDayModel", "fails", "(II)Z"⟩, 58), (⟨"ClashDayModel", "dayLineHere", "(I)Z"⟩, 58), (⟨"ClashDayModel", "isDayHere", "(I)Z"⟩, 58), (⟨"ClashDayModel", "passWord", "()V"⟩, 58), (⟨"ClashDayModel", "cellHere", "(III)Z"⟩, 58), (⟨"ClashDayModel", "numberHere", "(II)Z"⟩, 58), (⟨"ClashDayModel", "isDigit", "(I)Z"⟩, 58), (⟨"ClashDayModel", "isPaperHere", "(I)Z"⟩, 58), (⟨"ClashDayModel", "isCandidateHere", "(I)Z"⟩, 58), (⟨"ClashDayModel", "isTakenHere", "()Z"⟩, 58)]
theorem lw_r3 : ∀ q ∈ lw_privs_3, lw_okq q := List.forall_mem_cons.mpr ⟨lw_p32, List.forall_mem_cons.mpr ⟨lw_p33, List.forall_mem_cons.mpr ⟨lw_p34, List.forall_mem_cons.mpr ⟨lw_p35, List.forall_mem_cons.mpr ⟨lw_p36, List.forall_mem_cons.mpr ⟨lw_p37, List.forall_mem_cons.mpr ⟨lw_p38, List.forall_mem_cons.mpr ⟨lw_p39, List.forall_mem_cons.mpr ⟨lw_p40, List.forall_mem_cons.mpr ⟨lw_p41, List.forall_mem_cons.mpr ⟨lw_p42, List.forall_mem_cons.mpr ⟨lw_p43, List.forall_mem_cons.mpr ⟨lw_p44, List.forall_mem_cons.mpr ⟨lw_p45, List.forall_mem_cons.mpr ⟨lw_p46, List.forall_mem_cons.mpr ⟨lw_p47, fun _ h => absurd h List.not_mem_nil⟩⟩⟩⟩⟩⟩⟩⟩⟩⟩⟩⟩⟩⟩⟩⟩
theorem lw_p48 : lw_okq (⟨"ClashDayModel", "isPlanHere", "()Z"⟩, 58) := ⟨⟨by decide +kernel, by decide +kernel⟩, List.mem_of_getElem? (i := 1217) (by decide +kernel), List.mem_of_getElem? (i := 1487) (by decide +kernel), List.mem_of_getElem? (i := 1488) (by decide +kernel)⟩
theorem lw_p49 : lw_okq (⟨"ClashDayModel", "sum", "()Z"⟩, 58) := ⟨⟨by decide +kernel, by decide +kernel⟩, List.mem_of_getElem? (i := 1217) (by decide +kernel), List.mem_of_getElem? (i := 1491) (by decide +kernel), List.mem_of_getElem? (i := 1492) (by decide +kernel)⟩
theorem lw_p50 : lw_okq (⟨"ClashDayModel", "term", "()Z"⟩, 58) := ⟨⟨by decide +kernel, by decide +kernel⟩, List.mem_of_getElem? (i := 1217) (by decide +kernel), List.mem_of_getElem? (i := 1495) (by decide +kernel), List.mem_of_getElem? (i := 1496) (by decide +kernel)⟩
theorem lw_p51 : lw_okq (⟨"ClashDayModel", "value", "()Z"⟩, 58) := ⟨⟨by decide +kernel, by decide +kernel⟩, List.mem_of_getElem? (i := 1217) (by decide +kernel), List.mem_of_getElem? (i := 1499) (by decide +kernel), List.mem_of_getElem? (i := 1500) (by decide +kernel)⟩
theorem lw_p52 : lw_okq (⟨"ClashDayModel", "makes", "(I)Z"⟩, 58) := ⟨⟨by decide +kernel, by decide +kernel⟩, List.mem_of_getElem? (i := 1217) (by decide +kernel), List.mem_of_getElem? (i := 1504) (by decide +kernel), List.mem_of_getElem? (i := 1505) (by decide +kernel)⟩
theorem lw_p53 : lw_okq (⟨"ClashDayModel", "puts", "(II)V"⟩, 58) := ⟨⟨by decide +kernel, by decide +kernel⟩, List.mem_of_getElem? (i := 1217) (by decide +kernel), List.mem_of_getElem? (i := 1508) (by decide +kernel), List.mem_of_getElem? (i := 1509) (by decide +kernel)⟩
theorem lw_p54 : lw_okq (⟨"ClashDayModel", "wordHere", "()I"⟩, 58) := ⟨⟨by decide +kernel, by decide +kernel⟩, List.mem_of_getElem? (i := 1217) (by decide +kernel), List.mem_of_getElem? (i := 1512) (by decide +kernel), List.mem_of_getElem? (i := 1513) (by decide +kernel)⟩
theorem lw_p55 : lw_okq (⟨"ClashDayModel", "takesWord", "(J)Z"⟩, 58) := ⟨⟨by decide +kernel, by decide +kernel⟩, List.mem_of_getElem? (i := 1217) (by decide +kernel), List.mem_of_getElem? (i := 1527) (by decide +kernel), List.mem_of_getElem? (i := 1528) (by decide +kernel)⟩
theorem lw_p56 : lw_okq (⟨"ClashDayModel", "tested", "()Z"⟩, 58) := ⟨⟨by decide +kernel, by decide +kernel⟩, List.mem_of_getElem? (i := 1217) (by decide +kernel), List.mem_of_getElem? (i := 1531) (by decide +kernel), List.mem_of_getElem? (i := 1532) (by decide +kernel)⟩
theorem lw_p57 : lw_okq (⟨"ClashDayModel", "fact", "()Z"⟩, 58) := ⟨⟨by decide +kernel, by decide +kernel⟩, List.mem_of_getElem? (i := 1217) (by decide +kernel), List.mem_of_getElem? (i := 1535) (by decide +kernel), List.mem_of_getElem? (i := 1536) (by decide +kernel)⟩
theorem lw_p58 : lw_okq (⟨"ClashDayModel", "opens", "(I)Z"⟩, 58) := ⟨⟨by decide +kernel, by decide +kernel⟩, List.mem_of_getElem? (i := 1217) (by decide +kernel), List.mem_of_getElem? (i := 1540) (by decide +kernel), List.mem_of_getElem? (i := 1541) (by decide +kernel)⟩
theorem lw_p59 : lw_okq (⟨"ClashDayModel", "compare", "()Z"⟩, 58) := ⟨⟨by decide +kernel, by decide +kernel⟩, List.mem_of_getElem? (i := 1217) (by decide +kernel), List.mem_of_getElem? (i := 1544) (by decide +kernel), List.mem_of_getElem? (i := 1545) (by decide +kernel)⟩
theorem lw_p60 : lw_okq (⟨"ClashDayModel", "closes", "()V"⟩, 58) := ⟨⟨by decide +kernel, by decide +kernel⟩, List.mem_of_getElem? (i := 1217) (by decide +kernel), List.mem_of_getElem? (i := 1548) (by decide +kernel), List.mem_of_getElem? (i := 1549) (by decide +kernel)⟩
theorem lw_p61 : lw_okq (⟨"ClashDayModel", "layDown", "(I)V"⟩, 58) := ⟨⟨by decide +kernel, by decide +kernel⟩, List.mem_of_getElem? (i := 1217) (by decide +kernel), List.mem_of_getElem? (i := 1552) (by decide +kernel), List.mem_of_getElem? (i := 1553) (by decide +kernel)⟩
theorem lw_p62 : lw_okq (⟨"ClashDayModel", "isInside", "()Z"⟩, 58) := ⟨⟨by decide +kernel, by decide +kernel⟩, List.mem_of_getElem? (i := 1217) (by decide +kernel), List.mem_of_getElem? (i := 1559) (by decide +kernel), List.mem_of_getElem? (i := 1560) (by decide +kernel)⟩
theorem lw_p63 : lw_okq (⟨"ClashDayModel", "beginsAnew", "()V"⟩, 58) := ⟨⟨by decide +kernel, by decide +kernel⟩, List.mem_of_getElem? (i := 1217) (by decide +kernel), List.mem_of_getElem? (i := 1569) (by decide +kernel), List.mem_of_getElem? (i := 1570) (by decide +kernel)⟩
def lw_privs_4 : List (MethodName × Nat) := [(⟨"ClashDayModel", "isPlanHere", "()Z"⟩, 58), (⟨"ClashDayModel", "sum", "()Z"⟩, 58), (⟨"ClashDayModel", "term", "()Z"⟩, 58), (⟨"ClashDayModel", "value", "()Z"⟩, 58), (⟨"ClashDayModel", "makes", "(I)Z"⟩, 58), (⟨"ClashDayModel", "puts", "(II)V"⟩, 58), (⟨"ClashDayModel", "wordHere", "()I"⟩, 58), (⟨"ClashDayModel", "takesWord", "(J)Z"⟩, 58), (⟨"ClashDayModel", "tested", "()Z"⟩, 58), (⟨"ClashDayModel", "fact", "()Z"⟩, 58), (⟨"ClashDayModel", "opens", "(I)Z"⟩, 58), (⟨"ClashDayModel", "compare", "()Z"⟩, 58), (⟨"ClashDayModel", "closes", "()V"⟩, 58), (⟨"ClashDayModel", "layDown", "(I)V"⟩, 58), (⟨"ClashDayModel", "isInside", "()Z"⟩, 58), (⟨"ClashDayModel", "beginsAnew", "()V"⟩, 58)]
theorem lw_r4 : ∀ q ∈ lw_privs_4, lw_okq q := List.forall_mem_cons.mpr ⟨lw_p48, List.forall_mem_cons.mpr ⟨lw_p49, List.forall_mem_cons.mpr ⟨lw_p50, List.forall_mem_cons.mpr ⟨lw_p51, List.forall_mem_cons.mpr ⟨lw_p52, List.forall_mem_cons.mpr ⟨lw_p53, List.forall_mem_cons.mpr ⟨lw_p54, List.forall_mem_cons.mpr ⟨lw_p55, List.forall_mem_cons.mpr ⟨lw_p56, List.forall_mem_cons.mpr ⟨lw_p57, List.forall_mem_cons.mpr ⟨lw_p58, List.forall_mem_cons.mpr ⟨lw_p59, List.forall_mem_cons.mpr ⟨lw_p60, List.forall_mem_cons.mpr ⟨lw_p61, List.forall_mem_cons.mpr ⟨lw_p62, List.forall_mem_cons.mpr ⟨lw_p63, fun _ h => absurd h List.not_mem_nil⟩⟩⟩⟩⟩⟩⟩⟩⟩⟩⟩⟩⟩⟩⟩⟩
theorem lw_p64 : lw_okq (⟨"ClashDayModel", "isRule", "(I)Z"⟩, 58) := ⟨⟨by decide +kernel, by decide +kernel⟩, List.mem_of_getElem? (i := 1217) (by decide +kernel), List.mem_of_getElem? (i := 1577) (by decide +kernel), List.mem_of_getElem? (i := 1578) (by decide +kernel)⟩
theorem lw_p65 : lw_okq (⟨"ClashDayModel", "isPaper", "(I)Z"⟩, 58) := ⟨⟨by decide +kernel, by decide +kernel⟩, List.mem_of_getElem? (i := 1217) (by decide +kernel), List.mem_of_getElem? (i := 1585) (by decide +kernel), List.mem_of_getElem? (i := 1586) (by decide +kernel)⟩
theorem lw_p66 : lw_okq (⟨"ClashDayModel", "doesSit", "(II)Z"⟩, 58) := ⟨⟨by decide +kernel, by decide +kernel⟩, List.mem_of_getElem? (i := 1217) (by decide +kernel), List.mem_of_getElem? (i := 1590) (by decide +kernel), List.mem_of_getElem? (i := 1591) (by decide +kernel)⟩
theorem lw_p67 : lw_okq (⟨"ClashDayModel", "isCandidate", "(I)Z"⟩, 58) := ⟨⟨by decide +kernel, by decide +kernel⟩, List.mem_of_getElem? (i := 1217) (by decide +kernel), List.mem_of_getElem? (i := 1601) (by decide +kernel), List.mem_of_getElem? (i := 1602) (by decide +kernel)⟩
theorem lw_p68 : lw_okq (⟨"ClashDayModel", "isDay", "()Z"⟩, 58) := ⟨⟨by decide +kernel, by decide +kernel⟩, List.mem_of_getElem? (i := 1217) (by decide +kernel), List.mem_of_getElem? (i := 1609) (by decide +kernel), List.mem_of_getElem? (i := 1610) (by decide +kernel)⟩
theorem lw_p69 : lw_okq (⟨"ClashDayModel", "freeIn", "(I)I"⟩, 58) := ⟨⟨by decide +kernel, by decide +kernel⟩, List.mem_of_getElem? (i := 1217) (by decide +kernel), List.mem_of_getElem? (i := 1614) (by decide +kernel), List.mem_of_getElem? (i := 1615) (by decide +kernel)⟩
theorem lw_p70 : lw_okq (⟨"ClashDayModel", "isPlanned", "(I)Z"⟩, 58) := ⟨⟨by decide +kernel, by decide +kernel⟩, List.mem_of_getElem? (i := 1217) (by decide +kernel), List.mem_of_getElem? (i := 1618) (by decide +kernel), List.mem_of_getElem? (i := 1619) (by decide +kernel)⟩
theorem lw_p71 : lw_okq (⟨"ClashDayModel", "sitsIn", "(II)I"⟩, 58) := ⟨⟨by decide +kernel, by decide +kernel⟩, List.mem_of_getElem? (i := 1217) (by decide +kernel), List.mem_of_getElem? (i := 1622) (by decide +kernel), List.mem_of_getElem? (i := 1623) (by decide +kernel)⟩
theorem lw_p72 : lw_okq (⟨"ClashDayModel", "beginOf", "(II)I"⟩, 58) := ⟨⟨by decide +kernel, by decide +kernel⟩, List.mem_of_getElem? (i := 1217) (by decide +kernel), List.mem_of_getElem? (i := 1626) (by decide +kernel), List.mem_of_getElem? (i := 1627) (by decide +kernel)⟩
theorem lw_p73 : lw_okq (⟨"ClashDayModel", "timeOf", "(II)I"⟩, 58) := ⟨⟨by decide +kernel, by decide +kernel⟩, List.mem_of_getElem? (i := 1217) (by decide +kernel), List.mem_of_getElem? (i := 1630) (by decide +kernel), List.mem_of_getElem? (i := 1631) (by decide +kernel)⟩
theorem lw_p74 : lw_okq (⟨"ClashDayModel", "keepsAct", "()V"⟩, 58) := ⟨⟨by decide +kernel, by decide +kernel⟩, List.mem_of_getElem? (i := 1217) (by decide +kernel), List.mem_of_getElem? (i := 1646) (by decide +kernel), List.mem_of_getElem? (i := 1647) (by decide +kernel)⟩
theorem lw_p75 : lw_okq (⟨"ClashDayModel", "passes", "()I"⟩, 58) := ⟨⟨by decide +kernel, by decide +kernel⟩, List.mem_of_getElem? (i := 1217) (by decide +kernel), List.mem_of_getElem? (i := 1650) (by decide +kernel), List.mem_of_getElem? (i := 1651) (by decide +kernel)⟩
theorem lw_p76 : lw_okq (⟨"ClashDayModel", "choice", "()I"⟩, 58) := ⟨⟨by decide +kernel, by decide +kernel⟩, List.mem_of_getElem? (i := 1217) (by decide +kernel), List.mem_of_getElem? (i := 1654) (by decide +kernel), List.mem_of_getElem? (i := 1655) (by decide +kernel)⟩
theorem lw_p77 : lw_okq (⟨"ClashDayModel", "isWaiting", "(I)Z"⟩, 58) := ⟨⟨by decide +kernel, by decide +kernel⟩, List.mem_of_getElem? (i := 1217) (by decide +kernel), List.mem_of_getElem? (i := 1658) (by decide +kernel), List.mem_of_getElem? (i := 1659) (by decide +kernel)⟩
theorem lw_p78 : lw_okq (⟨"ClashDayModel", "plansOf", "(I)Z"⟩, 58) := ⟨⟨by decide +kernel, by decide +kernel⟩, List.mem_of_getElem? (i := 1217) (by decide +kernel), List.mem_of_getElem? (i := 1662) (by decide +kernel), List.mem_of_getElem? (i := 1663) (by decide +kernel)⟩
theorem lw_p79 : lw_okq (⟨"ClashDayModel", "plansBy", "(II)Z"⟩, 58) := ⟨⟨by decide +kernel, by decide +kernel⟩, List.mem_of_getElem? (i := 1217) (by decide +kernel), List.mem_of_getElem? (i := 1666) (by decide +kernel), List.mem_of_getElem? (i := 1667) (by decide +kernel)⟩
def lw_privs_5 : List (MethodName × Nat) := [(⟨"ClashDayModel", "isRule", "(I)Z"⟩, 58), (⟨"ClashDayModel", "isPaper", "(I)Z"⟩, 58), (⟨"ClashDayModel", "doesSit", "(II)Z"⟩, 58), (⟨"ClashDayModel", "isCandidate", "(I)Z"⟩, 58), (⟨"ClashDayModel", "isDay", "()Z"⟩, 58), (⟨"ClashDayModel", "freeIn", "(I)I"⟩, 58), (⟨"ClashDayModel", "isPlanned", "(I)Z"⟩, 58), (⟨"ClashDayModel", "sitsIn", "(II)I"⟩, 58), (⟨"ClashDayModel", "beginOf", "(II)I"⟩, 58), (⟨"ClashDayModel", "timeOf", "(II)I"⟩, 58), (⟨"ClashDayModel", "keepsAct", "()V"⟩, 58), (⟨"ClashDayModel", "passes", "()I"⟩, 58), (⟨"ClashDayModel", "choice", "()I"⟩, 58), (⟨"ClashDayModel", "isWaiting", "(I)Z"⟩, 58), (⟨"ClashDayModel", "plansOf", "(I)Z"⟩, 58), (⟨"ClashDayModel", "plansBy", "(II)Z"⟩, 58)]
theorem lw_r5 : ∀ q ∈ lw_privs_5, lw_okq q := List.forall_mem_cons.mpr ⟨lw_p64, List.forall_mem_cons.mpr ⟨lw_p65, List.forall_mem_cons.mpr ⟨lw_p66, List.forall_mem_cons.mpr ⟨lw_p67, List.forall_mem_cons.mpr ⟨lw_p68, List.forall_mem_cons.mpr ⟨lw_p69, List.forall_mem_cons.mpr ⟨lw_p70, List.forall_mem_cons.mpr ⟨lw_p71, List.forall_mem_cons.mpr ⟨lw_p72, List.forall_mem_cons.mpr ⟨lw_p73, List.forall_mem_cons.mpr ⟨lw_p74, List.forall_mem_cons.mpr ⟨lw_p75, List.forall_mem_cons.mpr ⟨lw_p76, List.forall_mem_cons.mpr ⟨lw_p77, List.forall_mem_cons.mpr ⟨lw_p78, List.forall_mem_cons.mpr ⟨lw_p79, fun _ h => absurd h List.not_mem_nil⟩⟩⟩⟩⟩⟩⟩⟩⟩⟩⟩⟩⟩⟩⟩⟩
theorem lw_p80 : lw_okq (⟨"ClashDayModel", "orderOf", "(I)V"⟩, 58) := ⟨⟨by decide +kernel, by decide +kernel⟩, List.mem_of_getElem? (i := 1217) (by decide +kernel), List.mem_of_getElem? (i := 1673) (by decide +kernel), List.mem_of_getElem? (i := 1674) (by decide +kernel)⟩
theorem lw_p81 : lw_okq (⟨"ClashDayModel", "doesOrder", "(I)Z"⟩, 58) := ⟨⟨by decide +kernel, by decide +kernel⟩, List.mem_of_getElem? (i := 1217) (by decide +kernel), List.mem_of_getElem? (i := 1677) (by decide +kernel), List.mem_of_getElem? (i := 1678) (by decide +kernel)⟩
theorem lw_p82 : lw_okq (⟨"ClashDayModel", "leastSlot", "(IIIII)I"⟩, 58) := ⟨⟨by decide +kernel, by decide +kernel⟩, List.mem_of_getElem? (i := 1217) (by decide +kernel), List.mem_of_getElem? (i := 1681) (by decide +kernel), List.mem_of_getElem? (i := 1682) (by decide +kernel)⟩
theorem lw_p83 : lw_okq (⟨"ClashDayModel", "areFree", "(II)Z"⟩, 58) := ⟨⟨by decide +kernel, by decide +kernel⟩, List.mem_of_getElem? (i := 1217) (by decide +kernel), List.mem_of_getElem? (i := 1688) (by decide +kernel), List.mem_of_getElem? (i := 1689) (by decide +kernel)⟩
theorem lw_p84 : lw_okq (⟨"ClashDayModel", "countsKept", "(I)V"⟩, 58) := ⟨⟨by decide +kernel, by decide +kernel⟩, List.mem_of_getElem? (i := 1217) (by decide +kernel), List.mem_of_getElem? (i := 1692) (by decide +kernel), List.mem_of_getElem? (i := 1693) (by decide +kernel)⟩
theorem lw_p85 : lw_okq (⟨"ClashDayModel", "isDueNow", "(I)Z"⟩, 58) := ⟨⟨by decide +kernel, by decide +kernel⟩, List.mem_of_getElem? (i := 1217) (by decide +kernel), List.mem_of_getElem? (i := 1696) (by decide +kernel), List.mem_of_getElem? (i := 1697) (by decide +kernel)⟩
theorem lw_p86 : lw_okq (⟨"ClashDayModel", "isSitNow", "(II)Z"⟩, 58) := ⟨⟨by decide +kernel, by decide +kernel⟩, List.mem_of_getElem? (i := 1217) (by decide +kernel), List.mem_of_getElem? (i := 1700) (by decide +kernel), List.mem_of_getElem? (i := 1701) (by decide +kernel)⟩
theorem lw_p87 : lw_okq (⟨"ClashDayModel", "isBetter", "()Z"⟩, 58) := ⟨⟨by decide +kernel, by decide +kernel⟩, List.mem_of_getElem? (i := 1217) (by decide +kernel), List.mem_of_getElem? (i := 1704) (by decide +kernel), List.mem_of_getElem? (i := 1705) (by decide +kernel)⟩
theorem lw_p88 : lw_okq (⟨"ClashDayModel", "sumOf", "(I)J"⟩, 58) := ⟨⟨by decide +kernel, by decide +kernel⟩, List.mem_of_getElem? (i := 1217) (by decide +kernel), List.mem_of_getElem? (i := 1708) (by decide +kernel), List.mem_of_getElem? (i := 1709) (by decide +kernel)⟩
theorem lw_p89 : lw_okq (⟨"ClashDayModel", "workOf", "(I)I"⟩, 58) := ⟨⟨by decide +kernel, by decide +kernel⟩, List.mem_of_getElem? (i := 1217) (by decide +kernel), List.mem_of_getElem? (i := 1715) (by decide +kernel), List.mem_of_getElem? (i := 1716) (by decide +kernel)⟩
theorem lw_p90 : lw_okq (⟨"ClashDayModel", "busyNow", "()I"⟩, 58) := ⟨⟨by decide +kernel, by decide +kernel⟩, List.mem_of_getElem? (i := 1217) (by decide +kernel), List.mem_of_getElem? (i := 1719) (by decide +kernel), List.mem_of_getElem? (i := 1720) (by decide +kernel)⟩
theorem lw_p91 : lw_okq (⟨"ClashDayModel", "waitingOnes", "()I"⟩, 58) := ⟨⟨by decide +kernel, by decide +kernel⟩, List.mem_of_getElem? (i := 1217) (by decide +kernel), List.mem_of_getElem? (i := 1723) (by decide +kernel), List.mem_of_getElem? (i := 1724) (by decide +kernel)⟩
theorem lw_p92 : lw_okq (⟨"ClashDayModel", "summedBy", "(I)J"⟩, 58) := ⟨⟨by decide +kernel, by decide +kernel⟩, List.mem_of_getElem? (i := 1217) (by decide +kernel), List.mem_of_getElem? (i := 1727) (by decide +kernel), List.mem_of_getElem? (i := 1728) (by decide +kernel)⟩
theorem lw_p93 : lw_okq (⟨"ClashDayModel", "reckons", "(III)J"⟩, 58) := ⟨⟨by decide +kernel, by decide +kernel⟩, List.mem_of_getElem? (i := 1217) (by decide +kernel), List.mem_of_getElem? (i := 1731) (by decide +kernel), List.mem_of_getElem? (i := 1732) (by decide +kernel)⟩
theorem lw_p94 : lw_okq (⟨"ClashDayModel", "push", "(J)V"⟩, 58) := ⟨⟨by decide +kernel, by decide +kernel⟩, List.mem_of_getElem? (i := 1217) (by decide +kernel), List.mem_of_getElem? (i := 1735) (by decide +kernel), List.mem_of_getElem? (i := 1736) (by decide +kernel)⟩
theorem lw_p95 : lw_okq (⟨"ClashDayModel", "pop", "()J"⟩, 58) := ⟨⟨by decide +kernel, by decide +kernel⟩, List.mem_of_getElem? (i := 1217) (by decide +kernel), List.mem_of_getElem? (i := 1739) (by decide +kernel), List.mem_of_getElem? (i := 1740) (by decide +kernel)⟩
def lw_privs_6 : List (MethodName × Nat) := [(⟨"ClashDayModel", "orderOf", "(I)V"⟩, 58), (⟨"ClashDayModel", "doesOrder", "(I)Z"⟩, 58), (⟨"ClashDayModel", "leastSlot", "(IIIII)I"⟩, 58), (⟨"ClashDayModel", "areFree", "(II)Z"⟩, 58), (⟨"ClashDayModel", "countsKept", "(I)V"⟩, 58), (⟨"ClashDayModel", "isDueNow", "(I)Z"⟩, 58), (⟨"ClashDayModel", "isSitNow", "(II)Z"⟩, 58), (⟨"ClashDayModel", "isBetter", "()Z"⟩, 58), (⟨"ClashDayModel", "sumOf", "(I)J"⟩, 58), (⟨"ClashDayModel", "workOf", "(I)I"⟩, 58), (⟨"ClashDayModel", "busyNow", "()I"⟩, 58), (⟨"ClashDayModel", "waitingOnes", "()I"⟩, 58), (⟨"ClashDayModel", "summedBy", "(I)J"⟩, 58), (⟨"ClashDayModel", "reckons", "(III)J"⟩, 58), (⟨"ClashDayModel", "push", "(J)V"⟩, 58), (⟨"ClashDayModel", "pop", "()J"⟩, 58)]
theorem lw_r6 : ∀ q ∈ lw_privs_6, lw_okq q := List.forall_mem_cons.mpr ⟨lw_p80, List.forall_mem_cons.mpr ⟨lw_p81, List.forall_mem_cons.mpr ⟨lw_p82, List.forall_mem_cons.mpr ⟨lw_p83, List.forall_mem_cons.mpr ⟨lw_p84, List.forall_mem_cons.mpr ⟨lw_p85, List.forall_mem_cons.mpr ⟨lw_p86, List.forall_mem_cons.mpr ⟨lw_p87, List.forall_mem_cons.mpr ⟨lw_p88, List.forall_mem_cons.mpr ⟨lw_p89, List.forall_mem_cons.mpr ⟨lw_p90, List.forall_mem_cons.mpr ⟨lw_p91, List.forall_mem_cons.mpr ⟨lw_p92, List.forall_mem_cons.mpr ⟨lw_p93, List.forall_mem_cons.mpr ⟨lw_p94, List.forall_mem_cons.mpr ⟨lw_p95, fun _ h => absurd h List.not_mem_nil⟩⟩⟩⟩⟩⟩⟩⟩⟩⟩⟩⟩⟩⟩⟩⟩
theorem lw_p96 : lw_okq (⟨"ClashDayModel", "laysPlan", "(I)Z"⟩, 58) := ⟨⟨by decide +kernel, by decide +kernel⟩, List.mem_of_getElem? (i := 1217) (by decide +kernel), List.mem_of_getElem? (i := 1746) (by decide +kernel), List.mem_of_getElem? (i := 1747) (by decide +kernel)⟩
theorem lw_p97 : lw_okq (⟨"ClashDayModel", "waits", "(I)V"⟩, 58) := ⟨⟨by decide +kernel, by decide +kernel⟩, List.mem_of_getElem? (i := 1217) (by decide +kernel), List.mem_of_getElem? (i := 1758) (by decide +kernel), List.mem_of_getElem? (i := 1759) (by decide +kernel)⟩
theorem lw_p98 : lw_okq (⟨"ClashDayModel", "delays", "(II)V"⟩, 58) := ⟨⟨by decide +kernel, by decide +kernel⟩, List.mem_of_getElem? (i := 1217) (by decide +kernel), List.mem_of_getElem? (i := 1767) (by decide +kernel), List.mem_of_getElem? (i := 1768) (by decide +kernel)⟩
theorem lw_p99 : lw_okq (⟨"ClashDayModel", "signOf", "(II)I"⟩, 58) := ⟨⟨by decide +kernel, by decide +kernel⟩, List.mem_of_getElem? (i := 1217) (by decide +kernel), List.mem_of_getElem? (i := 1796) (by decide +kernel), List.mem_of_getElem? (i := 1797) (by decide +kernel)⟩
theorem lw_p100 : lw_okq (⟨"ClashDayModel", "isKept", "(II)Z"⟩, 58) := ⟨⟨by decide +kernel, by decide +kernel⟩, List.mem_of_getElem? (i := 1217) (by decide +kernel), List.mem_of_getElem? (i := 1800) (by decide +kernel), List.mem_of_getElem? (i := 1801) (by decide +kernel)⟩
theorem lw_p101 : lw_okq (⟨"ClashDayModel", "spells", "(II)V"⟩, 58) := ⟨⟨by decide +kernel, by decide +kernel⟩, List.mem_of_getElem? (i := 1217) (by decide +kernel), List.mem_of_getElem? (i := 1808) (by decide +kernel), List.mem_of_getElem? (i := 1809) (by decide +kernel)⟩
theorem lw_p102 : lw_okq (⟨"ClashDayModel", "putsSign", "(II)V"⟩, 58) := ⟨⟨by decide +kernel, by decide +kernel⟩, List.mem_of_getElem? (i := 1217) (by decide +kernel), List.mem_of_getElem? (i := 1812) (by decide +kernel), List.mem_of_getElem? (i := 1813) (by decide +kernel)⟩
theorem lw_p103 : lw_okq (⟨"ClashDayModel", "keptIn", "(I)I"⟩, 58) := ⟨⟨by decide +kernel, by decide +kernel⟩, List.mem_of_getElem? (i := 1217) (by decide +kernel), List.mem_of_getElem? (i := 1825) (by decide +kernel), List.mem_of_getElem? (i := 1826) (by decide +kernel)⟩
theorem lw_p104 : lw_okq (⟨"ClashDayModel", "watches", "(II)V"⟩, 58) := ⟨⟨by decide +kernel, by decide +kernel⟩, List.mem_of_getElem? (i := 1217) (by decide +kernel), List.mem_of_getElem? (i := 1833) (by decide +kernel), List.mem_of_getElem? (i := 1834) (by decide +kernel)⟩
theorem lw_p105 : lw_okq (⟨"ClashDayModel", "mustNotMeet", "(III)Z"⟩, 58) := ⟨⟨by decide +kernel, by decide +kernel⟩, List.mem_of_getElem? (i := 1217) (by decide +kernel), List.mem_of_getElem? (i := 1841) (by decide +kernel), List.mem_of_getElem? (i := 1842) (by decide +kernel)⟩
theorem lw_p106 : lw_okq (⟨"ClashDayModel", "keeps", "()V"⟩, 58) := ⟨⟨by decide +kernel, by decide +kernel⟩, List.mem_of_getElem? (i := 1217) (by decide +kernel), List.mem_of_getElem? (i := 1850) (by decide +kernel), List.mem_of_getElem? (i := 1851) (by decide +kernel)⟩
theorem lw_p107 : lw_okq (⟨"ClashDayModel", "rowOf", "(I)V"⟩, 58) := ⟨⟨by decide +kernel, by decide +kernel⟩, List.mem_of_getElem? (i := 1217) (by decide +kernel), List.mem_of_getElem? (i := 1854) (by decide +kernel), List.mem_of_getElem? (i := 1855) (by decide +kernel)⟩
theorem lw_p108 : lw_okq (⟨"ClashDayModel", "triesRow", "()V"⟩, 58) := ⟨⟨by decide +kernel, by decide +kernel⟩, List.mem_of_getElem? (i := 1217) (by decide +kernel), List.mem_of_getElem? (i := 1858) (by decide +kernel), List.mem_of_getElem? (i := 1859) (by decide +kernel)⟩
theorem lw_p109 : lw_okq (⟨"ClashDayModel", "laysBack", "()V"⟩, 58) := ⟨⟨by decide +kernel, by decide +kernel⟩, List.mem_of_getElem? (i := 1217) (by decide +kernel), List.mem_of_getElem? (i := 1862) (by decide +kernel), List.mem_of_getElem? (i := 1863) (by decide +kernel)⟩
theorem lw_p110 : lw_okq (⟨"ClashDayModel", "stuckMany", "()I"⟩, 58) := ⟨⟨by decide +kernel, by decide +kernel⟩, List.mem_of_getElem? (i := 1217) (by decide +kernel), List.mem_of_getElem? (i := 1870) (by decide +kernel), List.mem_of_getElem? (i := 1871) (by decide +kernel)⟩
theorem lw_p111 : lw_okq (⟨"ClashDayModel", "passesAll", "(I)V"⟩, 58) := ⟨⟨by decide +kernel, by decide +kernel⟩, List.mem_of_getElem? (i := 1217) (by decide +kernel), List.mem_of_getElem? (i := 1879) (by decide +kernel), List.mem_of_getElem? (i := 1880) (by decide +kernel)⟩
def lw_privs_7 : List (MethodName × Nat) := [(⟨"ClashDayModel", "laysPlan", "(I)Z"⟩, 58), (⟨"ClashDayModel", "waits", "(I)V"⟩, 58), (⟨"ClashDayModel", "delays", "(II)V"⟩, 58), (⟨"ClashDayModel", "signOf", "(II)I"⟩, 58), (⟨"ClashDayModel", "isKept", "(II)Z"⟩, 58), (⟨"ClashDayModel", "spells", "(II)V"⟩, 58), (⟨"ClashDayModel", "putsSign", "(II)V"⟩, 58), (⟨"ClashDayModel", "keptIn", "(I)I"⟩, 58), (⟨"ClashDayModel", "watches", "(II)V"⟩, 58), (⟨"ClashDayModel", "mustNotMeet", "(III)Z"⟩, 58), (⟨"ClashDayModel", "keeps", "()V"⟩, 58), (⟨"ClashDayModel", "rowOf", "(I)V"⟩, 58), (⟨"ClashDayModel", "triesRow", "()V"⟩, 58), (⟨"ClashDayModel", "laysBack", "()V"⟩, 58), (⟨"ClashDayModel", "stuckMany", "()I"⟩, 58), (⟨"ClashDayModel", "passesAll", "(I)V"⟩, 58)]
theorem lw_r7 : ∀ q ∈ lw_privs_7, lw_okq q := List.forall_mem_cons.mpr ⟨lw_p96, List.forall_mem_cons.mpr ⟨lw_p97, List.forall_mem_cons.mpr ⟨lw_p98, List.forall_mem_cons.mpr ⟨lw_p99, List.forall_mem_cons.mpr ⟨lw_p100, List.forall_mem_cons.mpr ⟨lw_p101, List.forall_mem_cons.mpr ⟨lw_p102, List.forall_mem_cons.mpr ⟨lw_p103, List.forall_mem_cons.mpr ⟨lw_p104, List.forall_mem_cons.mpr ⟨lw_p105, List.forall_mem_cons.mpr ⟨lw_p106, List.forall_mem_cons.mpr ⟨lw_p107, List.forall_mem_cons.mpr ⟨lw_p108, List.forall_mem_cons.mpr ⟨lw_p109, List.forall_mem_cons.mpr ⟨lw_p110, List.forall_mem_cons.mpr ⟨lw_p111, fun _ h => absurd h List.not_mem_nil⟩⟩⟩⟩⟩⟩⟩⟩⟩⟩⟩⟩⟩⟩⟩⟩
theorem lw_p112 : lw_okq (⟨"ClashDayModel", "plannedMany", "()I"⟩, 58) := ⟨⟨by decide +kernel, by decide +kernel⟩, List.mem_of_getElem? (i := 1217) (by decide +kernel), List.mem_of_getElem? (i := 1883) (by decide +kernel), List.mem_of_getElem? (i := 1884) (by decide +kernel)⟩
theorem lw_p113 : lw_okq (⟨"ClashDayModel", "keptAll", "()I"⟩, 58) := ⟨⟨by decide +kernel, by decide +kernel⟩, List.mem_of_getElem? (i := 1217) (by decide +kernel), List.mem_of_getElem? (i := 1887) (by decide +kernel), List.mem_of_getElem? (i := 1888) (by decide +kernel)⟩
theorem lw_p114 : lw_okq (⟨"ClashDayModel", "keptOf", "(I)I"⟩, 58) := ⟨⟨by decide +kernel, by decide +kernel⟩, List.mem_of_getElem? (i := 1217) (by decide +kernel), List.mem_of_getElem? (i := 1891) (by decide +kernel), List.mem_of_getElem? (i := 1892) (by decide +kernel)⟩
theorem lw_p115 : lw_okq (⟨"ClashDayModel", "fullSlots", "()I"⟩, 58) := ⟨⟨by decide +kernel, by decide +kernel⟩, List.mem_of_getElem? (i := 1217) (by decide +kernel), List.mem_of_getElem? (i := 1895) (by decide +kernel), List.mem_of_getElem? (i := 1896) (by decide +kernel)⟩
theorem lw_p116 : lw_okq (⟨"ClashDayModel", "fillsRests", "(II)V"⟩, 58) := ⟨⟨by decide +kernel, by decide +kernel⟩, List.mem_of_getElem? (i := 1217) (by decide +kernel), List.mem_of_getElem? (i := 1907) (by decide +kernel), List.mem_of_getElem? (i := 1908) (by decide +kernel)⟩
theorem lw_p117 : lw_okq (⟨"ClashDayModel", "worthOf", "(I)I"⟩, 58) := ⟨⟨by decide +kernel, by decide +kernel⟩, List.mem_of_getElem? (i := 1217) (by decide +kernel), List.mem_of_getElem? (i := 1911) (by decide +kernel), List.mem_of_getElem? (i := 1912) (by decide +kernel)⟩
theorem lw_p118 : lw_okq (⟨"ClashDayModel", "isRest", "(II)Z"⟩, 58) := ⟨⟨by decide +kernel, by decide +kernel⟩, List.mem_of_getElem? (i := 1217) (by decide +kernel), List.mem_of_getElem? (i := 1915) (by decide +kernel), List.mem_of_getElem? (i := 1916) (by decide +kernel)⟩
theorem lw_p119 : lw_okq (⟨"ClashDayModel", "fillsFits", "(I)V"⟩, 58) := ⟨⟨by decide +kernel, by decide +kernel⟩, List.mem_of_getElem? (i := 1217) (by decide +kernel), List.mem_of_getElem? (i := 1932) (by decide +kernel), List.mem_of_getElem? (i := 1933) (by decide +kernel)⟩
theorem lw_p120 : lw_okq (⟨"ClashDayModel", "areAllSo", "(II)Z"⟩, 58) := ⟨⟨by decide +kernel, by decide +kernel⟩, List.mem_of_getElem? (i := 1217) (by decide +kernel), List.mem_of_getElem? (i := 1936) (by decide +kernel), List.mem_of_getElem? (i := 1937) (by decide +kernel)⟩
theorem lw_p121 : lw_okq (⟨"ClashDayModel", "areNotesSo", "(I)Z"⟩, 58) := ⟨⟨by decide +kernel, by decide +kernel⟩, List.mem_of_getElem? (i := 1217) (by decide +kernel), List.mem_of_getElem? (i := 1940) (by decide +kernel), List.mem_of_getElem? (i := 1941) (by decide +kernel)⟩
theorem lw_p122 : lw_okq (⟨"ClashDayModel", "alikeAt", "(I)I"⟩, 58) := ⟨⟨by decide +kernel, by decide +kernel⟩, List.mem_of_getElem? (i := 1217) (by decide +kernel), List.mem_of_getElem? (i := 1948) (by decide +kernel), List.mem_of_getElem? (i := 1949) (by decide +kernel)⟩
theorem lw_p123 : lw_okq (⟨"ClashDayModel", "canBe", "(III)I"⟩, 58) := ⟨⟨by decide +kernel, by decide +kernel⟩, List.mem_of_getElem? (i := 1217) (by decide +kernel), List.mem_of_getElem? (i := 1956) (by decide +kernel), List.mem_of_getElem? (i := 1957) (by decide +kernel)⟩
theorem lw_p124 : lw_okq (⟨"ClashDayModel", "draw", "(I)I"⟩, 58) := ⟨⟨by decide +kernel, by decide +kernel⟩, List.mem_of_getElem? (i := 1217) (by decide +kernel), List.mem_of_getElem? (i := 1973) (by decide +kernel), List.mem_of_getElem? (i := 1974) (by decide +kernel)⟩
def lw_privs_8 : List (MethodName × Nat) := [(⟨"ClashDayModel", "plannedMany", "()I"⟩, 58), (⟨"ClashDayModel", "keptAll", "()I"⟩, 58), (⟨"ClashDayModel", "keptOf", "(I)I"⟩, 58), (⟨"ClashDayModel", "fullSlots", "()I"⟩, 58), (⟨"ClashDayModel", "fillsRests", "(II)V"⟩, 58), (⟨"ClashDayModel", "worthOf", "(I)I"⟩, 58), (⟨"ClashDayModel", "isRest", "(II)Z"⟩, 58), (⟨"ClashDayModel", "fillsFits", "(I)V"⟩, 58), (⟨"ClashDayModel", "areAllSo", "(II)Z"⟩, 58), (⟨"ClashDayModel", "areNotesSo", "(I)Z"⟩, 58), (⟨"ClashDayModel", "alikeAt", "(I)I"⟩, 58), (⟨"ClashDayModel", "canBe", "(III)I"⟩, 58), (⟨"ClashDayModel", "draw", "(I)I"⟩, 58)]
theorem lw_r8 : ∀ q ∈ lw_privs_8, lw_okq q := List.forall_mem_cons.mpr ⟨lw_p112, List.forall_mem_cons.mpr ⟨lw_p113, List.forall_mem_cons.mpr ⟨lw_p114, List.forall_mem_cons.mpr ⟨lw_p115, List.forall_mem_cons.mpr ⟨lw_p116, List.forall_mem_cons.mpr ⟨lw_p117, List.forall_mem_cons.mpr ⟨lw_p118, List.forall_mem_cons.mpr ⟨lw_p119, List.forall_mem_cons.mpr ⟨lw_p120, List.forall_mem_cons.mpr ⟨lw_p121, List.forall_mem_cons.mpr ⟨lw_p122, List.forall_mem_cons.mpr ⟨lw_p123, List.forall_mem_cons.mpr ⟨lw_p124, fun _ h => absurd h List.not_mem_nil⟩⟩⟩⟩⟩⟩⟩⟩⟩⟩⟩⟩⟩
def lw_privs : List (MethodName × Nat) := lw_privs_1 ++ (lw_privs_2 ++ (lw_privs_3 ++ (lw_privs_4 ++ (lw_privs_5 ++ (lw_privs_6 ++ (lw_privs_7 ++ (lw_privs_8)))))))
def lw_tbl : List Cond := k2_sels lw_privs ++ tables_1
theorem lw_privs_ok : ∀ q ∈ lw_privs, lw_okq q := by
  show ∀ q ∈ lw_privs_1 ++ (lw_privs_2 ++ (lw_privs_3 ++ (lw_privs_4 ++ (lw_privs_5 ++ (lw_privs_6 ++ (lw_privs_7 ++ (lw_privs_8))))))), lw_okq q
  exact List.forall_mem_append.mpr ⟨lw_r1, List.forall_mem_append.mpr ⟨lw_r2, List.forall_mem_append.mpr ⟨lw_r3, List.forall_mem_append.mpr ⟨lw_r4, List.forall_mem_append.mpr ⟨lw_r5, List.forall_mem_append.mpr ⟨lw_r6, List.forall_mem_append.mpr ⟨lw_r7, lw_r8⟩⟩⟩⟩⟩⟩⟩
end
section
/-! the classes, by their numbers; the methods; what each index of a pool means (printed by wip/gen/gen_tab.py) -/
def kT0 : u_T := fun k => match k with
  | 0 => ("ClashDay$Board", "seats", "I", false)
  | 1 => ("ClashDay$Board", "hours", "I", false)
  | 2 => ("ClashDay$Board", "papers", "I", false)
  | 3 => ("ClashDay$Board", "candidates", "I", false)
  | 4 => ("ClashDay$Board", "turn", "I", false)
  | 5 => ("ClashDay$Board", "planned", "I", false)
  | 6 => ("ClashDay$Board", "start", "[I", true)
  | 7 => ("ClashDay$Board", "length", "[I", true)
  | 8 => ("ClashDay$Board", "sits", "[I", true)
  | 9 => ("ClashDay$Board", "extra", "[I", true)
  | 10 => ("ClashDay$Board", "rest", "[I", true)
  | 11 => ("ClashDay$Board", "taken", "[I", true)
  | 12 => ("ClashDay$Board", "begin", "[I", true)
  | 13 => ("ClashDay$Board", "sat", "[I", true)
  | _ => ("ClashDay$Board", "kept", "[I", true)
def kY0 : Nat → FieldType := fun k => match k with
  | 0 => .int
  | 1 => .int
  | 2 => .int
  | 3 => .int
  | 4 => .int
  | 5 => .int
  | 6 => (.array .int)
  | 7 => (.array .int)
  | 8 => (.array .int)
  | 9 => (.array .int)
  | 10 => (.array .int)
  | 11 => (.array .int)
  | 12 => (.array .int)
  | 13 => (.array .int)
  | _ => (.array .int)
def kT1 : u_T := fun k => match k with
  | 0 => ("ClashDay$DayReader", "tape", "LClashDay$Tape;", true)
  | _ => ("ClashDay$DayReader", "numbers", "[I", true)
def kY1 : Nat → FieldType := fun k => match k with
  | 0 => (.object "ClashDay$Tape")
  | _ => (.array .int)
def kT2 : u_T := fun k => match k with
  | 0 => ("ClashDay$Lines", "signs", "[[I", true)
  | 1 => ("ClashDay$Lines", "sizes", "[I", true)
  | 2 => ("ClashDay$Lines", "watcher", "[I", true)
  | _ => ("ClashDay$Lines", "keeps", "[I", true)
def kY2 : Nat → FieldType := fun k => match k with
  | 0 => (.array (.array .int))
  | 1 => (.array .int)
  | 2 => (.array .int)
  | _ => (.array .int)
def kT3 : u_T := fun k => match k with
  | 0 => ("ClashDay$Notes", "size", "I", false)
  | 1 => ("ClashDay$Notes", "turn", "[I", true)
  | 2 => ("ClashDay$Notes", "slot", "[I", true)
  | _ => ("ClashDay$Notes", "seats", "[I", true)
def kY3 : Nat → FieldType := fun k => match k with
  | 0 => .int
  | 1 => (.array .int)
  | 2 => (.array .int)
  | _ => (.array .int)
def kT4 : u_T := fun k => match k with
  | 0 => ("ClashDay$Planner", "start", "[I", true)
  | 1 => ("ClashDay$Planner", "time", "[I", true)
  | 2 => ("ClashDay$Planner", "fits", "[I", true)
  | 3 => ("ClashDay$Planner", "trying", "[I", true)
  | 4 => ("ClashDay$Planner", "hours", "I", false)
  | 5 => ("ClashDay$Planner", "rest", "I", false)
  | 6 => ("ClashDay$Planner", "ways", "I", false)
  | 7 => ("ClashDay$Planner", "nights", "I", false)
  | 8 => ("ClashDay$Planner", "kept", "I", false)
  | 9 => ("ClashDay$Planner", "sat", "I", false)
  | 10 => ("ClashDay$Planner", "lastEnd", "I", false)
  | 11 => ("ClashDay$Planner", "begin", "[I", true)
  | _ => ("ClashDay$Planner", "cost", "I", false)
def kY4 : Nat → FieldType := fun k => match k with
  | 0 => (.array .int)
  | 1 => (.array .int)
  | 2 => (.array .int)
  | 3 => (.array .int)
  | 4 => .int
  | 5 => .int
  | 6 => .int
  | 7 => .int
  | 8 => .int
  | 9 => .int
  | 10 => .int
  | 11 => (.array .int)
  | _ => .int
def kT5 : u_T := fun k => match k with
  | 0 => ("ClashDay$Rule", "code", "[I", true)
  | 1 => ("ClashDay$Rule", "size", "I", false)
  | 2 => ("ClashDay$Rule", "sumEnds", "[I", true)
  | 3 => ("ClashDay$Rule", "clauseEnds", "[I", true)
  | _ => ("ClashDay$Rule", "clauses", "I", false)
def kY5 : Nat → FieldType := fun k => match k with
  | 0 => (.array .int)
  | 1 => .int
  | 2 => (.array .int)
  | 3 => (.array .int)
  | _ => .int
def kT6 : u_T := fun k => match k with
  | 0 => ("ClashDay$RuleReader", "tape", "LClashDay$Tape;", true)
  | _ => ("ClashDay$RuleReader", "values", "I", false)
def kY6 : Nat → FieldType := fun k => match k with
  | 0 => (.object "ClashDay$Tape")
  | _ => .int
def kT7 : u_T := fun k => match k with
  | 0 => ("ClashDay$Scene", "told", "LClashDay$Board;", true)
  | 1 => ("ClashDay$Scene", "now", "LClashDay$Board;", true)
  | 2 => ("ClashDay$Scene", "notes", "LClashDay$Notes;", true)
  | 3 => ("ClashDay$Scene", "inForce", "I", false)
  | 4 => ("ClashDay$Scene", "x", "I", false)
  | _ => ("ClashDay$Scene", "made", "Z", false)
def kY7 : Nat → FieldType := fun k => match k with
  | 0 => (.object "ClashDay$Board")
  | 1 => (.object "ClashDay$Board")
  | 2 => (.object "ClashDay$Notes")
  | 3 => .int
  | 4 => .int
  | _ => .boolean
def kT8 : u_T := fun k => match k with
  | 0 => ("ClashDay$Tape", "bytes", "[C", true)
  | 1 => ("ClashDay$Tape", "size", "I", false)
  | 2 => ("ClashDay$Tape", "kind", "I", false)
  | 3 => ("ClashDay$Tape", "at", "I", false)
  | 4 => ("ClashDay$Tape", "place", "I", false)
  | 5 => ("ClashDay$Tape", "number", "I", false)
  | _ => ("ClashDay$Tape", "fault", "I", false)
def kY8 : Nat → FieldType := fun k => match k with
  | 0 => (.array .char)
  | 1 => .int
  | 2 => .int
  | 3 => .int
  | 4 => .int
  | 5 => .int
  | _ => .int
def kT9 : u_T := fun k => match k with
  | 0 => ("ClashDay$Trials", "planner", "LClashDay$Planner;", true)
  | 1 => ("ClashDay$Trials", "turns", "LClashDay$Turns;", true)
  | 2 => ("ClashDay$Trials", "trial", "LClashDay$Board;", true)
  | 3 => ("ClashDay$Trials", "bestPlanned", "I", false)
  | 4 => ("ClashDay$Trials", "bestKept", "I", false)
  | 5 => ("ClashDay$Trials", "bestRow", "[I", true)
  | 6 => ("ClashDay$Trials", "row", "[I", true)
  | 7 => ("ClashDay$Trials", "illPlanned", "I", false)
  | 8 => ("ClashDay$Trials", "illKept", "I", false)
  | 9 => ("ClashDay$Trials", "drawn", "I", false)
  | 10 => ("ClashDay$Trials", "oneHas", "[I", true)
  | 11 => ("ClashDay$Trials", "otherHas", "[I", true)
  | _ => ("ClashDay$Trials", "foreseen", "[[I", true)
def kY9 : Nat → FieldType := fun k => match k with
  | 0 => (.object "ClashDay$Planner")
  | 1 => (.object "ClashDay$Turns")
  | 2 => (.object "ClashDay$Board")
  | 3 => .int
  | 4 => .int
  | 5 => (.array .int)
  | 6 => (.array .int)
  | 7 => .int
  | 8 => .int
  | 9 => .int
  | 10 => (.array .int)
  | 11 => (.array .int)
  | _ => (.array (.array .int))
def kT10 : u_T := fun k => match k with
  | 0 => ("ClashDay$Turns", "planner", "LClashDay$Planner;", true)
  | 1 => ("ClashDay$Turns", "facts", "[J", true)
  | _ => ("ClashDay$Turns", "stack", "[J", true)
def kY10 : Nat → FieldType := fun k => match k with
  | 0 => (.object "ClashDay$Planner")
  | 1 => (.array .long)
  | _ => (.array .long)
def kT11 : u_T := fun k => match k with
  | 0 => ("ClashDay", "tape", "LClashDay$Tape;", true)
  | 1 => ("ClashDay", "dayReader", "LClashDay$DayReader;", true)
  | 2 => ("ClashDay", "ruleReader", "LClashDay$RuleReader;", true)
  | 3 => ("ClashDay", "rules", "[LClashDay$Rule;", true)
  | 4 => ("ClashDay", "ruleCount", "I", false)
  | 5 => ("ClashDay", "scene", "LClashDay$Scene;", true)
  | 6 => ("ClashDay", "images", "[LClashDay$Scene;", true)
  | 7 => ("ClashDay", "past", "[LClashDay$Board;", true)
  | 8 => ("ClashDay", "pastCount", "I", false)
  | 9 => ("ClashDay", "drawnUp", "LClashDay$Board;", true)
  | 10 => ("ClashDay", "planner", "LClashDay$Planner;", true)
  | 11 => ("ClashDay", "turns", "LClashDay$Turns;", true)
  | 12 => ("ClashDay", "trials", "LClashDay$Trials;", true)
  | _ => ("ClashDay", "lines", "LClashDay$Lines;", true)
def kY11 : Nat → FieldType := fun k => match k with
  | 0 => (.object "ClashDay$Tape")
  | 1 => (.object "ClashDay$DayReader")
  | 2 => (.object "ClashDay$RuleReader")
  | 3 => (.array (.object "ClashDay$Rule"))
  | 4 => .int
  | 5 => (.object "ClashDay$Scene")
  | 6 => (.array (.object "ClashDay$Scene"))
  | 7 => (.array (.object "ClashDay$Board"))
  | 8 => .int
  | 9 => (.object "ClashDay$Board")
  | 10 => (.object "ClashDay$Planner")
  | 11 => (.object "ClashDay$Turns")
  | 12 => (.object "ClashDay$Trials")
  | _ => (.object "ClashDay$Lines")
def kT12 : u_T := fun k => match k with
  | 0 => ("ClashDayModel", "tape", "[B", true)
  | 1 => ("ClashDayModel", "taped", "I", false)
  | 2 => ("ClashDayModel", "rules", "I", false)
  | 3 => ("ClashDayModel", "sign", "[I", true)
  | 4 => ("ClashDayModel", "length", "[I", true)
  | 5 => ("ClashDayModel", "clause", "[I", true)
  | 6 => ("ClashDayModel", "clauses", "[I", true)
  | 7 => ("ClashDayModel", "read", "[I", true)
  | 8 => ("ClashDayModel", "next", "I", false)
  | 9 => ("ClashDayModel", "wrong", "I", false)
  | 10 => ("ClashDayModel", "number", "I", false)
  | 11 => ("ClashDayModel", "text", "I", false)
  | 12 => ("ClashDayModel", "made", "I", false)
  | 13 => ("ClashDayModel", "deep", "I", false)
  | 14 => ("ClashDayModel", "lines", "I", false)
  | 15 => ("ClashDayModel", "open", "[I", true)
  | 16 => ("ClashDayModel", "opened", "I", false)
  | 17 => ("ClashDayModel", "stack", "[J", true)
  | 18 => ("ClashDayModel", "top", "I", false)
  | 19 => ("ClashDayModel", "word", "[J", true)
  | 20 => ("ClashDayModel", "said", "[I", true)
  | 21 => ("ClashDayModel", "force", "I", false)
  | 22 => ("ClashDayModel", "x", "I", false)
  | 23 => ("ClashDayModel", "seatsFree", "[I", true)
  | 24 => ("ClashDayModel", "listed", "[I", true)
  | 25 => ("ClashDayModel", "orderNow", "[I", true)
  | 26 => ("ClashDayModel", "beginNow", "[I", true)
  | 27 => ("ClashDayModel", "planBegin", "[I", true)
  | 28 => ("ClashDayModel", "listedMany", "I", false)
  | 29 => ("ClashDayModel", "planNights", "I", false)
  | 30 => ("ClashDayModel", "planKept", "I", false)
  | 31 => ("ClashDayModel", "planEnd", "I", false)
  | 32 => ("ClashDayModel", "ordersDone", "I", false)
  | 33 => ("ClashDayModel", "nightsNow", "I", false)
  | 34 => ("ClashDayModel", "keptNow", "I", false)
  | 35 => ("ClashDayModel", "endNow", "I", false)
  | 36 => ("ClashDayModel", "wasSaid", "[I", true)
  | 37 => ("ClashDayModel", "undone", "I", false)
  | 38 => ("ClashDayModel", "spelling", "[I", true)
  | 39 => ("ClashDayModel", "long1", "[I", true)
  | 40 => ("ClashDayModel", "watcher", "[I", true)
  | 41 => ("ClashDayModel", "watcherWas", "[I", true)
  | 42 => ("ClashDayModel", "watched", "[I", true)
  | 43 => ("ClashDayModel", "kept", "[I", true)
  | 44 => ("ClashDayModel", "waiter", "[I", true)
  | 45 => ("ClashDayModel", "row", "[I", true)
  | 46 => ("ClashDayModel", "rowBest", "[I", true)
  | 47 => ("ClashDayModel", "waiters", "I", false)
  | 48 => ("ClashDayModel", "plannedMost", "I", false)
  | 49 => ("ClashDayModel", "keptLeast", "I", false)
  | 50 => ("ClashDayModel", "hasBy", "[I", true)
  | 51 => ("ClashDayModel", "isFit", "[Z", true)
  | 52 => ("ClashDayModel", "freeThen", "[I", true)
  | 53 => ("ClashDayModel", "drawX", "J", false)
  | 54 => ("ClashDayModel", "images", "[I", true)
  | 55 => ("ClashDayModel", "imageForce", "[I", true)
  | 56 => ("ClashDayModel", "imageX", "[I", true)
  | _ => ("ClashDayModel", "isMade", "[Z", true)
def kY12 : Nat → FieldType := fun k => match k with
  | 0 => (.array .byte)
  | 1 => .int
  | 2 => .int
  | 3 => (.array .int)
  | 4 => (.array .int)
  | 5 => (.array .int)
  | 6 => (.array .int)
  | 7 => (.array .int)
  | 8 => .int
  | 9 => .int
  | 10 => .int
  | 11 => .int
  | 12 => .int
  | 13 => .int
  | 14 => .int
  | 15 => (.array .int)
  | 16 => .int
  | 17 => (.array .long)
  | 18 => .int
  | 19 => (.array .long)
  | 20 => (.array .int)
  | 21 => .int
  | 22 => .int
  | 23 => (.array .int)
  | 24 => (.array .int)
  | 25 => (.array .int)
  | 26 => (.array .int)
  | 27 => (.array .int)
  | 28 => .int
  | 29 => .int
  | 30 => .int
  | 31 => .int
  | 32 => .int
  | 33 => .int
  | 34 => .int
  | 35 => .int
  | 36 => (.array .int)
  | 37 => .int
  | 38 => (.array .int)
  | 39 => (.array .int)
  | 40 => (.array .int)
  | 41 => (.array .int)
  | 42 => (.array .int)
  | 43 => (.array .int)
  | 44 => (.array .int)
  | 45 => (.array .int)
  | 46 => (.array .int)
  | 47 => .int
  | 48 => .int
  | 49 => .int
  | 50 => (.array .int)
  | 51 => (.array .boolean)
  | 52 => (.array .int)
  | 53 => .long
  | 54 => (.array .int)
  | 55 => (.array .int)
  | 56 => (.array .int)
  | _ => (.array .boolean)
def mCl : List vw_C := [("ClashDay$Board", kT0, 15), ("ClashDay$DayReader", kT1, 2), ("ClashDay$Lines", kT2, 4), ("ClashDay$Notes", kT3, 4), ("ClashDay$Planner", kT4, 13), ("ClashDay$Rule", kT5, 5), ("ClashDay$RuleReader", kT6, 2), ("ClashDay$Scene", kT7, 6), ("ClashDay$Tape", kT8, 7), ("ClashDay$Trials", kT9, 13), ("ClashDay$Turns", kT10, 3), ("ClashDay", kT11, 14), ("ClashDayModel", kT12, 58)]
def mYs : List (Nat → FieldType) := [kY0, kY1, kY2, kY3, kY4, kY5, kY6, kY7, kY8, kY9, kY10, kY11, kY12]
/-- the kind of a field: 0 int, 1 long, 2 a reference, 3 boolean -/
def mFK : List (List Nat) := [[0, 0, 0, 0, 0, 0, 2, 2, 2, 2, 2, 2, 2, 2, 2], [2, 2], [2, 2, 2, 2], [0, 2, 2, 2], [2, 2, 2, 2, 0, 0, 0, 0, 0, 0, 0, 2, 0], [2, 0, 2, 2, 0], [2, 0], [2, 2, 2, 0, 0, 3], [2, 0, 0, 0, 0, 0, 0], [2, 2, 2, 0, 0, 2, 2, 0, 0, 0, 2, 2, 2], [2, 2, 2], [2, 2, 2, 2, 0, 2, 2, 2, 0, 2, 2, 2, 2, 2], [2, 0, 0, 2, 2, 2, 2, 2, 0, 0, 0, 0, 0, 0, 0, 2, 0, 2, 0, 2, 2, 0, 0, 2, 2, 2, 2, 2, 0, 0, 0, 0, 0, 0, 0, 0, 2, 0, 2, 2, 2, 2, 2, 2, 2, 2, 2, 0, 0, 0, 2, 2, 2, 1, 2, 2, 2, 2]]
def mNames : List String := ["ClashDay$Board", "ClashDay$DayReader", "ClashDay$Lines", "ClashDay$Notes", "ClashDay$Planner", "ClashDay$Rule", "ClashDay$RuleReader", "ClashDay$Scene", "ClashDay$Tape", "ClashDay$Trials", "ClashDay$Turns", "ClashDay", "ClashDayModel", "ClashDayLaw", "java/lang/Integer", "java/lang/Math"]
abbrev mMR : Type := MethodName × ByteArray × Nat × Option FieldType × Nat × Nat × Nat × Nat
/-- a method: name, code, variables, what it returns, its class, the kind of its answer (0 none, 1 int, 2 boolean, 3 char, 4 long, 5 a reference), cells that it makes, arguments -/
def mMs0 : List mMR := [
  (⟨"ClashDayLaw", "law", "([I)Z"⟩, code, 4, ret, 13, 2, 440, 1),
  (⟨"ClashDay$Board", "<init>", "()V"⟩, prog_2_method_1_code, 1, (Option.none : Option Jvm.ClassFile.FieldType), 0, 6, 9, 1),
  (⟨"ClashDay$Board", "clear", "()V"⟩, prog_2_method_2_code, 2, (Option.none : Option Jvm.ClassFile.FieldType), 0, 0, 0, 1),
  (⟨"ClashDay$Board", "copyFrom", "(LClashDay$Board;)V"⟩, prog_2_method_3_code, 2, (Option.none : Option Jvm.ClassFile.FieldType), 0, 0, 0, 2),
  (⟨"ClashDay$Board", "addPaper", "(II)V"⟩, prog_2_method_4_code, 3, (Option.none : Option Jvm.ClassFile.FieldType), 0, 0, 0, 3),
  (⟨"ClashDay$Board", "addCandidate", "(III)V"⟩, prog_2_method_5_code, 4, (Option.none : Option Jvm.ClassFile.FieldType), 0, 0, 0, 4),
  (⟨"ClashDay$Board", "isDay", "()Z"⟩, prog_2_method_6_code, 1, (Option.some Jvm.ClassFile.FieldType.boolean), 0, 2, 0, 1),
  (⟨"ClashDay$Board", "hasPaper", "(I)Z"⟩, prog_2_method_7_code, 2, (Option.some Jvm.ClassFile.FieldType.boolean), 0, 2, 0, 2),
  (⟨"ClashDay$Board", "hasCandidate", "(I)Z"⟩, prog_2_method_8_code, 2, (Option.some Jvm.ClassFile.FieldType.boolean), 0, 2, 0, 2),
  (⟨"ClashDay$Board", "isPlanned", "(I)Z"⟩, prog_2_method_9_code, 2, (Option.some Jvm.ClassFile.FieldType.boolean), 0, 2, 0, 2),
  (⟨"ClashDay$Board", "waits", "(I)Z"⟩, prog_2_method_10_code, 2, (Option.some Jvm.ClassFile.FieldType.boolean), 0, 2, 0, 2),
  (⟨"ClashDay$Board", "waiting", "()I"⟩, prog_2_method_11_code, 1, (Option.some Jvm.ClassFile.FieldType.int), 0, 1, 0, 1),
  (⟨"ClashDay$Board", "sitsIn", "(II)Z"⟩, prog_2_method_12_code, 3, (Option.some Jvm.ClassFile.FieldType.boolean), 0, 2, 0, 3),
  (⟨"ClashDay$Board", "sittersOf", "(I)I"⟩, prog_2_method_13_code, 4, (Option.some Jvm.ClassFile.FieldType.int), 0, 1, 0, 2),
  (⟨"ClashDay$Board", "timeOf", "(II)I"⟩, prog_2_method_14_code, 3, (Option.some Jvm.ClassFile.FieldType.int), 0, 1, 0, 3),
  (⟨"ClashDay$Board", "workOf", "(I)I"⟩, prog_2_method_15_code, 4, (Option.some Jvm.ClassFile.FieldType.int), 0, 1, 0, 2)]
def mMs1 : List mMR := [
  (⟨"ClashDay$Board", "beginOf", "(II)I"⟩, prog_2_method_16_code, 3, (Option.some Jvm.ClassFile.FieldType.int), 0, 1, 0, 3),
  (⟨"ClashDay$Board", "freeSeats", "(I)I"⟩, prog_2_method_17_code, 4, (Option.some Jvm.ClassFile.FieldType.int), 0, 1, 0, 2),
  (⟨"ClashDay$Board", "openSlots", "()I"⟩, prog_2_method_18_code, 5, (Option.some Jvm.ClassFile.FieldType.int), 0, 1, 0, 1),
  (⟨"ClashDay$Board", "busiest", "()I"⟩, prog_2_method_19_code, 3, (Option.some Jvm.ClassFile.FieldType.int), 0, 1, 0, 1),
  (⟨"ClashDay$Board", "keptIn", "(II)Z"⟩, prog_2_method_20_code, 3, (Option.some Jvm.ClassFile.FieldType.boolean), 0, 2, 0, 3),
  (⟨"ClashDay$Board", "keptOf", "(I)I"⟩, prog_2_method_21_code, 2, (Option.some Jvm.ClassFile.FieldType.int), 0, 1, 0, 2),
  (⟨"ClashDay$Board", "keptOfAll", "()I"⟩, prog_2_method_22_code, 3, (Option.some Jvm.ClassFile.FieldType.int), 0, 1, 0, 1),
  (⟨"ClashDay$Board", "adopt", "(ILClashDay$Planner;)V"⟩, prog_2_method_23_code, 3, (Option.none : Option Jvm.ClassFile.FieldType), 0, 0, 0, 3),
  (⟨"ClashDay$Board", "release", "(I)V"⟩, prog_2_method_24_code, 2, (Option.none : Option Jvm.ClassFile.FieldType), 0, 0, 0, 2),
  (⟨"ClashDay$Board", "canBeLater", "(I)Z"⟩, prog_2_method_25_code, 2, (Option.some Jvm.ClassFile.FieldType.boolean), 0, 2, 0, 2),
  (⟨"ClashDay$Board", "postpone", "(II)V"⟩, prog_2_method_26_code, 4, (Option.none : Option Jvm.ClassFile.FieldType), 0, 0, 0, 3),
  (⟨"ClashDay$Board", "watchersIn", "(II)I"⟩, prog_2_method_27_code, 5, (Option.some Jvm.ClassFile.FieldType.int), 0, 1, 0, 3),
  (⟨"ClashDay$Board", "mostKeptSlot", "(I)I"⟩, prog_2_method_28_code, 4, (Option.some Jvm.ClassFile.FieldType.int), 0, 1, 0, 2),
  (⟨"ClashDay$Board", "mustNotMeet", "(II)I"⟩, prog_2_method_29_code, 5, (Option.some Jvm.ClassFile.FieldType.int), 0, 1, 0, 3),
  (⟨"ClashDay$Board", "shareOf", "(II)I"⟩, prog_2_method_30_code, 9, (Option.some Jvm.ClassFile.FieldType.int), 0, 1, 0, 3),
  (⟨"ClashDay$Board", "from", "(I)I"⟩, prog_2_method_31_code, 1, (Option.some Jvm.ClassFile.FieldType.int), 0, 1, 0, 1)]
def mMs2 : List mMR := [
  (⟨"ClashDay$Board", "span", "(II)I"⟩, prog_2_method_32_code, 2, (Option.some Jvm.ClassFile.FieldType.int), 0, 1, 0, 2),
  (⟨"ClashDay$DayReader", "<init>", "(LClashDay$Tape;)V"⟩, prog_3_method_1_code, 2, (Option.none : Option Jvm.ClassFile.FieldType), 1, 6, 1, 2),
  (⟨"ClashDay$DayReader", "read", "(LClashDay$Board;)I"⟩, prog_3_method_2_code, 3, (Option.some Jvm.ClassFile.FieldType.int), 1, 1, 0, 2),
  (⟨"ClashDay$DayReader", "readClause", "(LClashDay$Board;I)Z"⟩, prog_3_method_3_code, 5, (Option.some Jvm.ClassFile.FieldType.boolean), 1, 2, 0, 3),
  (⟨"ClashDay$DayReader", "readDay", "(LClashDay$Board;)Z"⟩, prog_3_method_4_code, 2, (Option.some Jvm.ClassFile.FieldType.boolean), 1, 2, 0, 2),
  (⟨"ClashDay$DayReader", "readPaper", "(LClashDay$Board;)Z"⟩, prog_3_method_5_code, 2, (Option.some Jvm.ClassFile.FieldType.boolean), 1, 2, 0, 2),
  (⟨"ClashDay$DayReader", "readCandidate", "(LClashDay$Board;)Z"⟩, prog_3_method_6_code, 3, (Option.some Jvm.ClassFile.FieldType.boolean), 1, 2, 0, 2),
  (⟨"ClashDay$DayReader", "readTaken", "(LClashDay$Board;)Z"⟩, prog_3_method_7_code, 2, (Option.some Jvm.ClassFile.FieldType.boolean), 1, 2, 0, 2),
  (⟨"ClashDay$DayReader", "readNumber", "(III)Z"⟩, prog_3_method_8_code, 5, (Option.some Jvm.ClassFile.FieldType.boolean), 1, 2, 0, 4),
  (⟨"ClashDay$Lines", "<init>", "()V"⟩, prog_4_method_1_code, 1, (Option.none : Option Jvm.ClassFile.FieldType), 2, 6, 6, 1),
  (⟨"ClashDay$Lines", "sign", "(LClashDay$Board;II)C"⟩, prog_4_method_2_code, 5, (Option.some Jvm.ClassFile.FieldType.char), 2, 3, 0, 3),
  (⟨"ClashDay$Lines", "spell", "(LClashDay$Board;II)V"⟩, prog_4_method_3_code, 7, (Option.none : Option Jvm.ClassFile.FieldType), 2, 0, 0, 4),
  (⟨"ClashDay$Lines", "spellRun", "(IIC)V"⟩, prog_4_method_4_code, 4, (Option.none : Option Jvm.ClassFile.FieldType), 2, 0, 0, 4),
  (⟨"ClashDay$Lines", "put", "(IC)V"⟩, prog_4_method_5_code, 3, (Option.none : Option Jvm.ClassFile.FieldType), 2, 0, 0, 3),
  (⟨"ClashDay$Lines", "inCommon", "()I"⟩, prog_4_method_6_code, 3, (Option.some Jvm.ClassFile.FieldType.int), 2, 1, 0, 1),
  (⟨"ClashDay$Lines", "whichAhead", "()I"⟩, prog_4_method_7_code, 2, (Option.some Jvm.ClassFile.FieldType.int), 2, 1, 0, 1)]
def mMs3 : List mMR := [
  (⟨"ClashDay$Lines", "watcherOf", "(LClashDay$Board;III)I"⟩, prog_4_method_8_code, 6, (Option.some Jvm.ClassFile.FieldType.int), 2, 1, 0, 5),
  (⟨"ClashDay$Lines", "watchSlot", "(LClashDay$Board;II)V"⟩, prog_4_method_9_code, 5, (Option.none : Option Jvm.ClassFile.FieldType), 2, 0, 0, 4),
  (⟨"ClashDay$Lines", "wasKept", "(LClashDay$Board;II)Z"⟩, prog_4_method_10_code, 3, (Option.some Jvm.ClassFile.FieldType.boolean), 2, 2, 0, 3),
  (⟨"ClashDay$Lines", "leastThatCan", "(I)I"⟩, prog_4_method_11_code, 3, (Option.some Jvm.ClassFile.FieldType.int), 2, 1, 0, 2),
  (⟨"ClashDay$Notes", "<init>", "()V"⟩, prog_5_method_1_code, 1, (Option.none : Option Jvm.ClassFile.FieldType), 3, 6, 3, 1),
  (⟨"ClashDay$Notes", "copyFrom", "(LClashDay$Notes;)V"⟩, prog_5_method_2_code, 2, (Option.none : Option Jvm.ClassFile.FieldType), 3, 0, 0, 2),
  (⟨"ClashDay$Notes", "isFull", "()Z"⟩, prog_5_method_3_code, 1, (Option.some Jvm.ClassFile.FieldType.boolean), 3, 2, 0, 1),
  (⟨"ClashDay$Notes", "append", "(III)V"⟩, prog_5_method_4_code, 4, (Option.none : Option Jvm.ClassFile.FieldType), 3, 0, 0, 4),
  (⟨"ClashDay$Notes", "lastTurn", "()I"⟩, prog_5_method_5_code, 3, (Option.some Jvm.ClassFile.FieldType.int), 3, 1, 0, 1),
  (⟨"ClashDay$Notes", "agreeWith", "(LClashDay$Board;I)Z"⟩, prog_5_method_6_code, 4, (Option.some Jvm.ClassFile.FieldType.boolean), 3, 2, 0, 3),
  (⟨"ClashDay$Planner", "<init>", "()V"⟩, prog_6_method_1_code, 1, (Option.none : Option Jvm.ClassFile.FieldType), 4, 6, 5, 1),
  (⟨"ClashDay$Planner", "finds", "(LClashDay$Board;II)Z"⟩, prog_6_method_2_code, 4, (Option.some Jvm.ClassFile.FieldType.boolean), 4, 2, 0, 4),
  (⟨"ClashDay$Planner", "settles", "(LClashDay$Board;I)Z"⟩, prog_6_method_3_code, 3, (Option.some Jvm.ClassFile.FieldType.boolean), 4, 2, 0, 3),
  (⟨"ClashDay$Planner", "leastClash", "(LClashDay$Board;I)I"⟩, prog_6_method_4_code, 7, (Option.some Jvm.ClassFile.FieldType.int), 4, 1, 0, 3),
  (⟨"ClashDay$Planner", "prepare", "(LClashDay$Board;II)V"⟩, prog_6_method_5_code, 7, (Option.none : Option Jvm.ClassFile.FieldType), 4, 0, 0, 4),
  (⟨"ClashDay$Planner", "runs", "(II)I"⟩, prog_6_method_6_code, 4, (Option.some Jvm.ClassFile.FieldType.int), 4, 1, 0, 2)]
def mMs4 : List mMR := [
  (⟨"ClashDay$Planner", "follow", "(IIIII)V"⟩, prog_6_method_7_code, 9, (Option.none : Option Jvm.ClassFile.FieldType), 4, 0, 0, 6),
  (⟨"ClashDay$Planner", "leastSlot", "(III)I"⟩, prog_6_method_8_code, 6, (Option.some Jvm.ClassFile.FieldType.int), 4, 1, 0, 4),
  (⟨"ClashDay$Planner", "weigh", "(III)V"⟩, prog_6_method_9_code, 6, (Option.none : Option Jvm.ClassFile.FieldType), 4, 0, 0, 4),
  (⟨"ClashDay$Rule", "<init>", "()V"⟩, prog_7_method_1_code, 1, (Option.none : Option Jvm.ClassFile.FieldType), 5, 6, 3, 1),
  (⟨"ClashDay$Rule", "comparison", "(I)I"⟩, prog_7_method_2_code, 1, (Option.some Jvm.ClassFile.FieldType.int), 5, 1, 0, 1),
  (⟨"ClashDay$Rule", "timesLike", "(I)I"⟩, prog_7_method_3_code, 1, (Option.some Jvm.ClassFile.FieldType.int), 5, 1, 0, 1),
  (⟨"ClashDay$Rule", "plusLike", "(I)I"⟩, prog_7_method_4_code, 1, (Option.some Jvm.ClassFile.FieldType.int), 5, 1, 0, 1),
  (⟨"ClashDay$Rule", "clear", "()V"⟩, prog_7_method_5_code, 1, (Option.none : Option Jvm.ClassFile.FieldType), 5, 0, 0, 1),
  (⟨"ClashDay$Rule", "emit", "(I)V"⟩, prog_7_method_6_code, 2, (Option.none : Option Jvm.ClassFile.FieldType), 5, 0, 0, 2),
  (⟨"ClashDay$Rule", "closeClause", "(I)V"⟩, prog_7_method_7_code, 2, (Option.none : Option Jvm.ClassFile.FieldType), 5, 0, 0, 2),
  (⟨"ClashDay$Rule", "worth", "([J[J)J"⟩, prog_7_method_8_code, 6, (Option.some Jvm.ClassFile.FieldType.long), 5, 4, 0, 3),
  (⟨"ClashDay$Rule", "valueOf", "(II[J[J)J"⟩, prog_7_method_9_code, 8, (Option.some Jvm.ClassFile.FieldType.long), 5, 4, 0, 5),
  (⟨"ClashDay$Rule", "joined", "(IJJ)J"⟩, prog_7_method_10_code, 5, (Option.some Jvm.ClassFile.FieldType.long), 5, 4, 0, 3),
  (⟨"ClashDay$RuleReader", "<init>", "(LClashDay$Tape;)V"⟩, prog_8_method_1_code, 2, (Option.none : Option Jvm.ClassFile.FieldType), 6, 6, 0, 2),
  (⟨"ClashDay$RuleReader", "read", "(LClashDay$Rule;)I"⟩, prog_8_method_2_code, 3, (Option.some Jvm.ClassFile.FieldType.int), 6, 1, 0, 2),
  (⟨"ClashDay$RuleReader", "readClause", "(LClashDay$Rule;I)Z"⟩, prog_8_method_3_code, 4, (Option.some Jvm.ClassFile.FieldType.boolean), 6, 2, 0, 3)]
def mMs5 : List mMR := [
  (⟨"ClashDay$RuleReader", "readTest", "(LClashDay$Rule;I)Z"⟩, prog_8_method_4_code, 6, (Option.some Jvm.ClassFile.FieldType.boolean), 6, 2, 0, 3),
  (⟨"ClashDay$RuleReader", "readFact", "(LClashDay$Rule;I)Z"⟩, prog_8_method_5_code, 6, (Option.some Jvm.ClassFile.FieldType.boolean), 6, 2, 0, 3),
  (⟨"ClashDay$RuleReader", "readSum", "(LClashDay$Rule;)Z"⟩, prog_8_method_6_code, 5, (Option.some Jvm.ClassFile.FieldType.boolean), 6, 2, 0, 2),
  (⟨"ClashDay$RuleReader", "readValue", "(LClashDay$Rule;)Z"⟩, prog_8_method_7_code, 5, (Option.some Jvm.ClassFile.FieldType.boolean), 6, 2, 0, 2),
  (⟨"ClashDay$Scene", "<init>", "()V"⟩, prog_9_method_1_code, 1, (Option.none : Option Jvm.ClassFile.FieldType), 7, 6, 24, 1),
  (⟨"ClashDay$Scene", "copyFrom", "(LClashDay$Scene;)V"⟩, prog_9_method_2_code, 2, (Option.none : Option Jvm.ClassFile.FieldType), 7, 0, 0, 2),
  (⟨"ClashDay$Tape", "<init>", "()V"⟩, prog_10_method_1_code, 1, (Option.none : Option Jvm.ClassFile.FieldType), 8, 6, 1, 1),
  (⟨"ClashDay$Tape", "hasRoom", "(I)Z"⟩, prog_10_method_2_code, 2, (Option.some Jvm.ClassFile.FieldType.boolean), 8, 2, 0, 2),
  (⟨"ClashDay$Tape", "append", "(I)V"⟩, prog_10_method_3_code, 3, (Option.none : Option Jvm.ClassFile.FieldType), 8, 0, 0, 2),
  (⟨"ClashDay$Tape", "rewind", "()V"⟩, prog_10_method_4_code, 1, (Option.none : Option Jvm.ClassFile.FieldType), 8, 0, 0, 1),
  (⟨"ClashDay$Tape", "scan", "()V"⟩, prog_10_method_5_code, 2, (Option.none : Option Jvm.ClassFile.FieldType), 8, 0, 0, 1),
  (⟨"ClashDay$Tape", "wordNumber", "()I"⟩, prog_10_method_6_code, 7, (Option.some Jvm.ClassFile.FieldType.int), 8, 1, 0, 1),
  (⟨"ClashDay$Tape", "isWord", "(I)Z"⟩, prog_10_method_7_code, 2, (Option.some Jvm.ClassFile.FieldType.boolean), 8, 2, 0, 2),
  (⟨"ClashDay$Tape", "goesOn", "()Z"⟩, prog_10_method_8_code, 1, (Option.some Jvm.ClassFile.FieldType.boolean), 8, 2, 0, 1),
  (⟨"ClashDay$Tape", "fail", "(I)Z"⟩, prog_10_method_9_code, 2, (Option.some Jvm.ClassFile.FieldType.boolean), 8, 2, 0, 2),
  (⟨"ClashDay$Tape", "numberFault", "(II)I"⟩, prog_10_method_10_code, 4, (Option.some Jvm.ClassFile.FieldType.int), 8, 1, 0, 3)]
def mMs6 : List mMR := [
  (⟨"ClashDay$Trials", "<init>", "(LClashDay$Planner;LClashDay$Turns;)V"⟩, prog_11_method_1_code, 3, (Option.none : Option Jvm.ClassFile.FieldType), 9, 6, 22, 3),
  (⟨"ClashDay$Trials", "rankRows", "(LClashDay$Board;)V"⟩, prog_11_method_2_code, 4, (Option.none : Option Jvm.ClassFile.FieldType), 9, 0, 0, 2),
  (⟨"ClashDay$Trials", "goOnWithRow", "(IIII)V"⟩, prog_11_method_3_code, 7, (Option.none : Option Jvm.ClassFile.FieldType), 9, 0, 0, 5),
  (⟨"ClashDay$Trials", "worstDelay", "(LClashDay$Board;I)I"⟩, prog_11_method_4_code, 7, (Option.some Jvm.ClassFile.FieldType.int), 9, 1, 0, 3),
  (⟨"ClashDay$Trials", "harmed", "(LClashDay$Board;II)I"⟩, prog_11_method_5_code, 6, (Option.some Jvm.ClassFile.FieldType.int), 9, 1, 0, 4),
  (⟨"ClashDay$Trials", "behind", "(LClashDay$Board;LClashDay$Rule;I)LClashDay$Board;"⟩, prog_11_method_6_code, 5, (Option.some (Jvm.ClassFile.FieldType.object "ClashDay$Board")), 9, 5, 0, 4),
  (⟨"ClashDay$Trials", "turnOf", "(LClashDay$Board;LClashDay$Rule;I)I"⟩, prog_11_method_7_code, 6, (Option.some Jvm.ClassFile.FieldType.int), 9, 1, 0, 4),
  (⟨"ClashDay$Trials", "extrasAsNoted", "(LClashDay$Scene;LClashDay$Rule;I)I"⟩, prog_11_method_8_code, 6, (Option.some Jvm.ClassFile.FieldType.int), 9, 1, 0, 4),
  (⟨"ClashDay$Trials", "restsAsNoted", "(LClashDay$Scene;LClashDay$Rule;I)I"⟩, prog_11_method_9_code, 6, (Option.some Jvm.ClassFile.FieldType.int), 9, 1, 0, 4),
  (⟨"ClashDay$Trials", "rulesAsNoted", "(LClashDay$Scene;[LClashDay$Rule;I)I"⟩, prog_11_method_10_code, 6, (Option.some Jvm.ClassFile.FieldType.int), 9, 1, 0, 4),
  (⟨"ClashDay$Trials", "isAsNoted", "(LClashDay$Notes;LClashDay$Rule;)Z"⟩, prog_11_method_11_code, 5, (Option.some Jvm.ClassFile.FieldType.boolean), 9, 2, 0, 3),
  (⟨"ClashDay$Trials", "foresee", "(LClashDay$Board;[LClashDay$Rule;II)V"⟩, prog_11_method_12_code, 7, (Option.none : Option Jvm.ClassFile.FieldType), 9, 0, 0, 5),
  (⟨"ClashDay$Trials", "slotThatParts", "(I)I"⟩, prog_11_method_13_code, 4, (Option.some Jvm.ClassFile.FieldType.int), 9, 1, 0, 2),
  (⟨"ClashDay$Trials", "mostAlike", "(II)I"⟩, prog_11_method_14_code, 8, (Option.some Jvm.ClassFile.FieldType.int), 9, 1, 0, 3),
  (⟨"ClashDay$Trials", "settledTwos", "(LClashDay$Board;II)I"⟩, prog_11_method_15_code, 6, (Option.some Jvm.ClassFile.FieldType.int), 9, 1, 0, 4),
  (⟨"ClashDay$Trials", "gainOf", "(I)I"⟩, prog_11_method_16_code, 2, (Option.some Jvm.ClassFile.FieldType.int), 9, 1, 0, 2)]
def mMs7 : List mMR := [
  (⟨"ClashDay$Trials", "isSettled", "(I)Z"⟩, prog_11_method_17_code, 5, (Option.some Jvm.ClassFile.FieldType.boolean), 9, 2, 0, 2),
  (⟨"ClashDay$Trials", "fallIll", "(LClashDay$Scene;LClashDay$Rule;III)V"⟩, prog_11_method_18_code, 8, (Option.none : Option Jvm.ClassFile.FieldType), 9, 0, 0, 6),
  (⟨"ClashDay$Trials", "drawIllness", "(I)V"⟩, prog_11_method_19_code, 2, (Option.none : Option Jvm.ClassFile.FieldType), 9, 0, 0, 2),
  (⟨"ClashDay$Trials", "nextDraw", "()I"⟩, prog_11_method_20_code, 1, (Option.some Jvm.ClassFile.FieldType.int), 9, 1, 0, 1),
  (⟨"ClashDay$Turns", "<init>", "(LClashDay$Planner;)V"⟩, prog_12_method_1_code, 2, (Option.none : Option Jvm.ClassFile.FieldType), 10, 6, 2, 2),
  (⟨"ClashDay$Turns", "step", "(LClashDay$Board;LClashDay$Rule;)I"⟩, prog_12_method_2_code, 4, (Option.some Jvm.ClassFile.FieldType.int), 10, 1, 0, 3),
  (⟨"ClashDay$Turns", "leastThatCan", "(LClashDay$Board;)I"⟩, prog_12_method_3_code, 3, (Option.some Jvm.ClassFile.FieldType.int), 10, 1, 0, 2),
  (⟨"ClashDay$Turns", "dearest", "(LClashDay$Board;LClashDay$Rule;)I"⟩, prog_12_method_4_code, 9, (Option.some Jvm.ClassFile.FieldType.int), 10, 1, 0, 3),
  (⟨"ClashDay$Turns", "gatherFacts", "(LClashDay$Board;I)V"⟩, prog_12_method_5_code, 3, (Option.none : Option Jvm.ClassFile.FieldType), 10, 0, 0, 3),
  (⟨"ClashDay", "<init>", "()V"⟩, prog_1_method_1_code, 2, (Option.none : Option Jvm.ClassFile.FieldType), 11, 6, 406, 1),
  (⟨"ClashDay", "feed", "(IIIII)I"⟩, prog_1_method_2_code, 6, (Option.some Jvm.ClassFile.FieldType.int), 11, 1, 0, 6),
  (⟨"ClashDay", "end", "(I)I"⟩, prog_1_method_3_code, 2, (Option.some Jvm.ClassFile.FieldType.int), 11, 1, 0, 2),
  (⟨"ClashDay", "day", "()I"⟩, prog_1_method_4_code, 2, (Option.some Jvm.ClassFile.FieldType.int), 11, 1, 0, 1),
  (⟨"ClashDay", "rule", "()I"⟩, prog_1_method_5_code, 2, (Option.some Jvm.ClassFile.FieldType.int), 11, 1, 0, 1),
  (⟨"ClashDay", "force", "(I)I"⟩, prog_1_method_6_code, 3, (Option.some Jvm.ClassFile.FieldType.int), 11, 1, 0, 2),
  (⟨"ClashDay", "paper", "(II)I"⟩, prog_1_method_7_code, 4, (Option.some Jvm.ClassFile.FieldType.int), 11, 1, 0, 3)]
def mMs8 : List mMR := [
  (⟨"ClashDay", "candidate", "(II)I"⟩, prog_1_method_8_code, 4, (Option.some Jvm.ClassFile.FieldType.int), 11, 1, 0, 3),
  (⟨"ClashDay", "free", "(I)I"⟩, prog_1_method_9_code, 2, (Option.some Jvm.ClassFile.FieldType.int), 11, 1, 0, 2),
  (⟨"ClashDay", "time", "(II)I"⟩, prog_1_method_10_code, 4, (Option.some Jvm.ClassFile.FieldType.int), 11, 1, 0, 3),
  (⟨"ClashDay", "turn", "()I"⟩, prog_1_method_11_code, 1, (Option.some Jvm.ClassFile.FieldType.int), 11, 1, 0, 1),
  (⟨"ClashDay", "plan", "(I)I"⟩, prog_1_method_12_code, 3, (Option.some Jvm.ClassFile.FieldType.int), 11, 1, 0, 2),
  (⟨"ClashDay", "drop", "(I)I"⟩, prog_1_method_13_code, 2, (Option.some Jvm.ClassFile.FieldType.int), 11, 1, 0, 2),
  (⟨"ClashDay", "delay", "(II)I"⟩, prog_1_method_14_code, 4, (Option.some Jvm.ClassFile.FieldType.int), 11, 1, 0, 3),
  (⟨"ClashDay", "take", "(II)I"⟩, prog_1_method_15_code, 5, (Option.some Jvm.ClassFile.FieldType.int), 11, 1, 0, 3),
  (⟨"ClashDay", "undo", "()I"⟩, prog_1_method_16_code, 1, (Option.some Jvm.ClassFile.FieldType.int), 11, 1, 0, 1),
  (⟨"ClashDay", "begins", "(II)I"⟩, prog_1_method_17_code, 4, (Option.some Jvm.ClassFile.FieldType.int), 11, 1, 0, 3),
  (⟨"ClashDay", "could", "(II)I"⟩, prog_1_method_18_code, 4, (Option.some Jvm.ClassFile.FieldType.int), 11, 1, 0, 3),
  (⟨"ClashDay", "orders", "(I)I"⟩, prog_1_method_19_code, 3, (Option.some Jvm.ClassFile.FieldType.int), 11, 1, 0, 2),
  (⟨"ClashDay", "clash", "(II)I"⟩, prog_1_method_20_code, 5, (Option.some Jvm.ClassFile.FieldType.int), 11, 1, 0, 3),
  (⟨"ClashDay", "line", "(II)I"⟩, prog_1_method_21_code, 3, (Option.some Jvm.ClassFile.FieldType.int), 11, 1, 0, 3),
  (⟨"ClashDay", "spelt", "(II)I"⟩, prog_1_method_22_code, 3, (Option.some Jvm.ClassFile.FieldType.int), 11, 1, 0, 3),
  (⟨"ClashDay", "first", "(III)I"⟩, prog_1_method_23_code, 6, (Option.some Jvm.ClassFile.FieldType.int), 11, 1, 0, 4)]
def mMs9 : List mMR := [
  (⟨"ClashDay", "watchers", "(II)I"⟩, prog_1_method_24_code, 4, (Option.some Jvm.ClassFile.FieldType.int), 11, 1, 0, 3),
  (⟨"ClashDay", "chain", "(III)I"⟩, prog_1_method_25_code, 5, (Option.some Jvm.ClassFile.FieldType.int), 11, 1, 0, 4),
  (⟨"ClashDay", "apart", "(II)I"⟩, prog_1_method_26_code, 4, (Option.some Jvm.ClassFile.FieldType.int), 11, 1, 0, 3),
  (⟨"ClashDay", "best", "(I)I"⟩, prog_1_method_27_code, 2, (Option.some Jvm.ClassFile.FieldType.int), 11, 1, 0, 2),
  (⟨"ClashDay", "harm", "(II)I"⟩, prog_1_method_28_code, 4, (Option.some Jvm.ClassFile.FieldType.int), 11, 1, 0, 3),
  (⟨"ClashDay", "ahead", "(II)I"⟩, prog_1_method_29_code, 4, (Option.some Jvm.ClassFile.FieldType.int), 11, 1, 0, 3),
  (⟨"ClashDay", "when", "(I)I"⟩, prog_1_method_30_code, 2, (Option.some Jvm.ClassFile.FieldType.int), 11, 1, 0, 2),
  (⟨"ClashDay", "extras", "(II)I"⟩, prog_1_method_31_code, 4, (Option.some Jvm.ClassFile.FieldType.int), 11, 1, 0, 3),
  (⟨"ClashDay", "resting", "(I)I"⟩, prog_1_method_32_code, 2, (Option.some Jvm.ClassFile.FieldType.int), 11, 1, 0, 2),
  (⟨"ClashDay", "rests", "(III)I"⟩, prog_1_method_33_code, 7, (Option.some Jvm.ClassFile.FieldType.int), 11, 1, 0, 4),
  (⟨"ClashDay", "pence", "(II)I"⟩, prog_1_method_34_code, 4, (Option.some Jvm.ClassFile.FieldType.int), 11, 1, 0, 3),
  (⟨"ClashDay", "note", "(III)I"⟩, prog_1_method_35_code, 6, (Option.some Jvm.ClassFile.FieldType.int), 11, 1, 0, 4),
  (⟨"ClashDay", "ruled", "(I)I"⟩, prog_1_method_36_code, 3, (Option.some Jvm.ClassFile.FieldType.int), 11, 1, 0, 2),
  (⟨"ClashDay", "look", "(II)I"⟩, prog_1_method_37_code, 5, (Option.some Jvm.ClassFile.FieldType.int), 11, 1, 0, 3),
  (⟨"ClashDay", "seed", "(I)I"⟩, prog_1_method_38_code, 3, (Option.some Jvm.ClassFile.FieldType.int), 11, 1, 0, 2),
  (⟨"ClashDay", "ill", "(IIII)I"⟩, prog_1_method_39_code, 5, (Option.some Jvm.ClassFile.FieldType.int), 11, 1, 0, 5)]
def mMs10 : List mMR := [
  (⟨"ClashDay", "count", "(I)I"⟩, prog_1_method_40_code, 3, (Option.some Jvm.ClassFile.FieldType.int), 11, 1, 0, 2),
  (⟨"ClashDay", "image", "(I)I"⟩, prog_1_method_41_code, 2, (Option.some Jvm.ClassFile.FieldType.int), 11, 1, 0, 2),
  (⟨"ClashDay", "back", "(I)I"⟩, prog_1_method_42_code, 2, (Option.some Jvm.ClassFile.FieldType.int), 11, 1, 0, 2),
  (⟨"ClashDay", "isSlot", "(I)Z"⟩, prog_1_method_43_code, 1, (Option.some Jvm.ClassFile.FieldType.boolean), 11, 2, 0, 1),
  (⟨"ClashDay", "ruleInForce", "()LClashDay$Rule;"⟩, prog_1_method_44_code, 2, (Option.some (Jvm.ClassFile.FieldType.object "ClashDay$Rule")), 11, 5, 0, 1),
  (⟨"ClashDay", "remember", "()V"⟩, prog_1_method_45_code, 3, (Option.none : Option Jvm.ClassFile.FieldType), 11, 0, 0, 1),
  (⟨"ClashDayModel", "<init>", "()V"⟩, prog_14_method_1_code, 1, (Option.none : Option Jvm.ClassFile.FieldType), 12, 6, 32, 1),
  (⟨"ClashDayModel", "in", "(JJJ)Z"⟩, prog_14_method_2_code, 6, (Option.some Jvm.ClassFile.FieldType.boolean), 12, 2, 0, 3),
  (⟨"ClashDayModel", "isOf", "(II)Z"⟩, prog_14_method_3_code, 2, (Option.some Jvm.ClassFile.FieldType.boolean), 12, 2, 0, 2),
  (⟨"ClashDayModel", "bits", "(I)I"⟩, prog_14_method_4_code, 3, (Option.some Jvm.ClassFile.FieldType.int), 12, 1, 0, 1),
  (⟨"ClashDayModel", "four", "(I)V"⟩, prog_14_method_5_code, 3, (Option.none : Option Jvm.ClassFile.FieldType), 12, 0, 0, 2),
  (⟨"ClashDayModel", "feed", "(IIIII)I"⟩, prog_14_method_6_code, 6, (Option.some Jvm.ClassFile.FieldType.int), 12, 1, 0, 6),
  (⟨"ClashDayModel", "end", "(I)I"⟩, prog_14_method_7_code, 2, (Option.some Jvm.ClassFile.FieldType.int), 12, 1, 0, 2),
  (⟨"ClashDayModel", "fails", "(II)Z"⟩, prog_14_method_8_code, 3, (Option.some Jvm.ClassFile.FieldType.boolean), 12, 2, 0, 3),
  (⟨"ClashDayModel", "see", "()I"⟩, prog_14_method_9_code, 1, (Option.some Jvm.ClassFile.FieldType.int), 12, 1, 0, 1),
  (⟨"ClashDayModel", "isDigit", "(I)Z"⟩, prog_14_method_10_code, 2, (Option.some Jvm.ClassFile.FieldType.boolean), 12, 2, 0, 2)]
def mMs11 : List mMR := [
  (⟨"ClashDayModel", "isLetter", "(I)Z"⟩, prog_14_method_11_code, 2, (Option.some Jvm.ClassFile.FieldType.boolean), 12, 2, 0, 2),
  (⟨"ClashDayModel", "isWord", "(J)Z"⟩, prog_14_method_12_code, 6, (Option.some Jvm.ClassFile.FieldType.boolean), 12, 2, 0, 2),
  (⟨"ClashDayModel", "passWord", "()V"⟩, prog_14_method_13_code, 1, (Option.none : Option Jvm.ClassFile.FieldType), 12, 0, 0, 1),
  (⟨"ClashDayModel", "takesWord", "(J)Z"⟩, prog_14_method_14_code, 3, (Option.some Jvm.ClassFile.FieldType.boolean), 12, 2, 0, 2),
  (⟨"ClashDayModel", "numberHere", "(II)Z"⟩, prog_14_method_15_code, 5, (Option.some Jvm.ClassFile.FieldType.boolean), 12, 2, 0, 3),
  (⟨"ClashDayModel", "wordHere", "()I"⟩, prog_14_method_16_code, 1, (Option.some Jvm.ClassFile.FieldType.int), 12, 1, 0, 1),
  (⟨"ClashDayModel", "puts", "(II)V"⟩, prog_14_method_17_code, 3, (Option.none : Option Jvm.ClassFile.FieldType), 12, 0, 0, 3),
  (⟨"ClashDayModel", "makes", "(I)Z"⟩, prog_14_method_18_code, 2, (Option.some Jvm.ClassFile.FieldType.boolean), 12, 2, 0, 2),
  (⟨"ClashDayModel", "opens", "(I)Z"⟩, prog_14_method_19_code, 2, (Option.some Jvm.ClassFile.FieldType.boolean), 12, 2, 0, 2),
  (⟨"ClashDayModel", "strength", "(I)I"⟩, prog_14_method_20_code, 1, (Option.some Jvm.ClassFile.FieldType.int), 12, 1, 0, 1),
  (⟨"ClashDayModel", "layDown", "(I)V"⟩, prog_14_method_21_code, 2, (Option.none : Option Jvm.ClassFile.FieldType), 12, 0, 0, 2),
  (⟨"ClashDayModel", "value", "()Z"⟩, prog_14_method_22_code, 3, (Option.some Jvm.ClassFile.FieldType.boolean), 12, 2, 0, 1),
  (⟨"ClashDayModel", "term", "()Z"⟩, prog_14_method_23_code, 2, (Option.some Jvm.ClassFile.FieldType.boolean), 12, 2, 0, 1),
  (⟨"ClashDayModel", "sum", "()Z"⟩, prog_14_method_24_code, 2, (Option.some Jvm.ClassFile.FieldType.boolean), 12, 2, 0, 1),
  (⟨"ClashDayModel", "compare", "()Z"⟩, prog_14_method_25_code, 5, (Option.some Jvm.ClassFile.FieldType.boolean), 12, 2, 0, 1),
  (⟨"ClashDayModel", "fact", "()Z"⟩, prog_14_method_26_code, 3, (Option.some Jvm.ClassFile.FieldType.boolean), 12, 2, 0, 1)]
def mMs12 : List mMR := [
  (⟨"ClashDayModel", "isInside", "()Z"⟩, prog_14_method_27_code, 2, (Option.some Jvm.ClassFile.FieldType.boolean), 12, 2, 0, 1),
  (⟨"ClashDayModel", "closes", "()V"⟩, prog_14_method_28_code, 1, (Option.none : Option Jvm.ClassFile.FieldType), 12, 0, 0, 1),
  (⟨"ClashDayModel", "tested", "()Z"⟩, prog_14_method_29_code, 3, (Option.some Jvm.ClassFile.FieldType.boolean), 12, 2, 0, 1),
  (⟨"ClashDayModel", "isPlanHere", "()Z"⟩, prog_14_method_30_code, 2, (Option.some Jvm.ClassFile.FieldType.boolean), 12, 2, 0, 1),
  (⟨"ClashDayModel", "cellHere", "(III)Z"⟩, prog_14_method_31_code, 4, (Option.some Jvm.ClassFile.FieldType.boolean), 12, 2, 0, 4),
  (⟨"ClashDayModel", "isDayHere", "(I)Z"⟩, prog_14_method_32_code, 2, (Option.some Jvm.ClassFile.FieldType.boolean), 12, 2, 0, 2),
  (⟨"ClashDayModel", "isPaperHere", "(I)Z"⟩, prog_14_method_33_code, 3, (Option.some Jvm.ClassFile.FieldType.boolean), 12, 2, 0, 2),
  (⟨"ClashDayModel", "isCandidateHere", "(I)Z"⟩, prog_14_method_34_code, 3, (Option.some Jvm.ClassFile.FieldType.boolean), 12, 2, 0, 2),
  (⟨"ClashDayModel", "isTakenHere", "()Z"⟩, prog_14_method_35_code, 2, (Option.some Jvm.ClassFile.FieldType.boolean), 12, 2, 0, 1),
  (⟨"ClashDayModel", "dayLineHere", "(I)Z"⟩, prog_14_method_36_code, 2, (Option.some Jvm.ClassFile.FieldType.boolean), 12, 2, 0, 2),
  (⟨"ClashDayModel", "isDayWord", "()Z"⟩, prog_14_method_37_code, 1, (Option.some Jvm.ClassFile.FieldType.boolean), 12, 2, 0, 1),
  (⟨"ClashDayModel", "clauseHere", "()Z"⟩, prog_14_method_38_code, 3, (Option.some Jvm.ClassFile.FieldType.boolean), 12, 2, 0, 1),
  (⟨"ClashDayModel", "readsAll", "()Z"⟩, prog_14_method_39_code, 2, (Option.some Jvm.ClassFile.FieldType.boolean), 12, 2, 0, 1),
  (⟨"ClashDayModel", "rule", "()I"⟩, prog_14_method_40_code, 1, (Option.some Jvm.ClassFile.FieldType.int), 12, 1, 0, 1),
  (⟨"ClashDayModel", "day", "()I"⟩, prog_14_method_41_code, 2, (Option.some Jvm.ClassFile.FieldType.int), 12, 1, 0, 1),
  (⟨"ClashDayModel", "isRule", "(I)Z"⟩, prog_14_method_42_code, 2, (Option.some Jvm.ClassFile.FieldType.boolean), 12, 2, 0, 2)]
def mMs13 : List mMR := [
  (⟨"ClashDayModel", "push", "(J)V"⟩, prog_14_method_43_code, 3, (Option.none : Option Jvm.ClassFile.FieldType), 12, 0, 0, 2),
  (⟨"ClashDayModel", "pop", "()J"⟩, prog_14_method_44_code, 1, (Option.some Jvm.ClassFile.FieldType.long), 12, 4, 0, 1),
  (⟨"ClashDayModel", "one", "(IJJ)J"⟩, prog_14_method_45_code, 5, (Option.some Jvm.ClassFile.FieldType.long), 12, 4, 0, 3),
  (⟨"ClashDayModel", "reckons", "(III)J"⟩, prog_14_method_46_code, 11, (Option.some Jvm.ClassFile.FieldType.long), 12, 4, 0, 4),
  (⟨"ClashDayModel", "isDay", "()Z"⟩, prog_14_method_47_code, 1, (Option.some Jvm.ClassFile.FieldType.boolean), 12, 2, 0, 1),
  (⟨"ClashDayModel", "isPaper", "(I)Z"⟩, prog_14_method_48_code, 2, (Option.some Jvm.ClassFile.FieldType.boolean), 12, 2, 0, 2),
  (⟨"ClashDayModel", "isCandidate", "(I)Z"⟩, prog_14_method_49_code, 2, (Option.some Jvm.ClassFile.FieldType.boolean), 12, 2, 0, 2),
  (⟨"ClashDayModel", "isWaiting", "(I)Z"⟩, prog_14_method_50_code, 2, (Option.some Jvm.ClassFile.FieldType.boolean), 12, 2, 0, 2),
  (⟨"ClashDayModel", "isPlanned", "(I)Z"⟩, prog_14_method_51_code, 2, (Option.some Jvm.ClassFile.FieldType.boolean), 12, 2, 0, 2),
  (⟨"ClashDayModel", "doesSit", "(II)Z"⟩, prog_14_method_52_code, 3, (Option.some Jvm.ClassFile.FieldType.boolean), 12, 2, 0, 3),
  (⟨"ClashDayModel", "beginOf", "(II)I"⟩, prog_14_method_53_code, 3, (Option.some Jvm.ClassFile.FieldType.int), 12, 1, 0, 3),
  (⟨"ClashDayModel", "timeOf", "(II)I"⟩, prog_14_method_54_code, 3, (Option.some Jvm.ClassFile.FieldType.int), 12, 1, 0, 3),
  (⟨"ClashDayModel", "workOf", "(I)I"⟩, prog_14_method_55_code, 4, (Option.some Jvm.ClassFile.FieldType.int), 12, 1, 0, 2),
  (⟨"ClashDayModel", "waitingOnes", "()I"⟩, prog_14_method_56_code, 3, (Option.some Jvm.ClassFile.FieldType.int), 12, 1, 0, 1),
  (⟨"ClashDayModel", "sitsIn", "(II)I"⟩, prog_14_method_57_code, 4, (Option.some Jvm.ClassFile.FieldType.int), 12, 1, 0, 3),
  (⟨"ClashDayModel", "freeIn", "(I)I"⟩, prog_14_method_58_code, 4, (Option.some Jvm.ClassFile.FieldType.int), 12, 1, 0, 2)]
def mMs14 : List mMR := [
  (⟨"ClashDayModel", "isKept", "(II)Z"⟩, prog_14_method_59_code, 4, (Option.some Jvm.ClassFile.FieldType.boolean), 12, 2, 0, 3),
  (⟨"ClashDayModel", "keptOf", "(I)I"⟩, prog_14_method_60_code, 4, (Option.some Jvm.ClassFile.FieldType.int), 12, 1, 0, 2),
  (⟨"ClashDayModel", "keptAll", "()I"⟩, prog_14_method_61_code, 3, (Option.some Jvm.ClassFile.FieldType.int), 12, 1, 0, 1),
  (⟨"ClashDayModel", "beginsAnew", "()V"⟩, prog_14_method_62_code, 2, (Option.none : Option Jvm.ClassFile.FieldType), 12, 0, 0, 1),
  (⟨"ClashDayModel", "force", "(I)I"⟩, prog_14_method_63_code, 3, (Option.some Jvm.ClassFile.FieldType.int), 12, 1, 0, 2),
  (⟨"ClashDayModel", "paper", "(II)I"⟩, prog_14_method_64_code, 5, (Option.some Jvm.ClassFile.FieldType.int), 12, 1, 0, 3),
  (⟨"ClashDayModel", "candidate", "(II)I"⟩, prog_14_method_65_code, 3, (Option.some Jvm.ClassFile.FieldType.int), 12, 1, 0, 3),
  (⟨"ClashDayModel", "free", "(I)I"⟩, prog_14_method_66_code, 2, (Option.some Jvm.ClassFile.FieldType.int), 12, 1, 0, 2),
  (⟨"ClashDayModel", "time", "(II)I"⟩, prog_14_method_67_code, 3, (Option.some Jvm.ClassFile.FieldType.int), 12, 1, 0, 3),
  (⟨"ClashDayModel", "waysOf", "(I)I"⟩, prog_14_method_68_code, 3, (Option.some Jvm.ClassFile.FieldType.int), 12, 1, 0, 1),
  (⟨"ClashDayModel", "orderOf", "(I)V"⟩, prog_14_method_69_code, 8, (Option.none : Option Jvm.ClassFile.FieldType), 12, 0, 0, 2),
  (⟨"ClashDayModel", "areFree", "(II)Z"⟩, prog_14_method_70_code, 4, (Option.some Jvm.ClassFile.FieldType.boolean), 12, 2, 0, 3),
  (⟨"ClashDayModel", "dayOf", "(I)I"⟩, prog_14_method_71_code, 1, (Option.some Jvm.ClassFile.FieldType.int), 12, 1, 0, 1),
  (⟨"ClashDayModel", "leastSlot", "(IIIII)I"⟩, prog_14_method_72_code, 8, (Option.some Jvm.ClassFile.FieldType.int), 12, 1, 0, 6),
  (⟨"ClashDayModel", "doesOrder", "(I)Z"⟩, prog_14_method_73_code, 7, (Option.some Jvm.ClassFile.FieldType.boolean), 12, 2, 0, 2),
  (⟨"ClashDayModel", "isSitNow", "(II)Z"⟩, prog_14_method_74_code, 4, (Option.some Jvm.ClassFile.FieldType.boolean), 12, 2, 0, 3)]
def mMs15 : List mMR := [
  (⟨"ClashDayModel", "isDueNow", "(I)Z"⟩, prog_14_method_75_code, 3, (Option.some Jvm.ClassFile.FieldType.boolean), 12, 2, 0, 2),
  (⟨"ClashDayModel", "countsKept", "(I)V"⟩, prog_14_method_76_code, 3, (Option.none : Option Jvm.ClassFile.FieldType), 12, 0, 0, 2),
  (⟨"ClashDayModel", "isBetter", "()Z"⟩, prog_14_method_77_code, 1, (Option.some Jvm.ClassFile.FieldType.boolean), 12, 2, 0, 1),
  (⟨"ClashDayModel", "plansBy", "(II)Z"⟩, prog_14_method_78_code, 5, (Option.some Jvm.ClassFile.FieldType.boolean), 12, 2, 0, 3),
  (⟨"ClashDayModel", "plansOf", "(I)Z"⟩, prog_14_method_79_code, 2, (Option.some Jvm.ClassFile.FieldType.boolean), 12, 2, 0, 2),
  (⟨"ClashDayModel", "laysPlan", "(I)Z"⟩, prog_14_method_80_code, 3, (Option.some Jvm.ClassFile.FieldType.boolean), 12, 2, 0, 2),
  (⟨"ClashDayModel", "waits", "(I)V"⟩, prog_14_method_81_code, 3, (Option.none : Option Jvm.ClassFile.FieldType), 12, 0, 0, 2),
  (⟨"ClashDayModel", "summedBy", "(I)J"⟩, prog_14_method_82_code, 4, (Option.some Jvm.ClassFile.FieldType.long), 12, 4, 0, 2),
  (⟨"ClashDayModel", "busyNow", "()I"⟩, prog_14_method_83_code, 3, (Option.some Jvm.ClassFile.FieldType.int), 12, 1, 0, 1),
  (⟨"ClashDayModel", "sumOf", "(I)J"⟩, prog_14_method_84_code, 2, (Option.some Jvm.ClassFile.FieldType.long), 12, 4, 0, 2),
  (⟨"ClashDayModel", "choice", "()I"⟩, prog_14_method_85_code, 7, (Option.some Jvm.ClassFile.FieldType.int), 12, 1, 0, 1),
  (⟨"ClashDayModel", "passes", "()I"⟩, prog_14_method_86_code, 2, (Option.some Jvm.ClassFile.FieldType.int), 12, 1, 0, 1),
  (⟨"ClashDayModel", "passesAll", "(I)V"⟩, prog_14_method_87_code, 3, (Option.none : Option Jvm.ClassFile.FieldType), 12, 0, 0, 2),
  (⟨"ClashDayModel", "keepsAct", "()V"⟩, prog_14_method_88_code, 2, (Option.none : Option Jvm.ClassFile.FieldType), 12, 0, 0, 1),
  (⟨"ClashDayModel", "undo", "()I"⟩, prog_14_method_89_code, 2, (Option.some Jvm.ClassFile.FieldType.int), 12, 1, 0, 1),
  (⟨"ClashDayModel", "turn", "()I"⟩, prog_14_method_90_code, 2, (Option.some Jvm.ClassFile.FieldType.int), 12, 1, 0, 1)]
def mMs16 : List mMR := [
  (⟨"ClashDayModel", "plan", "(I)I"⟩, prog_14_method_91_code, 2, (Option.some Jvm.ClassFile.FieldType.int), 12, 1, 0, 2),
  (⟨"ClashDayModel", "drop", "(I)I"⟩, prog_14_method_92_code, 2, (Option.some Jvm.ClassFile.FieldType.int), 12, 1, 0, 2),
  (⟨"ClashDayModel", "delays", "(II)V"⟩, prog_14_method_93_code, 4, (Option.none : Option Jvm.ClassFile.FieldType), 12, 0, 0, 3),
  (⟨"ClashDayModel", "delay", "(II)I"⟩, prog_14_method_94_code, 3, (Option.some Jvm.ClassFile.FieldType.int), 12, 1, 0, 3),
  (⟨"ClashDayModel", "take", "(II)I"⟩, prog_14_method_95_code, 4, (Option.some Jvm.ClassFile.FieldType.int), 12, 1, 0, 3),
  (⟨"ClashDayModel", "begins", "(II)I"⟩, prog_14_method_96_code, 3, (Option.some Jvm.ClassFile.FieldType.int), 12, 1, 0, 3),
  (⟨"ClashDayModel", "could", "(II)I"⟩, prog_14_method_97_code, 3, (Option.some Jvm.ClassFile.FieldType.int), 12, 1, 0, 3),
  (⟨"ClashDayModel", "orders", "(I)I"⟩, prog_14_method_98_code, 2, (Option.some Jvm.ClassFile.FieldType.int), 12, 1, 0, 2),
  (⟨"ClashDayModel", "clash", "(II)I"⟩, prog_14_method_99_code, 6, (Option.some Jvm.ClassFile.FieldType.int), 12, 1, 0, 3),
  (⟨"ClashDayModel", "signOf", "(II)I"⟩, prog_14_method_100_code, 4, (Option.some Jvm.ClassFile.FieldType.int), 12, 1, 0, 3),
  (⟨"ClashDayModel", "line", "(II)I"⟩, prog_14_method_101_code, 3, (Option.some Jvm.ClassFile.FieldType.int), 12, 1, 0, 3),
  (⟨"ClashDayModel", "putsSign", "(II)V"⟩, prog_14_method_102_code, 3, (Option.none : Option Jvm.ClassFile.FieldType), 12, 0, 0, 3),
  (⟨"ClashDayModel", "spells", "(II)V"⟩, prog_14_method_103_code, 5, (Option.none : Option Jvm.ClassFile.FieldType), 12, 0, 0, 3),
  (⟨"ClashDayModel", "spelt", "(II)I"⟩, prog_14_method_104_code, 3, (Option.some Jvm.ClassFile.FieldType.int), 12, 1, 0, 3),
  (⟨"ClashDayModel", "first", "(III)I"⟩, prog_14_method_105_code, 5, (Option.some Jvm.ClassFile.FieldType.int), 12, 1, 0, 4),
  (⟨"ClashDayModel", "keptIn", "(I)I"⟩, prog_14_method_106_code, 4, (Option.some Jvm.ClassFile.FieldType.int), 12, 1, 0, 2)]
def mMs17 : List mMR := [
  (⟨"ClashDayModel", "watchers", "(II)I"⟩, prog_14_method_107_code, 7, (Option.some Jvm.ClassFile.FieldType.int), 12, 1, 0, 3),
  (⟨"ClashDayModel", "watches", "(II)V"⟩, prog_14_method_108_code, 5, (Option.none : Option Jvm.ClassFile.FieldType), 12, 0, 0, 3),
  (⟨"ClashDayModel", "chain", "(III)I"⟩, prog_14_method_109_code, 5, (Option.some Jvm.ClassFile.FieldType.int), 12, 1, 0, 4),
  (⟨"ClashDayModel", "mustNotMeet", "(III)Z"⟩, prog_14_method_110_code, 5, (Option.some Jvm.ClassFile.FieldType.boolean), 12, 2, 0, 4),
  (⟨"ClashDayModel", "apart", "(II)I"⟩, prog_14_method_111_code, 5, (Option.some Jvm.ClassFile.FieldType.int), 12, 1, 0, 3),
  (⟨"ClashDayModel", "keeps", "()V"⟩, prog_14_method_112_code, 2, (Option.none : Option Jvm.ClassFile.FieldType), 12, 0, 0, 1),
  (⟨"ClashDayModel", "laysBack", "()V"⟩, prog_14_method_113_code, 2, (Option.none : Option Jvm.ClassFile.FieldType), 12, 0, 0, 1),
  (⟨"ClashDayModel", "rowOf", "(I)V"⟩, prog_14_method_114_code, 8, (Option.none : Option Jvm.ClassFile.FieldType), 12, 0, 0, 2),
  (⟨"ClashDayModel", "triesRow", "()V"⟩, prog_14_method_115_code, 4, (Option.none : Option Jvm.ClassFile.FieldType), 12, 0, 0, 1),
  (⟨"ClashDayModel", "best", "(I)I"⟩, prog_14_method_116_code, 3, (Option.some Jvm.ClassFile.FieldType.int), 12, 1, 0, 2),
  (⟨"ClashDayModel", "stuckMany", "()I"⟩, prog_14_method_117_code, 3, (Option.some Jvm.ClassFile.FieldType.int), 12, 1, 0, 1),
  (⟨"ClashDayModel", "harm", "(II)I"⟩, prog_14_method_118_code, 7, (Option.some Jvm.ClassFile.FieldType.int), 12, 1, 0, 3),
  (⟨"ClashDayModel", "fullSlots", "()I"⟩, prog_14_method_119_code, 3, (Option.some Jvm.ClassFile.FieldType.int), 12, 1, 0, 1),
  (⟨"ClashDayModel", "plannedMany", "()I"⟩, prog_14_method_120_code, 1, (Option.some Jvm.ClassFile.FieldType.int), 12, 1, 0, 1),
  (⟨"ClashDayModel", "ahead", "(II)I"⟩, prog_14_method_121_code, 4, (Option.some Jvm.ClassFile.FieldType.int), 12, 1, 0, 3),
  (⟨"ClashDayModel", "when", "(I)I"⟩, prog_14_method_122_code, 4, (Option.some Jvm.ClassFile.FieldType.int), 12, 1, 0, 2)]
def mMs18 : List mMR := [
  (⟨"ClashDayModel", "isRest", "(II)Z"⟩, prog_14_method_123_code, 4, (Option.some Jvm.ClassFile.FieldType.boolean), 12, 2, 0, 3),
  (⟨"ClashDayModel", "worthOf", "(I)I"⟩, prog_14_method_124_code, 2, (Option.some Jvm.ClassFile.FieldType.int), 12, 1, 0, 2),
  (⟨"ClashDayModel", "fillsRests", "(II)V"⟩, prog_14_method_125_code, 6, (Option.none : Option Jvm.ClassFile.FieldType), 12, 0, 0, 3),
  (⟨"ClashDayModel", "rests", "(III)I"⟩, prog_14_method_126_code, 7, (Option.some Jvm.ClassFile.FieldType.int), 12, 1, 0, 4),
  (⟨"ClashDayModel", "pence", "(II)I"⟩, prog_14_method_127_code, 9, (Option.some Jvm.ClassFile.FieldType.int), 12, 1, 0, 3),
  (⟨"ClashDayModel", "note", "(III)I"⟩, prog_14_method_128_code, 5, (Option.some Jvm.ClassFile.FieldType.int), 12, 1, 0, 4),
  (⟨"ClashDayModel", "areNotesSo", "(I)Z"⟩, prog_14_method_129_code, 3, (Option.some Jvm.ClassFile.FieldType.boolean), 12, 2, 0, 2),
  (⟨"ClashDayModel", "areAllSo", "(II)Z"⟩, prog_14_method_130_code, 6, (Option.some Jvm.ClassFile.FieldType.boolean), 12, 2, 0, 3),
  (⟨"ClashDayModel", "fillsFits", "(I)V"⟩, prog_14_method_131_code, 4, (Option.none : Option Jvm.ClassFile.FieldType), 12, 0, 0, 2),
  (⟨"ClashDayModel", "ruled", "(I)I"⟩, prog_14_method_132_code, 5, (Option.some Jvm.ClassFile.FieldType.int), 12, 1, 0, 2),
  (⟨"ClashDayModel", "alikeAt", "(I)I"⟩, prog_14_method_133_code, 6, (Option.some Jvm.ClassFile.FieldType.int), 12, 1, 0, 2),
  (⟨"ClashDayModel", "look", "(II)I"⟩, prog_14_method_134_code, 7, (Option.some Jvm.ClassFile.FieldType.int), 12, 1, 0, 3),
  (⟨"ClashDayModel", "canBe", "(III)I"⟩, prog_14_method_135_code, 7, (Option.some Jvm.ClassFile.FieldType.int), 12, 1, 0, 4),
  (⟨"ClashDayModel", "extras", "(II)I"⟩, prog_14_method_136_code, 5, (Option.some Jvm.ClassFile.FieldType.int), 12, 1, 0, 3),
  (⟨"ClashDayModel", "resting", "(I)I"⟩, prog_14_method_137_code, 2, (Option.some Jvm.ClassFile.FieldType.int), 12, 1, 0, 2),
  (⟨"ClashDayModel", "seed", "(I)I"⟩, prog_14_method_138_code, 3, (Option.some Jvm.ClassFile.FieldType.int), 12, 1, 0, 2)]
def mMs19 : List mMR := [
  (⟨"ClashDayModel", "draw", "(I)I"⟩, prog_14_method_139_code, 2, (Option.some Jvm.ClassFile.FieldType.int), 12, 1, 0, 2),
  (⟨"ClashDayModel", "ill", "(IIII)I"⟩, prog_14_method_140_code, 9, (Option.some Jvm.ClassFile.FieldType.int), 12, 1, 0, 5),
  (⟨"ClashDayModel", "count", "(I)I"⟩, prog_14_method_141_code, 2, (Option.some Jvm.ClassFile.FieldType.int), 12, 1, 0, 2),
  (⟨"ClashDayModel", "image", "(I)I"⟩, prog_14_method_142_code, 3, (Option.some Jvm.ClassFile.FieldType.int), 12, 1, 0, 2),
  (⟨"ClashDayModel", "back", "(I)I"⟩, prog_14_method_143_code, 3, (Option.some Jvm.ClassFile.FieldType.int), 12, 1, 0, 2),
  (⟨"java/lang/Integer", "bitCount", "(I)I"⟩, prog_15_method_49_code, 1, (Option.some Jvm.ClassFile.FieldType.int), 14, 1, 0, 1),
  (⟨"java/lang/Integer", "numberOfTrailingZeros", "(I)I"⟩, prog_15_method_48_code, 2, (Option.some Jvm.ClassFile.FieldType.int), 14, 1, 0, 1)]
def mMs : List (List mMR) := [mMs0, mMs1, mMs2, mMs3, mMs4, mMs5, mMs6, mMs7, mMs8, mMs9, mMs10, mMs11, mMs12, mMs13, mMs14, mMs15, mMs16, mMs17, mMs18, mMs19]
/-- of each class: index of the pool, and what it means: a field (class, number, kind), a method (number, cells, arguments, class of the receiver), a class, a number; its place among the words -/
abbrev mLR : Type := Nat × Int × Int × Nat × Nat × Nat × Nat
def mLk0 : List (List mLR) := [[(3, -1, 0, 0, 0, 1104, 7), (9, 0, 6, 2, 1, 1130, 0), (15, 0, 7, 2, 1, 1133, 0)], [(18, 0, 8, 2, 1, 1135, 0), (21, 0, 9, 2, 1, 1140, 0), (24, 0, 10, 2, 1, 1144, 0), (27, 0, 11, 2, 1, 1149, 0), (30, 0, 12, 2, 1, 1152, 0)], [(33, 0, 13, 2, 1, 1153, 0), (36, 0, 14, 2, 1, 1154, 0), (39, 0, 0, 0, 1, 1105, 0), (43, 0, 1, 0, 1, 1108, 0), (46, 0, 2, 0, 1, 1112, 0)], [(49, 0, 3, 0, 1, 1118, 0), (52, 0, 4, 0, 1, 1123, 0), (55, 0, 5, 0, 1, 1127, 0), (58, -2, 0, 0, 0, 3114, 1)], [(64, 8, 0, 2, 0, 3225, 6), (68, 12, 0, 3, 0, 3209, 6), (72, 14, 0, 3, 0, 4108, 6), (76, -5, 0, 0, 0, 4001, 1)], [(81, 17, 0, 2, 0, 4094, 6), (85, 309, 0, 1, 99, 5069, 1), (90, 21, 0, 2, 0, 5100, 6), (93, 4, 11, 2, 0, 2027, 0)], [(96, 4, 9, 0, 0, 2020, 0), (98, 4, 8, 0, 0, 2018, 0), (100, 7, 0, 2, 0, 4161, 6), (103, -6, 0, 0, 0, 4056, 1), (106, 24, 0, 2, 0, 4166, 6), (110, 20, 0, 3, 0, 5016, 6)], [(113, 27, 0, 3, 0, 5012, 6), (116, 16, 0, 3, 0, 5046, 6), (119, 32, 0, 2, 99, 5047, 1), (122, 9, 0, 2, 0, 5166, 6), (125, 15, 0, 2, 0, 5167, 6)], [(128, 1073741823, 0, 0, 0, 4055, 3)]]
def mLk1 : List (List mLR) := [[(3, -1, 0, 0, 0, 1069, 7), (9, 1, 1, 2, 1, 1071, 0), (15, 1, 0, 2, 1, 1070, 0)], [(19, 89, 0, 1, 8, 2239, 6), (24, 2, 0, 1, 0, 3007, 6), (29, 35, 0, 3, 1, 3011, 6)], [(33, 93, 0, 1, 8, 3105, 6), (37, 8, 6, 0, 0, 1045, 0), (41, 91, 0, 1, 8, 3015, 6), (45, 94, 0, 2, 8, 3068, 6)], [(49, 0, 2, 0, 0, 1114, 0), (52, 0, 3, 0, 0, 1120, 0), (55, 90, 0, 1, 8, 3072, 6), (58, 36, 0, 2, 1, 3073, 6), (62, 37, 0, 2, 1, 3085, 6)], [(65, 38, 0, 2, 1, 3093, 6), (68, 39, 0, 2, 1, 3101, 6), (71, 40, 0, 4, 1, 3077, 6), (75, 0, 0, 0, 0, 1106, 0), (78, 0, 1, 0, 0, 1109, 0)], [(81, 4, 0, 3, 0, 3089, 6), (85, 5, 0, 4, 0, 3097, 6), (89, 0, 11, 2, 0, 1150, 0), (92, 95, 0, 3, 8, 3081, 6)], [(96, 8, 5, 0, 0, 1044, 0)]]
def mLk2 : List (List mLR) := [[(3, -1, 0, 0, 0, 2133, 7), (9, 28, 0, 0, 0, 2134, 2), (11, 2, 0, 2, 1, 2135, 0)], [(16, 2, 1, 2, 1, 2137, 0), (20, 2, 2, 2, 1, 2139, 0), (23, 2, 3, 2, 1, 2140, 0), (26, 20, 0, 3, 0, 4206, 6)], [(32, 0, 2, 0, 0, 1113, 0), (36, 12, 0, 3, 0, 4210, 6), (39, 16, 0, 3, 0, 4211, 6), (43, 14, 0, 3, 0, 4212, 6), (46, 42, 0, 3, 99, 4221, 1)], [(50, 44, 0, 4, 2, 4222, 6), (54, 45, 0, 3, 2, 4226, 6), (58, -6, 0, 0, 0, 4238, 1), (63, 46, 0, 1, 2, 5003, 6)], [(67, 49, 0, 4, 2, 5027, 6), (71, 0, 3, 0, 0, 1122, 0), (74, 50, 0, 3, 99, 5031, 1), (78, 51, 0, 2, 2, 5034, 6)]]
def mLk3 : List (List mLR) := [[(3, -1, 0, 0, 0, 1191, 7), (11, 3, 1, 2, 1, 1194, 0), (15, 3, 2, 2, 1, 1195, 0)], [(18, 3, 3, 2, 1, 1196, 0), (21, 3, 0, 0, 1, 1192, 0), (25, -2, 0, 0, 0, 6011, 1), (31, 54, 0, 1, 3, 5180, 6)], [(35, -5, 0, 0, 0, 5127, 1), (41, 17, 0, 2, 0, 5132, 6)]]
def mLk4 : List (List mLR) := [[(3, -1, 0, 0, 0, 2003, 7), (9, 4, 0, 2, 1, 2004, 0), (15, 4, 1, 2, 1, 2005, 0)], [(18, 4, 2, 2, 1, 2006, 0), (21, 4, 3, 2, 1, 2007, 0), (24, 4, 11, 2, 1, 2025, 0), (27, 62, 0, 4, 4, 4038, 6), (31, 4, 6, 0, 1, 2010, 0)], [(35, 64, 0, 6, 4, 4059, 6), (39, 10, 0, 2, 0, 4127, 6), (45, 0, 8, 2, 0, 1136, 0)], [(48, 59, 0, 4, 4, 4128, 6), (52, 23, 0, 3, 0, 4129, 6), (56, 309, 0, 1, 99, 4067, 1), (62, 18, 0, 1, 0, 4042, 6)], [(66, 0, 1, 0, 0, 1110, 0), (69, 4, 4, 0, 1, 2008, 0), (70, 0, 10, 2, 0, 1145, 0), (73, 4, 5, 0, 1, 2009, 0), (75, 0, 6, 2, 0, 1131, 0), (76, 14, 0, 3, 0, 4046, 6)], [(80, 1048575, 0, 0, 0, 4047, 3), (81, 63, 0, 2, 99, 4048, 1), (84, -1048576, 0, 0, 0, 4051, 3), (85, 31, 0, 1, 99, 4052, 1), (88, 66, 0, 4, 4, 4063, 6), (92, 65, 0, 4, 4, 4074, 6)], [(96, 32, 0, 2, 99, 4083, 1), (99, -6, 0, 0, 0, 4078, 1), (104, 310, 0, 1, 99, 4079, 1), (107, 4, 12, 0, 1, 2028, 0), (110, 4, 7, 0, 1, 2013, 0)], [(113, 4, 8, 0, 1, 2016, 0), (116, 4, 9, 0, 1, 2019, 0), (119, 4, 10, 0, 1, 2022, 0), (122, -2, 0, 0, 0, 4073, 1)]]
def mLk5 : List (List mLR) := [[(3, -1, 0, 0, 0, 2154, 7), (11, 5, 0, 2, 1, 2155, 0)], [(17, 5, 2, 2, 1, 2158, 0), (20, 5, 3, 2, 1, 2159, 0), (23, 200005, 0, 0, 0, 3181, 3), (24, 200006, 0, 0, 0, 3182, 3), (25, 200007, 0, 0, 0, 3183, 3), (26, 200008, 0, 0, 0, 3184, 3), (27, 200009, 0, 0, 0, 3185, 3), (28, 200002, 0, 0, 0, 3161, 3), (29, 200003, 0, 0, 0, 3162, 3), (30, 200004, 0, 0, 0, 3163, 3), (31, 200000, 0, 0, 0, 3167, 3)], [(32, 200001, 0, 0, 0, 3168, 3), (33, 5, 1, 0, 1, 2157, 0), (37, 5, 4, 0, 1, 2160, 0), (40, 75, 0, 5, 5, 4113, 6), (44, -6, 0, 0, 0, 4117, 1)], [(50, 100000, 0, 0, 0, 4118, 3), (51, 200012, 0, 0, 0, 4119, 3), (52, 76, 0, 3, 99, 4120, 1)]]
def mLk6 : List (List mLR) := [[(3, -1, 0, 0, 0, 1083, 7), (9, 6, 0, 2, 1, 1084, 0), (15, 89, 0, 1, 8, 3126, 6)], [(20, 71, 0, 1, 5, 3127, 6), (25, 6, 1, 0, 1, 1085, 0), (29, 79, 0, 3, 6, 3131, 6)], [(33, 93, 0, 1, 8, 3192, 6), (37, 8, 6, 0, 0, 1046, 0), (40, 92, 0, 2, 8, 3135, 6), (44, 94, 0, 2, 8, 3140, 6), (47, 90, 0, 1, 8, 3141, 6)], [(50, 82, 0, 2, 6, 3142, 6), (54, 5, 1, 0, 0, 2156, 0), (57, 80, 0, 3, 6, 3169, 6), (60, 73, 0, 2, 5, 3188, 6)], [(64, 81, 0, 3, 6, 3173, 6), (67, 200010, 0, 0, 0, 3186, 3), (68, 72, 0, 2, 5, 3154, 6), (71, 200011, 0, 0, 0, 3187, 3), (72, 8, 2, 0, 0, 1038, 0), (75, 200012, 0, 0, 0, 3177, 3), (76, 68, 0, 1, 99, 3178, 1)], [(80, 83, 0, 2, 6, 3146, 6), (83, 69, 0, 1, 99, 3158, 1), (86, 70, 0, 1, 99, 3164, 1), (89, 91, 0, 1, 8, 3150, 6), (95, 99999, 0, 0, 0, 3151, 3)], [(96, 95, 0, 3, 8, 3152, 6), (100, 100000, 0, 0, 0, 3153, 3), (101, 8, 5, 0, 0, 1043, 0)]]
def mLk7 : List (List mLR) := [[(3, -1, 0, 0, 0, 1098, 7), (9, 0, 0, 15, 0, 1099, 2), (11, 1, 9, 1, 0, 1101, 7), (12, 7, 0, 2, 1, 1206, 0)], [(18, 7, 1, 2, 1, 1209, 0), (21, 3, 0, 4, 0, 1186, 2), (23, 52, 3, 1, 3, 1188, 7), (24, 7, 2, 2, 1, 1212, 0), (28, 7, 3, 0, 1, 1215, 0)], [(32, 3, 0, 2, 0, 6006, 6), (36, 53, 0, 2, 3, 6007, 6), (39, 7, 4, 0, 1, 1217, 0)]]
def mLk8 : List (List mLR) := [[(3, -1, 0, 0, 0, 1034, 7), (11, 8, 0, 2, 1, 1035, 0), (15, 8, 1, 0, 1, 1036, 0)], [(19, 8, 4, 0, 1, 1041, 0), (22, 8, 6, 0, 1, 1047, 0), (25, 90, 0, 1, 8, 3003, 6), (28, 8, 3, 0, 1, 1040, 0), (31, 8, 2, 0, 1, 1039, 0)], [(34, 8, 5, 0, 1, 1042, 0), (37, 0, 1, 0, 0, 3019, 5), (39, -3, 0, 0, 0, 3020, 6), (45, -4, 0, 0, 0, 3030, 6)], [(49, 91, 0, 1, 8, 3139, 6), (52, 94, 0, 2, 8, 3109, 6)]]
def mLk9 : List (List mLR) := [[(3, -1, 0, 0, 0, 2078, 7), (9, 0, 0, 15, 0, 2079, 2), (11, 1, 9, 1, 0, 2080, 7), (12, 9, 2, 2, 1, 2085, 0)], [(18, 9, 5, 2, 1, 2090, 0), (22, 9, 6, 2, 1, 2092, 0), (25, 9, 10, 2, 1, 2098, 0), (28, 9, 11, 2, 1, 2099, 0), (31, 28, 0, 0, 0, 2081, 2)], [(33, 9, 12, 2, 1, 2100, 0), (36, 9, 0, 2, 1, 2083, 0), (40, 9, 1, 2, 1, 2084, 0), (44, 3, 0, 2, 0, 5056, 6)], [(48, 0, 3, 0, 0, 1117, 0), (52, 309, 0, 1, 99, 5057, 1), (58, 10, 0, 2, 0, 5058, 6), (62, 9, 3, 0, 1, 2086, 0)], [(65, 98, 0, 5, 9, 5059, 6), (69, 9, 4, 0, 1, 2088, 0), (72, -2, 0, 0, 0, 5063, 1), (78, 60, 0, 3, 4, 5064, 6)], [(84, 21, 0, 2, 0, 5065, 6), (87, 24, 0, 2, 0, 5070, 6), (91, 0, 2, 0, 0, 1115, 0), (94, 25, 0, 2, 0, 5079, 6)], [(97, 100, 0, 4, 9, 5080, 6), (101, 26, 0, 3, 0, 5084, 6), (105, 0, 8, 2, 0, 1138, 0), (108, 59, 0, 4, 4, 5085, 6)], [(112, 117, 0, 3, 10, 5095, 6), (118, 0, 4, 0, 0, 1125, 0), (121, 7, 0, 2, 0, 1208, 0), (126, 0, 9, 2, 0, 1142, 0)], [(129, 7, 2, 2, 0, 1214, 0), (133, 106, 0, 3, 9, 5119, 6), (137, 0, 10, 2, 0, 1148, 0), (140, 56, 0, 1, 3, 5123, 6)], [(146, 57, 0, 3, 3, 5128, 6), (149, 101, 0, 4, 9, 5197, 6), (153, 17, 0, 2, 0, 5198, 6), (156, 109, 0, 3, 9, 5203, 6)], [(160, -5, 0, 0, 0, 5207, 1), (165, 111, 0, 2, 9, 5150, 6), (168, 112, 0, 2, 9, 5154, 6), (171, 4, 10, 0, 0, 2024, 0), (174, 9, 7, 0, 1, 2093, 0)], [(177, 9, 8, 0, 1, 2095, 0), (180, 7, 4, 0, 0, 1218, 0), (183, 9, 9, 0, 1, 2097, 0), (186, 7, 1, 2, 0, 1211, 0), (189, 114, 0, 2, 9, 5221, 6)], [(192, 0, 5, 0, 0, 1128, 0), (195, 22, 0, 1, 0, 5233, 6), (198, 115, 0, 1, 9, 5225, 6), (201, 1103515245, 0, 0, 0, 5229, 4), (203, 12345, 0, 0, 0, 5230, 4), (205, 2147483648, 0, 0, 0, 5231, 4), (207, 65536, 0, 0, 0, 5232, 3)]]
def mLk10 : List (List mLR) := [[(3, -1, 0, 0, 0, 2061, 7), (11, 10, 1, 2, 1, 2063, 0)], [(17, 10, 2, 2, 1, 2064, 0), (20, 10, 0, 2, 1, 2062, 0), (24, 118, 0, 2, 10, 4029, 6), (28, 119, 0, 3, 10, 4086, 6)], [(32, 60, 0, 3, 4, 4123, 6), (38, 0, 4, 0, 0, 1124, 0), (44, 0, 3, 0, 0, 1119, 0), (47, 10, 0, 2, 0, 4033, 6)], [(51, 0, 8, 2, 0, 1137, 0), (55, 59, 0, 4, 4, 4034, 6), (59, 19, 0, 1, 0, 4090, 6), (63, 11, 0, 1, 0, 4095, 6)], [(66, 309, 0, 1, 99, 4099, 1), (72, 120, 0, 3, 10, 4100, 6), (76, 74, 0, 3, 5, 4109, 6)], [(82, 0, 9, 2, 0, 1141, 0), (85, 0, 10, 2, 0, 1146, 0), (88, 4, 7, 0, 0, 2012, 0), (91, 4, 8, 0, 0, 2015, 0), (94, 4, 10, 0, 0, 2021, 0)], [(97, 15, 0, 2, 0, 4104, 6)]]
def mLk11 : List (List mLR) := [[(3, -1, 0, 0, 0, 1026, 7), (9, 8, 0, 7, 0, 1029, 2), (11, 86, 1, 1, 8, 1031, 7), (12, 11, 0, 2, 1, 2172, 0)], [(16, 1, 0, 2, 0, 1064, 2), (18, 33, 1, 2, 1, 1066, 7), (21, 11, 1, 2, 1, 2173, 0), (25, 6, 0, 2, 0, 1078, 2), (27, 77, 0, 2, 6, 1080, 7), (28, 11, 2, 2, 1, 2174, 0)], [(32, 5, 0, 5, 0, 1091, 2), (34, 11, 3, 2, 1, 2175, 0), (38, 7, 0, 6, 0, 1093, 2), (40, 84, 24, 1, 7, 1095, 7), (41, 11, 5, 2, 1, 2177, 0), (45, 11, 6, 2, 1, 2178, 0)], [(49, 0, 0, 15, 0, 1235, 2), (51, 11, 7, 2, 1, 2179, 0), (55, 1, 9, 1, 0, 1237, 7), (56, 11, 9, 2, 1, 2181, 0), (60, 4, 0, 13, 0, 1238, 2), (62, 58, 5, 1, 4, 2000, 7), (63, 11, 10, 2, 1, 2182, 0)], [(67, 10, 0, 3, 0, 2056, 2), (69, 116, 2, 2, 10, 2058, 7), (72, 11, 11, 2, 1, 2183, 0), (76, 9, 0, 13, 0, 2073, 2), (78, 96, 22, 3, 9, 2075, 7)], [(81, 11, 12, 2, 1, 2184, 0), (85, 2, 0, 4, 0, 2128, 2), (87, 41, 6, 1, 2, 2130, 7), (88, 11, 13, 2, 1, 2185, 0), (92, 67, 3, 1, 5, 2151, 7), (93, 87, 0, 2, 8, 2219, 6)], [(97, 88, 0, 2, 8, 2223, 6), (101, 8, 1, 0, 0, 1037, 0), (105, 34, 0, 2, 1, 2235, 6), (109, 7, 0, 2, 0, 1207, 0)], [(112, 3, 0, 2, 0, 3110, 6), (116, 7, 1, 2, 0, 1210, 0), (119, 7, 2, 2, 0, 1213, 0), (123, 3, 0, 0, 0, 1193, 0), (126, 11, 8, 0, 1, 2180, 0)], [(129, 0, 3, 0, 0, 1121, 0), (132, 11, 4, 0, 1, 2176, 0), (135, 78, 0, 2, 6, 3122, 6), (138, 7, 3, 0, 0, 1216, 0), (141, 7, 0, 2, 0, 3201, 6)], [(144, 0, 6, 2, 0, 1132, 0), (148, 0, 7, 2, 0, 1134, 0), (151, 13, 0, 2, 0, 3205, 6), (155, 8, 0, 2, 0, 3217, 6), (158, 0, 8, 2, 0, 1139, 0)], [(161, 0, 9, 2, 0, 1143, 0), (164, 0, 10, 2, 0, 1147, 0), (167, 10, 0, 2, 0, 3221, 6), (170, 6, 0, 1, 0, 3230, 6), (174, 163, 0, 1, 99, 3234, 1)], [(177, 17, 0, 2, 0, 3237, 6), (180, 12, 0, 3, 0, 4008, 6), (184, 14, 0, 3, 0, 4009, 6), (188, 0, 4, 0, 0, 1126, 0), (191, 165, 0, 1, 11, 4017, 6)], [(194, 164, 0, 1, 11, 4021, 6), (198, 117, 0, 3, 10, 4025, 6), (202, 59, 0, 4, 4, 4137, 6), (206, 23, 0, 3, 0, 4138, 6)], [(210, 4, 10, 0, 0, 2023, 0), (213, 9, 0, 2, 0, 4143, 6), (216, 24, 0, 2, 0, 4147, 6), (219, 11, 0, 1, 0, 4151, 6), (223, 309, 0, 1, 99, 4152, 1)], [(228, 25, 0, 2, 0, 4157, 6), (231, 26, 0, 3, 0, 4162, 6), (235, 0, 11, 2, 0, 1151, 0), (238, 16, 0, 3, 0, 4179, 6)], [(241, 4, 7, 0, 0, 2014, 0), (244, 4, 8, 0, 0, 2017, 0), (247, 4, 11, 2, 0, 2026, 0), (250, 4, 6, 0, 0, 2011, 0), (253, 61, 0, 3, 4, 4195, 6)], [(257, 42, 0, 3, 99, 4203, 1), (261, 43, 0, 4, 2, 4217, 6), (265, 2, 1, 2, 0, 2138, 0), (268, 2, 0, 2, 0, 2136, 0)], [(272, 46, 0, 1, 2, 4234, 6), (275, 47, 0, 1, 2, 4239, 6), (278, 28, 0, 2, 0, 5008, 6), (281, 27, 0, 3, 0, 5017, 6), (284, 20, 0, 3, 0, 5022, 6), (287, 48, 0, 5, 2, 5023, 6)], [(291, 29, 0, 3, 0, 5042, 6), (294, 97, 0, 2, 9, 5052, 6), (297, 9, 3, 0, 0, 2087, 0), (300, 9, 4, 0, 0, 2089, 0), (303, 9, 5, 2, 0, 2091, 0)], [(306, 99, 0, 3, 9, 5075, 6), (309, 100, 0, 4, 9, 5086, 6), (313, 101, 0, 4, 9, 5091, 6), (317, 0, 5, 0, 0, 1129, 0)], [(320, 22, 0, 1, 0, 5096, 6), (323, 1073741823, 0, 0, 0, 5101, 3), (324, 18, 0, 1, 0, 5102, 6), (327, 102, 0, 4, 9, 5107, 6), (331, 103, 0, 4, 9, 5115, 6), (335, 310, 0, 1, 99, 5133, 1)], [(338, 104, 0, 4, 9, 5138, 6), (341, 110, 0, 4, 9, 5146, 6), (344, 30, 0, 3, 0, 5162, 6), (347, 54, 0, 1, 3, 5172, 6), (350, 55, 0, 4, 3, 5176, 6)], [(353, 105, 0, 4, 9, 5185, 6), (357, 107, 0, 5, 9, 5193, 6), (361, 108, 0, 2, 9, 5199, 6), (364, 109, 0, 3, 9, 5208, 6), (367, 7, 4, 0, 0, 1219, 0)], [(370, 113, 0, 6, 9, 5217, 6), (374, 9, 7, 0, 0, 2094, 0), (377, 9, 8, 0, 0, 2096, 0), (380, 0, 0, 0, 0, 1107, 0), (383, 0, 1, 0, 0, 1111, 0)], [(386, 0, 2, 0, 0, 1116, 0), (389, 85, 0, 2, 7, 6002, 6), (392, 7, 5, 3, 0, 1220, 0)]]
def mLk12 : List (List mLR) := [[(1, -1, 0, 0, 0, 6021, 7), (7, 12, 0, 2, 1, 6022, 0), (13, 12, 3, 2, 1, 6025, 0)], [(17, 12, 4, 2, 1, 6026, 0), (20, 12, 5, 2, 1, 6027, 0), (23, 12, 6, 2, 1, 6028, 0), (26, 12, 7, 2, 1, 6029, 0), (29, 12, 15, 2, 1, 6037, 0)], [(32, 12, 17, 2, 1, 6039, 0), (36, 12, 19, 2, 1, 6041, 0), (39, 12, 20, 2, 1, 6042, 0), (42, 12, 21, 0, 1, 6043, 0), (46, 12, 23, 2, 1, 6045, 0)], [(49, 12, 24, 2, 1, 6046, 0), (52, 12, 25, 2, 1, 6047, 0), (55, 12, 26, 2, 1, 6048, 0), (58, 12, 27, 2, 1, 6049, 0), (61, 12, 36, 2, 1, 6058, 0)], [(64, 12, 38, 2, 1, 6060, 0), (67, 12, 39, 2, 1, 6061, 0), (70, 12, 40, 2, 1, 6062, 0), (73, 12, 41, 2, 1, 6063, 0), (76, 12, 42, 2, 1, 6064, 0), (79, 12, 43, 2, 1, 6065, 0)], [(82, 12, 44, 2, 1, 6066, 0), (85, 12, 45, 2, 1, 6067, 0), (88, 12, 46, 2, 1, 6068, 0), (91, 12, 50, 2, 1, 6072, 0), (94, 12, 51, 2, 1, 6073, 0)], [(98, 12, 52, 2, 1, 6074, 0), (101, 12, 54, 2, 1, 6076, 0), (104, 12, 55, 2, 1, 6077, 0), (107, 12, 56, 2, 1, 6078, 0), (110, 12, 57, 2, 1, 6079, 0)], [(113, 12, 1, 0, 1, 6023, 0), (116, 170, 0, 2, 12, 6202, 6), (120, 12, 9, 0, 1, 6031, 0), (123, 12, 8, 0, 1, 6030, 0), (126, 174, 0, 1, 12, 6222, 6)], [(130, 176, 0, 2, 12, 6235, 6), (134, 177, 0, 2, 12, 6231, 6), (138, 178, 0, 1, 12, 7015, 6), (141, 175, 0, 2, 12, 7027, 6)], [(144, 173, 0, 3, 12, 7003, 6), (148, 12, 10, 0, 1, 6032, 0), (151, 167, 0, 3, 99, 7031, 1), (155, 3348070794885, 0, 0, 0, 7000, 4), (157, 538449491, 0, 0, 0, 7075, 4), (159, 6050369, 0, 0, 0, 7076, 4)], [(161, 595572, 0, 0, 0, 7077, 4), (163, 479437459, 0, 0, 0, 7078, 4), (165, 366100, 0, 0, 0, 7079, 4), (167, 211232360, 0, 0, 0, 7080, 4), (169, 769611, 0, 0, 0, 7081, 4), (171, 87673, 0, 0, 0, 7082, 4), (173, 24739718599, 0, 0, 0, 7083, 4), (175, 677454, 0, 0, 0, 7084, 4)], [(177, 12, 11, 0, 1, 6033, 0), (180, 12, 12, 0, 1, 6034, 0), (183, 12, 13, 0, 1, 6035, 0), (186, 12, 16, 0, 1, 6038, 0), (189, 185, 0, 1, 99, 7115, 1)], [(193, 182, 0, 3, 12, 7067, 6), (197, 99999, 0, 0, 0, 7062, 3), (198, 180, 0, 3, 12, 7023, 6), (201, 183, 0, 2, 12, 7063, 6), (204, 181, 0, 1, 12, 7071, 6), (207, 187, 0, 1, 12, 7058, 6)], [(211, 188, 0, 1, 12, 7054, 6), (214, 189, 0, 1, 12, 7050, 6), (217, 14836, 0, 0, 0, 7098, 4), (219, 184, 0, 2, 12, 7099, 6), (222, 190, 0, 1, 12, 7103, 6)], [(225, 186, 0, 2, 12, 7111, 6), (228, 192, 0, 1, 12, 7118, 6), (231, 191, 0, 1, 12, 7094, 6), (234, 193, 0, 1, 12, 7107, 6), (237, 1476, 0, 0, 0, 7122, 4), (239, 498, 0, 0, 0, 7123, 4)], [(241, 294, 0, 0, 0, 7085, 4), (243, 179, 0, 2, 12, 7086, 6), (246, 194, 0, 1, 12, 7090, 6), (249, 196, 0, 4, 12, 7019, 6), (253, 4153, 0, 0, 0, 6230, 4), (255, 197, 0, 2, 12, 7011, 6)], [(258, 16826546, 0, 0, 0, 6239, 4), (260, 198, 0, 2, 12, 7034, 6), (263, 199, 0, 2, 12, 7038, 6), (266, 200, 0, 1, 12, 7042, 6), (269, 21015726, 0, 0, 0, 7001, 4), (271, 202, 0, 1, 12, 6226, 6)], [(274, 536622, 0, 0, 0, 7002, 4), (276, 12, 14, 0, 1, 6036, 0), (279, 201, 0, 2, 12, 7007, 6), (282, 195, 0, 1, 12, 7046, 6), (285, 203, 0, 1, 12, 6218, 6)], [(288, 12, 2, 0, 1, 6024, 0), (291, 204, 0, 1, 12, 6214, 6), (294, 227, 0, 1, 12, 7128, 6), (297, 12, 37, 0, 1, 6059, 0), (300, 12, 18, 0, 1, 6040, 0), (303, 208, 0, 2, 12, 8054, 6)], [(307, 209, 0, 1, 12, 8058, 6), (311, 210, 0, 3, 99, 8062, 1), (315, 214, 0, 2, 12, 7160, 6), (318, 168, 0, 2, 99, 7153, 1)], [(321, 217, 0, 3, 12, 7149, 6), (324, 219, 0, 3, 12, 7189, 6), (328, 215, 0, 2, 12, 7217, 6), (331, 218, 0, 3, 12, 7185, 6), (334, 216, 0, 2, 12, 7177, 6)], [(337, 222, 0, 3, 12, 7181, 6), (340, 224, 0, 3, 12, 8119, 6), (343, 225, 0, 2, 12, 8210, 6), (346, 207, 0, 2, 12, 7136, 6), (349, 213, 0, 2, 12, 7144, 6)], [(352, 2, 0, 0, 0, 7148, 4), (354, 212, 0, 1, 12, 7168, 6), (357, 29, 0, 0, 0, 7172, 4), (359, 223, 0, 2, 12, 7173, 6), (362, 12, 28, 0, 1, 6050, 0), (365, 233, 0, 1, 99, 7229, 1)], [(368, 236, 0, 1, 99, 8004, 1), (371, 235, 0, 3, 12, 8007, 6), (374, 12, 33, 0, 1, 6055, 0), (377, 12, 35, 0, 1, 6057, 0), (380, 237, 0, 6, 12, 8000, 6)], [(384, 12, 34, 0, 1, 6056, 0), (387, 240, 0, 2, 12, 8015, 6), (390, 239, 0, 3, 12, 8019, 6), (393, 12, 32, 0, 1, 6054, 0), (396, 12, 29, 0, 1, 6051, 0), (399, 12, 30, 0, 1, 6052, 0)], [(402, 12, 31, 0, 1, 6053, 0), (405, 234, 0, 2, 12, 7232, 6), (408, 238, 0, 2, 12, 7236, 6), (411, 241, 0, 2, 12, 8011, 6), (414, 242, 0, 1, 12, 8023, 6)], [(417, 243, 0, 3, 12, 7225, 6), (420, 244, 0, 2, 12, 7221, 6), (423, 211, 0, 4, 12, 8050, 6), (427, 169, 0, 1, 99, 8031, 1), (430, 220, 0, 2, 12, 8034, 6)], [(433, 248, 0, 1, 12, 8038, 6), (436, 221, 0, 1, 12, 8042, 6), (439, 247, 0, 2, 12, 8046, 6), (443, 249, 0, 2, 12, 8027, 6), (446, 250, 0, 1, 12, 7213, 6)], [(449, 245, 0, 2, 12, 8065, 6), (452, 251, 0, 1, 12, 7209, 6), (455, 253, 0, 1, 12, 7205, 6), (458, 246, 0, 2, 12, 8077, 6), (461, 9, 0, 0, 0, 8085, 4), (463, 258, 0, 3, 12, 8086, 6)], [(466, 7, 0, 0, 0, 8102, 4), (468, 265, 0, 3, 12, 8115, 6), (471, 267, 0, 3, 12, 8131, 6), (474, 268, 0, 3, 12, 8127, 6), (477, 6, 0, 0, 0, 8143, 4), (479, 271, 0, 2, 12, 8144, 6)], [(482, 273, 0, 3, 12, 8152, 6), (485, 275, 0, 4, 12, 8160, 6), (488, 12, 47, 0, 1, 6069, 0), (491, 278, 0, 1, 12, 8181, 6), (494, 12, 48, 0, 1, 6070, 0)], [(497, 12, 49, 0, 1, 6071, 0), (500, 5, 0, 0, 0, 8168, 4), (502, 277, 0, 1, 12, 8169, 6), (505, 279, 0, 2, 12, 8173, 6), (508, 280, 0, 1, 12, 8177, 6), (511, 282, 0, 1, 12, 8189, 6)], [(514, 20, 0, 0, 0, 8197, 4), (516, 252, 0, 2, 12, 8198, 6), (519, 285, 0, 1, 12, 8202, 6), (522, 226, 0, 1, 12, 8206, 6), (525, 284, 0, 1, 12, 8214, 6)], [(528, 289, 0, 2, 12, 8230, 6), (531, 290, 0, 3, 12, 8226, 6), (534, 288, 0, 3, 12, 8234, 6), (537, 9999, 0, 0, 0, 9002, 4), (539, 294, 0, 2, 12, 9019, 6), (542, 295, 0, 3, 12, 9015, 6)], [(545, 296, 0, 2, 12, 9011, 6), (548, 298, 0, 2, 12, 9027, 6), (551, 300, 0, 4, 12, 9035, 6), (555, 12, 22, 0, 1, 6044, 0), (558, 12, 53, 1, 1, 6075, 0)], [(562, 1103515245, 0, 0, 0, 9056, 4), (564, 12345, 0, 0, 0, 9057, 4), (566, 2147483648, 0, 0, 0, 9058, 4), (568, 65536, 0, 0, 0, 9059, 4), (570, 100, 0, 0, 0, 9051, 4), (572, 304, 0, 2, 12, 9052, 6), (575, 3, 0, 0, 0, 9068, 4)]]
def mLk13 : List (List mLR) := [[(7, 11, 0, 14, 0, 1021, 2), (9, 121, 406, 1, 11, 1023, 7), (10, 12, 0, 58, 0, 6016, 2), (12, 166, 32, 1, 12, 6018, 7), (13, 122, 0, 6, 11, 2215, 6)], [(17, 171, 0, 6, 12, 6198, 6), (18, 123, 0, 2, 11, 2227, 6), (22, 172, 0, 2, 12, 6206, 6), (23, 124, 0, 1, 11, 2231, 6), (27, 206, 0, 1, 12, 7124, 6), (28, 125, 0, 1, 11, 3118, 6), (31, 205, 0, 1, 12, 6210, 6)], [(32, 126, 0, 2, 11, 3193, 6), (35, 228, 0, 2, 12, 7132, 6), (36, 127, 0, 3, 11, 3197, 6), (40, 229, 0, 3, 12, 7140, 6), (41, 128, 0, 3, 11, 3213, 6), (44, 230, 0, 3, 12, 7156, 6), (45, 129, 0, 2, 11, 3226, 6)], [(48, 231, 0, 2, 12, 7164, 6), (49, 130, 0, 3, 11, 4004, 6), (52, 232, 0, 3, 12, 7193, 6), (53, 131, 0, 1, 11, 4013, 6), (56, 255, 0, 1, 12, 7201, 6), (57, 132, 0, 2, 11, 4133, 6), (60, 256, 0, 2, 12, 8069, 6), (61, 133, 0, 2, 11, 4139, 6)], [(64, 257, 0, 2, 12, 8073, 6), (65, 134, 0, 3, 11, 4153, 6), (68, 259, 0, 3, 12, 8081, 6), (69, 135, 0, 3, 11, 4167, 6), (72, 260, 0, 3, 12, 8090, 6), (73, 136, 0, 1, 11, 4171, 6), (76, 254, 0, 1, 12, 7197, 6), (77, 137, 0, 3, 11, 4175, 6)], [(80, 261, 0, 3, 12, 8094, 6), (81, 138, 0, 3, 11, 4183, 6), (84, 262, 0, 3, 12, 8098, 6), (85, 139, 0, 2, 11, 4187, 6), (88, 263, 0, 2, 12, 8103, 6), (89, 140, 0, 3, 11, 4191, 6), (92, 264, 0, 3, 12, 8107, 6), (93, 141, 0, 3, 11, 4199, 6)], [(96, 266, 0, 3, 12, 8111, 6), (97, 142, 0, 3, 11, 4213, 6), (100, 269, 0, 3, 12, 8123, 6), (101, 143, 0, 4, 11, 4230, 6), (105, 270, 0, 4, 12, 8135, 6), (106, 144, 0, 3, 11, 5004, 6), (109, 272, 0, 3, 12, 8139, 6), (110, 145, 0, 4, 11, 5018, 6)], [(113, 274, 0, 4, 12, 8148, 6), (114, 146, 0, 3, 11, 5038, 6), (117, 276, 0, 3, 12, 8156, 6), (118, 147, 0, 2, 11, 5048, 6), (121, 281, 0, 2, 12, 8164, 6), (122, 148, 0, 3, 11, 5071, 6), (125, 283, 0, 3, 12, 8185, 6), (126, 149, 0, 3, 11, 5087, 6)], [(129, 286, 0, 3, 12, 8193, 6), (130, 150, 0, 2, 11, 5103, 6), (133, 287, 0, 2, 12, 8218, 6), (134, 151, 0, 3, 11, 5111, 6), (137, 301, 0, 3, 12, 9031, 6), (138, 152, 0, 2, 11, 5134, 6), (141, 302, 0, 2, 12, 9039, 6), (142, 153, 0, 4, 11, 5142, 6)], [(145, 291, 0, 4, 12, 8222, 6), (146, 154, 0, 3, 11, 5158, 6), (149, 292, 0, 3, 12, 8238, 6), (150, 155, 0, 4, 11, 5168, 6), (153, 293, 0, 4, 12, 9003, 6), (154, 156, 0, 2, 11, 5181, 6), (157, 297, 0, 2, 12, 9007, 6), (158, 157, 0, 3, 11, 5189, 6)], [(161, 299, 0, 3, 12, 9023, 6), (162, 158, 0, 2, 11, 5209, 6), (165, 303, 0, 2, 12, 9043, 6), (166, 159, 0, 5, 11, 5213, 6), (170, 305, 0, 5, 12, 9047, 6), (171, 160, 0, 2, 11, 5234, 6), (174, 306, 0, 2, 12, 9060, 6), (175, 161, 0, 2, 11, 5238, 6)], [(178, 307, 0, 2, 12, 9064, 6), (179, 162, 0, 2, 11, 6012, 6), (182, 308, 0, 2, 12, 9069, 6)]]
def mLk14 : List (List mLR) := [[], [], [], [], [], [], [], [], [], [], [], [], [], [], [], [], [(264, 65536, 0, 0, 0, 4082, 3), (265, 1431655765, 0, 0, 0, 4070, 3), (266, 858993459, 0, 0, 0, 4071, 3), (267, 252645135, 0, 0, 0, 4072, 3)]]
def mLk15 : List (List mLR) := [[]]
def mLk : List (List (List mLR)) := [mLk0, mLk1, mLk2, mLk3, mLk4, mLk5, mLk6, mLk7, mLk8, mLk9, mLk10, mLk11, mLk12, mLk13, mLk14, mLk15]
/-- of each method: the places of its words: code, instance or static, selects, initialized; 1 if it is static -/
def mPl0 : List (Nat × Nat × Nat × Nat × Nat) := [(0, 0, 0, 1000, 1), (1103, 1102, 0, 1006, 0), (3010, 3008, 3009, 1006, 0), (3113, 3111, 3112, 1006, 0), (3092, 3090, 3091, 1006, 0), (3100, 3098, 3099, 1006, 0), (3233, 3231, 3232, 1006, 0), (3204, 3202, 3203, 1006, 0), (3220, 3218, 3219, 1006, 0), (4146, 4144, 4145, 1006, 0), (3224, 3222, 3223, 1006, 0), (4098, 4096, 4097, 1006, 0), (3212, 3210, 3211, 1006, 0), (3208, 3206, 3207, 1006, 0), (4012, 4010, 4011, 1006, 0), (4107, 4105, 4106, 1006, 0), (4182, 4180, 4181, 1006, 0), (4000, 3238, 3239, 1006, 0), (4045, 4043, 4044, 1006, 0), (4093, 4091, 4092, 1006, 0), (4209, 4207, 4208, 1006, 0), (5068, 5066, 5067, 1006, 0), (5099, 5097, 5098, 1006, 0), (4132, 4130, 4131, 1006, 0), (4150, 4148, 4149, 1006, 0), (4160, 4158, 4159, 1006, 0), (4165, 4163, 4164, 1006, 0), (5015, 5013, 5014, 1006, 0), (5011, 5009, 5010, 1006, 0), (5045, 5043, 5044, 1006, 0), (5165, 5163, 5164, 1006, 0), (4054, 4053, 0, 1006, 1), (4085, 4084, 0, 1006, 1), (1068, 1067, 0, 1003, 0), (2238, 2236, 2237, 1003, 0), (3014, 3013, 0, 1003, 0), (3076, 3075, 1, 1003, 0), (3088, 3087, 3, 1003, 0), (3096, 3095, 4, 1003, 0), (3104, 3103, 5, 1003, 0)]
def mPl1 : List (Nat × Nat × Nat × Nat × Nat) := [(3080, 3079, 2, 1003, 0), (2132, 2131, 0, 1011, 0), (4205, 4204, 0, 1011, 1), (4220, 4218, 4219, 1011, 0), (4225, 4224, 21, 1011, 0), (4229, 4228, 22, 1011, 0), (4237, 4235, 4236, 1011, 0), (5002, 5000, 5001, 1011, 0), (5026, 5024, 5025, 1011, 0), (5030, 5029, 23, 1011, 0), (5033, 5032, 0, 1011, 1), (5037, 5036, 24, 1011, 0), (1190, 1189, 0, 1007, 0), (6010, 6008, 6009, 1007, 0), (5175, 5173, 5174, 1007, 0), (5179, 5177, 5178, 1007, 0), (5126, 5124, 5125, 1007, 0), (5131, 5129, 5130, 1007, 0), (2002, 2001, 0, 1008, 0), (4037, 4035, 4036, 1008, 0), (4126, 4124, 4125, 1008, 0), (4198, 4196, 4197, 1008, 0), (4041, 4040, 14, 1008, 0), (4050, 4049, 0, 1008, 1), (4062, 4061, 15, 1008, 0), (4077, 4076, 17, 1008, 0), (4066, 4065, 16, 1008, 0), (2153, 2152, 0, 1012, 0), (3180, 3179, 0, 1012, 1), (3160, 3159, 0, 1012, 1), (3166, 3165, 0, 1012, 1), (3130, 3128, 3129, 1012, 0), (3157, 3155, 3156, 1012, 0), (3191, 3189, 3190, 1012, 0), (4112, 4110, 4111, 1012, 0), (4116, 4115, 20, 1012, 0), (4122, 4121, 0, 1012, 1), (1082, 1081, 0, 1004, 0), (3125, 3123, 3124, 1004, 0), (3134, 3133, 6, 1004, 0)]
def mPl2 : List (Nat × Nat × Nat × Nat × Nat) := [(3172, 3171, 9, 1004, 0), (3176, 3175, 10, 1004, 0), (3145, 3144, 7, 1004, 0), (3149, 3148, 8, 1004, 0), (1097, 1096, 0, 1005, 0), (6005, 6003, 6004, 1005, 0), (1033, 1032, 0, 1002, 0), (2222, 2220, 2221, 1002, 0), (2226, 2224, 2225, 1002, 0), (3002, 3000, 3001, 1002, 0), (3006, 3004, 3005, 1002, 0), (3018, 3016, 3017, 1002, 0), (3138, 3136, 3137, 1002, 0), (3108, 3106, 3107, 1002, 0), (3071, 3069, 3070, 1002, 0), (3084, 3082, 3083, 1002, 0), (2077, 2076, 0, 1010, 0), (5055, 5053, 5054, 1010, 0), (5062, 5061, 25, 1010, 0), (5078, 5076, 5077, 1010, 0), (5083, 5081, 5082, 1010, 0), (5094, 5092, 5093, 1010, 0), (5110, 5108, 5109, 1010, 0), (5118, 5116, 5117, 1010, 0), (5141, 5139, 5140, 1010, 0), (5188, 5186, 5187, 1010, 0), (5122, 5121, 26, 1010, 0), (5196, 5194, 5195, 1010, 0), (5202, 5200, 5201, 1010, 0), (5206, 5204, 5205, 1010, 0), (5149, 5147, 5148, 1010, 0), (5153, 5152, 27, 1010, 0), (5157, 5156, 28, 1010, 0), (5220, 5218, 5219, 1010, 0), (5224, 5223, 29, 1010, 0), (5228, 5227, 30, 1010, 0), (2060, 2059, 0, 1009, 0), (4028, 4026, 4027, 1009, 0), (4032, 4031, 13, 1009, 0), (4089, 4088, 18, 1009, 0)]
def mPl3 : List (Nat × Nat × Nat × Nat × Nat) := [(4103, 4102, 19, 1009, 0), (1025, 1024, 0, 1001, 0), (2218, 2216, 2217, 1001, 0), (2230, 2228, 2229, 1001, 0), (2234, 2232, 2233, 1001, 0), (3121, 3119, 3120, 1001, 0), (3196, 3194, 3195, 1001, 0), (3200, 3198, 3199, 1001, 0), (3216, 3214, 3215, 1001, 0), (3229, 3227, 3228, 1001, 0), (4007, 4005, 4006, 1001, 0), (4016, 4014, 4015, 1001, 0), (4136, 4134, 4135, 1001, 0), (4142, 4140, 4141, 1001, 0), (4156, 4154, 4155, 1001, 0), (4170, 4168, 4169, 1001, 0), (4174, 4172, 4173, 1001, 0), (4178, 4176, 4177, 1001, 0), (4186, 4184, 4185, 1001, 0), (4190, 4188, 4189, 1001, 0), (4194, 4192, 4193, 1001, 0), (4202, 4200, 4201, 1001, 0), (4216, 4214, 4215, 1001, 0), (4233, 4231, 4232, 1001, 0), (5007, 5005, 5006, 1001, 0), (5021, 5019, 5020, 1001, 0), (5041, 5039, 5040, 1001, 0), (5051, 5049, 5050, 1001, 0), (5074, 5072, 5073, 1001, 0), (5090, 5088, 5089, 1001, 0), (5106, 5104, 5105, 1001, 0), (5114, 5112, 5113, 1001, 0), (5137, 5135, 5136, 1001, 0), (5145, 5143, 5144, 1001, 0), (5161, 5159, 5160, 1001, 0), (5171, 5169, 5170, 1001, 0), (5184, 5182, 5183, 1001, 0), (5192, 5190, 5191, 1001, 0), (5212, 5210, 5211, 1001, 0), (5216, 5214, 5215, 1001, 0)]
def mPl4 : List (Nat × Nat × Nat × Nat × Nat) := [(5237, 5235, 5236, 1001, 0), (6001, 5239, 6000, 1001, 0), (6015, 6013, 6014, 1001, 0), (3236, 3235, 0, 1001, 1), (4024, 4023, 12, 1001, 0), (4020, 4019, 11, 1001, 0), (6020, 6019, 0, 1013, 0), (7033, 7032, 0, 1013, 1), (7155, 7154, 0, 1013, 1), (8033, 8032, 0, 1013, 1), (6205, 6204, 31, 1013, 0), (6201, 6199, 6200, 1013, 0), (6209, 6207, 6208, 1013, 0), (7006, 7005, 38, 1013, 0), (6225, 6224, 34, 1013, 0), (7030, 7029, 44, 1013, 0), (6238, 6237, 37, 1013, 0), (6234, 6233, 36, 1013, 0), (7018, 7017, 41, 1013, 0), (7089, 7088, 55, 1013, 0), (7026, 7025, 43, 1013, 0), (7074, 7073, 54, 1013, 0), (7070, 7069, 53, 1013, 0), (7066, 7065, 52, 1013, 0), (7102, 7101, 58, 1013, 0), (7117, 7116, 0, 1013, 1), (7114, 7113, 61, 1013, 0), (7061, 7060, 51, 1013, 0), (7057, 7056, 50, 1013, 0), (7053, 7052, 49, 1013, 0), (7106, 7105, 59, 1013, 0), (7097, 7096, 57, 1013, 0), (7121, 7120, 62, 1013, 0), (7110, 7109, 60, 1013, 0), (7093, 7092, 56, 1013, 0), (7049, 7048, 48, 1013, 0), (7022, 7021, 42, 1013, 0), (7014, 7013, 40, 1013, 0), (7037, 7036, 45, 1013, 0), (7041, 7040, 46, 1013, 0)]
def mPl5 : List (Nat × Nat × Nat × Nat × Nat) := [(7045, 7044, 47, 1013, 0), (7010, 7009, 39, 1013, 0), (6229, 6228, 35, 1013, 0), (6221, 6220, 33, 1013, 0), (6217, 6216, 32, 1013, 0), (6213, 6211, 6212, 1013, 0), (7127, 7125, 7126, 1013, 0), (7139, 7138, 64, 1013, 0), (8057, 8056, 94, 1013, 0), (8061, 8060, 95, 1013, 0), (8064, 8063, 0, 1013, 1), (8053, 8052, 93, 1013, 0), (7171, 7170, 68, 1013, 0), (7147, 7146, 65, 1013, 0), (7163, 7162, 67, 1013, 0), (7220, 7219, 77, 1013, 0), (7180, 7179, 70, 1013, 0), (7152, 7151, 66, 1013, 0), (7188, 7187, 72, 1013, 0), (7192, 7191, 73, 1013, 0), (8037, 8036, 89, 1013, 0), (8045, 8044, 91, 1013, 0), (7184, 7183, 71, 1013, 0), (7176, 7175, 69, 1013, 0), (8122, 8121, 100, 1013, 0), (8213, 8212, 114, 1013, 0), (8209, 8208, 113, 1013, 0), (7131, 7130, 63, 1013, 0), (7135, 7133, 7134, 1013, 0), (7143, 7141, 7142, 1013, 0), (7159, 7157, 7158, 1013, 0), (7167, 7165, 7166, 1013, 0), (7196, 7194, 7195, 1013, 0), (7231, 7230, 0, 1013, 1), (7235, 7234, 80, 1013, 0), (8010, 8009, 83, 1013, 0), (8006, 8005, 0, 1013, 1), (8003, 8002, 82, 1013, 0), (7239, 7238, 81, 1013, 0), (8022, 8021, 86, 1013, 0)]
def mPl6 : List (Nat × Nat × Nat × Nat × Nat) := [(8018, 8017, 85, 1013, 0), (8014, 8013, 84, 1013, 0), (8026, 8025, 87, 1013, 0), (7228, 7227, 79, 1013, 0), (7224, 7223, 78, 1013, 0), (8068, 8067, 96, 1013, 0), (8080, 8079, 97, 1013, 0), (8049, 8048, 92, 1013, 0), (8041, 8040, 90, 1013, 0), (8030, 8029, 88, 1013, 0), (7216, 7215, 76, 1013, 0), (7212, 7211, 75, 1013, 0), (8201, 8200, 111, 1013, 0), (7208, 7207, 74, 1013, 0), (7200, 7198, 7199, 1013, 0), (7204, 7202, 7203, 1013, 0), (8072, 8070, 8071, 1013, 0), (8076, 8074, 8075, 1013, 0), (8089, 8088, 98, 1013, 0), (8084, 8082, 8083, 1013, 0), (8093, 8091, 8092, 1013, 0), (8097, 8095, 8096, 1013, 0), (8101, 8099, 8100, 1013, 0), (8106, 8104, 8105, 1013, 0), (8110, 8108, 8109, 1013, 0), (8118, 8117, 99, 1013, 0), (8114, 8112, 8113, 1013, 0), (8134, 8133, 102, 1013, 0), (8130, 8129, 101, 1013, 0), (8126, 8124, 8125, 1013, 0), (8138, 8136, 8137, 1013, 0), (8147, 8146, 103, 1013, 0), (8142, 8140, 8141, 1013, 0), (8155, 8154, 104, 1013, 0), (8151, 8149, 8150, 1013, 0), (8163, 8162, 105, 1013, 0), (8159, 8157, 8158, 1013, 0), (8172, 8171, 106, 1013, 0), (8184, 8183, 109, 1013, 0), (8176, 8175, 107, 1013, 0)]
def mPl7 : List (Nat × Nat × Nat × Nat × Nat) := [(8180, 8179, 108, 1013, 0), (8167, 8165, 8166, 1013, 0), (8192, 8191, 110, 1013, 0), (8188, 8186, 8187, 1013, 0), (8217, 8216, 115, 1013, 0), (8205, 8204, 112, 1013, 0), (8196, 8194, 8195, 1013, 0), (8221, 8219, 8220, 1013, 0), (8237, 8236, 118, 1013, 0), (8233, 8232, 117, 1013, 0), (8229, 8228, 116, 1013, 0), (8225, 8223, 8224, 1013, 0), (9001, 8239, 9000, 1013, 0), (9006, 9004, 9005, 1013, 0), (9022, 9021, 121, 1013, 0), (9018, 9017, 120, 1013, 0), (9014, 9013, 119, 1013, 0), (9010, 9008, 9009, 1013, 0), (9030, 9029, 122, 1013, 0), (9026, 9024, 9025, 1013, 0), (9038, 9037, 123, 1013, 0), (9034, 9032, 9033, 1013, 0), (9042, 9040, 9041, 1013, 0), (9046, 9044, 9045, 1013, 0), (9055, 9054, 124, 1013, 0), (9050, 9048, 9049, 1013, 0), (9063, 9061, 9062, 1013, 0), (9067, 9065, 9066, 1013, 0), (9072, 9070, 9071, 1013, 0), (4069, 4068, 0, 1020, 1), (4081, 4080, 0, 1020, 1)]
def mPl : List (List (Nat × Nat × Nat × Nat × Nat)) := [mPl0, mPl1, mPl2, mPl3, mPl4, mPl5, mPl6, mPl7]
end
section
/-! THE SMALL MACHINE. Values: an int, a long, a reference (none: null; some k: the k-th cell that was made), a thing that was there before (0 the script, 1 the words' String). A cell's shape: its kind (below 20 the number of its class, 20 byte, 21 char, 22 int, 23 long, 24 boolean, 25 Board, 26 Rule, 27 Scene, 28 int rows), its length, what its reference fields hold (0 null, k + 1 cell k). What ints and longs a cell holds: a function. -/
abbrev mV : Type := Sum Int (Sum Int (Sum (Option Nat) Nat))
abbrev mSh : Type := Nat × Nat × List Nat
abbrev mSt : Type := Nat → Nat → Int
abbrev mE : Type := Instr × Nat × Int × Int × Nat × Nat
abbrev mLo : Type := List (Option mV)
abbrev mRt : Type := Option mV → List mSh → mSt → Prop
abbrev mI (x : Int) : mV := Sum.inl x
abbrev mJ (x : Int) : mV := Sum.inr (Sum.inl x)
abbrev mR (k : Nat) : mV := Sum.inr (Sum.inr (Sum.inl (some k)))
abbrev mN : mV := Sum.inr (Sum.inr (Sum.inl none))
abbrev mX (j : Nat) : mV := Sum.inr (Sum.inr (Sum.inr j))
def w32 (x : Int) : Int := Int.bmod x 4294967296
def w64 (x : Int) : Int := Int.bmod x 18446744073709551616
def w8 (x : Int) : Int := Int.bmod x 256
def iAnd (x y : Int) : Int := (Int32.ofInt x &&& Int32.ofInt y).toInt
def iOr (x y : Int) : Int := (Int32.ofInt x ||| Int32.ofInt y).toInt
def iXor (x y : Int) : Int := (Int32.ofInt x ^^^ Int32.ofInt y).toInt
def iShl (x y : Int) : Int := (Int32.ofInt x <<< (Int32.ofInt y &&& 31)).toInt
def iShr (x y : Int) : Int := (Int32.ofInt x >>> (Int32.ofInt y &&& 31)).toInt
def iUsh (x y : Int) : Int := (((Int32.ofInt x).toUInt32 >>> ((Int32.ofInt y).toUInt32 &&& Int32.toUInt32 31)).toInt32).toInt
def iMax (x y : Int) : Int := if x < y then y else x
def iMin (x y : Int) : Int := if y < x then y else x
def lAnd (x y : Int) : Int := (Int64.ofInt x &&& Int64.ofInt y).toInt
def lOr (x y : Int) : Int := (Int64.ofInt x ||| Int64.ofInt y).toInt
def lShl (x y : Int) : Int := (Int64.ofInt x <<< ((Int32.ofInt y).toInt64 &&& 63)).toInt
def lCmp (x y : Int) : Int := if x < y then -1 else if x = y then 0 else 1
/-! taking from the stack and from the variables -/
def eI (st : List mV) (k : Int → List mV → Prop) : Prop := match st with
  | Sum.inl x :: t => k x t
  | _ => False
def eJ (st : List mV) (k : Int → List mV → Prop) : Prop := match st with
  | Sum.inr (Sum.inl x) :: t => k x t
  | _ => False
def eR (st : List mV) (k : Nat → List mV → Prop) : Prop := match st with
  | Sum.inr (Sum.inr (Sum.inl (some a))) :: t => k a t
  | _ => False
def eX (st : List mV) (k : Nat → List mV → Prop) : Prop := match st with
  | Sum.inr (Sum.inr (Sum.inr j)) :: t => k j t
  | _ => False
def eO (st : List mV) (k : Option Nat → List mV → Prop) : Prop := match st with
  | Sum.inr (Sum.inr (Sum.inl r)) :: t => k r t
  | _ => False
/-- one value of one word -/
def eW (st : List mV) (k : mV → List mV → Prop) : Prop := match st with
  | Sum.inl x :: t => k (Sum.inl x) t
  | Sum.inr (Sum.inr r) :: t => k (Sum.inr (Sum.inr r)) t
  | _ => False
def gI (ls : mLo) (i : Nat) (k : Int → Prop) : Prop := match ls[i]? with
  | some (some (Sum.inl x)) => k x
  | _ => False
def gJ (ls : mLo) (i : Nat) (k : Int → Prop) : Prop := match ls[i]? with
  | some (some (Sum.inr (Sum.inl x))) => k x
  | _ => False
def gA (ls : mLo) (i : Nat) (k : mV → Prop) : Prop := match ls[i]? with
  | some (some (Sum.inr (Sum.inr r))) => k (Sum.inr (Sum.inr r))
  | _ => False
/-- what is left of a variable when the next one is written -/
def kL (n : Nat) (h : Option mV) : Option mV := match n, h with
  | 0, some (Sum.inr (Sum.inl _)) => none
  | _, h => h
def sL (ls : mLo) (i : Nat) (v : mV) (k : mLo → Prop) : Prop := match ls, i with
  | [], _ => False
  | _ :: t, 0 => k (some v :: t)
  | h :: t, n + 1 => sL t n v (fun t' => k (kL n h :: t'))
def sJ (ls : mLo) (i : Nat) (v : mV) (k : mLo → Prop) : Prop := match ls, i with
  | _ :: _ :: t, 0 => k (some v :: none :: t)
  | h :: t, n + 1 => sJ t n v (fun t' => k (kL n h :: t'))
  | _, _ => False
def popA (n : Nat) (st : List mV) (acc : List mV) (k : List mV → List mV → Prop) : Prop := match n, st with
  | 0, st => k acc st
  | n + 1, v :: t => popA n t (v :: acc) k
  | _, _ => False
def pushR (r : Option mV) (st : List mV) (k : List mV → Prop) : Prop := match r with
  | none => k st
  | some v => k (v :: st)
/-- words on the stack -/
def sW (st : List mV) : Nat := match st with
  | [] => 0
  | Sum.inr (Sum.inl _) :: t => sW t + 2
  | _ :: t => sW t + 1
/-! shapes -/
def kS (S : List mSh) (a : Nat) : Nat := match S[a]? with
  | some q => q.1
  | none => 99
def nS (S : List mSh) (a : Nat) : Nat := match S[a]? with
  | some q => q.2.1
  | none => 0
def rS (S : List mSh) (a k : Nat) : Nat := match S[a]? with
  | some q => q.2.2.getD k 0
  | none => 0
def lS (S : List mSh) (a : Nat) : Nat := match S[a]? with
  | some q => q.2.2.length
  | none => 0
def aS (S : List mSh) (a kd n : Nat) : Prop := kS S a = kd ∧ nS S a = n
def pS (S : List mSh) (a k v : Nat) : List mSh := S.modify a (fun q => (q.1, q.2.1, q.2.2.set k v))
def uS (s : mSt) (a k : Nat) (x : Int) : mSt := fun b j => if b = a ∧ j = k then x else s b j
def zS (s : mSt) (a : Nat) (x : Int) : mSt := fun b j => if b = a then x else s b j
def cS (s : mSt) (a sp b dp n : Nat) : mSt := fun c j => if c = b ∧ dp ≤ j ∧ j < dp + n then s a (sp + (j - dp)) else s c j
def mM2 (S : List mSh) (s : mSt) : mSt := fun b j => if b = S.length then (S.length + 1 + j : Nat) else if S.length < b then 0 else s b j
def okR (rk : Nat) (x : Int) : Prop := match rk with
  | 1 => True
  | 2 => x = 0 ∨ x = 1
  | 3 => 0 ≤ x ∧ x < 65536
  | _ => False
def akOf (ci : Int) : Nat := if ci = 0 then 25 else if ci = 5 then 26 else 27
def elOf (kd : Nat) : Nat := if kd = 25 then 0 else if kd = 26 then 5 else 7
def atOf (t : ArrayType) : Nat := match t with
  | .byte => 20
  | .char => 21
  | .int => 22
  | .long => 23
  | .boolean => 24
  | _ => 98
def tT (pc : Nat) (dflt lo hi : Int) (offs : Array Int) (x : Int) : Nat := ((pc : Int) + (if x < lo ∨ hi < x then dflt else (offs[(x - lo).toNat]?).getD dflt)).toNat
def tL (pc : Nat) (dflt : Int) (ps : Array (Int × Int)) (x : Int) : Nat := ((pc : Int) + Op.lookupswitch.offset ps.toList dflt x).toNat
/-- the words' text, as numbers of chars -/
def mTx : List Nat := "candidate papers extra rest nights kept finish work busy waiting turn day paper taken plan if or and not ".toList.map Char.toNat
/-! one instruction -/
def ex1 (X : (Nat → Int) × Nat) (sc : Bool) (rk d bud pc : Nat) (i : mE) (ls : mLo) (st : List mV) (S : List mSh) (s : mSt)
    (go : Nat → Nat → mLo → List mV → List mSh → mSt → Prop) (call : Nat → List mV → List mSh → mSt → mRt → Prop) (ret : mRt) : Prop :=
  match i.1 with
  | .iconst v => go bud (pc + i.2.1) ls (mI v :: st) S s
  | .bipush v => go bud (pc + i.2.1) ls (mI v :: st) S s
  | .sipush v => go bud (pc + i.2.1) ls (mI v :: st) S s
  | .lconst v => go bud (pc + i.2.1) ls (mJ v.val :: st) S s
  | .aconst_null => go bud (pc + i.2.1) ls (mN :: st) S s
  | .ldc _ => match i.2.2.2.1 with
    | 0 => go bud (pc + i.2.1) ls (mI i.2.2.1 :: st) S s
    | _ => go bud (pc + i.2.1) ls (mX 1 :: st) S s
  | .ldc_w _ => go bud (pc + i.2.1) ls (mI i.2.2.1 :: st) S s
  | .ldc2_w _ => go bud (pc + i.2.1) ls (mJ i.2.2.1 :: st) S s
  | .iload n => gI ls n fun x => go bud (pc + i.2.1) ls (mI x :: st) S s
  | .iload_n n => gI ls n.val fun x => go bud (pc + i.2.1) ls (mI x :: st) S s
  | .lload n => gJ ls n fun x => go bud (pc + i.2.1) ls (mJ x :: st) S s
  | .lload_n n => gJ ls n.val fun x => go bud (pc + i.2.1) ls (mJ x :: st) S s
  | .aload n => gA ls n fun v => go bud (pc + i.2.1) ls (v :: st) S s
  | .aload_n n => gA ls n.val fun v => go bud (pc + i.2.1) ls (v :: st) S s
  | .istore n => eI st fun x st => sL ls n (mI x) fun ls => go bud (pc + i.2.1) ls st S s
  | .istore_n n => eI st fun x st => sL ls n.val (mI x) fun ls => go bud (pc + i.2.1) ls st S s
  | .lstore n => eJ st fun x st => sJ ls n (mJ x) fun ls => go bud (pc + i.2.1) ls st S s
  | .lstore_n n => eJ st fun x st => sJ ls n.val (mJ x) fun ls => go bud (pc + i.2.1) ls st S s
  | .astore n => eO st fun r st => sL ls n (Sum.inr (Sum.inr (Sum.inl r))) fun ls => go bud (pc + i.2.1) ls st S s
  | .astore_n n => eO st fun r st => sL ls n.val (Sum.inr (Sum.inr (Sum.inl r))) fun ls => go bud (pc + i.2.1) ls st S s
  | .iinc n c => gI ls n fun x => sL ls n (mI (w32 (x + c))) fun ls => go bud (pc + i.2.1) ls st S s
  | .pop => eW st fun _ st => go bud (pc + i.2.1) ls st S s
  | .dup => eW st fun v st => go bud (pc + i.2.1) ls (v :: v :: st) S s
  | .dup2 => eW st fun v st => eW st fun u st => go bud (pc + i.2.1) ls (v :: u :: v :: u :: st) S s
  | .iadd => eI st fun y st => eI st fun x st => go bud (pc + i.2.1) ls (mI (w32 (x + y)) :: st) S s
  | .isub => eI st fun y st => eI st fun x st => go bud (pc + i.2.1) ls (mI (w32 (x - y)) :: st) S s
  | .imul => eI st fun y st => eI st fun x st => go bud (pc + i.2.1) ls (mI (w32 (x * y)) :: st) S s
  | .idiv => eI st fun y st => eI st fun x st => y ≠ 0 ∧ go bud (pc + i.2.1) ls (mI (w32 (x.tdiv y)) :: st) S s
  | .irem => eI st fun y st => eI st fun x st => y ≠ 0 ∧ go bud (pc + i.2.1) ls (mI (x.tmod y) :: st) S s
  | .iand => eI st fun y st => eI st fun x st => go bud (pc + i.2.1) ls (mI (iAnd x y) :: st) S s
  | .ior => eI st fun y st => eI st fun x st => go bud (pc + i.2.1) ls (mI (iOr x y) :: st) S s
  | .ixor => eI st fun y st => eI st fun x st => go bud (pc + i.2.1) ls (mI (iXor x y) :: st) S s
  | .ishl => eI st fun y st => eI st fun x st => go bud (pc + i.2.1) ls (mI (iShl x y) :: st) S s
  | .ishr => eI st fun y st => eI st fun x st => go bud (pc + i.2.1) ls (mI (iShr x y) :: st) S s
  | .iushr => eI st fun y st => eI st fun x st => go bud (pc + i.2.1) ls (mI (iUsh x y) :: st) S s
  | .i2l => eI st fun x st => go bud (pc + i.2.1) ls (mJ x :: st) S s
  | .i2b => eI st fun x st => go bud (pc + i.2.1) ls (mI (w8 x) :: st) S s
  | .i2c => eI st fun x st => go bud (pc + i.2.1) ls (mI (x % 65536) :: st) S s
  | .l2i => eJ st fun x st => go bud (pc + i.2.1) ls (mI (w32 x) :: st) S s
  | .ladd => eJ st fun y st => eJ st fun x st => go bud (pc + i.2.1) ls (mJ (w64 (x + y)) :: st) S s
  | .lsub => eJ st fun y st => eJ st fun x st => go bud (pc + i.2.1) ls (mJ (w64 (x - y)) :: st) S s
  | .lmul => eJ st fun y st => eJ st fun x st => go bud (pc + i.2.1) ls (mJ (w64 (x * y)) :: st) S s
  | .ldiv => eJ st fun y st => eJ st fun x st => y ≠ 0 ∧ go bud (pc + i.2.1) ls (mJ (w64 (x.tdiv y)) :: st) S s
  | .lrem => eJ st fun y st => eJ st fun x st => y ≠ 0 ∧ go bud (pc + i.2.1) ls (mJ (x.tmod y) :: st) S s
  | .land => eJ st fun y st => eJ st fun x st => go bud (pc + i.2.1) ls (mJ (lAnd x y) :: st) S s
  | .lor => eJ st fun y st => eJ st fun x st => go bud (pc + i.2.1) ls (mJ (lOr x y) :: st) S s
  | .lshl => eI st fun y st => eJ st fun x st => go bud (pc + i.2.1) ls (mJ (lShl x y) :: st) S s
  | .lcmp => eJ st fun y st => eJ st fun x st => go bud (pc + i.2.1) ls (mI (lCmp x y) :: st) S s
  | .goto _ => go bud i.2.2.1.toNat ls st S s
  | .ifCond .eq _ => eI st fun x st => (x = 0 → go bud i.2.2.1.toNat ls st S s) ∧ (¬ x = 0 → go bud (pc + i.2.1) ls st S s)
  | .ifCond .ne _ => eI st fun x st => (¬ x = 0 → go bud i.2.2.1.toNat ls st S s) ∧ (x = 0 → go bud (pc + i.2.1) ls st S s)
  | .ifCond .lt _ => eI st fun x st => (x < 0 → go bud i.2.2.1.toNat ls st S s) ∧ (¬ x < 0 → go bud (pc + i.2.1) ls st S s)
  | .ifCond .ge _ => eI st fun x st => (0 ≤ x → go bud i.2.2.1.toNat ls st S s) ∧ (¬ 0 ≤ x → go bud (pc + i.2.1) ls st S s)
  | .ifCond .gt _ => eI st fun x st => (0 < x → go bud i.2.2.1.toNat ls st S s) ∧ (¬ 0 < x → go bud (pc + i.2.1) ls st S s)
  | .ifCond .le _ => eI st fun x st => (x ≤ 0 → go bud i.2.2.1.toNat ls st S s) ∧ (¬ x ≤ 0 → go bud (pc + i.2.1) ls st S s)
  | .if_icmp .eq _ => eI st fun y st => eI st fun x st => (x = y → go bud i.2.2.1.toNat ls st S s) ∧ (¬ x = y → go bud (pc + i.2.1) ls st S s)
  | .if_icmp .ne _ => eI st fun y st => eI st fun x st => (¬ x = y → go bud i.2.2.1.toNat ls st S s) ∧ (x = y → go bud (pc + i.2.1) ls st S s)
  | .if_icmp .lt _ => eI st fun y st => eI st fun x st => (x < y → go bud i.2.2.1.toNat ls st S s) ∧ (¬ x < y → go bud (pc + i.2.1) ls st S s)
  | .if_icmp .ge _ => eI st fun y st => eI st fun x st => (y ≤ x → go bud i.2.2.1.toNat ls st S s) ∧ (¬ y ≤ x → go bud (pc + i.2.1) ls st S s)
  | .if_icmp .gt _ => eI st fun y st => eI st fun x st => (y < x → go bud i.2.2.1.toNat ls st S s) ∧ (¬ y < x → go bud (pc + i.2.1) ls st S s)
  | .if_icmp .le _ => eI st fun y st => eI st fun x st => (x ≤ y → go bud i.2.2.1.toNat ls st S s) ∧ (¬ x ≤ y → go bud (pc + i.2.1) ls st S s)
  | .ifnonnull _ => eO st fun r st => (¬ r = none → go bud i.2.2.1.toNat ls st S s) ∧ (r = none → go bud (pc + i.2.1) ls st S s)
  | .tableswitch dflt lo hi offs => eI st fun x st => go bud (tT pc dflt lo hi offs x) ls st S s
  | .lookupswitch dflt ps => eI st fun x st => go bud (tL pc dflt ps x) ls st S s
  | .getfield _ => eR st fun o st => kS S o = i.2.2.1.toNat ∧ match i.2.2.2.2.1 with
    | 0 => go bud (pc + i.2.1) ls (mI (s o i.2.2.2.1.toNat) :: st) S s
    | 1 => go bud (pc + i.2.1) ls (mJ (s o i.2.2.2.1.toNat) :: st) S s
    | 2 => ∃ r, rS S o i.2.2.2.1.toNat = r + 1 ∧ go bud (pc + i.2.1) ls (mR r :: st) S s
    | _ => go bud (pc + i.2.1) ls (mI (s o i.2.2.2.1.toNat) :: st) S s
  | .putfield _ => match i.2.2.2.2.1 with
    | 0 => eI st fun x st => eR st fun o st => kS S o = i.2.2.1.toNat ∧ go bud (pc + i.2.1) ls st S (uS s o i.2.2.2.1.toNat x)
    | 1 => eJ st fun x st => eR st fun o st => kS S o = i.2.2.1.toNat ∧ go bud (pc + i.2.1) ls st S (uS s o i.2.2.2.1.toNat x)
    | 2 => eR st fun r st => eR st fun o st => (rk = 6 ∧ i.2.2.2.2.2 = 1 ∧ kS S o = i.2.2.1.toNat ∧ i.2.2.2.1.toNat < lS S o) ∧ go bud (pc + i.2.1) ls st (pS S o i.2.2.2.1.toNat (r + 1)) s
    | _ => eI st fun x st => eR st fun o st => (x = 0 ∨ x = 1) ∧ kS S o = i.2.2.1.toNat ∧ go bud (pc + i.2.1) ls st S (uS s o i.2.2.2.1.toNat x)
  | .iaload => match sc with
    | true => eI st fun j st => eX st fun q st => q = 0 ∧ 0 ≤ j ∧ j < X.2 ∧ go bud (pc + i.2.1) ls (mI (X.1 j.toNat) :: st) S s
    | false => eI st fun j st => eR st fun a st => ∃ n, aS S a 22 n ∧ (0 ≤ j ∧ j < n) ∧ go bud (pc + i.2.1) ls (mI (s a j.toNat) :: st) S s
  | .baload => eI st fun j st => eR st fun a st => ∃ kd n, aS S a kd n ∧ (kd = 20 ∨ kd = 24) ∧ (0 ≤ j ∧ j < n) ∧ go bud (pc + i.2.1) ls (mI (s a j.toNat) :: st) S s
  | .caload => eI st fun j st => eR st fun a st => ∃ n, aS S a 21 n ∧ (0 ≤ j ∧ j < n) ∧ go bud (pc + i.2.1) ls (mI (s a j.toNat) :: st) S s
  | .laload => eI st fun j st => eR st fun a st => ∃ n, aS S a 23 n ∧ (0 ≤ j ∧ j < n) ∧ go bud (pc + i.2.1) ls (mJ (s a j.toNat) :: st) S s
  | .aaload => eI st fun j st => eR st fun a st => ∃ kd n, aS S a kd n ∧ (25 ≤ kd ∧ kd ≤ 28) ∧ (0 ≤ j ∧ j < n) ∧ ∃ r : Nat, s a j.toNat = r ∧ go bud (pc + i.2.1) ls (mR r :: st) S s
  | .iastore => eI st fun x st => eI st fun j st => eR st fun a st => ∃ n, aS S a 22 n ∧ (0 ≤ j ∧ j < n) ∧ go bud (pc + i.2.1) ls st S (uS s a j.toNat x)
  | .bastore => eI st fun x st => eI st fun j st => eR st fun a st => ∃ kd n, aS S a kd n ∧ (kd = 20 ∧ -128 ≤ x ∧ x < 128 ∨ kd = 24 ∧ (x = 0 ∨ x = 1)) ∧ (0 ≤ j ∧ j < n) ∧ go bud (pc + i.2.1) ls st S (uS s a j.toNat x)
  | .castore => eI st fun x st => eI st fun j st => eR st fun a st => ∃ n, aS S a 21 n ∧ (0 ≤ x ∧ x < 65536) ∧ (0 ≤ j ∧ j < n) ∧ go bud (pc + i.2.1) ls st S (uS s a j.toNat x)
  | .lastore => eJ st fun x st => eI st fun j st => eR st fun a st => ∃ n, aS S a 23 n ∧ (0 ≤ j ∧ j < n) ∧ go bud (pc + i.2.1) ls st S (uS s a j.toNat x)
  | .aastore => eR st fun r st => eI st fun j st => eR st fun a st => ∃ kd n, aS S a kd n ∧ (25 ≤ kd ∧ kd ≤ 27 ∧ kS S r = elOf kd) ∧ (0 ≤ j ∧ j < n) ∧ go bud (pc + i.2.1) ls st S (uS s a j.toNat r)
  | .arraylength => match sc with
    | true => eX st fun q st => q = 0 ∧ go bud (pc + i.2.1) ls (mI X.2 :: st) S s
    | false => eR st fun a st => ∃ kd n, aS S a kd n ∧ (20 ≤ kd ∧ kd ≤ 28 ∧ n < 2147483648) ∧ go bud (pc + i.2.1) ls (mI n :: st) S s
  | .new _ => match bud with
    | 0 => False
    | b + 1 => (0 ≤ i.2.2.1 ∧ i.2.2.1 < 20) ∧ go b (pc + i.2.1) ls (mR S.length :: st) (S ++ [(i.2.2.1.toNat, i.2.2.2.2.1, List.replicate i.2.2.2.2.1 0)]) (zS s S.length 0)
  | .newarray t => match bud with
    | 0 => False
    | b + 1 => eI st fun n st => (0 ≤ n ∧ n ≤ 2400 ∧ atOf t ≠ 98) ∧ go b (pc + i.2.1) ls (mR S.length :: st) (S ++ [(atOf t, n.toNat, [])]) (zS s S.length 0)
  | .anewarray _ => match bud with
    | 0 => False
    | b + 1 => eI st fun n st => (0 ≤ n ∧ n ≤ 2400 ∧ (i.2.2.1 = 0 ∨ i.2.2.1 = 5 ∨ i.2.2.1 = 7)) ∧ go b (pc + i.2.1) ls (mR S.length :: st) (S ++ [(akOf i.2.2.1, n.toNat, [])]) (zS s S.length (-1))
  | .multianewarray _ _ => eI st fun m st => eI st fun n st => (0 ≤ m ∧ m ≤ 100 ∧ 0 ≤ n ∧ n ≤ 20 ∧ n.toNat + 1 ≤ bud ∧ i.2.2.1 = 28) ∧ go (bud - (n.toNat + 1)) (pc + i.2.1) ls (mR S.length :: st) (S ++ ((28, n.toNat, []) :: List.replicate n.toNat (22, m.toNat, []))) (mM2 S s)
  | .invokespecial _ => match i.2.2.1 with
    | .negSucc _ => eR st fun _ st => (0 < d ∧ sW st ≤ 8) ∧ go bud (pc + i.2.1) ls st S s
    | .ofNat mj => popA i.2.2.2.2.1 st [] fun as st => ((match as with | Sum.inr (Sum.inr (Sum.inl (some k))) :: _ => kS S k = i.2.2.2.2.2 | _ => False) ∧ sW st ≤ 8) ∧ i.2.2.2.1.toNat ≤ bud ∧ call mj as S s (fun r S' s' => pushR r st fun st' => go (bud - i.2.2.2.1.toNat) (pc + i.2.1) ls st' S' s')
  | .invokevirtual _ => match i.2.2.1 with
    | .negSucc 2 => eX st fun q st => q = 1 ∧ (4 < d ∧ sW st ≤ 8) ∧ go bud (pc + i.2.1) ls (mI 105 :: st) S s
    | .negSucc _ => eI st fun j st => eX st fun q st => q = 1 ∧ (4 < d ∧ sW st ≤ 8) ∧ (0 ≤ j ∧ j < 105) ∧ go bud (pc + i.2.1) ls (mI (mTx.getD j.toNat 0 : Nat) :: st) S s
    | .ofNat mj => popA i.2.2.2.2.1 st [] fun as st => ((match as with | Sum.inr (Sum.inr (Sum.inl (some k))) :: _ => kS S k = i.2.2.2.2.2 | _ => False) ∧ sW st ≤ 8) ∧ i.2.2.2.1.toNat ≤ bud ∧ call mj as S s (fun r S' s' => pushR r st fun st' => go (bud - i.2.2.2.1.toNat) (pc + i.2.1) ls st' S' s')
  | .invokestatic _ => match i.2.2.1 with
    | .negSucc 4 => eI st fun y st => eI st fun x st => (0 < d ∧ sW st ≤ 8) ∧ go bud (pc + i.2.1) ls (mI (iMax x y) :: st) S s
    | .negSucc 5 => eI st fun y st => eI st fun x st => (0 < d ∧ sW st ≤ 8) ∧ go bud (pc + i.2.1) ls (mI (iMin x y) :: st) S s
    | .negSucc _ => eI st fun n st => eI st fun dp st => eR st fun b st => eI st fun sp st => eR st fun a st => (0 < d ∧ sW st ≤ 8) ∧ (∃ l0, aS S a 22 l0 ∧ 0 ≤ sp ∧ 0 ≤ n ∧ sp + n ≤ l0) ∧ (∃ l1, aS S b 22 l1 ∧ 0 ≤ dp ∧ dp + n ≤ l1) ∧ go bud (pc + i.2.1) ls st S (cS s a sp.toNat b dp.toNat n.toNat)
    | .ofNat mj => popA i.2.2.2.2.1 st [] fun as st => (sW st ≤ 8 ∧ i.2.2.2.1.toNat ≤ bud) ∧ call mj as S s (fun r S' s' => pushR r st fun st' => go (bud - i.2.2.2.1.toNat) (pc + i.2.1) ls st' S' s')
  | .return_ => match st with
    | [] => (bud = 0 ∧ (rk = 0 ∨ rk = 6)) ∧ ret none S s
    | _ => False
  | .ireturn => match st with
    | [Sum.inl x] => (bud = 0 ∧ okR rk x) ∧ ret (some (mI x)) S s
    | _ => False
  | .lreturn => match st with
    | [Sum.inr (Sum.inl x)] => (bud = 0 ∧ rk = 4) ∧ ret (some (mJ x)) S s
    | _ => False
  | .areturn => match st with
    | [Sum.inr (Sum.inr (Sum.inl r))] => (bud = 0 ∧ rk = 5) ∧ ret (some (Sum.inr (Sum.inr (Sum.inl r)))) S s
    | _ => False
  | _ => False
/-! fetching -/
def mDf : mMR := (⟨"", "", ""⟩, ⟨#[]⟩, 0, none, 0, 0, 0, 0)
def mMd (mi : Nat) : mMR := (mMs.getD (mi / 16) []).getD (mi % 16) mDf
abbrev mY (mi : Nat) : MethodName := (mMd mi).1
abbrev mB (mi : Nat) : ByteArray := (mMd mi).2.1
abbrev mML (mi : Nat) : Nat := (mMd mi).2.2.1
abbrev mRet (mi : Nat) : Option FieldType := (mMd mi).2.2.2.1
abbrev mCn (mi : Nat) : Nat := (mMd mi).2.2.2.2.1
abbrev mRk (mi : Nat) : Nat := (mMd mi).2.2.2.2.2.1
abbrev mCe (mi : Nat) : Nat := (mMd mi).2.2.2.2.2.2.1
abbrev mNa (mi : Nat) : Nat := (mMd mi).2.2.2.2.2.2.2
/-- the index of the pool that an instruction names -/
def mIx (i : Instr) : Option Nat := match i with
  | .getfield k => some k
  | .putfield k => some k
  | .invokespecial k => some k
  | .invokevirtual k => some k
  | .invokestatic k => some k
  | .new k => some k
  | .anewarray k => some k
  | .multianewarray k _ => some k
  | .ldc k => some k
  | .ldc_w k => some k
  | .ldc2_w k => some k
  | _ => none
/-- where an instruction may jump to -/
def mJp (i : Instr) : Option Int := match i with
  | .goto o => some o
  | .ifCond _ o => some o
  | .if_icmp _ o => some o
  | .ifnonnull o => some o
  | _ => none
def mLook (cn k : Nat) : Option mLR := ((mLk.getD cn []).getD (k / 16) []).find? (fun q => q.1 == k)
/-- what an index must mean -/
def mTg (i : Instr) (t : Nat) : Bool := match i with
  | .getfield _ => t == 0
  | .putfield _ => t == 0
  | .invokespecial _ => t == 7
  | .invokevirtual _ => t == 6
  | .invokestatic _ => t == 1
  | .new _ => t == 2
  | .anewarray _ => t == 2
  | .multianewarray _ _ => t == 2
  | .ldc _ => t == 3 || t == 5
  | .ldc_w _ => t == 3
  | .ldc2_w _ => t == 4
  | _ => false
/-- how long an instruction is -/
def mLen (i : Instr) : Nat := match i with
  | .iload _ => 2
  | .lload _ => 2
  | .aload _ => 2
  | .istore _ => 2
  | .lstore _ => 2
  | .astore _ => 2
  | .newarray _ => 2
  | .ldc _ => 2
  | .bipush _ => 2
  | .sipush _ => 3
  | .iinc _ _ => 3
  | .goto _ => 3
  | .ifCond _ _ => 3
  | .if_icmp _ _ => 3
  | .ifnonnull _ => 3
  | .getfield _ => 3
  | .putfield _ => 3
  | .invokespecial _ => 3
  | .invokevirtual _ => 3
  | .invokestatic _ => 3
  | .new _ => 3
  | .anewarray _ => 3
  | .ldc_w _ => 3
  | .ldc2_w _ => 3
  | .multianewarray _ _ => 4
  | _ => 1
/-- an instruction as it is used here -/
def mOK (i : Instr) (len : Nat) : Bool := match i with
  | .tableswitch dflt lo hi offs => decide (0 ≤ dflt) && offs.toList.all (fun o => decide (0 ≤ o)) && offs.size == (hi - lo + 1).toNat
  | .lookupswitch dflt ps => decide (0 ≤ dflt) && (ps.toList.zip (ps.toList.drop 1)).all (fun (a, next) => a.1 < next.1) && ps.toList.all (fun q => decide (0 ≤ q.2))
  | .iconst v => decide (-1 ≤ v ∧ v ≤ 5) && len == 1
  | .bipush v => decide (-128 ≤ v ∧ v < 128) && len == 2
  | .sipush v => decide (-32768 ≤ v ∧ v < 32768) && len == 3
  | .multianewarray _ n => n == 2 && len == 4
  | i => len == mLen i
def mFetch (mi pc : Nat) : Option mE := match decode (mB mi) pc with
  | .ok (i, len) => bif mOK i len then
      match mIx i with
      | some k => (mLook (mCn mi) k).bind fun q => bif mTg i q.2.2.2.2.2.2 then some (i, len, q.2.1, q.2.2.1, q.2.2.2.1, q.2.2.2.2.1) else none
      | none => match mJp i with
        | some o => bif decide (0 ≤ (pc : Int) + o) then some (i, len, (pc : Int) + o, 0, 0, 0) else none
        | none => some (i, len, 0, 0, 0, 0)
      else none
  | .error _ => none
def mArgs (as : List mV) : mLo := match as with
  | [] => []
  | Sum.inr (Sum.inl x) :: t => some (Sum.inr (Sum.inl x)) :: none :: mArgs t
  | v :: t => some v :: mArgs t
def mLoc (as : List mV) (n : Nat) : mLo := mArgs as ++ List.replicate (n - (mArgs as).length) none
/-! runs -/
def dC (d : Nat) (f : Nat → Prop) : Prop := match d with
  | 0 => False
  | d' + 1 => f d'
def wp (X : (Nat → Int) × Nat) (n d bud mi pc : Nat) (ls : mLo) (st : List mV) (S : List mSh) (s : mSt) (Q : mRt) : Prop := match n with
  | 0 => False
  | n + 1 => match mFetch mi pc with
    | none => False
    | some i => ex1 X (mi == 0) (mRk mi) d bud pc i ls st S s (fun bud pc ls st S s => wp X n d bud mi pc ls st S s Q)
        (fun mj as S s K => dC d fun d' => (mArgs as).length ≤ mML mj ∧ wp X n d' (mCe mj) mj 0 (mLoc as (mML mj)) [] S s K) Q
end
section
/-! more is reached by more steps -/
theorem eI_mono {st : List mV} {k k' : Int → List mV → Prop} (h : ∀ x t, k x t → k' x t) : eI st k → eI st k' := by
  unfold eI; split
  · exact h _ _
  · exact id
theorem eJ_mono {st : List mV} {k k' : Int → List mV → Prop} (h : ∀ x t, k x t → k' x t) : eJ st k → eJ st k' := by
  unfold eJ; split
  · exact h _ _
  · exact id
theorem eR_mono {st : List mV} {k k' : Nat → List mV → Prop} (h : ∀ x t, k x t → k' x t) : eR st k → eR st k' := by
  unfold eR; split
  · exact h _ _
  · exact id
theorem eX_mono {st : List mV} {k k' : Nat → List mV → Prop} (h : ∀ x t, k x t → k' x t) : eX st k → eX st k' := by
  unfold eX; split
  · exact h _ _
  · exact id
theorem eO_mono {st : List mV} {k k' : Option Nat → List mV → Prop} (h : ∀ x t, k x t → k' x t) : eO st k → eO st k' := by
  unfold eO; split
  · exact h _ _
  · exact id
theorem eW_mono {st : List mV} {k k' : mV → List mV → Prop} (h : ∀ x t, k x t → k' x t) : eW st k → eW st k' := by
  unfold eW; split
  · exact h _ _
  · exact h _ _
  · exact id
theorem gI_mono {ls : mLo} {i : Nat} {k k' : Int → Prop} (h : ∀ x, k x → k' x) : gI ls i k → gI ls i k' := by
  unfold gI; split
  · exact h _
  · exact id
theorem gJ_mono {ls : mLo} {i : Nat} {k k' : Int → Prop} (h : ∀ x, k x → k' x) : gJ ls i k → gJ ls i k' := by
  unfold gJ; split
  · exact h _
  · exact id
theorem gA_mono {ls : mLo} {i : Nat} {k k' : mV → Prop} (h : ∀ x, k x → k' x) : gA ls i k → gA ls i k' := by
  unfold gA; split
  · exact h _
  · exact id
theorem sL_mono {v : mV} : ∀ (ls : mLo) (i : Nat) (k k' : mLo → Prop), (∀ x, k x → k' x) → sL ls i v k → sL ls i v k' := by
  intro ls
  induction ls with
  | nil => intro i k k' h z; cases i <;> exact z
  | cons a t ih =>
    intro i k k' h z
    cases i with
    | zero => exact h _ z
    | succ n => exact ih n (fun t' => k (kL n a :: t')) (fun t' => k' (kL n a :: t')) (fun x => h _) z
theorem sJ_mono {v : mV} : ∀ (ls : mLo) (i : Nat) (k k' : mLo → Prop), (∀ x, k x → k' x) → sJ ls i v k → sJ ls i v k' := by
  intro ls
  induction ls with
  | nil => intro i k k' h z; cases i <;> exact z
  | cons a t ih =>
    intro i k k' h z
    cases i with
    | zero => cases t with
      | nil => exact z
      | cons b t => exact h _ z
    | succ n =>
      have e : ∀ kk : mLo → Prop, sJ (a :: t) (n + 1) v kk = sJ t n v (fun t' => kk (kL n a :: t')) := fun kk => by cases t <;> rfl
      rw [e] at z ⊢
      exact ih n (fun t' => k (kL n a :: t')) (fun t' => k' (kL n a :: t')) (fun x => h _) z
theorem popA_mono : ∀ {n : Nat} {st acc : List mV} {k k' : List mV → List mV → Prop}, (∀ x t, k x t → k' x t) → popA n st acc k → popA n st acc k' := by
  intro n
  induction n with
  | zero => intro st acc k k' h z; cases st <;> exact h _ _ z
  | succ n ih =>
    intro st acc k k' h z
    cases st with
    | nil => exact z
    | cons v t => exact ih h z
theorem pushR_mono {r : Option mV} {st : List mV} {k k' : List mV → Prop} (h : ∀ x, k x → k' x) : pushR r st k → pushR r st k' := by
  cases r <;> exact h _
theorem an_i {a b c : Prop} (h : a → b) : c ∧ a → c ∧ b := fun q => ⟨q.1, h q.2⟩
theorem an_b {a b c d e f : Prop} (h : a → b) (h' : c → d) : (e → a) ∧ (f → c) → (e → b) ∧ (f → d) := fun q => ⟨fun z => h (q.1 z), fun z => h' (q.2 z)⟩
theorem ex_i {α : Sort _} {p q : α → Prop} (h : ∀ a, p a → q a) : (∃ a, p a) → ∃ a, q a := fun ⟨a, z⟩ => ⟨a, h a z⟩
set_option maxHeartbeats 4000000 in
theorem ex1_mono {X : (Nat → Int) × Nat} {sc : Bool} {rk d bud pc : Nat} {i : mE} {ls : mLo} {st : List mV} {S : List mSh} {s : mSt} {go go' : Nat → Nat → mLo → List mV → List mSh → mSt → Prop} {call call' : Nat → List mV → List mSh → mSt → mRt → Prop} {ret ret' : mRt}
    (hg : ∀ b p l t S s, go b p l t S s → go' b p l t S s) (hc : ∀ m a S s (K K' : mRt), (∀ r S s, K r S s → K' r S s) → call m a S s K → call' m a S s K') (hr : ∀ r S s, ret r S s → ret' r S s) :
    ex1 X sc rk d bud pc i ls st S s go call ret → ex1 X sc rk d bud pc i ls st S s go' call' ret' := by
  obtain ⟨op, len, a, b, c, e⟩ := i
  cases op
  case ldc =>
    dsimp only [ex1]
    split <;> exact hg _ _ _ _ _ _
  case ifCond cd _ => cases cd <;> exact eI_mono fun _ _ => an_b (hg _ _ _ _ _ _) (hg _ _ _ _ _ _)
  case if_icmp cd _ => cases cd <;> exact eI_mono fun _ _ => eI_mono fun _ _ => an_b (hg _ _ _ _ _ _) (hg _ _ _ _ _ _)
  case ifnonnull => exact eO_mono fun _ _ => an_b (hg _ _ _ _ _ _) (hg _ _ _ _ _ _)
  case getfield =>
    refine eR_mono fun _ _ => an_i ?_
    dsimp only
    split
    · exact hg _ _ _ _ _ _
    · exact hg _ _ _ _ _ _
    · exact ex_i fun _ => an_i (hg _ _ _ _ _ _)
    · exact hg _ _ _ _ _ _
  case putfield =>
    dsimp only [ex1]
    split
    · exact eI_mono fun _ _ => eR_mono fun _ _ => an_i (hg _ _ _ _ _ _)
    · exact eJ_mono fun _ _ => eR_mono fun _ _ => an_i (hg _ _ _ _ _ _)
    · exact eR_mono fun _ _ => eR_mono fun _ _ => an_i (hg _ _ _ _ _ _)
    · exact eI_mono fun _ _ => eR_mono fun _ _ => an_i (an_i (hg _ _ _ _ _ _))
  case iaload =>
    cases sc
    · exact eI_mono fun _ _ => eR_mono fun _ _ => ex_i fun _ => an_i (an_i (hg _ _ _ _ _ _))
    · exact eI_mono fun _ _ => eX_mono fun _ _ => an_i (an_i (an_i (hg _ _ _ _ _ _)))
  case arraylength =>
    cases sc
    · exact eR_mono fun _ _ => ex_i fun _ => ex_i fun _ => an_i (an_i (hg _ _ _ _ _ _))
    · exact eX_mono fun _ _ => an_i (hg _ _ _ _ _ _)
  case baload => exact eI_mono fun _ _ => eR_mono fun _ _ => ex_i fun _ => ex_i fun _ => an_i (an_i (an_i (hg _ _ _ _ _ _)))
  case caload => exact eI_mono fun _ _ => eR_mono fun _ _ => ex_i fun _ => an_i (an_i (hg _ _ _ _ _ _))
  case laload => exact eI_mono fun _ _ => eR_mono fun _ _ => ex_i fun _ => an_i (an_i (hg _ _ _ _ _ _))
  case aaload => exact eI_mono fun _ _ => eR_mono fun _ _ => ex_i fun _ => ex_i fun _ => an_i (an_i (an_i (ex_i fun _ => an_i (hg _ _ _ _ _ _))))
  case iastore => exact eI_mono fun _ _ => eI_mono fun _ _ => eR_mono fun _ _ => ex_i fun _ => an_i (an_i (hg _ _ _ _ _ _))
  case bastore => exact eI_mono fun _ _ => eI_mono fun _ _ => eR_mono fun _ _ => ex_i fun _ => ex_i fun _ => an_i (an_i (an_i (hg _ _ _ _ _ _)))
  case castore => exact eI_mono fun _ _ => eI_mono fun _ _ => eR_mono fun _ _ => ex_i fun _ => an_i (an_i (an_i (hg _ _ _ _ _ _)))
  case lastore => exact eJ_mono fun _ _ => eI_mono fun _ _ => eR_mono fun _ _ => ex_i fun _ => an_i (an_i (hg _ _ _ _ _ _))
  case aastore => exact eR_mono fun _ _ => eI_mono fun _ _ => eR_mono fun _ _ => ex_i fun _ => ex_i fun _ => an_i (an_i (an_i (hg _ _ _ _ _ _)))
  case new => cases bud <;> first | exact id | exact an_i (hg _ _ _ _ _ _)
  case newarray => cases bud <;> first | exact id | exact eI_mono fun _ _ => an_i (hg _ _ _ _ _ _)
  case anewarray => cases bud <;> first | exact id | exact eI_mono fun _ _ => an_i (hg _ _ _ _ _ _)
  case multianewarray => exact eI_mono fun _ _ => eI_mono fun _ _ => an_i (hg _ _ _ _ _ _)
  case invokespecial =>
    dsimp only [ex1]
    split
    · exact eR_mono fun _ _ => an_i (hg _ _ _ _ _ _)
    · exact popA_mono fun _ _ => an_i (an_i (hc _ _ _ _ _ _ fun _ _ _ => pushR_mono fun _ => hg _ _ _ _ _ _))
  case invokevirtual =>
    dsimp only [ex1]
    split
    · exact eX_mono fun _ _ => an_i (an_i (hg _ _ _ _ _ _))
    · exact eI_mono fun _ _ => eX_mono fun _ _ => an_i (an_i (an_i (hg _ _ _ _ _ _)))
    · exact popA_mono fun _ _ => an_i (an_i (hc _ _ _ _ _ _ fun _ _ _ => pushR_mono fun _ => hg _ _ _ _ _ _))
  case invokestatic =>
    dsimp only [ex1]
    split
    · exact eI_mono fun _ _ => eI_mono fun _ _ => an_i (hg _ _ _ _ _ _)
    · exact eI_mono fun _ _ => eI_mono fun _ _ => an_i (hg _ _ _ _ _ _)
    · exact eI_mono fun _ _ => eI_mono fun _ _ => eR_mono fun _ _ => eI_mono fun _ _ => eR_mono fun _ _ => an_i (an_i (an_i (hg _ _ _ _ _ _)))
    · exact popA_mono fun _ _ => an_i (hc _ _ _ _ _ _ fun _ _ _ => pushR_mono fun _ => hg _ _ _ _ _ _)
  case return_ =>
    dsimp only [ex1]
    split
    · exact an_i (hr _ _ _)
    · exact id
  case ireturn =>
    dsimp only [ex1]
    split
    · exact an_i (hr _ _ _)
    · exact id
  case lreturn =>
    dsimp only [ex1]
    split
    · exact an_i (hr _ _ _)
    · exact id
  case areturn =>
    dsimp only [ex1]
    split
    · exact an_i (hr _ _ _)
    · exact id
  case aload =>
    dsimp only [ex1]
    exact gA_mono fun _ => hg _ _ _ _ _ _
  case aload_n =>
    dsimp only [ex1]
    exact gA_mono fun _ => hg _ _ _ _ _ _
  case pop =>
    dsimp only [ex1]
    exact eW_mono fun _ _ => hg _ _ _ _ _ _
  case dup =>
    dsimp only [ex1]
    exact eW_mono fun _ _ => hg _ _ _ _ _ _
  case dup2 =>
    dsimp only [ex1]
    exact eW_mono fun _ _ => eW_mono fun _ _ => hg _ _ _ _ _ _
  all_goals first
    | exact hg _ _ _ _ _ _
    | exact id
    | exact gI_mono fun _ => hg _ _ _ _ _ _
    | exact gJ_mono fun _ => hg _ _ _ _ _ _
    | exact gA_mono fun _ => hg _ _ _ _ _ _
    | exact eI_mono fun _ _ => sL_mono _ _ _ _ fun _ => hg _ _ _ _ _ _
    | exact eJ_mono fun _ _ => sJ_mono _ _ _ _ fun _ => hg _ _ _ _ _ _
    | exact eO_mono fun _ _ => sL_mono _ _ _ _ fun _ => hg _ _ _ _ _ _
    | exact gI_mono fun _ => sL_mono _ _ _ _ fun _ => hg _ _ _ _ _ _
    | exact eW_mono fun _ _ => hg _ _ _ _ _ _
    | exact eW_mono fun _ _ => eW_mono fun _ _ => hg _ _ _ _ _ _
    | exact eI_mono fun _ _ => hg _ _ _ _ _ _
    | exact eJ_mono fun _ _ => hg _ _ _ _ _ _
    | exact eI_mono fun _ _ => eI_mono fun _ _ => hg _ _ _ _ _ _
    | exact eJ_mono fun _ _ => eJ_mono fun _ _ => hg _ _ _ _ _ _
    | exact eI_mono fun _ _ => eJ_mono fun _ _ => hg _ _ _ _ _ _
    | exact eI_mono fun _ _ => eI_mono fun _ _ => an_i (hg _ _ _ _ _ _)
    | exact eJ_mono fun _ _ => eJ_mono fun _ _ => an_i (hg _ _ _ _ _ _)
theorem wp_mono {X : (Nat → Int) × Nat} : ∀ {n n' : Nat} {d bud mi pc : Nat} {ls : mLo} {st : List mV} {S : List mSh} {s : mSt} {Q Q' : mRt}, n ≤ n' → (∀ r S s, Q r S s → Q' r S s) → wp X n d bud mi pc ls st S s Q → wp X n' d bud mi pc ls st S s Q'
  | 0, _, _, _, _, _, _, _, _, _, _, _, _, _, h => False.elim h
  | n + 1, 0, _, _, _, _, _, _, _, _, _, _, hn, _, _ => absurd hn (by omega)
  | n + 1, n' + 1, d, bud, mi, pc, ls, st, S, s, Q, Q', hn, hq, h => by
    unfold wp at h ⊢
    cases hf : mFetch mi pc with
    | none => rw [hf] at h; exact h
    | some i =>
      rw [hf] at h
      refine ex1_mono (fun b p l t S s z => wp_mono (by omega) hq z) (fun m a S s K K' hk z => ?_) hq h
      cases d with
      | zero => exact z
      | succ d => exact ⟨z.1, wp_mono (by omega) hk z.2⟩
end
section
/-! a number of steps that does for all that can come -/
theorem eI_ex {st : List mV} {k : Int → List mV → Prop} {k' : Nat → Int → List mV → Prop} (h : ∀ x t, k x t → ∃ n, k' n x t) : eI st k → ∃ n, eI st (k' n) := by
  unfold eI; split
  · exact h _ _
  · exact fun z => ⟨0, z⟩
theorem eJ_ex {st : List mV} {k : Int → List mV → Prop} {k' : Nat → Int → List mV → Prop} (h : ∀ x t, k x t → ∃ n, k' n x t) : eJ st k → ∃ n, eJ st (k' n) := by
  unfold eJ; split
  · exact h _ _
  · exact fun z => ⟨0, z⟩
theorem eR_ex {st : List mV} {k : Nat → List mV → Prop} {k' : Nat → Nat → List mV → Prop} (h : ∀ x t, k x t → ∃ n, k' n x t) : eR st k → ∃ n, eR st (k' n) := by
  unfold eR; split
  · exact h _ _
  · exact fun z => ⟨0, z⟩
theorem eX_ex {st : List mV} {k : Nat → List mV → Prop} {k' : Nat → Nat → List mV → Prop} (h : ∀ x t, k x t → ∃ n, k' n x t) : eX st k → ∃ n, eX st (k' n) := by
  unfold eX; split
  · exact h _ _
  · exact fun z => ⟨0, z⟩
theorem eO_ex {st : List mV} {k : Option Nat → List mV → Prop} {k' : Nat → Option Nat → List mV → Prop} (h : ∀ x t, k x t → ∃ n, k' n x t) : eO st k → ∃ n, eO st (k' n) := by
  unfold eO; split
  · exact h _ _
  · exact fun z => ⟨0, z⟩
theorem eW_ex {st : List mV} {k : mV → List mV → Prop} {k' : Nat → mV → List mV → Prop} (h : ∀ x t, k x t → ∃ n, k' n x t) : eW st k → ∃ n, eW st (k' n) := by
  unfold eW; split
  · exact h _ _
  · exact h _ _
  · exact fun z => ⟨0, z⟩
theorem gI_ex {ls : mLo} {i : Nat} {k : Int → Prop} {k' : Nat → Int → Prop} (h : ∀ x, k x → ∃ n, k' n x) : gI ls i k → ∃ n, gI ls i (k' n) := by
  unfold gI; split
  · exact h _
  · exact fun z => ⟨0, z⟩
theorem gJ_ex {ls : mLo} {i : Nat} {k : Int → Prop} {k' : Nat → Int → Prop} (h : ∀ x, k x → ∃ n, k' n x) : gJ ls i k → ∃ n, gJ ls i (k' n) := by
  unfold gJ; split
  · exact h _
  · exact fun z => ⟨0, z⟩
theorem gA_ex {ls : mLo} {i : Nat} {k : mV → Prop} {k' : Nat → mV → Prop} (h : ∀ x, k x → ∃ n, k' n x) : gA ls i k → ∃ n, gA ls i (k' n) := by
  unfold gA; split
  · exact h _
  · exact fun z => ⟨0, z⟩
theorem sL_ex {v : mV} : ∀ (ls : mLo) (i : Nat) (k : mLo → Prop) (k' : Nat → mLo → Prop), (∀ x, k x → ∃ n, k' n x) → sL ls i v k → ∃ n, sL ls i v (k' n) := by
  intro ls
  induction ls with
  | nil => intro i k k' h z; cases i <;> exact ⟨0, z⟩
  | cons a t ih =>
    intro i k k' h z
    cases i with
    | zero => exact h _ z
    | succ n => exact ih n (fun t' => k (kL n a :: t')) (fun q t' => k' q (kL n a :: t')) (fun x => h _) z
theorem sJ_ex {v : mV} : ∀ (ls : mLo) (i : Nat) (k : mLo → Prop) (k' : Nat → mLo → Prop), (∀ x, k x → ∃ n, k' n x) → sJ ls i v k → ∃ n, sJ ls i v (k' n) := by
  intro ls
  induction ls with
  | nil => intro i k k' h z; cases i <;> exact ⟨0, z⟩
  | cons a t ih =>
    intro i k k' h z
    cases i with
    | zero => cases t with
      | nil => exact ⟨0, z⟩
      | cons b t => exact h _ z
    | succ n =>
      have e : ∀ kk : mLo → Prop, sJ (a :: t) (n + 1) v kk = sJ t n v (fun t' => kk (kL n a :: t')) := fun kk => by cases t <;> rfl
      rw [e] at z
      obtain ⟨q, hq⟩ := ih n (fun t' => k (kL n a :: t')) (fun q t' => k' q (kL n a :: t')) (fun x => h _) z
      exact ⟨q, by rw [e]; exact hq⟩
theorem popA_ex : ∀ {n : Nat} {st acc : List mV} {k : List mV → List mV → Prop} {k' : Nat → List mV → List mV → Prop}, (∀ x t, k x t → ∃ q, k' q x t) → popA n st acc k → ∃ q, popA n st acc (k' q) := by
  intro n
  induction n with
  | zero => intro st acc k k' h z; cases st <;> exact h _ _ z
  | succ n ih =>
    intro st acc k k' h z
    cases st with
    | nil => exact ⟨0, z⟩
    | cons v t => exact ih h z
theorem pushR_ex {r : Option mV} {st : List mV} {k : List mV → Prop} {k' : Nat → List mV → Prop} (h : ∀ x, k x → ∃ n, k' n x) : pushR r st k → ∃ n, pushR r st (k' n) := by
  cases r <;> exact h _
theorem an_e {a c : Prop} {b : Nat → Prop} (h : a → ∃ n, b n) : c ∧ a → ∃ n, c ∧ b n := fun q => (h q.2).imp fun _ z => ⟨q.1, z⟩
/-- of two branches one is taken -/
theorem an_x {a c e f : Prop} {b d : Nat → Prop} (hef : ¬ (e ∧ f)) (h : a → ∃ n, b n) (h' : c → ∃ n, d n) : (e → a) ∧ (f → c) → ∃ n, (e → b n) ∧ (f → d n) := by
  rintro ⟨h1, h2⟩
  by_cases he : e
  · obtain ⟨n, hn⟩ := h (h1 he)
    exact ⟨n, fun _ => hn, fun hf => absurd ⟨he, hf⟩ hef⟩
  · by_cases hf : f
    · obtain ⟨n, hn⟩ := h' (h2 hf)
      exact ⟨n, fun z => absurd z he, fun _ => hn⟩
    · exact ⟨0, fun z => absurd z he, fun z => absurd z hf⟩
theorem ex_e {α : Sort _} {p : α → Prop} {q : Nat → α → Prop} (h : ∀ a, p a → ∃ n, q n a) : (∃ a, p a) → ∃ n, ∃ a, q n a := fun ⟨a, z⟩ => (h a z).imp fun _ y => ⟨a, y⟩
theorem nd_1 {e : Prop} : ¬ (e ∧ ¬ e) := fun h => h.2 h.1
theorem nd_2 {e : Prop} : ¬ (¬ e ∧ e) := fun h => h.1 h.2
set_option maxHeartbeats 4000000 in
theorem ex1_ex {X : (Nat → Int) × Nat} {sc : Bool} {rk d bud pc : Nat} {i : mE} {ls : mLo} {st : List mV} {S : List mSh} {s : mSt} {go : Nat → Nat → mLo → List mV → List mSh → mSt → Prop} {go' : Nat → Nat → Nat → mLo → List mV → List mSh → mSt → Prop} {call : Nat → List mV → List mSh → mSt → mRt → Prop} {call' : Nat → Nat → List mV → List mSh → mSt → mRt → Prop} {ret : mRt} {ret' : Nat → mRt}
    (hg : ∀ b p l t S s, go b p l t S s → ∃ n, go' n b p l t S s) (hc : ∀ m a S s (K : mRt) (K' : Nat → mRt), (∀ r S s, K r S s → ∃ n, K' n r S s) → call m a S s K → ∃ n, call' n m a S s (K' n)) (hr : ∀ r S s, ret r S s → ∃ n, ret' n r S s) :
    ex1 X sc rk d bud pc i ls st S s go call ret → ∃ n, ex1 X sc rk d bud pc i ls st S s (go' n) (call' n) (ret' n) := by
  obtain ⟨op, len, a, b, c, e⟩ := i
  cases op
  case ldc =>
    dsimp only [ex1]
    split <;> exact hg _ _ _ _ _ _
  case ifCond cd _ => cases cd <;> first | exact eI_ex fun _ _ => an_x nd_1 (hg _ _ _ _ _ _) (hg _ _ _ _ _ _) | exact eI_ex fun _ _ => an_x nd_2 (hg _ _ _ _ _ _) (hg _ _ _ _ _ _)
  case if_icmp cd _ => cases cd <;> first | exact eI_ex fun _ _ => eI_ex fun _ _ => an_x nd_1 (hg _ _ _ _ _ _) (hg _ _ _ _ _ _) | exact eI_ex fun _ _ => eI_ex fun _ _ => an_x nd_2 (hg _ _ _ _ _ _) (hg _ _ _ _ _ _)
  case ifnonnull => exact eO_ex fun _ _ => an_x nd_2 (hg _ _ _ _ _ _) (hg _ _ _ _ _ _)
  case getfield =>
    refine eR_ex fun _ _ => an_e ?_
    dsimp only
    split
    · exact hg _ _ _ _ _ _
    · exact hg _ _ _ _ _ _
    · exact ex_e fun _ => an_e (hg _ _ _ _ _ _)
    · exact hg _ _ _ _ _ _
  case putfield =>
    dsimp only [ex1]
    split
    · exact eI_ex fun _ _ => eR_ex fun _ _ => an_e (hg _ _ _ _ _ _)
    · exact eJ_ex fun _ _ => eR_ex fun _ _ => an_e (hg _ _ _ _ _ _)
    · exact eR_ex fun _ _ => eR_ex fun _ _ => an_e (hg _ _ _ _ _ _)
    · exact eI_ex fun _ _ => eR_ex fun _ _ => an_e (an_e (hg _ _ _ _ _ _))
  case iaload =>
    cases sc
    · exact eI_ex fun _ _ => eR_ex fun _ _ => ex_e fun _ => an_e (an_e (hg _ _ _ _ _ _))
    · exact eI_ex fun _ _ => eX_ex fun _ _ => an_e (an_e (an_e (hg _ _ _ _ _ _)))
  case arraylength =>
    cases sc
    · exact eR_ex fun _ _ => ex_e fun _ => ex_e fun _ => an_e (an_e (hg _ _ _ _ _ _))
    · exact eX_ex fun _ _ => an_e (hg _ _ _ _ _ _)
  case baload => exact eI_ex fun _ _ => eR_ex fun _ _ => ex_e fun _ => ex_e fun _ => an_e (an_e (an_e (hg _ _ _ _ _ _)))
  case caload => exact eI_ex fun _ _ => eR_ex fun _ _ => ex_e fun _ => an_e (an_e (hg _ _ _ _ _ _))
  case laload => exact eI_ex fun _ _ => eR_ex fun _ _ => ex_e fun _ => an_e (an_e (hg _ _ _ _ _ _))
  case aaload => exact eI_ex fun _ _ => eR_ex fun _ _ => ex_e fun _ => ex_e fun _ => an_e (an_e (an_e (ex_e fun _ => an_e (hg _ _ _ _ _ _))))
  case iastore => exact eI_ex fun _ _ => eI_ex fun _ _ => eR_ex fun _ _ => ex_e fun _ => an_e (an_e (hg _ _ _ _ _ _))
  case bastore => exact eI_ex fun _ _ => eI_ex fun _ _ => eR_ex fun _ _ => ex_e fun _ => ex_e fun _ => an_e (an_e (an_e (hg _ _ _ _ _ _)))
  case castore => exact eI_ex fun _ _ => eI_ex fun _ _ => eR_ex fun _ _ => ex_e fun _ => an_e (an_e (an_e (hg _ _ _ _ _ _)))
  case lastore => exact eJ_ex fun _ _ => eI_ex fun _ _ => eR_ex fun _ _ => ex_e fun _ => an_e (an_e (hg _ _ _ _ _ _))
  case aastore => exact eR_ex fun _ _ => eI_ex fun _ _ => eR_ex fun _ _ => ex_e fun _ => ex_e fun _ => an_e (an_e (an_e (hg _ _ _ _ _ _)))
  case new => cases bud <;> first | exact fun z => ⟨0, z⟩ | exact an_e (hg _ _ _ _ _ _)
  case newarray => cases bud <;> first | exact fun z => ⟨0, z⟩ | exact eI_ex fun _ _ => an_e (hg _ _ _ _ _ _)
  case anewarray => cases bud <;> first | exact fun z => ⟨0, z⟩ | exact eI_ex fun _ _ => an_e (hg _ _ _ _ _ _)
  case multianewarray => exact eI_ex fun _ _ => eI_ex fun _ _ => an_e (hg _ _ _ _ _ _)
  case invokespecial =>
    dsimp only [ex1]
    split
    · exact eR_ex fun _ _ => an_e (hg _ _ _ _ _ _)
    · exact popA_ex fun _ _ => an_e (an_e (hc _ _ _ _ _ _ fun _ _ _ => pushR_ex fun _ => hg _ _ _ _ _ _))
  case invokevirtual =>
    dsimp only [ex1]
    split
    · exact eX_ex fun _ _ => an_e (an_e (hg _ _ _ _ _ _))
    · exact eI_ex fun _ _ => eX_ex fun _ _ => an_e (an_e (an_e (hg _ _ _ _ _ _)))
    · exact popA_ex fun _ _ => an_e (an_e (hc _ _ _ _ _ _ fun _ _ _ => pushR_ex fun _ => hg _ _ _ _ _ _))
  case invokestatic =>
    dsimp only [ex1]
    split
    · exact eI_ex fun _ _ => eI_ex fun _ _ => an_e (hg _ _ _ _ _ _)
    · exact eI_ex fun _ _ => eI_ex fun _ _ => an_e (hg _ _ _ _ _ _)
    · exact eI_ex fun _ _ => eI_ex fun _ _ => eR_ex fun _ _ => eI_ex fun _ _ => eR_ex fun _ _ => an_e (an_e (an_e (hg _ _ _ _ _ _)))
    · exact popA_ex fun _ _ => an_e (hc _ _ _ _ _ _ fun _ _ _ => pushR_ex fun _ => hg _ _ _ _ _ _)
  case return_ =>
    dsimp only [ex1]
    split
    · exact an_e (hr _ _ _)
    · exact fun z => ⟨0, z⟩
  case ireturn =>
    dsimp only [ex1]
    split
    · exact an_e (hr _ _ _)
    · exact fun z => ⟨0, z⟩
  case lreturn =>
    dsimp only [ex1]
    split
    · exact an_e (hr _ _ _)
    · exact fun z => ⟨0, z⟩
  case areturn =>
    dsimp only [ex1]
    split
    · exact an_e (hr _ _ _)
    · exact fun z => ⟨0, z⟩
  case aload =>
    dsimp only [ex1]
    exact gA_ex fun _ => hg _ _ _ _ _ _
  case aload_n =>
    dsimp only [ex1]
    exact gA_ex fun _ => hg _ _ _ _ _ _
  case pop =>
    dsimp only [ex1]
    exact eW_ex fun _ _ => hg _ _ _ _ _ _
  case dup =>
    dsimp only [ex1]
    exact eW_ex fun _ _ => hg _ _ _ _ _ _
  case dup2 =>
    dsimp only [ex1]
    exact eW_ex fun _ _ => eW_ex fun _ _ => hg _ _ _ _ _ _
  all_goals first
    | exact hg _ _ _ _ _ _
    | exact fun z => ⟨0, z⟩
    | exact gI_ex fun _ => hg _ _ _ _ _ _
    | exact gJ_ex fun _ => hg _ _ _ _ _ _
    | exact gA_ex fun _ => hg _ _ _ _ _ _
    | exact eI_ex fun _ _ => sL_ex _ _ _ _ fun _ => hg _ _ _ _ _ _
    | exact eJ_ex fun _ _ => sJ_ex _ _ _ _ fun _ => hg _ _ _ _ _ _
    | exact eO_ex fun _ _ => sL_ex _ _ _ _ fun _ => hg _ _ _ _ _ _
    | exact gI_ex fun _ => sL_ex _ _ _ _ fun _ => hg _ _ _ _ _ _
    | exact eW_ex fun _ _ => hg _ _ _ _ _ _
    | exact eW_ex fun _ _ => eW_ex fun _ _ => hg _ _ _ _ _ _
    | exact eI_ex fun _ _ => hg _ _ _ _ _ _
    | exact eJ_ex fun _ _ => hg _ _ _ _ _ _
    | exact eI_ex fun _ _ => eI_ex fun _ _ => hg _ _ _ _ _ _
    | exact eJ_ex fun _ _ => eJ_ex fun _ _ => hg _ _ _ _ _ _
    | exact eI_ex fun _ _ => eJ_ex fun _ _ => hg _ _ _ _ _ _
    | exact eI_ex fun _ _ => eI_ex fun _ _ => an_e (hg _ _ _ _ _ _)
    | exact eJ_ex fun _ _ => eJ_ex fun _ _ => an_e (hg _ _ _ _ _ _)
end
section
/-! the shapes behind the two constructors; runs there -/
def S0_0 : List mSh := [(11, 14, [2, 4, 6, 7, 0, 8, 33, 34, 0, 35, 45, 51, 54, 77]), (8, 7, [3, 0, 0, 0, 0, 0, 0]), (21, 400, []), (1, 2, [2, 5]), (22, 3, []), (6, 2, [2, 0]), (26, 6, []), (7, 6, [9, 19, 29, 0, 0, 0]), (0, 15, [0, 0, 0, 0, 0, 0, 10, 11, 12, 13, 14, 15, 16, 17, 18]), (22, 5, []), (22, 5, []), (22, 6, []), (22, 6, []), (22, 6, []), (22, 30, []), (22, 30, []), (22, 6, []), (22, 6, []), (0, 15, [0, 0, 0, 0, 0, 0, 20, 21, 22, 23, 24, 25, 26, 27, 28]), (22, 5, []), (22, 5, []), (22, 6, []), (22, 6, []), (22, 6, []), (22, 30, []), (22, 30, []), (22, 6, []), (22, 6, []), (3, 4, [0, 30, 31, 32]), (22, 10, []), (22, 10, []), (22, 10, []), (27, 4, []), (25, 20, []), (0, 15, [0, 0, 0, 0, 0, 0, 36, 37, 38, 39, 40, 41, 42, 43, 44]), (22, 5, []), (22, 5, []), (22, 6, []), (22, 6, []), (22, 6, []), (22, 30, []), (22, 30, []), (22, 6, []), (22, 6, []), (4, 13, [46, 47, 48, 49, 0, 0, 0, 0, 0, 0, 0, 50, 0]), (22, 5, []), (22, 5, []), (22, 5, []), (22, 5, []), (22, 5, []), (10, 3, [45, 52, 53]), (23, 11, []), (23, 60, []), (9, 13, [45, 51, 55, 0, 0, 65, 66, 0, 0, 0, 67, 68, 69]), (0, 15, [0, 0, 0, 0, 0, 0, 56, 57, 58, 59, 60, 61, 62, 63, 64]), (22, 5, []), (22, 5, []), (22, 6, []), (22, 6, []), (22, 6, [])]
def S0_1 : List mSh := [(22, 30, []), (22, 30, []), (22, 6, []), (22, 6, []), (22, 4, []), (22, 4, []), (22, 16, []), (22, 16, []), (28, 7, []), (22, 30, []), (22, 30, []), (22, 30, []), (22, 30, []), (22, 30, []), (22, 30, []), (22, 30, []), (2, 4, [78, 81, 82, 83]), (28, 2, []), (22, 30, []), (22, 30, []), (22, 2, []), (22, 6, []), (22, 6, []), (5, 5, [85, 0, 86, 87, 0]), (22, 400, []), (22, 12, []), (22, 12, []), (5, 5, [89, 0, 90, 91, 0]), (22, 400, []), (22, 12, []), (22, 12, []), (5, 5, [93, 0, 94, 95, 0]), (22, 400, []), (22, 12, []), (22, 12, []), (5, 5, [97, 0, 98, 99, 0]), (22, 400, []), (22, 12, []), (22, 12, []), (5, 5, [101, 0, 102, 103, 0]), (22, 400, []), (22, 12, []), (22, 12, []), (5, 5, [105, 0, 106, 107, 0]), (22, 400, []), (22, 12, []), (22, 12, []), (7, 6, [109, 119, 129, 0, 0, 0]), (0, 15, [0, 0, 0, 0, 0, 0, 110, 111, 112, 113, 114, 115, 116, 117, 118]), (22, 5, []), (22, 5, []), (22, 6, []), (22, 6, []), (22, 6, []), (22, 30, []), (22, 30, []), (22, 6, []), (22, 6, []), (0, 15, [0, 0, 0, 0, 0, 0, 120, 121, 122, 123, 124, 125, 126, 127, 128]), (22, 5, [])]
def S0_2 : List mSh := [(22, 5, []), (22, 6, []), (22, 6, []), (22, 6, []), (22, 30, []), (22, 30, []), (22, 6, []), (22, 6, []), (3, 4, [0, 130, 131, 132]), (22, 10, []), (22, 10, []), (22, 10, []), (7, 6, [134, 144, 154, 0, 0, 0]), (0, 15, [0, 0, 0, 0, 0, 0, 135, 136, 137, 138, 139, 140, 141, 142, 143]), (22, 5, []), (22, 5, []), (22, 6, []), (22, 6, []), (22, 6, []), (22, 30, []), (22, 30, []), (22, 6, []), (22, 6, []), (0, 15, [0, 0, 0, 0, 0, 0, 145, 146, 147, 148, 149, 150, 151, 152, 153]), (22, 5, []), (22, 5, []), (22, 6, []), (22, 6, []), (22, 6, []), (22, 30, []), (22, 30, []), (22, 6, []), (22, 6, []), (3, 4, [0, 155, 156, 157]), (22, 10, []), (22, 10, []), (22, 10, []), (7, 6, [159, 169, 179, 0, 0, 0]), (0, 15, [0, 0, 0, 0, 0, 0, 160, 161, 162, 163, 164, 165, 166, 167, 168]), (22, 5, []), (22, 5, []), (22, 6, []), (22, 6, []), (22, 6, []), (22, 30, []), (22, 30, []), (22, 6, []), (22, 6, []), (0, 15, [0, 0, 0, 0, 0, 0, 170, 171, 172, 173, 174, 175, 176, 177, 178]), (22, 5, []), (22, 5, []), (22, 6, []), (22, 6, []), (22, 6, []), (22, 30, []), (22, 30, []), (22, 6, []), (22, 6, []), (3, 4, [0, 180, 181, 182]), (22, 10, [])]
def S0_3 : List mSh := [(22, 10, []), (22, 10, []), (7, 6, [184, 194, 204, 0, 0, 0]), (0, 15, [0, 0, 0, 0, 0, 0, 185, 186, 187, 188, 189, 190, 191, 192, 193]), (22, 5, []), (22, 5, []), (22, 6, []), (22, 6, []), (22, 6, []), (22, 30, []), (22, 30, []), (22, 6, []), (22, 6, []), (0, 15, [0, 0, 0, 0, 0, 0, 195, 196, 197, 198, 199, 200, 201, 202, 203]), (22, 5, []), (22, 5, []), (22, 6, []), (22, 6, []), (22, 6, []), (22, 30, []), (22, 30, []), (22, 6, []), (22, 6, []), (3, 4, [0, 205, 206, 207]), (22, 10, []), (22, 10, []), (22, 10, []), (0, 15, [0, 0, 0, 0, 0, 0, 209, 210, 211, 212, 213, 214, 215, 216, 217]), (22, 5, []), (22, 5, []), (22, 6, []), (22, 6, []), (22, 6, []), (22, 30, []), (22, 30, []), (22, 6, []), (22, 6, []), (0, 15, [0, 0, 0, 0, 0, 0, 219, 220, 221, 222, 223, 224, 225, 226, 227]), (22, 5, []), (22, 5, []), (22, 6, []), (22, 6, []), (22, 6, []), (22, 30, []), (22, 30, []), (22, 6, []), (22, 6, []), (0, 15, [0, 0, 0, 0, 0, 0, 229, 230, 231, 232, 233, 234, 235, 236, 237]), (22, 5, []), (22, 5, []), (22, 6, []), (22, 6, []), (22, 6, []), (22, 30, []), (22, 30, []), (22, 6, []), (22, 6, []), (0, 15, [0, 0, 0, 0, 0, 0, 239, 240, 241, 242, 243, 244, 245, 246, 247]), (22, 5, []), (22, 5, [])]
def S0_4 : List mSh := [(22, 6, []), (22, 6, []), (22, 6, []), (22, 30, []), (22, 30, []), (22, 6, []), (22, 6, []), (0, 15, [0, 0, 0, 0, 0, 0, 249, 250, 251, 252, 253, 254, 255, 256, 257]), (22, 5, []), (22, 5, []), (22, 6, []), (22, 6, []), (22, 6, []), (22, 30, []), (22, 30, []), (22, 6, []), (22, 6, []), (0, 15, [0, 0, 0, 0, 0, 0, 259, 260, 261, 262, 263, 264, 265, 266, 267]), (22, 5, []), (22, 5, []), (22, 6, []), (22, 6, []), (22, 6, []), (22, 30, []), (22, 30, []), (22, 6, []), (22, 6, []), (0, 15, [0, 0, 0, 0, 0, 0, 269, 270, 271, 272, 273, 274, 275, 276, 277]), (22, 5, []), (22, 5, []), (22, 6, []), (22, 6, []), (22, 6, []), (22, 30, []), (22, 30, []), (22, 6, []), (22, 6, []), (0, 15, [0, 0, 0, 0, 0, 0, 279, 280, 281, 282, 283, 284, 285, 286, 287]), (22, 5, []), (22, 5, []), (22, 6, []), (22, 6, []), (22, 6, []), (22, 30, []), (22, 30, []), (22, 6, []), (22, 6, []), (0, 15, [0, 0, 0, 0, 0, 0, 289, 290, 291, 292, 293, 294, 295, 296, 297]), (22, 5, []), (22, 5, []), (22, 6, []), (22, 6, []), (22, 6, []), (22, 30, []), (22, 30, []), (22, 6, []), (22, 6, []), (0, 15, [0, 0, 0, 0, 0, 0, 299, 300, 301, 302, 303, 304, 305, 306, 307]), (22, 5, []), (22, 5, [])]
def S0_5 : List mSh := [(22, 6, []), (22, 6, []), (22, 6, []), (22, 30, []), (22, 30, []), (22, 6, []), (22, 6, []), (0, 15, [0, 0, 0, 0, 0, 0, 309, 310, 311, 312, 313, 314, 315, 316, 317]), (22, 5, []), (22, 5, []), (22, 6, []), (22, 6, []), (22, 6, []), (22, 30, []), (22, 30, []), (22, 6, []), (22, 6, []), (0, 15, [0, 0, 0, 0, 0, 0, 319, 320, 321, 322, 323, 324, 325, 326, 327]), (22, 5, []), (22, 5, []), (22, 6, []), (22, 6, []), (22, 6, []), (22, 30, []), (22, 30, []), (22, 6, []), (22, 6, []), (0, 15, [0, 0, 0, 0, 0, 0, 329, 330, 331, 332, 333, 334, 335, 336, 337]), (22, 5, []), (22, 5, []), (22, 6, []), (22, 6, []), (22, 6, []), (22, 30, []), (22, 30, []), (22, 6, []), (22, 6, []), (0, 15, [0, 0, 0, 0, 0, 0, 339, 340, 341, 342, 343, 344, 345, 346, 347]), (22, 5, []), (22, 5, []), (22, 6, []), (22, 6, []), (22, 6, []), (22, 30, []), (22, 30, []), (22, 6, []), (22, 6, []), (0, 15, [0, 0, 0, 0, 0, 0, 349, 350, 351, 352, 353, 354, 355, 356, 357]), (22, 5, []), (22, 5, []), (22, 6, []), (22, 6, []), (22, 6, []), (22, 30, []), (22, 30, []), (22, 6, []), (22, 6, []), (0, 15, [0, 0, 0, 0, 0, 0, 359, 360, 361, 362, 363, 364, 365, 366, 367]), (22, 5, []), (22, 5, [])]
def S0_6 : List mSh := [(22, 6, []), (22, 6, []), (22, 6, []), (22, 30, []), (22, 30, []), (22, 6, []), (22, 6, []), (0, 15, [0, 0, 0, 0, 0, 0, 369, 370, 371, 372, 373, 374, 375, 376, 377]), (22, 5, []), (22, 5, []), (22, 6, []), (22, 6, []), (22, 6, []), (22, 30, []), (22, 30, []), (22, 6, []), (22, 6, []), (0, 15, [0, 0, 0, 0, 0, 0, 379, 380, 381, 382, 383, 384, 385, 386, 387]), (22, 5, []), (22, 5, []), (22, 6, []), (22, 6, []), (22, 6, []), (22, 30, []), (22, 30, []), (22, 6, []), (22, 6, []), (0, 15, [0, 0, 0, 0, 0, 0, 389, 390, 391, 392, 393, 394, 395, 396, 397]), (22, 5, []), (22, 5, []), (22, 6, []), (22, 6, []), (22, 6, []), (22, 30, []), (22, 30, []), (22, 6, []), (22, 6, []), (0, 15, [0, 0, 0, 0, 0, 0, 399, 400, 401, 402, 403, 404, 405, 406, 407]), (22, 5, []), (22, 5, []), (22, 6, []), (22, 6, []), (22, 6, []), (22, 30, []), (22, 30, []), (22, 6, []), (22, 6, []), (12, 58, [409, 0, 0, 410, 411, 412, 413, 414, 0, 0, 0, 0, 0, 0, 0, 415, 0, 416, 0, 417, 418, 0, 0, 419, 420, 421, 422, 423, 0, 0, 0, 0, 0, 0, 0, 0, 424, 0, 425, 426, 427, 428, 429, 430, 431, 432, 433, 0, 0, 0, 434, 435, 436, 0, 437, 438, 439, 440]), (20, 400, []), (22, 2400, []), (22, 7, []), (22, 288, []), (22, 6, []), (22, 135, []), (22, 400, []), (23, 64, []), (23, 11, []), (22, 166, []), (22, 30, []), (22, 5, [])]
def S0_7 : List mSh := [(22, 5, []), (22, 5, []), (22, 5, []), (22, 1440, []), (22, 120, []), (22, 2, []), (22, 6, []), (22, 6, []), (22, 6, []), (22, 72, []), (22, 4, []), (22, 4, []), (22, 4, []), (22, 32, []), (24, 7, []), (22, 210, []), (22, 664, []), (22, 4, []), (22, 4, []), (24, 4, [])]
def S0 : List mSh := S0_0 ++ S0_1 ++ S0_2 ++ S0_3 ++ S0_4 ++ S0_5 ++ S0_6 ++ S0_7
theorem wp_ex {X : (Nat → Int) × Nat} : ∀ (n : Nat) {d bud mi pc : Nat} {ls : mLo} {st : List mV} {S : List mSh} {s : mSt} {Q : mRt} {Q' : Nat → mRt}, (∀ r S s, Q r S s → ∃ k, Q' k r S s) → wp X n d bud mi pc ls st S s Q → ∃ k, wp X n d bud mi pc ls st S s (Q' k) := by
  intro n
  induction n with
  | zero => intro d bud mi pc ls st S s Q Q' hq h; exact False.elim h
  | succ n ih =>
    intro d bud mi pc ls st S s Q Q' hq h
    unfold wp at h ⊢
    cases hf : mFetch mi pc with
    | none => rw [hf] at h; exact False.elim h
    | some i =>
      rw [hf] at h
      dsimp only at h ⊢
      refine ex1_ex (go' := fun k bud pc ls st S s => wp X n d bud mi pc ls st S s (Q' k)) (call' := fun _ mj as S s K => dC d fun d' => (mArgs as).length ≤ mML mj ∧ wp X n d' (mCe mj) mj 0 (mLoc as (mML mj)) [] S s K) (ret' := Q') (fun b p l t S s z => ih hq z) (fun m a S s K K' hk z => ?_) hq h
      cases d with
      | zero => exact False.elim z
      | succ d => exact (ih hk z.2).imp fun _ y => ⟨z.1, y⟩
abbrev mQ : Type := Option mV → mSt → Prop
def QQ (Q : mQ) : mRt := fun r S' s' => S' = S0 ∧ Q r s'
/-- from here the method comes to its end, and Q holds there -/
def Wp (X : (Nat → Int) × Nat) (d mi pc : Nat) (ls : mLo) (st : List mV) (s : mSt) (Q : mQ) : Prop := ∃ n, wp X n d 0 mi pc ls st S0 s (QQ Q)
/-- a call of the method comes to its end, and Q holds there -/
def Sp (X : (Nat → Int) × Nat) (d mj : Nat) (as : List mV) (s : mSt) (Q : mQ) : Prop := (mArgs as).length ≤ mML mj ∧ ∃ n, wp X n d (mCe mj) mj 0 (mLoc as (mML mj)) [] S0 s (QQ Q)
theorem Wp.imp {X : (Nat → Int) × Nat} {d mi pc : Nat} {ls : mLo} {st : List mV} {s : mSt} {Q Q' : mQ} (h : Wp X d mi pc ls st s Q) (hq : ∀ r s, Q r s → Q' r s) : Wp X d mi pc ls st s Q' := Exists.imp (fun _ z => wp_mono (Nat.le_refl _) (fun r S s q => ⟨q.1, hq r s q.2⟩) z) h
theorem Sp.imp {X : (Nat → Int) × Nat} {d mj : Nat} {as : List mV} {s : mSt} {Q Q' : mQ} (h : Sp X d mj as s Q) (hq : ∀ r s, Q r s → Q' r s) : Sp X d mj as s Q' := ⟨h.1, Exists.imp (fun _ z => wp_mono (Nat.le_refl _) (fun r S s q => ⟨q.1, hq r s q.2⟩) z) h.2⟩
def sfI (i : mE) : Bool := match i.1 with
  | .putfield _ => i.2.2.2.2.1 != 2
  | _ => true
abbrev mGo (X : (Nat → Int) × Nat) (d mi : Nat) (Q : mQ) : Nat → Nat → mLo → List mV → List mSh → mSt → Prop := fun _ p l t _ s => Wp X d mi p l t s Q
abbrev mCa (X : (Nat → Int) × Nat) (d : Nat) : Nat → List mV → List mSh → mSt → mRt → Prop := fun mj as _ s K => ∃ d', d = d' + 1 ∧ Sp X d' mj as s (fun r s' => K r S0 s')
theorem ml_g {X : (Nat → Int) × Nat} {d mi p : Nat} {l : mLo} {t : List mV} {s : mSt} {Q : mQ} : Wp X d mi p l t s Q → ∃ n, wp X n d 0 mi p l t S0 s (QQ Q) := id
theorem ml_z {X : (Nat → Int) × Nat} {d mi p b : Nat} {l : mLo} {t : List mV} {s : mSt} {Q : mQ} : Wp X d mi p l t s Q → ∃ n, wp X n d (0 - b) mi p l t S0 s (QQ Q) := by rw [Nat.zero_sub]; exact id
theorem ml_c {X : (Nat → Int) × Nat} {d mi p b mj : Nat} {as : List mV} {l : mLo} {st : List mV} {s : mSt} {Q : mQ} : (∃ d', d = d' + 1 ∧ Sp X d' mj as s (fun r s' => pushR r st fun st' => Wp X d mi p l st' s' Q)) →
    ∃ n, (dC d fun d' => (mArgs as).length ≤ mML mj ∧ wp X n d' (mCe mj) mj 0 (mLoc as (mML mj)) [] S0 s (fun r S' s' => pushR r st fun st' => wp X n d (0 - b) mi p l st' S' s' (QQ Q))) := by
  rintro ⟨d', rfl, hle, n1, h⟩
  obtain ⟨k, hk⟩ := wp_ex n1 (Q' := fun k r S' s' => pushR r st fun st' => wp X k (d' + 1) (0 - b) mi p l st' S' s' (QQ Q)) (fun r S' s' z => by
    obtain ⟨rfl, z⟩ := z
    exact pushR_ex (fun x q => ml_z q) z) h
  exact ⟨n1 + k, hle, wp_mono (Nat.le_add_right _ _) (fun r S' s' z => pushR_mono (fun x q => wp_mono (Nat.le_add_left _ _) (fun _ _ _ y => y) q) z) hk⟩
theorem mQ_r {Q : mQ} {r : Option mV} {s : mSt} : Q r s → ∃ _n : Nat, QQ Q r S0 s := fun z => ⟨0, rfl, z⟩
set_option maxHeartbeats 4000000 in
theorem ex1_main {X : (Nat → Int) × Nat} {sc : Bool} {rk d mi pc : Nat} {i : mE} {ls : mLo} {st : List mV} {s : mSt} {Q : mQ} (hs : sfI i = true) :
    ex1 X sc rk d 0 pc i ls st S0 s (mGo X d mi Q) (mCa X d) (fun r _ s => Q r s) → ∃ n, ex1 X sc rk d 0 pc i ls st S0 s (fun b p l t S s => wp X n d b mi p l t S s (QQ Q))
        (fun mj as S s K => dC d fun d' => (mArgs as).length ≤ mML mj ∧ wp X n d' (mCe mj) mj 0 (mLoc as (mML mj)) [] S s K) (QQ Q) := by
  obtain ⟨op, len, a, b, c, e⟩ := i
  cases op
  case ldc =>
    dsimp only [ex1]
    split <;> exact ml_g
  case ifCond cd _ => cases cd <;> first | exact eI_ex fun _ _ => an_x nd_1 ml_g ml_g | exact eI_ex fun _ _ => an_x nd_2 ml_g ml_g
  case if_icmp cd _ => cases cd <;> first | exact eI_ex fun _ _ => eI_ex fun _ _ => an_x nd_1 ml_g ml_g | exact eI_ex fun _ _ => eI_ex fun _ _ => an_x nd_2 ml_g ml_g
  case ifnonnull => exact eO_ex fun _ _ => an_x nd_2 ml_g ml_g
  case getfield =>
    refine eR_ex fun _ _ => an_e ?_
    dsimp only
    split
    · exact ml_g
    · exact ml_g
    · exact ex_e fun _ => an_e ml_g
    · exact ml_g
  case putfield =>
    dsimp only [ex1]
    split
    · exact eI_ex fun _ _ => eR_ex fun _ _ => an_e ml_g
    · exact eJ_ex fun _ _ => eR_ex fun _ _ => an_e ml_g
    · exact (Bool.false_ne_true hs).elim
    · exact eI_ex fun _ _ => eR_ex fun _ _ => an_e (an_e ml_g)
  case iaload =>
    cases sc
    · exact eI_ex fun _ _ => eR_ex fun _ _ => ex_e fun _ => an_e (an_e ml_g)
    · exact eI_ex fun _ _ => eX_ex fun _ _ => an_e (an_e (an_e ml_g))
  case arraylength =>
    cases sc
    · exact eR_ex fun _ _ => ex_e fun _ => ex_e fun _ => an_e (an_e ml_g)
    · exact eX_ex fun _ _ => an_e ml_g
  case baload => exact eI_ex fun _ _ => eR_ex fun _ _ => ex_e fun _ => ex_e fun _ => an_e (an_e (an_e ml_g))
  case caload => exact eI_ex fun _ _ => eR_ex fun _ _ => ex_e fun _ => an_e (an_e ml_g)
  case laload => exact eI_ex fun _ _ => eR_ex fun _ _ => ex_e fun _ => an_e (an_e ml_g)
  case aaload => exact eI_ex fun _ _ => eR_ex fun _ _ => ex_e fun _ => ex_e fun _ => an_e (an_e (an_e (ex_e fun _ => an_e ml_g)))
  case iastore => exact eI_ex fun _ _ => eI_ex fun _ _ => eR_ex fun _ _ => ex_e fun _ => an_e (an_e ml_g)
  case bastore => exact eI_ex fun _ _ => eI_ex fun _ _ => eR_ex fun _ _ => ex_e fun _ => ex_e fun _ => an_e (an_e (an_e ml_g))
  case castore => exact eI_ex fun _ _ => eI_ex fun _ _ => eR_ex fun _ _ => ex_e fun _ => an_e (an_e (an_e ml_g))
  case lastore => exact eJ_ex fun _ _ => eI_ex fun _ _ => eR_ex fun _ _ => ex_e fun _ => an_e (an_e ml_g)
  case aastore => exact eR_ex fun _ _ => eI_ex fun _ _ => eR_ex fun _ _ => ex_e fun _ => ex_e fun _ => an_e (an_e (an_e ml_g))
  case new => exact fun z => ⟨0, z⟩
  case newarray => exact fun z => ⟨0, z⟩
  case anewarray => exact fun z => ⟨0, z⟩
  case multianewarray => exact eI_ex fun _ _ => eI_ex fun _ _ => fun z => absurd z.1.2.2.2.2.1 (by omega)
  case invokespecial =>
    dsimp only [ex1]
    split
    · exact eR_ex fun _ _ => an_e ml_g
    · exact popA_ex fun _ _ => an_e (an_e ml_c)
  case invokevirtual =>
    dsimp only [ex1]
    split
    · exact eX_ex fun _ _ => an_e (an_e ml_g)
    · exact eI_ex fun _ _ => eX_ex fun _ _ => an_e (an_e (an_e ml_g))
    · exact popA_ex fun _ _ => an_e (an_e ml_c)
  case invokestatic =>
    dsimp only [ex1]
    split
    · exact eI_ex fun _ _ => eI_ex fun _ _ => an_e ml_g
    · exact eI_ex fun _ _ => eI_ex fun _ _ => an_e ml_g
    · exact eI_ex fun _ _ => eI_ex fun _ _ => eR_ex fun _ _ => eI_ex fun _ _ => eR_ex fun _ _ => an_e (an_e (an_e ml_g))
    · exact popA_ex fun _ _ => an_e ml_c
  case return_ =>
    dsimp only [ex1]
    split
    · exact an_e mQ_r
    · exact fun z => ⟨0, z⟩
  case ireturn =>
    dsimp only [ex1]
    split
    · exact an_e mQ_r
    · exact fun z => ⟨0, z⟩
  case lreturn =>
    dsimp only [ex1]
    split
    · exact an_e mQ_r
    · exact fun z => ⟨0, z⟩
  case areturn =>
    dsimp only [ex1]
    split
    · exact an_e mQ_r
    · exact fun z => ⟨0, z⟩
  case aload =>
    dsimp only [ex1]
    exact gA_ex fun _ => ml_g
  case aload_n =>
    dsimp only [ex1]
    exact gA_ex fun _ => ml_g
  case pop =>
    dsimp only [ex1]
    exact eW_ex fun _ _ => ml_g
  case dup =>
    dsimp only [ex1]
    exact eW_ex fun _ _ => ml_g
  case dup2 =>
    dsimp only [ex1]
    exact eW_ex fun _ _ => eW_ex fun _ _ => ml_g
  all_goals first
    | exact ml_g
    | exact fun z => ⟨0, z⟩
    | exact gI_ex fun _ => ml_g
    | exact gJ_ex fun _ => ml_g
    | exact gA_ex fun _ => ml_g
    | exact eI_ex fun _ _ => sL_ex _ _ _ _ fun _ => ml_g
    | exact eJ_ex fun _ _ => sJ_ex _ _ _ _ fun _ => ml_g
    | exact eO_ex fun _ _ => sL_ex _ _ _ _ fun _ => ml_g
    | exact gI_ex fun _ => sL_ex _ _ _ _ fun _ => ml_g
    | exact eW_ex fun _ _ => ml_g
    | exact eW_ex fun _ _ => eW_ex fun _ _ => ml_g
    | exact eI_ex fun _ _ => ml_g
    | exact eJ_ex fun _ _ => ml_g
    | exact eI_ex fun _ _ => eI_ex fun _ _ => ml_g
    | exact eJ_ex fun _ _ => eJ_ex fun _ _ => ml_g
    | exact eI_ex fun _ _ => eJ_ex fun _ _ => ml_g
    | exact eI_ex fun _ _ => eI_ex fun _ _ => an_e ml_g
    | exact eJ_ex fun _ _ => eJ_ex fun _ _ => an_e ml_g
theorem Wp_step {X : (Nat → Int) × Nat} {rk d mi pc : Nat} {i : mE} {ls : mLo} {st : List mV} {s : mSt} {Q : mQ} (hk : mRk (mi + 1) = rk) (hf : mFetch (mi + 1) pc = some i) (h : ex1 X false rk d 0 pc i ls st S0 s (mGo X d (mi + 1) Q) (mCa X d) (fun r _ s => Q r s)) (hs : sfI i = true := by rfl) : Wp X d (mi + 1) pc ls st s Q := by
  obtain ⟨n, hn⟩ := ex1_main hs h
  refine ⟨n + 1, ?_⟩
  unfold wp
  rw [hf]
  subst hk
  exact hn
theorem Sp_of {X : (Nat → Int) × Nat} {d mj : Nat} {as : List mV} {ls : mLo} {s : mSt} {Q : mQ} (h0 : mCe mj = 0) (hl : mLoc as (mML mj) = ls) (hm : (mArgs as).length ≤ mML mj) (h : Wp X d mj 0 ls [] s Q) : Sp X d mj as s Q := by
  refine ⟨hm, ?_⟩
  rw [h0, hl]
  exact h
end
section
/-! numbers of the small machine and of the machine -/
def nr32 (x : Int) : Prop := -2147483648 ≤ x ∧ x < 2147483648
def nr64 (x : Int) : Prop := -9223372036854775808 ≤ x ∧ x < 9223372036854775808
theorem nr_w32 (x : Int) : nr32 (w32 x) := by
  have h1 := Int.le_bmod (x := x) (m := 4294967296) (by decide)
  have h2 := Int.bmod_lt (x := x) (m := 4294967296) (by decide)
  unfold nr32 w32
  omega
theorem nr_w64 (x : Int) : nr64 (w64 x) := by
  have h1 := Int.le_bmod (x := x) (m := 18446744073709551616) (by decide)
  have h2 := Int.bmod_lt (x := x) (m := 18446744073709551616) (by decide)
  unfold nr64 w64
  omega
theorem nr_w8 (x : Int) : nr32 (w8 x) := by
  have h1 := Int.le_bmod (x := x) (m := 256) (by decide)
  have h2 := Int.bmod_lt (x := x) (m := 256) (by decide)
  unfold nr32 w8
  omega
theorem nr_i (x : Int32) : nr32 x.toInt := by
  have h1 := x.le_toInt
  have h2 := x.toInt_lt
  unfold nr32
  omega
theorem nr_j (x : Int64) : nr64 x.toInt := by
  have h1 := x.le_toInt
  have h2 := x.toInt_lt
  unfold nr64
  omega
theorem nr_up {x : Int} (h : nr32 x) : nr64 x := by unfold nr32 at h; unfold nr64; omega
theorem ti32 {x : Int} (h : nr32 x) : (Int32.ofInt x).toInt = x := Int32.toInt_ofInt_of_le (by unfold nr32 at h; omega) (by unfold nr32 at h; omega)
theorem ti64 {x : Int} (h : nr64 x) : (Int64.ofInt x).toInt = x := Int64.toInt_ofInt_of_le (by unfold nr64 at h; omega) (by unfold nr64 at h; omega)
theorem of_w32 (x : Int) : Int32.ofInt (w32 x) = Int32.ofInt x := by
  rw [← Int32.toInt_inj, Int32.toInt_ofInt, Int32.toInt_ofInt]
  show Int.bmod (Int.bmod x 4294967296) 4294967296 = Int.bmod x 4294967296
  exact Int.bmod_bmod
theorem of_w64 (x : Int) : Int64.ofInt (w64 x) = Int64.ofInt x := by
  rw [← Int64.toInt_inj, Int64.toInt_ofInt, Int64.toInt_ofInt]
  show Int.bmod (Int.bmod x 18446744073709551616) 18446744073709551616 = Int.bmod x 18446744073709551616
  exact Int.bmod_bmod
theorem q_add (x y : Int) : Int32.ofInt x + Int32.ofInt y = Int32.ofInt (w32 (x + y)) := by rw [of_w32, Int32.ofInt_add]
theorem q_sub (x y : Int) : Int32.ofInt x - Int32.ofInt y = Int32.ofInt (w32 (x - y)) := by rw [of_w32, Int32.ofInt_sub]
theorem q_mul (x y : Int) : Int32.ofInt x * Int32.ofInt y = Int32.ofInt (w32 (x * y)) := by rw [of_w32, Int32.ofInt_mul]
theorem q_addL (x y : Int) : Int64.ofInt x + Int64.ofInt y = Int64.ofInt (w64 (x + y)) := by rw [of_w64, Int64.ofInt_add]
theorem q_subL (x y : Int) : Int64.ofInt x - Int64.ofInt y = Int64.ofInt (w64 (x - y)) := by rw [of_w64, Int64.ofInt_sub]
theorem q_mulL (x y : Int) : Int64.ofInt x * Int64.ofInt y = Int64.ofInt (w64 (x * y)) := by rw [of_w64, Int64.ofInt_mul]
theorem q_div {x y : Int} (hx : nr32 x) (hy : nr32 y) : Int32.ofInt x / Int32.ofInt y = Int32.ofInt (w32 (x.tdiv y)) := by
  rw [← Int32.toInt_inj, Int32.toInt_div, ti32 hx, ti32 hy, ti32 (nr_w32 _)]
  rfl
theorem q_divL {x y : Int} (hx : nr64 x) (hy : nr64 y) : Int64.ofInt x / Int64.ofInt y = Int64.ofInt (w64 (x.tdiv y)) := by
  rw [← Int64.toInt_inj, Int64.toInt_div, ti64 hx, ti64 hy, ti64 (nr_w64 _)]
  rfl
theorem q_rem {x y : Int} (hx : nr32 x) (hy : nr32 y) : Int32.ofInt x - Int32.ofInt x / Int32.ofInt y * Int32.ofInt y = Int32.ofInt (x.tmod y) := by
  rw [q_div hx hy, of_w32, ← Int32.ofInt_mul, ← Int32.ofInt_sub]
  congr 1
  have h := Int.tmod_def x y
  rw [h, Int.mul_comm]
theorem q_remL {x y : Int} (hx : nr64 x) (hy : nr64 y) : Int64.ofInt x - Int64.ofInt x / Int64.ofInt y * Int64.ofInt y = Int64.ofInt (x.tmod y) := by
  rw [q_divL hx hy, of_w64, ← Int64.ofInt_mul, ← Int64.ofInt_sub]
  congr 1
  have h := Int.tmod_def x y
  rw [h, Int.mul_comm]
theorem tm_lo {x y : Int} (h : 0 ≤ x) : 0 ≤ x.tmod y ∧ x.tmod y ≤ x := by
  refine ⟨Int.tmod_nonneg y h, ?_⟩
  have h1 : (x.tmod y).natAbs = x.natAbs % y.natAbs := Int.natAbs_tmod ..
  have h2 := Nat.mod_le x.natAbs y.natAbs
  have h3 := Int.tmod_nonneg y h
  omega
theorem tm_hi {x y : Int} (h : x ≤ 0) : x ≤ x.tmod y ∧ x.tmod y ≤ 0 := by
  have h1 := tm_lo (x := -x) (y := y) (by omega)
  rw [Int.neg_tmod] at h1
  omega
theorem nr_rem {x y : Int} (hx : nr32 x) : nr32 (x.tmod y) := by
  unfold nr32 at *
  rcases Int.le_total 0 x with h | h
  · have := tm_lo (y := y) h; omega
  · have := tm_hi (y := y) h; omega
theorem nr_remL {x y : Int} (hx : nr64 x) : nr64 (x.tmod y) := by
  unfold nr64 at *
  rcases Int.le_total 0 x with h | h
  · have := tm_lo (y := y) h; omega
  · have := tm_hi (y := y) h; omega
theorem q_lt {x y : Int} (hx : nr32 x) (hy : nr32 y) : Int32.ofInt x < Int32.ofInt y ↔ x < y := by rw [Int32.lt_iff_toInt_lt, ti32 hx, ti32 hy]
theorem q_le {x y : Int} (hx : nr32 x) (hy : nr32 y) : Int32.ofInt x ≤ Int32.ofInt y ↔ x ≤ y := by rw [Int32.le_iff_toInt_le, ti32 hx, ti32 hy]
theorem q_eq {x y : Int} (hx : nr32 x) (hy : nr32 y) : Int32.ofInt x = Int32.ofInt y ↔ x = y := by rw [← Int32.toInt_inj, ti32 hx, ti32 hy]
theorem q_ltL {x y : Int} (hx : nr64 x) (hy : nr64 y) : Int64.ofInt x < Int64.ofInt y ↔ x < y := by rw [Int64.lt_iff_toInt_lt, ti64 hx, ti64 hy]
theorem q_eqL {x y : Int} (hx : nr64 x) (hy : nr64 y) : Int64.ofInt x = Int64.ofInt y ↔ x = y := by rw [← Int64.toInt_inj, ti64 hx, ti64 hy]
theorem nr_0 : nr32 0 := ⟨by decide, by decide⟩
theorem z32 : (0 : Int32) = Int32.ofInt 0 := rfl
theorem z64 : (0 : Int64) = Int64.ofInt 0 := rfl
theorem q_i2l {x : Int} (hx : nr32 x) : (Int32.ofInt x).toInt64 = Int64.ofInt x := by
  rw [← Int64.toInt_inj, Int32.toInt_toInt64, ti32 hx, ti64 (nr_up hx)]
theorem q_l2i {x : Int} (hx : nr64 x) : (Int64.ofInt x).toInt32 = Int32.ofInt (w32 x) := by
  rw [← Int32.toInt_inj, Int64.toInt_toInt32, ti64 hx, ti32 (nr_w32 _)]
  rfl
theorem q_i2b {x : Int} (hx : nr32 x) : (Int32.ofInt x).toInt8.toInt32 = Int32.ofInt (w8 x) := by
  rw [← Int32.toInt_inj, Int8.toInt_toInt32, Int32.toInt_toInt8, ti32 hx, ti32 (nr_w8 _)]
  rfl
theorem bv_ofInt {x : Int} (h : nr32 x) : ((Int32.ofInt x).toBitVec.toNat : Int) = x % 4294967296 := by
  show ((BitVec.ofInt 32 x).toNat : Int) = _
  rw [BitVec.toNat_ofInt]
  have : (0 : Int) ≤ x % (2 ^ 32 : Nat) := Int.emod_nonneg _ (by decide)
  omega
theorem q_i2c {x : Int} (hx : nr32 x) : ((Int32.ofInt x).toUInt32 % 65536).toInt32 = Int32.ofInt (x % 65536) := by
  rw [pk_char]
  have h := bv_ofInt hx
  show Int32.ofNat _ = _
  rw [show x % 65536 = (((Int32.ofInt x).toBitVec.toNat % 65536 : Nat) : Int) by omega]
  rfl
theorem nr_i2c (x : Int) : nr32 (x % 65536) := by unfold nr32; omega
theorem q_cmp {x y : Int} (hx : nr64 x) (hy : nr64 y) : lg_cmp (Int64.ofInt x) (Int64.ofInt y) = Int32.ofInt (lCmp x y) := by
  unfold lg_cmp lCmp
  by_cases h1 : x < y
  · have h2 : ¬ Int64.ofInt x > Int64.ofInt y := by rw [gt_iff_lt, q_ltL hy hx]; omega
    have h3 : ¬ Int64.ofInt x = Int64.ofInt y := by rw [q_eqL hx hy]; omega
    rw [if_neg h2, if_neg h3, if_pos h1]; rfl
  · by_cases h4 : x = y
    · subst h4
      have h2 : ¬ Int64.ofInt x > Int64.ofInt x := by rw [gt_iff_lt, q_ltL hx hx]; omega
      rw [if_neg h2, if_pos rfl, if_neg h1, if_pos rfl]; rfl
    · have h2 : Int64.ofInt x > Int64.ofInt y := by rw [gt_iff_lt, q_ltL hy hx]; omega
      rw [if_pos h2, if_neg h1, if_neg h4]; rfl
theorem nr_cmp (x y : Int) : nr32 (lCmp x y) := by
  unfold lCmp nr32
  split
  · omega
  · split <;> omega
theorem q_push8 {n : Int} (h : -128 ≤ n ∧ n < 128) : (Int8.ofInt n).toInt32 = Int32.ofInt n := by
  rw [← Int32.toInt_inj, Int8.toInt_toInt32, Int8.toInt_ofInt_of_le (by omega) (by omega), ti32 (by unfold nr32; omega)]
theorem q_push16 {n : Int} (h : -32768 ≤ n ∧ n < 32768) : (Int16.ofInt n).toInt32 = Int32.ofInt n := by
  rw [← Int32.toInt_inj, Int16.toInt_toInt32, Int16.toInt_ofInt_of_le (by omega) (by omega), ti32 (by unfold nr32; omega)]
/-- an index as a number -/
theorem q_ix {j : Int} {n : Nat} (h : 0 ≤ j ∧ j < n) (hn : n < 2147483648) : vp_in (Int32.ofInt j) n ∧ (Int32.ofInt j).toNatClampNeg = j.toNat := by
  have hj : nr32 j := by unfold nr32; omega
  refine ⟨vp_in_iff.mpr (by rw [ti32 hj]; exact h), ?_⟩
  show (Int32.ofInt j).toInt.toNat = j.toNat
  rw [ti32 hj]
end
section
/-! the small machine's cells in the machine's heap: cell k lies at base + k -/
def mFKd (ci j : Nat) : Nat := (mFK.getD ci []).getD j 0
def mNf (ci : Nat) : Nat := match mCl[ci]? with
  | some q => q.2.2
  | none => 0
def mUp (base : Nat) (sp : Nat → Nat) (v : mV) : Value := match v with
  | Sum.inl x => .int (Int32.ofInt x)
  | Sum.inr (Sum.inl x) => .long (Int64.ofInt x)
  | Sum.inr (Sum.inr (Sum.inl none)) => .null
  | Sum.inr (Sum.inr (Sum.inl (some k))) => .ref (base + k)
  | Sum.inr (Sum.inr (Sum.inr j)) => .ref (sp j)
def nrV (v : mV) : Prop := match v with
  | Sum.inl x => nr32 x
  | Sum.inr (Sum.inl x) => nr64 x
  | _ => True
def nrS (st : List mV) : Prop := match st with
  | [] => True
  | v :: t => nrV v ∧ nrS t
def mRf (base r : Nat) : Value := match r with
  | 0 => .null
  | k + 1 => .ref (base + k)
def mFv (base : Nat) (q : mSh) (j : Nat) (x : Int) : Value :=
  if mFKd q.1 j = 1 then .long (Int64.ofInt x) else if mFKd q.1 j = 2 then mRf base (q.2.2.getD j 0) else .int (Int32.ofInt x)
def mRw (base : Nat) (x : Int) : Option Nat := if x < 0 then none else some (base + x.toNat)
def mEnt (base : Nat) (dA : Nat → ClassId) (q : mSh) (f : Nat → Int) : va_E :=
  if q.1 < 20 then .inr (q.1, (List.range (mNf q.1)).map (fun j => mFv base q j (f j)))
  else if q.1 = 23 then .inl (dA q.1, q.2.1, .inr (.inl (fun j => Int64.ofInt (f j))))
  else if q.1 < 25 then .inl (dA q.1, q.2.1, .inl (fun j => Int32.ofInt (f j)))
  else .inl (dA q.1, q.2.1, .inr (.inr (.inr (.inr (fun j => mRw base (f j))))))
def mD : mSh := (99, 0, [])
def mWs (base : Nat) (dA : Nat → ClassId) (S : List mSh) (s : mSt) : va_W := (List.range S.length).map (fun k => (base + k, mEnt base dA (S.getD k mD) (s k)))
/-- what numbers a cell may hold -/
def nrC (q : mSh) (j : Nat) (x : Int) : Prop := if q.1 = 23 ∨ (q.1 < 20 ∧ mFKd q.1 j = 1) then nr64 x else if q.1 < 25 then nr32 x else True
def nrH (S : List mSh) (s : mSt) : Prop := ∀ (k : Nat) (q : mSh), S[k]? = some q → q.2.1 ≤ 2400 ∧ ∀ j, nrC q j (s k j)
def mTys (dA : Nat → ClassId) : List (ClassId × FieldType) := [(dA 20, .byte), (dA 21, .char), (dA 22, .int), (dA 23, .long), (dA 24, .boolean), (dA 25, .object "ClashDay$Board"), (dA 26, .object "ClashDay$Rule"), (dA 27, .object "ClashDay$Scene"), (dA 28, .array .int)]
def mA (base : Nat) : Nat → Prop := fun q => base ≤ q
def HV (base : Nat) (D : va_G) (dA : Nat → ClassId) (H0 : Heap) (S : List mSh) (s : mSt) (H : Heap) (locs : List Loc) : Prop :=
  va_P D mCl (mWs base dA S s) H ∧ va_S (mA base) H0 H locs ∧ nrH S s
theorem mWs_len {base : Nat} {dA : Nat → ClassId} {S : List mSh} {s : mSt} : (mWs base dA S s).length = S.length := by simp [mWs]
theorem mWs_at {base : Nat} {dA : Nat → ClassId} {S : List mSh} {s : mSt} {k : Nat} {q : mSh} (h : S[k]? = some q) : (mWs base dA S s)[k]? = some (base + k, mEnt base dA q (s k)) := by
  have hk : k < S.length := (List.getElem?_eq_some_iff.mp h).1
  have hq : S.getD k mD = q := by rw [List.getD_eq_getElem?_getD, h]; rfl
  unfold mWs
  rw [List.getElem?_map, List.getElem?_range hk, Option.map_some, hq]
theorem mWs_lt {base : Nat} {dA : Nat → ClassId} {S : List mSh} {s : mSt} {k : Nat} {x : Nat × va_E} (h : (mWs base dA S s)[k]? = some x) : k < S.length ∧ x.1 = base + k := by
  have hk : k < (mWs base dA S s).length := (List.getElem?_eq_some_iff.mp h).1
  rw [mWs_len] at hk
  refine ⟨hk, ?_⟩
  rw [mWs_at (List.getElem?_eq_getElem hk)] at h
  cases h
  rfl
theorem mWs_D {base : Nat} {dA : Nat → ClassId} {S : List mSh} {s : mSt} : va_D (mA base) (mWs base dA S s) := by
  refine ⟨fun i j p q h1 h2 e => ?_, fun k q h => ?_⟩
  · have a := mWs_lt h1
    have b := mWs_lt h2
    omega
  · have a := mWs_lt h
    show base ≤ q.1
    omega
theorem mWs_set {base : Nat} {dA : Nat → ClassId} {S S' : List mSh} {s s' : mSt} {k : Nat} {q' : mSh} {E : va_E} (hl : S'.length = S.length) (hq : S'[k]? = some q') (ho : ∀ j, j ≠ k → S'[j]? = S[j]? ∧ s' j = s j) (hE : mEnt base dA q' (s' k) = E) :
    (mWs base dA S s).set k (base + k, E) = mWs base dA S' s' := by
  have hk' : k < S'.length := (List.getElem?_eq_some_iff.mp hq).1
  apply List.ext_getElem?
  intro j
  by_cases hj : j = k
  · subst hj
    rw [List.getElem?_set_self (by rw [mWs_len]; omega), mWs_at hq, hE]
  · rw [List.getElem?_set_ne (fun e => hj e.symm)]
    obtain ⟨h1, h2⟩ := ho j hj
    cases hc : S[j]? with
    | none =>
      have a : S.length ≤ j := List.getElem?_eq_none_iff.mp hc
      rw [List.getElem?_eq_none_iff.mpr (by rw [mWs_len]; exact a), List.getElem?_eq_none_iff.mpr (by rw [mWs_len]; omega)]
    | some q =>
      rw [mWs_at hc, mWs_at (h1.trans hc), h2]
theorem mWs_push {base : Nat} {dA : Nat → ClassId} {S : List mSh} {s s' : mSt} {q : mSh} {E : va_E} (ho : ∀ j, j < S.length → s' j = s j) (hE : mEnt base dA q (s' S.length) = E) :
    mWs base dA S s ++ [(base + S.length, E)] = mWs base dA (S ++ [q]) s' := by
  apply List.ext_getElem?
  intro j
  rcases Nat.lt_trichotomy j S.length with hj | hj | hj
  · rw [List.getElem?_append_left (by rw [mWs_len]; exact hj), mWs_at (List.getElem?_eq_getElem hj), mWs_at (q := S[j]) (by rw [List.getElem?_append_left hj, List.getElem?_eq_getElem hj]), ho j hj]
  · subst hj
    rw [List.getElem?_append_right (by rw [mWs_len]; exact Nat.le_refl _), mWs_len, Nat.sub_self, mWs_at (q := q) (by rw [List.getElem?_append_right (Nat.le_refl _), Nat.sub_self]; rfl), hE]
    rfl
  · rw [List.getElem?_eq_none_iff.mpr (by rw [List.length_append, mWs_len]; show S.length + 1 ≤ j; omega), List.getElem?_eq_none_iff.mpr (by rw [mWs_len, List.length_append]; show S.length + 1 ≤ j; omega)]
theorem kS_at {S : List mSh} {a kd : Nat} (h : kS S a = kd) (hk : kd ≠ 99) : ∃ n rs, S[a]? = some (kd, n, rs) := by
  unfold kS at h
  cases hc : S[a]? with
  | none => rw [hc] at h; exact absurd h.symm hk
  | some q => rw [hc] at h; subst h; exact ⟨q.2.1, q.2.2, rfl⟩
theorem aS_at {S : List mSh} {a kd n : Nat} (h : aS S a kd n) (hk : kd ≠ 99) : ∃ rs, S[a]? = some (kd, n, rs) := by
  obtain ⟨h1, h2⟩ := h
  obtain ⟨n', rs, e⟩ := kS_at h1 hk
  unfold nS at h2
  rw [e] at h2
  subst h2
  exact ⟨rs, e⟩
theorem ent_obj {base : Nat} {dA : Nat → ClassId} {q : mSh} {f : Nat → Int} (h : q.1 < 20) : mEnt base dA q f = .inr (q.1, (List.range (mNf q.1)).map (fun j => mFv base q j (f j))) := by unfold mEnt; rw [if_pos h]
theorem ent_int {base : Nat} {dA : Nat → ClassId} {q : mSh} {f : Nat → Int} (h : 20 ≤ q.1) (h1 : q.1 ≠ 23) (h2 : q.1 < 25) : mEnt base dA q f = .inl (dA q.1, q.2.1, .inl (fun j => Int32.ofInt (f j))) := by
  unfold mEnt; rw [if_neg (by omega), if_neg h1, if_pos h2]
theorem ent_long {base : Nat} {dA : Nat → ClassId} {q : mSh} {f : Nat → Int} (h1 : q.1 = 23) : mEnt base dA q f = .inl (dA q.1, q.2.1, .inr (.inl (fun j => Int64.ofInt (f j)))) := by
  unfold mEnt; rw [if_neg (by omega), if_pos h1]
theorem ent_ref {base : Nat} {dA : Nat → ClassId} {q : mSh} {f : Nat → Int} (h : 25 ≤ q.1) : mEnt base dA q f = .inl (dA q.1, q.2.1, .inr (.inr (.inr (.inr (fun j => mRw base (f j)))))) := by
  unfold mEnt; rw [if_neg (by omega), if_neg (by omega), if_neg (by omega)]
theorem nrC_int {q : mSh} {j : Nat} {x : Int} (h : 20 ≤ q.1) (h1 : q.1 ≠ 23) (h2 : q.1 < 25) : nrC q j x ↔ nr32 x := by
  unfold nrC; rw [if_neg (by omega), if_pos h2]
theorem nrC_long {q : mSh} {j : Nat} {x : Int} (h : q.1 = 23) : nrC q j x ↔ nr64 x := by
  unfold nrC; rw [if_pos (Or.inl h)]
theorem nrC_ref {q : mSh} {j : Nat} {x : Int} (h : 25 ≤ q.1) : nrC q j x := by
  unfold nrC; rw [if_neg (by omega), if_neg (by omega)]; trivial
theorem nrC_f0 {q : mSh} {j : Nat} {x : Int} (h : q.1 < 20) (h1 : mFKd q.1 j ≠ 1) : nrC q j x ↔ nr32 x := by
  unfold nrC
  rw [if_neg (by rintro (a | a) <;> omega), if_pos (by omega)]
theorem nrC_f1 {q : mSh} {j : Nat} {x : Int} (h : q.1 < 20) (h1 : mFKd q.1 j = 1) : nrC q j x ↔ nr64 x := by
  unfold nrC
  rw [if_pos (Or.inr ⟨h, h1⟩)]
theorem nrH_up {S : List mSh} {s : mSt} {a k : Nat} {q : mSh} {x : Int} (h : nrH S s) (ha : S[a]? = some q) (hx : nrC q k x) : nrH S (uS s a k x) := by
  intro b p hb
  refine ⟨(h b p hb).1, fun j => ?_⟩
  unfold uS
  by_cases e : b = a ∧ j = k
  · rw [if_pos e]
    obtain ⟨rfl, rfl⟩ := e
    cases hb.symm.trans ha
    exact hx
  · rw [if_neg e]; exact (h b p hb).2 j
/-- variables -/
def mHas (base : Nat) (sp : Nat → Nat) (rls : Array Slot) (nL : Nat) (ls : mLo) : Prop := ls.length = nL ∧ rls.size = nL ∧ lv_wf rls ∧ ∀ (i : Nat) (v : mV), ls[i]? = some (some v) → rls[i]? = some (.val (mUp base sp v)) ∧ nrV v
theorem mHas_lv {base : Nat} {sp : Nat → Nat} {rls : Array Slot} {nL : Nat} {ls : mLo} (h : mHas base sp rls nL ls) {i : Nat} {v : mV} (hi : ls[i]? = some (some v)) : lv_has rls nL [(i, mUp base sp v)] := by
  refine ⟨h.2.1, h.2.2.1, fun q hq => ?_⟩
  rw [List.mem_singleton] at hq
  subst hq
  exact (h.2.2.2 i v hi).1
theorem mUp_cat {base : Nat} {sp : Nat → Nat} (v : mV) : (mUp base sp v).category = 2 ↔ ∃ x, v = mJ x := by
  rcases v with x | x | (_ | k) | j
  · simp [mUp, Value.category]
  · simp [mUp, Value.category]
  · simp [mUp, Value.category]
  · simp [mUp, Value.category]
  · simp [mUp, Value.category]
/-- the list behind a store, by places -/
theorem sL_el {v : mV} : ∀ {ls : mLo} {i : Nat} {k : mLo → Prop}, sL ls i v k → ∃ ls', k ls' ∧ i < ls.length ∧ ls'.length = ls.length ∧ ls'[i]? = some (some v) ∧ ∀ (j : Nat) (u : mV), j ≠ i → ls'[j]? = some (some u) → ls[j]? = some (some u) ∧ ¬ (j + 1 = i ∧ ∃ x, u = mJ x) := by
  intro ls
  induction ls with
  | nil => intro i k h; cases i <;> exact False.elim h
  | cons a t ih =>
    intro i k h
    cases i with
    | zero =>
      refine ⟨_, h, by simp, by simp, by simp, fun j u hj hu => ?_⟩
      cases j with
      | zero => exact absurd rfl hj
      | succ j => exact ⟨by simpa using hu, by omega⟩
    | succ n =>
      obtain ⟨t', h1, h2, h3, h4, h5⟩ := ih (k := fun t' => k (kL n a :: t')) h
      refine ⟨_, h1, by simpa using h2, by simpa using h3, by simpa using h4, fun j u hj hu => ?_⟩
      cases j with
      | zero =>
        have hw : kL n a = some u := by simpa using hu
        clear hu
        unfold kL at hw
        split at hw
        · cases hw
        · rename_i hne
          refine ⟨by simpa using hw, ?_⟩
          rintro ⟨e, x, rfl⟩
          have e : n = 0 := by omega
          subst e
          exact hne _ rfl hw
      | succ j =>
        have := h5 j u (by omega) (by simpa using hu)
        exact ⟨by simpa using this.1, fun ⟨e, x⟩ => this.2 ⟨by omega, x⟩⟩
theorem sJ_el {v : mV} : ∀ {ls : mLo} {i : Nat} {k : mLo → Prop}, sJ ls i v k → ∃ ls', k ls' ∧ i + 1 < ls.length ∧ ls'.length = ls.length ∧ ls'[i]? = some (some v) ∧ ∀ (j : Nat) (u : mV), j ≠ i → ls'[j]? = some (some u) → j ≠ i + 1 ∧ ls[j]? = some (some u) ∧ ¬ (j + 1 = i ∧ ∃ x, u = mJ x) := by
  intro ls
  induction ls with
  | nil => intro i k h; cases i <;> exact False.elim h
  | cons a t ih =>
    intro i k h
    cases i with
    | zero =>
      cases t with
      | nil => exact False.elim h
      | cons b t =>
        refine ⟨_, h, by simp, by simp, by simp, fun j u hj hu => ?_⟩
        match j, hj, hu with
        | 1, _, hu => simp at hu
        | j + 2, _, hu => exact ⟨by omega, by simpa using hu, by omega⟩
    | succ n =>
      have e : sJ (a :: t) (n + 1) v k = sJ t n v (fun t' => k (kL n a :: t')) := by cases t <;> rfl
      rw [e] at h
      obtain ⟨t', h1, h2, h3, h4, h5⟩ := ih (k := fun t' => k (kL n a :: t')) h
      refine ⟨_, h1, by simpa using h2, by simpa using h3, by simpa using h4, fun j u hj hu => ?_⟩
      cases j with
      | zero =>
        have hw : kL n a = some u := by simpa using hu
        clear hu
        unfold kL at hw
        split at hw
        · cases hw
        · rename_i hne
          refine ⟨by omega, by simpa using hw, ?_⟩
          rintro ⟨e, x, rfl⟩
          have e : n = 0 := by omega
          subst e
          exact hne _ rfl hw
      | succ j =>
        have := h5 j u (by omega) (by simpa using hu)
        exact ⟨by omega, by simpa using this.2.1, fun ⟨e, x⟩ => this.2.2 ⟨by omega, x⟩⟩
theorem mHas_1 {base : Nat} {sp : Nat → Nat} {rls : Array Slot} {nL : Nat} {ls : mLo} {i : Nat} {v : mV} {k : mLo → Prop} (h : mHas base sp rls nL ls) (hs : sL ls i v k) (hc : (mUp base sp v).category = 1) (hv : nrV v) :
    ∃ rls' ls', storeLocals rls i (mUp base sp v) = some rls' ∧ k ls' ∧ mHas base sp rls' nL ls' := by
  obtain ⟨ls', h1, h2, h3, h4, h5⟩ := sL_el hs
  have hi : i < nL := by rw [← h.1]; exact h2
  obtain ⟨rls', e1, a1, a2, a3⟩ := lv_store1 (l := []) (ls := rls) (nL := nL) (i := i) (v := mUp base sp v) ⟨h.2.1, h.2.2.1, fun q hq => by cases hq⟩ hi hc
  refine ⟨rls', ls', e1, h1, h3.trans h.1, a1, a2, fun j u hu => ?_⟩
  by_cases hj : j = i
  · subst hj
    rw [h4] at hu
    cases hu
    exact ⟨a3 (j, mUp base sp v) List.mem_cons_self, hv⟩
  · obtain ⟨b1, b2⟩ := h5 j u hj hu
    obtain ⟨rls2, e2, -, -, c3⟩ := lv_store1 (i := i) (v := mUp base sp v) (mHas_lv h b1) hi hc
    cases e1.symm.trans e2
    refine ⟨c3 (j, mUp base sp u) (List.mem_cons_of_mem _ (List.mem_filter.mpr ⟨List.mem_cons_self, ?_⟩)), (h.2.2.2 j u b1).2⟩
    by_cases e : j + 1 = i
    · have : ¬ (mUp base sp u).category = 2 := fun z => b2 ⟨e, (mUp_cat u).mp z⟩
      simp [hj, e, this]
    · simp [hj, e]
theorem mHas_2 {base : Nat} {sp : Nat → Nat} {rls : Array Slot} {nL : Nat} {ls : mLo} {i : Nat} {x : Int} {k : mLo → Prop} (h : mHas base sp rls nL ls) (hs : sJ ls i (mJ x) k) (hv : nr64 x) :
    ∃ rls' ls', storeLocals rls i (.long (Int64.ofInt x)) = some rls' ∧ k ls' ∧ mHas base sp rls' nL ls' := by
  obtain ⟨ls', h1, h2, h3, h4, h5⟩ := sJ_el hs
  have hi : i + 1 < nL := by rw [← h.1]; exact h2
  obtain ⟨rls', e1, a1, a2, a3⟩ := lv_store2 (l := []) (ls := rls) (nL := nL) (i := i) (v := .long (Int64.ofInt x)) ⟨h.2.1, h.2.2.1, fun q hq => by cases hq⟩ hi rfl
  refine ⟨rls', ls', e1, h1, h3.trans h.1, a1, a2, fun j u hu => ?_⟩
  by_cases hj : j = i
  · subst hj
    rw [h4] at hu
    cases hu
    exact ⟨a3 (j, .long (Int64.ofInt x)) List.mem_cons_self, hv⟩
  · obtain ⟨b0, b1, b2⟩ := h5 j u hj hu
    obtain ⟨rls2, e2, -, -, c3⟩ := lv_store2 (i := i) (v := .long (Int64.ofInt x)) (mHas_lv h b1) hi rfl
    cases e1.symm.trans e2
    refine ⟨c3 (j, mUp base sp u) (List.mem_cons_of_mem _ (List.mem_filter.mpr ⟨List.mem_cons_self, ?_⟩)), (h.2.2.2 j u b1).2⟩
    by_cases e : j + 1 = i
    · have : ¬ (mUp base sp u).category = 2 := fun z => b2 ⟨e, (mUp_cat u).mp z⟩
      simp [hj, b0, e, this]
    · simp [hj, b0, e]
end
section
/-! a row an instruction: from the small machine to the machine -/
/-- the words that hold in every frame -/
def mT : List Cond := lw_tbl.filter goodWord
/-- what is known in a frame of method mi -/
def FX (p : Program) (U : State) (m : MethodId) (args : Array Value) (meth : Method) (c : Code) (D : va_G) (dA : Nat → ClassId) (mi : Nat) : Prop :=
  p.tables.exec = Jvm.exec ∧ c.code = mB mi ∧ c.maxLocals = mML mi ∧ U.vm.findClass (mY mi).cls = some m.cls ∧ (∀ w ∈ mT, w.before args U = true) ∧ va_K D mCl (mTys dA) U ∧ meth.sig.returnType = mRet mi ∧ meth.locks = false ∧ meth.name = (mY mi).name
def WG (p : Program) (l : Launch) (e : Env) (R : Room) (U : State) (m : MethodId) (args : Array Value) (below : List Frame) (meth : Method) (c : Code) (Q : State → Prop) (base : Nat) (sp : Nat → Nat) (D : va_G) (dA : Nat → ClassId) (nL B n0 bud pc : Nat) (ls : mLo) (st : List mV) (S : List mSh) (s : mSt) : Prop :=
  ∀ (H : Heap) (locs : List Loc) (cells slots : Nat) (rls : Array Slot), HV base D dA U.heap S s H locs → mHas base sp rls nL ls → nrS st → (cells + bud = B ∧ S.length + bud = n0 + B) → slots ≤ 2400 * cells → W p l e R U m args below meth c H locs cells slots Q (F0 m pc rls (st.map (mUp base sp)))
theorem nrV_of {base : Nat} {sp : Nat → Nat} {rls : Array Slot} {nL : Nat} {ls : mLo} (h : mHas base sp rls nL ls) {i : Nat} {v : mV} (hi : ls[i]? = some (some v)) : nrV v := (h.2.2.2 i v hi).2
section RW
variable {p : Program} {l : Launch} {e : Env} {R : Room} {U : State} {m : MethodId} {args : Array Value} {below : List Frame} {meth : Method} {c : Code} {Q : State → Prop}
variable {base : Nat} {sp : Nat → Nat} {D : va_G} {dA : Nat → ClassId} {mi nL B n0 bud pc : Nat} {ls : mLo} {st : List mV} {S : List mSh} {s : mSt}
theorem r_iconst (F : FX p U m args meth c D dA mi) {v : Int} (hv0 : nr32 v) (hd : decode (mB mi) pc = .ok (.iconst v, 1)) (h : WG p l e R U m args below meth c Q base sp D dA nL B n0 bud (pc + 1) ls (mI v :: st) S s) : WG p l e R U m args below meth c Q base sp D dA nL B n0 bud pc ls st S s := by
  intro H locs cells slots rls hv hl hn hc hz
  refine lv_iconst F.1 F.2.1 hd rfl ?_
  exact h H locs cells slots rls hv hl ⟨hv0, hn⟩ hc hz
theorem r_bipush (F : FX p U m args meth c D dA mi) {v : Int} (hv0 : -128 ≤ v ∧ v < 128) (hd : decode (mB mi) pc = .ok (.bipush v, 2)) (h : WG p l e R U m args below meth c Q base sp D dA nL B n0 bud (pc + 2) ls (mI v :: st) S s) : WG p l e R U m args below meth c Q base sp D dA nL B n0 bud pc ls st S s := by
  intro H locs cells slots rls hv hl hn hc hz
  refine lv_bipush F.1 F.2.1 hd (q_push8 hv0) ?_
  exact h H locs cells slots rls hv hl ⟨(show nr32 _ by unfold nr32; omega), hn⟩ hc hz
theorem r_sipush (F : FX p U m args meth c D dA mi) {v : Int} (hv0 : -32768 ≤ v ∧ v < 32768) (hd : decode (mB mi) pc = .ok (.sipush v, 3)) (h : WG p l e R U m args below meth c Q base sp D dA nL B n0 bud (pc + 3) ls (mI v :: st) S s) : WG p l e R U m args below meth c Q base sp D dA nL B n0 bud pc ls st S s := by
  intro H locs cells slots rls hv hl hn hc hz
  refine lv_sipush F.1 F.2.1 hd (q_push16 hv0) ?_
  exact h H locs cells slots rls hv hl ⟨(show nr32 _ by unfold nr32; omega), hn⟩ hc hz
theorem r_lconst (F : FX p U m args meth c D dA mi) {v : Fin 2} (hd : decode (mB mi) pc = .ok (.lconst v, 1)) (h : WG p l e R U m args below meth c Q base sp D dA nL B n0 bud (pc + 1) ls (mJ v.val :: st) S s) : WG p l e R U m args below meth c Q base sp D dA nL B n0 bud pc ls st S s := by
  intro H locs cells slots rls hv hl hn hc hz
  refine lv_lconst F.1 F.2.1 hd (v := Int64.ofInt v.val) rfl ?_
  exact h H locs cells slots rls hv hl ⟨(show nr64 _ by unfold nr64; omega), hn⟩ hc hz
theorem r_null (F : FX p U m args meth c D dA mi)  (hd : decode (mB mi) pc = .ok (.aconst_null, 1)) (h : WG p l e R U m args below meth c Q base sp D dA nL B n0 bud (pc + 1) ls (mN :: st) S s) : WG p l e R U m args below meth c Q base sp D dA nL B n0 bud pc ls st S s := by
  intro H locs cells slots rls hv hl hn hc hz
  refine lv_null F.1 F.2.1 hd ?_
  exact h H locs cells slots rls hv hl ⟨trivial, hn⟩ hc hz
theorem r_iload (F : FX p U m args meth c D dA mi) {n : Nat} {x : Int} (hi : ls[n]? = some (some (mI x))) (hd : decode (mB mi) pc = .ok (.iload n, 2)) (h : WG p l e R U m args below meth c Q base sp D dA nL B n0 bud (pc + 2) ls (mI x :: st) S s) : WG p l e R U m args below meth c Q base sp D dA nL B n0 bud pc ls st S s := by
  intro H locs cells slots rls hv hl hn hc hz
  refine lv_iload F.1 F.2.1 hd (hl.2.2.2 n _ hi).1 ?_
  exact h H locs cells slots rls hv hl ⟨nrV_of hl hi, hn⟩ hc hz
theorem r_iload_n (F : FX p U m args meth c D dA mi) {n : Fin 4} {x : Int} (hi : ls[n.val]? = some (some (mI x))) (hd : decode (mB mi) pc = .ok (.iload_n n, 1)) (h : WG p l e R U m args below meth c Q base sp D dA nL B n0 bud (pc + 1) ls (mI x :: st) S s) : WG p l e R U m args below meth c Q base sp D dA nL B n0 bud pc ls st S s := by
  intro H locs cells slots rls hv hl hn hc hz
  refine lv_iload_n F.1 F.2.1 hd rfl (hl.2.2.2 n.val _ hi).1 ?_
  exact h H locs cells slots rls hv hl ⟨nrV_of hl hi, hn⟩ hc hz
theorem r_lload (F : FX p U m args meth c D dA mi) {n : Nat} {x : Int} (hi : ls[n]? = some (some (mJ x))) (hd : decode (mB mi) pc = .ok (.lload n, 2)) (h : WG p l e R U m args below meth c Q base sp D dA nL B n0 bud (pc + 2) ls (mJ x :: st) S s) : WG p l e R U m args below meth c Q base sp D dA nL B n0 bud pc ls st S s := by
  intro H locs cells slots rls hv hl hn hc hz
  refine lv_lload F.1 F.2.1 hd (hl.2.2.2 n _ hi).1 ?_
  exact h H locs cells slots rls hv hl ⟨nrV_of hl hi, hn⟩ hc hz
theorem r_lload_n (F : FX p U m args meth c D dA mi) {n : Fin 4} {x : Int} (hi : ls[n.val]? = some (some (mJ x))) (hd : decode (mB mi) pc = .ok (.lload_n n, 1)) (h : WG p l e R U m args below meth c Q base sp D dA nL B n0 bud (pc + 1) ls (mJ x :: st) S s) : WG p l e R U m args below meth c Q base sp D dA nL B n0 bud pc ls st S s := by
  intro H locs cells slots rls hv hl hn hc hz
  refine lv_lload_n F.1 F.2.1 hd rfl (hl.2.2.2 n.val _ hi).1 ?_
  exact h H locs cells slots rls hv hl ⟨nrV_of hl hi, hn⟩ hc hz
theorem r_aload (F : FX p U m args meth c D dA mi) {n : Nat} {r : Sum (Option Nat) Nat} (hi : ls[n]? = some (some (Sum.inr (Sum.inr r)))) (hd : decode (mB mi) pc = .ok (.aload n, 2)) (h : WG p l e R U m args below meth c Q base sp D dA nL B n0 bud (pc + 2) ls (Sum.inr (Sum.inr r) :: st) S s) : WG p l e R U m args below meth c Q base sp D dA nL B n0 bud pc ls st S s := by
  intro H locs cells slots rls hv hl hn hc hz
  have hk := (hl.2.2.2 n _ hi).1
  rcases r with (_ | k) | j
  · refine lv_aloadN F.1 F.2.1 hd  hk ?_
    exact h H locs cells slots rls hv hl ⟨trivial, hn⟩ hc hz
  · refine lv_aload F.1 F.2.1 hd  hk ?_
    exact h H locs cells slots rls hv hl ⟨trivial, hn⟩ hc hz
  · refine lv_aload F.1 F.2.1 hd  hk ?_
    exact h H locs cells slots rls hv hl ⟨trivial, hn⟩ hc hz
theorem r_aload_n (F : FX p U m args meth c D dA mi) {n : Fin 4} {r : Sum (Option Nat) Nat} (hi : ls[n.val]? = some (some (Sum.inr (Sum.inr r)))) (hd : decode (mB mi) pc = .ok (.aload_n n, 1)) (h : WG p l e R U m args below meth c Q base sp D dA nL B n0 bud (pc + 1) ls (Sum.inr (Sum.inr r) :: st) S s) : WG p l e R U m args below meth c Q base sp D dA nL B n0 bud pc ls st S s := by
  intro H locs cells slots rls hv hl hn hc hz
  have hk := (hl.2.2.2 n.val _ hi).1
  rcases r with (_ | k) | j
  · refine lv_aload_nN F.1 F.2.1 hd rfl hk ?_
    exact h H locs cells slots rls hv hl ⟨trivial, hn⟩ hc hz
  · refine lv_aload_n F.1 F.2.1 hd rfl hk ?_
    exact h H locs cells slots rls hv hl ⟨trivial, hn⟩ hc hz
  · refine lv_aload_n F.1 F.2.1 hd rfl hk ?_
    exact h H locs cells slots rls hv hl ⟨trivial, hn⟩ hc hz
theorem r_istore (F : FX p U m args meth c D dA mi) {n : Nat} {x : Int} (hd : decode (mB mi) pc = .ok (.istore n, 2)) (hs : sL ls n (mI x) fun ls => WG p l e R U m args below meth c Q base sp D dA nL B n0 bud (pc + 2) ls st S s) : WG p l e R U m args below meth c Q base sp D dA nL B n0 bud pc ls (mI x :: st) S s := by
  intro H locs cells slots rls hv hl hn hc hz
  obtain ⟨rls', ls', e1, h, hl'⟩ := mHas_1 hl hs rfl hn.1
  have k := h H locs cells slots rls' hv hl' hn.2 hc hz
  intro T hT Y
  obtain ⟨t, a1, b1⟩ := k T hT Y
  refine ⟨t, ?_, b1⟩
  jvm_step Y.here [Y.here.top, ↓top_set Y.here.top, F.1, F.2.1, hd, mUp, e1]
  first | exact a1 | exact ⟨_, e1, a1⟩
theorem r_istore_n (F : FX p U m args meth c D dA mi) {n : Fin 4} {x : Int} (hd : decode (mB mi) pc = .ok (.istore_n n, 1)) (hs : sL ls n.val (mI x) fun ls => WG p l e R U m args below meth c Q base sp D dA nL B n0 bud (pc + 1) ls st S s) : WG p l e R U m args below meth c Q base sp D dA nL B n0 bud pc ls (mI x :: st) S s := by
  intro H locs cells slots rls hv hl hn hc hz
  obtain ⟨rls', ls', e1, h, hl'⟩ := mHas_1 hl hs rfl hn.1
  have k := h H locs cells slots rls' hv hl' hn.2 hc hz
  intro T hT Y
  obtain ⟨t, a1, b1⟩ := k T hT Y
  refine ⟨t, ?_, b1⟩
  jvm_step Y.here [Y.here.top, ↓top_set Y.here.top, F.1, F.2.1, hd, mUp, e1]
  first | exact a1 | exact ⟨_, e1, a1⟩
theorem r_lstore (F : FX p U m args meth c D dA mi) {n : Nat} {x : Int} (hd : decode (mB mi) pc = .ok (.lstore n, 2)) (hs : sJ ls n (mJ x) fun ls => WG p l e R U m args below meth c Q base sp D dA nL B n0 bud (pc + 2) ls st S s) : WG p l e R U m args below meth c Q base sp D dA nL B n0 bud pc ls (mJ x :: st) S s := by
  intro H locs cells slots rls hv hl hn hc hz
  obtain ⟨rls', ls', e1, h, hl'⟩ := mHas_2 hl hs hn.1
  have k := h H locs cells slots rls' hv hl' hn.2 hc hz
  intro T hT Y
  obtain ⟨t, a1, b1⟩ := k T hT Y
  refine ⟨t, ?_, b1⟩
  jvm_step Y.here [Y.here.top, ↓top_set Y.here.top, F.1, F.2.1, hd, mUp, e1]
  first | exact a1 | exact ⟨_, e1, a1⟩
theorem r_lstore_n (F : FX p U m args meth c D dA mi) {n : Fin 4} {x : Int} (hd : decode (mB mi) pc = .ok (.lstore_n n, 1)) (hs : sJ ls n.val (mJ x) fun ls => WG p l e R U m args below meth c Q base sp D dA nL B n0 bud (pc + 1) ls st S s) : WG p l e R U m args below meth c Q base sp D dA nL B n0 bud pc ls (mJ x :: st) S s := by
  intro H locs cells slots rls hv hl hn hc hz
  obtain ⟨rls', ls', e1, h, hl'⟩ := mHas_2 hl hs hn.1
  have k := h H locs cells slots rls' hv hl' hn.2 hc hz
  intro T hT Y
  obtain ⟨t, a1, b1⟩ := k T hT Y
  refine ⟨t, ?_, b1⟩
  jvm_step Y.here [Y.here.top, ↓top_set Y.here.top, F.1, F.2.1, hd, mUp, e1]
  first | exact a1 | exact ⟨_, e1, a1⟩
theorem r_astore (F : FX p U m args meth c D dA mi) {n : Nat} {r : Option Nat} (hd : decode (mB mi) pc = .ok (.astore n, 2)) (hs : sL ls n (Sum.inr (Sum.inr (Sum.inl r))) fun ls => WG p l e R U m args below meth c Q base sp D dA nL B n0 bud (pc + 2) ls st S s) : WG p l e R U m args below meth c Q base sp D dA nL B n0 bud pc ls (Sum.inr (Sum.inr (Sum.inl r)) :: st) S s := by
  intro H locs cells slots rls hv hl hn hc hz
  obtain ⟨rls', ls', e1, h, hl'⟩ := mHas_1 hl hs (by cases r <;> rfl) hn.1
  have k := h H locs cells slots rls' hv hl' hn.2 hc hz
  intro T hT Y
  obtain ⟨t, a1, b1⟩ := k T hT Y
  refine ⟨t, ?_, b1⟩
  rcases r with _ | r
  · jvm_step Y.here [Y.here.top, ↓top_set Y.here.top, F.1, F.2.1, hd, mUp, e1, Value.isRef]
    first | exact a1 | exact ⟨_, e1, a1⟩
  · jvm_step Y.here [Y.here.top, ↓top_set Y.here.top, F.1, F.2.1, hd, mUp, e1, Value.isRef]
    first | exact a1 | exact ⟨_, e1, a1⟩
theorem r_astore_n (F : FX p U m args meth c D dA mi) {n : Fin 4} {r : Option Nat} (hd : decode (mB mi) pc = .ok (.astore_n n, 1)) (hs : sL ls n.val (Sum.inr (Sum.inr (Sum.inl r))) fun ls => WG p l e R U m args below meth c Q base sp D dA nL B n0 bud (pc + 1) ls st S s) : WG p l e R U m args below meth c Q base sp D dA nL B n0 bud pc ls (Sum.inr (Sum.inr (Sum.inl r)) :: st) S s := by
  intro H locs cells slots rls hv hl hn hc hz
  obtain ⟨rls', ls', e1, h, hl'⟩ := mHas_1 hl hs (by cases r <;> rfl) hn.1
  have k := h H locs cells slots rls' hv hl' hn.2 hc hz
  intro T hT Y
  obtain ⟨t, a1, b1⟩ := k T hT Y
  refine ⟨t, ?_, b1⟩
  rcases r with _ | r
  · jvm_step Y.here [Y.here.top, ↓top_set Y.here.top, F.1, F.2.1, hd, mUp, e1, Value.isRef]
    first | exact a1 | exact ⟨_, e1, a1⟩
  · jvm_step Y.here [Y.here.top, ↓top_set Y.here.top, F.1, F.2.1, hd, mUp, e1, Value.isRef]
    first | exact a1 | exact ⟨_, e1, a1⟩
theorem r_iinc (F : FX p U m args meth c D dA mi) {n : Nat} {k x : Int} (hi : ls[n]? = some (some (mI x))) (hd : decode (mB mi) pc = .ok (.iinc n k, 3)) (hs : sL ls n (mI (w32 (x + k))) fun ls => WG p l e R U m args below meth c Q base sp D dA nL B n0 bud (pc + 3) ls st S s) : WG p l e R U m args below meth c Q base sp D dA nL B n0 bud pc ls st S s := by
  intro H locs cells slots rls hv hl hn hc hz
  have hg : rls[n]? = some (.val (.int (Int32.ofInt x))) := (hl.2.2.2 n _ hi).1
  obtain ⟨rls', ls', e1, h, hl'⟩ := mHas_1 hl hs rfl (nr_w32 _)
  have e1 : storeLocals rls n (.int (Int32.ofInt x + Int32.ofInt k)) = some rls' := by rw [q_add]; exact e1
  have z := h H locs cells slots rls' hv hl' hn hc hz
  intro T hT Y
  obtain ⟨t, a1, b1⟩ := z T hT Y
  refine ⟨t, ?_, b1⟩
  jvm_step Y.here [Y.here.top, ↓top_set Y.here.top, F.1, F.2.1, hd, hg, e1]
  first | exact a1 | exact ⟨_, e1, a1⟩
theorem w_cat {base : Nat} {sp : Nat → Nat} {st t : List mV} {k : mV → List mV → Prop} (h : eW st k) : ∃ v t, st = v :: t ∧ (mUp base sp v).category = 1 ∧ k v t := by
  unfold eW at h
  split at h
  · exact ⟨_, _, rfl, rfl, h⟩
  · rename_i r t
    exact ⟨_, _, rfl, by rcases r with (_ | _) | _ <;> rfl, h⟩
  · exact False.elim h
theorem r_pop (F : FX p U m args meth c D dA mi) {v : mV} (hv0 : (mUp base sp v).category = 1) (hd : decode (mB mi) pc = .ok (.pop, 1)) (h : WG p l e R U m args below meth c Q base sp D dA nL B n0 bud (pc + 1) ls st S s) : WG p l e R U m args below meth c Q base sp D dA nL B n0 bud pc ls (v :: st) S s := by
  intro H locs cells slots rls hv hl hn hc hz
  refine lv_pop F.1 F.2.1 hd hv0 ?_
  exact h H locs cells slots rls hv hl hn.2 hc hz
theorem r_dup (F : FX p U m args meth c D dA mi) {v : mV} (hv0 : (mUp base sp v).category = 1) (hd : decode (mB mi) pc = .ok (.dup, 1)) (h : WG p l e R U m args below meth c Q base sp D dA nL B n0 bud (pc + 1) ls (v :: v :: st) S s) : WG p l e R U m args below meth c Q base sp D dA nL B n0 bud pc ls (v :: st) S s := by
  intro H locs cells slots rls hv hl hn hc hz
  refine lv_dup F.1 F.2.1 hd hv0 ?_
  exact h H locs cells slots rls hv hl ⟨hn.1, hn⟩ hc hz
theorem r_dup2 (F : FX p U m args meth c D dA mi) {v u : mV} (hv0 : (mUp base sp v).category = 1) (hu0 : (mUp base sp u).category = 1) (hd : decode (mB mi) pc = .ok (.dup2, 1)) (h : WG p l e R U m args below meth c Q base sp D dA nL B n0 bud (pc + 1) ls (v :: u :: v :: u :: st) S s) : WG p l e R U m args below meth c Q base sp D dA nL B n0 bud pc ls (v :: u :: st) S s := by
  intro H locs cells slots rls hv hl hn hc hz
  refine lv_dup2_11 F.1 F.2.1 hd hv0 hu0 ?_
  exact h H locs cells slots rls hv hl ⟨hn.1, hn.2.1, hn⟩ hc hz
theorem r_iadd (F : FX p U m args meth c D dA mi) {x y : Int}  (hd : decode (mB mi) pc = .ok (.iadd, 1)) (h : WG p l e R U m args below meth c Q base sp D dA nL B n0 bud (pc + 1) ls (mI (w32 (x + y)) :: st) S s) : WG p l e R U m args below meth c Q base sp D dA nL B n0 bud pc ls (mI y :: mI x :: st) S s := by
  intro H locs cells slots rls hv hl hn hc hz
  refine lv_iadd F.1 F.2.1 hd ?_
  rw [q_add]
  exact h H locs cells slots rls hv hl ⟨nr_w32 _, hn.2.2⟩ hc hz
theorem r_isub (F : FX p U m args meth c D dA mi) {x y : Int}  (hd : decode (mB mi) pc = .ok (.isub, 1)) (h : WG p l e R U m args below meth c Q base sp D dA nL B n0 bud (pc + 1) ls (mI (w32 (x - y)) :: st) S s) : WG p l e R U m args below meth c Q base sp D dA nL B n0 bud pc ls (mI y :: mI x :: st) S s := by
  intro H locs cells slots rls hv hl hn hc hz
  refine lv_isub F.1 F.2.1 hd ?_
  rw [q_sub]
  exact h H locs cells slots rls hv hl ⟨nr_w32 _, hn.2.2⟩ hc hz
theorem r_imul (F : FX p U m args meth c D dA mi) {x y : Int}  (hd : decode (mB mi) pc = .ok (.imul, 1)) (h : WG p l e R U m args below meth c Q base sp D dA nL B n0 bud (pc + 1) ls (mI (w32 (x * y)) :: st) S s) : WG p l e R U m args below meth c Q base sp D dA nL B n0 bud pc ls (mI y :: mI x :: st) S s := by
  intro H locs cells slots rls hv hl hn hc hz
  refine lv_imul F.1 F.2.1 hd ?_
  rw [q_mul]
  exact h H locs cells slots rls hv hl ⟨nr_w32 _, hn.2.2⟩ hc hz
theorem r_ladd (F : FX p U m args meth c D dA mi) {x y : Int}  (hd : decode (mB mi) pc = .ok (.ladd, 1)) (h : WG p l e R U m args below meth c Q base sp D dA nL B n0 bud (pc + 1) ls (mJ (w64 (x + y)) :: st) S s) : WG p l e R U m args below meth c Q base sp D dA nL B n0 bud pc ls (mJ y :: mJ x :: st) S s := by
  intro H locs cells slots rls hv hl hn hc hz
  refine lv_ladd F.1 F.2.1 hd ?_
  rw [q_addL]
  exact h H locs cells slots rls hv hl ⟨nr_w64 _, hn.2.2⟩ hc hz
theorem r_lsub (F : FX p U m args meth c D dA mi) {x y : Int}  (hd : decode (mB mi) pc = .ok (.lsub, 1)) (h : WG p l e R U m args below meth c Q base sp D dA nL B n0 bud (pc + 1) ls (mJ (w64 (x - y)) :: st) S s) : WG p l e R U m args below meth c Q base sp D dA nL B n0 bud pc ls (mJ y :: mJ x :: st) S s := by
  intro H locs cells slots rls hv hl hn hc hz
  refine lv_lsub F.1 F.2.1 hd ?_
  rw [q_subL]
  exact h H locs cells slots rls hv hl ⟨nr_w64 _, hn.2.2⟩ hc hz
theorem r_lmul (F : FX p U m args meth c D dA mi) {x y : Int}  (hd : decode (mB mi) pc = .ok (.lmul, 1)) (h : WG p l e R U m args below meth c Q base sp D dA nL B n0 bud (pc + 1) ls (mJ (w64 (x * y)) :: st) S s) : WG p l e R U m args below meth c Q base sp D dA nL B n0 bud pc ls (mJ y :: mJ x :: st) S s := by
  intro H locs cells slots rls hv hl hn hc hz
  refine lv_lmul F.1 F.2.1 hd ?_
  rw [q_mulL]
  exact h H locs cells slots rls hv hl ⟨nr_w64 _, hn.2.2⟩ hc hz
theorem r_idiv (F : FX p U m args meth c D dA mi) {x y : Int} (h0 : y ≠ 0) (hd : decode (mB mi) pc = .ok (.idiv, 1)) (h : WG p l e R U m args below meth c Q base sp D dA nL B n0 bud (pc + 1) ls (mI (w32 (x.tdiv y)) :: st) S s) : WG p l e R U m args below meth c Q base sp D dA nL B n0 bud pc ls (mI y :: mI x :: st) S s := by
  intro H locs cells slots rls hv hl hn hc hz
  refine lv_idiv F.1 F.2.1 hd (by rw [z32, q_eq hn.1 nr_0]; exact h0) ?_
  rw [q_div hn.2.1 hn.1]
  exact h H locs cells slots rls hv hl ⟨nr_w32 _, hn.2.2⟩ hc hz
theorem r_irem (F : FX p U m args meth c D dA mi) {x y : Int} (h0 : y ≠ 0) (hd : decode (mB mi) pc = .ok (.irem, 1)) (h : WG p l e R U m args below meth c Q base sp D dA nL B n0 bud (pc + 1) ls (mI (x.tmod y) :: st) S s) : WG p l e R U m args below meth c Q base sp D dA nL B n0 bud pc ls (mI y :: mI x :: st) S s := by
  intro H locs cells slots rls hv hl hn hc hz
  refine lv_irem F.1 F.2.1 hd (by rw [z32, q_eq hn.1 nr_0]; exact h0) ?_
  rw [q_rem hn.2.1 hn.1]
  exact h H locs cells slots rls hv hl ⟨nr_rem hn.2.1, hn.2.2⟩ hc hz
theorem r_ldiv (F : FX p U m args meth c D dA mi) {x y : Int} (h0 : y ≠ 0) (hd : decode (mB mi) pc = .ok (.ldiv, 1)) (h : WG p l e R U m args below meth c Q base sp D dA nL B n0 bud (pc + 1) ls (mJ (w64 (x.tdiv y)) :: st) S s) : WG p l e R U m args below meth c Q base sp D dA nL B n0 bud pc ls (mJ y :: mJ x :: st) S s := by
  intro H locs cells slots rls hv hl hn hc hz
  refine lv_ldiv F.1 F.2.1 hd (by rw [z64, q_eqL hn.1 (nr_up nr_0)]; exact h0) ?_
  rw [q_divL hn.2.1 hn.1]
  exact h H locs cells slots rls hv hl ⟨nr_w64 _, hn.2.2⟩ hc hz
theorem r_lrem (F : FX p U m args meth c D dA mi) {x y : Int} (h0 : y ≠ 0) (hd : decode (mB mi) pc = .ok (.lrem, 1)) (h : WG p l e R U m args below meth c Q base sp D dA nL B n0 bud (pc + 1) ls (mJ (x.tmod y) :: st) S s) : WG p l e R U m args below meth c Q base sp D dA nL B n0 bud pc ls (mJ y :: mJ x :: st) S s := by
  intro H locs cells slots rls hv hl hn hc hz
  refine lv_lrem F.1 F.2.1 hd (by rw [z64, q_eqL hn.1 (nr_up nr_0)]; exact h0) ?_
  rw [q_remL hn.2.1 hn.1]
  exact h H locs cells slots rls hv hl ⟨nr_remL hn.2.1, hn.2.2⟩ hc hz
theorem r_iand (F : FX p U m args meth c D dA mi) {x y : Int}  (hd : decode (mB mi) pc = .ok (.iand, 1)) (h : WG p l e R U m args below meth c Q base sp D dA nL B n0 bud (pc + 1) ls (mI (iAnd x y) :: st) S s) : WG p l e R U m args below meth c Q base sp D dA nL B n0 bud pc ls (mI y :: mI x :: st) S s := by
  intro H locs cells slots rls hv hl hn hc hz
  refine lv_iand F.1 F.2.1 hd ?_
  rw [show Int32.ofInt x &&& Int32.ofInt y = Int32.ofInt (iAnd x y) from (Int32.ofInt_toInt _).symm]
  exact h H locs cells slots rls hv hl ⟨nr_i _, hn.2.2⟩ hc hz
theorem r_ior (F : FX p U m args meth c D dA mi) {x y : Int}  (hd : decode (mB mi) pc = .ok (.ior, 1)) (h : WG p l e R U m args below meth c Q base sp D dA nL B n0 bud (pc + 1) ls (mI (iOr x y) :: st) S s) : WG p l e R U m args below meth c Q base sp D dA nL B n0 bud pc ls (mI y :: mI x :: st) S s := by
  intro H locs cells slots rls hv hl hn hc hz
  refine lv_ior F.1 F.2.1 hd ?_
  rw [show Int32.ofInt x ||| Int32.ofInt y = Int32.ofInt (iOr x y) from (Int32.ofInt_toInt _).symm]
  exact h H locs cells slots rls hv hl ⟨nr_i _, hn.2.2⟩ hc hz
theorem r_ixor (F : FX p U m args meth c D dA mi) {x y : Int}  (hd : decode (mB mi) pc = .ok (.ixor, 1)) (h : WG p l e R U m args below meth c Q base sp D dA nL B n0 bud (pc + 1) ls (mI (iXor x y) :: st) S s) : WG p l e R U m args below meth c Q base sp D dA nL B n0 bud pc ls (mI y :: mI x :: st) S s := by
  intro H locs cells slots rls hv hl hn hc hz
  refine lv_ixor F.1 F.2.1 hd ?_
  rw [show Int32.ofInt x ^^^ Int32.ofInt y = Int32.ofInt (iXor x y) from (Int32.ofInt_toInt _).symm]
  exact h H locs cells slots rls hv hl ⟨nr_i _, hn.2.2⟩ hc hz
theorem r_land (F : FX p U m args meth c D dA mi) {x y : Int}  (hd : decode (mB mi) pc = .ok (.land, 1)) (h : WG p l e R U m args below meth c Q base sp D dA nL B n0 bud (pc + 1) ls (mJ (lAnd x y) :: st) S s) : WG p l e R U m args below meth c Q base sp D dA nL B n0 bud pc ls (mJ y :: mJ x :: st) S s := by
  intro H locs cells slots rls hv hl hn hc hz
  refine lv_land F.1 F.2.1 hd ?_
  rw [show Int64.ofInt x &&& Int64.ofInt y = Int64.ofInt (lAnd x y) from (Int64.ofInt_toInt _).symm]
  exact h H locs cells slots rls hv hl ⟨nr_j _, hn.2.2⟩ hc hz
theorem r_lor (F : FX p U m args meth c D dA mi) {x y : Int}  (hd : decode (mB mi) pc = .ok (.lor, 1)) (h : WG p l e R U m args below meth c Q base sp D dA nL B n0 bud (pc + 1) ls (mJ (lOr x y) :: st) S s) : WG p l e R U m args below meth c Q base sp D dA nL B n0 bud pc ls (mJ y :: mJ x :: st) S s := by
  intro H locs cells slots rls hv hl hn hc hz
  refine lv_lor F.1 F.2.1 hd ?_
  rw [show Int64.ofInt x ||| Int64.ofInt y = Int64.ofInt (lOr x y) from (Int64.ofInt_toInt _).symm]
  exact h H locs cells slots rls hv hl ⟨nr_j _, hn.2.2⟩ hc hz
theorem r_ishl (F : FX p U m args meth c D dA mi) {x y : Int}  (hd : decode (mB mi) pc = .ok (.ishl, 1)) (h : WG p l e R U m args below meth c Q base sp D dA nL B n0 bud (pc + 1) ls (mI (iShl x y) :: st) S s) : WG p l e R U m args below meth c Q base sp D dA nL B n0 bud pc ls (mI y :: mI x :: st) S s := by
  intro H locs cells slots rls hv hl hn hc hz
  refine lv_ishl F.1 F.2.1 hd ?_
  rw [show Int32.ofInt x <<< (Int32.ofInt y &&& 31) = Int32.ofInt (iShl x y) from (Int32.ofInt_toInt _).symm]
  exact h H locs cells slots rls hv hl ⟨nr_i _, hn.2.2⟩ hc hz
theorem r_ishr (F : FX p U m args meth c D dA mi) {x y : Int}  (hd : decode (mB mi) pc = .ok (.ishr, 1)) (h : WG p l e R U m args below meth c Q base sp D dA nL B n0 bud (pc + 1) ls (mI (iShr x y) :: st) S s) : WG p l e R U m args below meth c Q base sp D dA nL B n0 bud pc ls (mI y :: mI x :: st) S s := by
  intro H locs cells slots rls hv hl hn hc hz
  refine lv_ishr F.1 F.2.1 hd ?_
  rw [show Int32.ofInt x >>> (Int32.ofInt y &&& 31) = Int32.ofInt (iShr x y) from (Int32.ofInt_toInt _).symm]
  exact h H locs cells slots rls hv hl ⟨nr_i _, hn.2.2⟩ hc hz
theorem r_iushr (F : FX p U m args meth c D dA mi) {x y : Int}  (hd : decode (mB mi) pc = .ok (.iushr, 1)) (h : WG p l e R U m args below meth c Q base sp D dA nL B n0 bud (pc + 1) ls (mI (iUsh x y) :: st) S s) : WG p l e R U m args below meth c Q base sp D dA nL B n0 bud pc ls (mI y :: mI x :: st) S s := by
  intro H locs cells slots rls hv hl hn hc hz
  refine lv_iushr F.1 F.2.1 hd (v := Int32.ofInt (iUsh x y)) (Int32.ofInt_toInt _).symm ?_
  exact h H locs cells slots rls hv hl ⟨nr_i _, hn.2.2⟩ hc hz
theorem r_lshl (F : FX p U m args meth c D dA mi) {x y : Int} (hd : decode (mB mi) pc = .ok (.lshl, 1)) (h : WG p l e R U m args below meth c Q base sp D dA nL B n0 bud (pc + 1) ls (mJ (lShl x y) :: st) S s) : WG p l e R U m args below meth c Q base sp D dA nL B n0 bud pc ls (mI y :: mJ x :: st) S s := by
  intro H locs cells slots rls hv hl hn hc hz
  refine lv_lshl F.1 F.2.1 hd (v := Int64.ofInt (lShl x y)) (Int64.ofInt_toInt _).symm ?_
  exact h H locs cells slots rls hv hl ⟨nr_j _, hn.2.2⟩ hc hz
theorem r_lcmp (F : FX p U m args meth c D dA mi) {x y : Int} (hd : decode (mB mi) pc = .ok (.lcmp, 1)) (h : WG p l e R U m args below meth c Q base sp D dA nL B n0 bud (pc + 1) ls (mI (lCmp x y) :: st) S s) : WG p l e R U m args below meth c Q base sp D dA nL B n0 bud pc ls (mJ y :: mJ x :: st) S s := by
  intro H locs cells slots rls hv hl hn hc hz
  refine W.lcmp F.1 F.2.1 hd ?_
  rw [q_cmp hn.2.1 hn.1]
  exact h H locs cells slots rls hv hl ⟨nr_cmp _ _, hn.2.2⟩ hc hz
theorem r_i2l (F : FX p U m args meth c D dA mi) {x : Int} (hd : decode (mB mi) pc = .ok (.i2l, 1)) (h : WG p l e R U m args below meth c Q base sp D dA nL B n0 bud (pc + 1) ls (mJ x :: st) S s) : WG p l e R U m args below meth c Q base sp D dA nL B n0 bud pc ls (mI x :: st) S s := by
  intro H locs cells slots rls hv hl hn hc hz
  refine lv_i2l F.1 F.2.1 hd (q_i2l hn.1) ?_
  exact h H locs cells slots rls hv hl ⟨nr_up hn.1, hn.2⟩ hc hz
theorem r_i2b (F : FX p U m args meth c D dA mi) {x : Int} (hd : decode (mB mi) pc = .ok (.i2b, 1)) (h : WG p l e R U m args below meth c Q base sp D dA nL B n0 bud (pc + 1) ls (mI (w8 x) :: st) S s) : WG p l e R U m args below meth c Q base sp D dA nL B n0 bud pc ls (mI x :: st) S s := by
  intro H locs cells slots rls hv hl hn hc hz
  refine lv_i2b F.1 F.2.1 hd (q_i2b hn.1) ?_
  exact h H locs cells slots rls hv hl ⟨nr_w8 _, hn.2⟩ hc hz
theorem r_i2c (F : FX p U m args meth c D dA mi) {x : Int} (hd : decode (mB mi) pc = .ok (.i2c, 1)) (h : WG p l e R U m args below meth c Q base sp D dA nL B n0 bud (pc + 1) ls (mI (x % 65536) :: st) S s) : WG p l e R U m args below meth c Q base sp D dA nL B n0 bud pc ls (mI x :: st) S s := by
  intro H locs cells slots rls hv hl hn hc hz
  refine lv_i2c F.1 F.2.1 hd (q_i2c hn.1) ?_
  exact h H locs cells slots rls hv hl ⟨nr_i2c _, hn.2⟩ hc hz
theorem r_l2i (F : FX p U m args meth c D dA mi) {x : Int} (hd : decode (mB mi) pc = .ok (.l2i, 1)) (h : WG p l e R U m args below meth c Q base sp D dA nL B n0 bud (pc + 1) ls (mI (w32 x) :: st) S s) : WG p l e R U m args below meth c Q base sp D dA nL B n0 bud pc ls (mJ x :: st) S s := by
  intro H locs cells slots rls hv hl hn hc hz
  refine lv_l2i F.1 F.2.1 hd (q_l2i hn.1) ?_
  exact h H locs cells slots rls hv hl ⟨nr_w32 _, hn.2⟩ hc hz
theorem r_goto (F : FX p U m args meth c D dA mi) {off : Int} {tgt : Nat} (ht : (pc : Int) + off = (tgt : Int)) (hd : decode (mB mi) pc = .ok (.goto off, 3)) (h : WG p l e R U m args below meth c Q base sp D dA nL B n0 bud tgt ls st S s) : WG p l e R U m args below meth c Q base sp D dA nL B n0 bud pc ls st S s := by
  intro H locs cells slots rls hv hl hn hc hz
  refine lv_goto F.1 F.2.1 hd ht ?_
  exact h H locs cells slots rls hv hl hn hc hz
theorem r_icmp_eq (F : FX p U m args meth c D dA mi) {off : Int} {tgt : Nat} (ht : (pc : Int) + off = (tgt : Int)) {x y : Int} (hd : decode (mB mi) pc = .ok (.if_icmp .eq off, 3)) (h1 : x = y → WG p l e R U m args below meth c Q base sp D dA nL B n0 bud tgt ls st S s) (h2 : ¬ x = y → WG p l e R U m args below meth c Q base sp D dA nL B n0 bud (pc + 3) ls st S s) : WG p l e R U m args below meth c Q base sp D dA nL B n0 bud pc ls (mI y :: mI x :: st) S s := by
  intro H locs cells slots rls hv hl hn hc hz
  refine lv_icmp_eq F.1 F.2.1 hd ht (fun q => h1 ((q_eq hn.2.1 hn.1).mp q) H locs cells slots rls hv hl hn.2.2 hc hz) (fun q => h2 (fun z => q ((q_eq hn.2.1 hn.1).mpr z)) H locs cells slots rls hv hl hn.2.2 hc hz)
theorem r_icmp_ne (F : FX p U m args meth c D dA mi) {off : Int} {tgt : Nat} (ht : (pc : Int) + off = (tgt : Int)) {x y : Int} (hd : decode (mB mi) pc = .ok (.if_icmp .ne off, 3)) (h1 : ¬ x = y → WG p l e R U m args below meth c Q base sp D dA nL B n0 bud tgt ls st S s) (h2 : x = y → WG p l e R U m args below meth c Q base sp D dA nL B n0 bud (pc + 3) ls st S s) : WG p l e R U m args below meth c Q base sp D dA nL B n0 bud pc ls (mI y :: mI x :: st) S s := by
  intro H locs cells slots rls hv hl hn hc hz
  refine lv_icmp_ne F.1 F.2.1 hd ht (fun q => h1 (fun z => q ((q_eq hn.2.1 hn.1).mpr z)) H locs cells slots rls hv hl hn.2.2 hc hz) (fun q => h2 ((q_eq hn.2.1 hn.1).mp q) H locs cells slots rls hv hl hn.2.2 hc hz)
theorem r_icmp_lt (F : FX p U m args meth c D dA mi) {off : Int} {tgt : Nat} (ht : (pc : Int) + off = (tgt : Int)) {x y : Int} (hd : decode (mB mi) pc = .ok (.if_icmp .lt off, 3)) (h1 : x < y → WG p l e R U m args below meth c Q base sp D dA nL B n0 bud tgt ls st S s) (h2 : ¬ x < y → WG p l e R U m args below meth c Q base sp D dA nL B n0 bud (pc + 3) ls st S s) : WG p l e R U m args below meth c Q base sp D dA nL B n0 bud pc ls (mI y :: mI x :: st) S s := by
  intro H locs cells slots rls hv hl hn hc hz
  refine lv_icmp_lt F.1 F.2.1 hd ht (fun q => h1 ((q_lt hn.2.1 hn.1).mp q) H locs cells slots rls hv hl hn.2.2 hc hz) (fun q => h2 (fun z => q ((q_lt hn.2.1 hn.1).mpr z)) H locs cells slots rls hv hl hn.2.2 hc hz)
theorem r_icmp_ge (F : FX p U m args meth c D dA mi) {off : Int} {tgt : Nat} (ht : (pc : Int) + off = (tgt : Int)) {x y : Int} (hd : decode (mB mi) pc = .ok (.if_icmp .ge off, 3)) (h1 : y ≤ x → WG p l e R U m args below meth c Q base sp D dA nL B n0 bud tgt ls st S s) (h2 : ¬ y ≤ x → WG p l e R U m args below meth c Q base sp D dA nL B n0 bud (pc + 3) ls st S s) : WG p l e R U m args below meth c Q base sp D dA nL B n0 bud pc ls (mI y :: mI x :: st) S s := by
  intro H locs cells slots rls hv hl hn hc hz
  refine lv_icmp_ge F.1 F.2.1 hd ht (fun q => h1 ((q_le hn.1 hn.2.1).mp q) H locs cells slots rls hv hl hn.2.2 hc hz) (fun q => h2 (fun z => q ((q_le hn.1 hn.2.1).mpr z)) H locs cells slots rls hv hl hn.2.2 hc hz)
theorem r_icmp_gt (F : FX p U m args meth c D dA mi) {off : Int} {tgt : Nat} (ht : (pc : Int) + off = (tgt : Int)) {x y : Int} (hd : decode (mB mi) pc = .ok (.if_icmp .gt off, 3)) (h1 : y < x → WG p l e R U m args below meth c Q base sp D dA nL B n0 bud tgt ls st S s) (h2 : ¬ y < x → WG p l e R U m args below meth c Q base sp D dA nL B n0 bud (pc + 3) ls st S s) : WG p l e R U m args below meth c Q base sp D dA nL B n0 bud pc ls (mI y :: mI x :: st) S s := by
  intro H locs cells slots rls hv hl hn hc hz
  refine lv_icmp_gt F.1 F.2.1 hd ht (fun q => h1 ((q_lt hn.1 hn.2.1).mp q) H locs cells slots rls hv hl hn.2.2 hc hz) (fun q => h2 (fun z => q ((q_lt hn.1 hn.2.1).mpr z)) H locs cells slots rls hv hl hn.2.2 hc hz)
theorem r_icmp_le (F : FX p U m args meth c D dA mi) {off : Int} {tgt : Nat} (ht : (pc : Int) + off = (tgt : Int)) {x y : Int} (hd : decode (mB mi) pc = .ok (.if_icmp .le off, 3)) (h1 : x ≤ y → WG p l e R U m args below meth c Q base sp D dA nL B n0 bud tgt ls st S s) (h2 : ¬ x ≤ y → WG p l e R U m args below meth c Q base sp D dA nL B n0 bud (pc + 3) ls st S s) : WG p l e R U m args below meth c Q base sp D dA nL B n0 bud pc ls (mI y :: mI x :: st) S s := by
  intro H locs cells slots rls hv hl hn hc hz
  refine lv_icmp_le F.1 F.2.1 hd ht (fun q => h1 ((q_le hn.2.1 hn.1).mp q) H locs cells slots rls hv hl hn.2.2 hc hz) (fun q => h2 (fun z => q ((q_le hn.2.1 hn.1).mpr z)) H locs cells slots rls hv hl hn.2.2 hc hz)
theorem r_if_eq (F : FX p U m args meth c D dA mi) {off : Int} {tgt : Nat} (ht : (pc : Int) + off = (tgt : Int)) {x : Int} (hd : decode (mB mi) pc = .ok (.ifCond .eq off, 3)) (h1 : x = 0 → WG p l e R U m args below meth c Q base sp D dA nL B n0 bud tgt ls st S s) (h2 : ¬ x = 0 → WG p l e R U m args below meth c Q base sp D dA nL B n0 bud (pc + 3) ls st S s) : WG p l e R U m args below meth c Q base sp D dA nL B n0 bud pc ls (mI x :: st) S s := by
  intro H locs cells slots rls hv hl hn hc hz
  refine lv_if_eq F.1 F.2.1 hd ht (fun q => h1 ((q_eq hn.1 nr_0).mp q) H locs cells slots rls hv hl hn.2 hc hz) (fun q => h2 (fun z => q ((q_eq hn.1 nr_0).mpr z)) H locs cells slots rls hv hl hn.2 hc hz)
theorem r_if_ne (F : FX p U m args meth c D dA mi) {off : Int} {tgt : Nat} (ht : (pc : Int) + off = (tgt : Int)) {x : Int} (hd : decode (mB mi) pc = .ok (.ifCond .ne off, 3)) (h1 : ¬ x = 0 → WG p l e R U m args below meth c Q base sp D dA nL B n0 bud tgt ls st S s) (h2 : x = 0 → WG p l e R U m args below meth c Q base sp D dA nL B n0 bud (pc + 3) ls st S s) : WG p l e R U m args below meth c Q base sp D dA nL B n0 bud pc ls (mI x :: st) S s := by
  intro H locs cells slots rls hv hl hn hc hz
  refine lv_if_ne F.1 F.2.1 hd ht (fun q => h1 (fun z => q ((q_eq hn.1 nr_0).mpr z)) H locs cells slots rls hv hl hn.2 hc hz) (fun q => h2 ((q_eq hn.1 nr_0).mp q) H locs cells slots rls hv hl hn.2 hc hz)
theorem r_if_lt (F : FX p U m args meth c D dA mi) {off : Int} {tgt : Nat} (ht : (pc : Int) + off = (tgt : Int)) {x : Int} (hd : decode (mB mi) pc = .ok (.ifCond .lt off, 3)) (h1 : x < 0 → WG p l e R U m args below meth c Q base sp D dA nL B n0 bud tgt ls st S s) (h2 : ¬ x < 0 → WG p l e R U m args below meth c Q base sp D dA nL B n0 bud (pc + 3) ls st S s) : WG p l e R U m args below meth c Q base sp D dA nL B n0 bud pc ls (mI x :: st) S s := by
  intro H locs cells slots rls hv hl hn hc hz
  refine lv_if_lt F.1 F.2.1 hd ht (fun q => h1 ((q_lt hn.1 nr_0).mp q) H locs cells slots rls hv hl hn.2 hc hz) (fun q => h2 (fun z => q ((q_lt hn.1 nr_0).mpr z)) H locs cells slots rls hv hl hn.2 hc hz)
theorem r_if_ge (F : FX p U m args meth c D dA mi) {off : Int} {tgt : Nat} (ht : (pc : Int) + off = (tgt : Int)) {x : Int} (hd : decode (mB mi) pc = .ok (.ifCond .ge off, 3)) (h1 : 0 ≤ x → WG p l e R U m args below meth c Q base sp D dA nL B n0 bud tgt ls st S s) (h2 : ¬ 0 ≤ x → WG p l e R U m args below meth c Q base sp D dA nL B n0 bud (pc + 3) ls st S s) : WG p l e R U m args below meth c Q base sp D dA nL B n0 bud pc ls (mI x :: st) S s := by
  intro H locs cells slots rls hv hl hn hc hz
  refine lv_if_ge F.1 F.2.1 hd ht (fun q => h1 ((q_le nr_0 hn.1).mp q) H locs cells slots rls hv hl hn.2 hc hz) (fun q => h2 (fun z => q ((q_le nr_0 hn.1).mpr z)) H locs cells slots rls hv hl hn.2 hc hz)
theorem r_if_gt (F : FX p U m args meth c D dA mi) {off : Int} {tgt : Nat} (ht : (pc : Int) + off = (tgt : Int)) {x : Int} (hd : decode (mB mi) pc = .ok (.ifCond .gt off, 3)) (h1 : 0 < x → WG p l e R U m args below meth c Q base sp D dA nL B n0 bud tgt ls st S s) (h2 : ¬ 0 < x → WG p l e R U m args below meth c Q base sp D dA nL B n0 bud (pc + 3) ls st S s) : WG p l e R U m args below meth c Q base sp D dA nL B n0 bud pc ls (mI x :: st) S s := by
  intro H locs cells slots rls hv hl hn hc hz
  refine lv_if_gt F.1 F.2.1 hd ht (fun q => h1 ((q_lt nr_0 hn.1).mp q) H locs cells slots rls hv hl hn.2 hc hz) (fun q => h2 (fun z => q ((q_lt nr_0 hn.1).mpr z)) H locs cells slots rls hv hl hn.2 hc hz)
theorem r_if_le (F : FX p U m args meth c D dA mi) {off : Int} {tgt : Nat} (ht : (pc : Int) + off = (tgt : Int)) {x : Int} (hd : decode (mB mi) pc = .ok (.ifCond .le off, 3)) (h1 : x ≤ 0 → WG p l e R U m args below meth c Q base sp D dA nL B n0 bud tgt ls st S s) (h2 : ¬ x ≤ 0 → WG p l e R U m args below meth c Q base sp D dA nL B n0 bud (pc + 3) ls st S s) : WG p l e R U m args below meth c Q base sp D dA nL B n0 bud pc ls (mI x :: st) S s := by
  intro H locs cells slots rls hv hl hn hc hz
  refine lv_if_le F.1 F.2.1 hd ht (fun q => h1 ((q_le hn.1 nr_0).mp q) H locs cells slots rls hv hl hn.2 hc hz) (fun q => h2 (fun z => q ((q_le hn.1 nr_0).mpr z)) H locs cells slots rls hv hl hn.2 hc hz)
theorem r_ifnonnull (F : FX p U m args meth c D dA mi) {off : Int} {tgt : Nat} (ht : (pc : Int) + off = (tgt : Int)) {r : Option Nat} (hd : decode (mB mi) pc = .ok (.ifnonnull off, 3)) (h1 : ¬ r = none → WG p l e R U m args below meth c Q base sp D dA nL B n0 bud tgt ls st S s) (h2 : r = none → WG p l e R U m args below meth c Q base sp D dA nL B n0 bud (pc + 3) ls st S s) : WG p l e R U m args below meth c Q base sp D dA nL B n0 bud pc ls (Sum.inr (Sum.inr (Sum.inl r)) :: st) S s := by
  intro H locs cells slots rls hv hl hn hc hz
  rcases r with _ | r
  · refine lv_ifnonnullN F.1 F.2.1 hd ?_
    exact h2 rfl H locs cells slots rls hv hl hn.2 hc hz
  · refine lv_ifnonnull F.1 F.2.1 hd ht ?_
    exact h1 (by simp) H locs cells slots rls hv hl hn.2 hc hz
theorem r_table (F : FX p U m args meth c D dA mi) {dflt lo hi x : Int} {offs : Array Int} {len : Nat} (hg : 0 ≤ dflt ∧ ∀ o ∈ offs.toList, 0 ≤ o) (hd : decode (mB mi) pc = .ok (.tableswitch dflt lo hi offs, len)) (hq : offs[(x - lo).toNat]? = none → ¬ (x < lo ∨ hi < x) → False) (h : WG p l e R U m args below meth c Q base sp D dA nL B n0 bud (tT pc dflt lo hi offs x) ls st S s) : WG p l e R U m args below meth c Q base sp D dA nL B n0 bud pc ls (mI x :: st) S s := by
  intro H locs cells slots rls hv hl hn hc hz
  have hx := ti32 hn.1
  by_cases hb : x < lo ∨ hi < x
  · have e : (pc : Int) + dflt = (tT pc dflt lo hi offs x : Int) := by
      unfold tT; rw [if_pos hb]; have := hg.1; omega
    refine lv_tableOut F.1 F.2.1 hd (by rw [hx]; exact hb) e ?_
    exact h H locs cells slots rls hv hl hn.2 hc hz
  · cases ho : offs[(x - lo).toNat]? with
    | none =>
      exfalso
      exact hq ho hb
    | some o =>
      have h0 : 0 ≤ o := hg.2 o (by
        have := Array.getElem?_eq_some_iff.mp ho
        obtain ⟨a, b⟩ := this
        rw [← b]
        exact Array.getElem_mem_toList ..)
      have e : (pc : Int) + o = (tT pc dflt lo hi offs x : Int) := by
        unfold tT; rw [if_neg hb, ho]; show _ = (((pc : Int) + o).toNat : Int); omega
      refine lv_tableIn F.1 F.2.1 hd (by rw [hx]; omega) (by rw [hx]; omega) (by rw [hx]; exact ho) e ?_
      exact h H locs cells slots rls hv hl hn.2 hc hz
theorem lk_nn (dflt : Int) : ∀ (ps : List (Int × Int)) (x : Int), 0 ≤ dflt → (∀ q ∈ ps, 0 ≤ q.2) → 0 ≤ Op.lookupswitch.offset ps dflt x := by
  intro ps x h1
  induction ps with
  | nil => intro _; exact h1
  | cons q t ih =>
    intro h2
    unfold Op.lookupswitch.offset
    split
    · exact h2 q List.mem_cons_self
    · exact ih (fun z hz => h2 z (List.mem_cons_of_mem _ hz))
theorem r_lookup (F : FX p U m args meth c D dA mi) {dflt x : Int} {ps : Array (Int × Int)} {len : Nat} (hp : (ps.toList.zip (ps.toList.drop 1)).all (fun (a, next) => a.1 < next.1) = true) (hg : 0 ≤ dflt ∧ ∀ q ∈ ps.toList, 0 ≤ q.2) (hd : decode (mB mi) pc = .ok (.lookupswitch dflt ps, len)) (h : WG p l e R U m args below meth c Q base sp D dA nL B n0 bud (tL pc dflt ps x) ls st S s) : WG p l e R U m args below meth c Q base sp D dA nL B n0 bud pc ls (mI x :: st) S s := by
  intro H locs cells slots rls hv hl hn hc hz
  have hx := ti32 hn.1
  have h0 := lk_nn dflt ps.toList x hg.1 hg.2
  refine lv_lookup F.1 F.2.1 hd hp rfl (tgt := tL pc dflt ps x) ?_ ?_
  · rw [hx]; unfold tL; omega
  · exact h H locs cells slots rls hv hl hn.2 hc hz
end RW
end
section
/-! rows of fields and arrays -/
/-- what a field's index means: class ci, field k, of kind kd -/
def FL (mi idx ci k kd : Nat) : Prop := ∃ (C : String) (T : u_T) (N : Nat) (Y : Nat → FieldType), mCl[ci]? = some (C, T, N) ∧ k < N ∧ Cond.fieldLink (mY mi).cls idx C (T k).2.1 (T k).2.2.1 ∈ mT ∧ (T k).1 = C ∧ (∀ w ∈ u_ws C T N, w ∈ mT) ∧ (∀ j, j < N → parseFieldDescriptor (T j).2.2.1 = some (Y j)) ∧ (∀ a, a < N → ∀ b, b < N → a ≠ b → (T a).2.1 ≠ (T b).2.1) ∧ ci < 20 ∧ mFKd ci k = kd ∧
  (kd = 0 → Y k = .int ∧ (T k).2.2.2 = false) ∧ (kd = 1 → Y k = .long ∧ (T k).2.2.2 = false) ∧ (kd = 2 → (T k).2.2.2 = true ∧ ((∃ n, Y k = .object n) ∨ ∃ t, Y k = .array t)) ∧ (kd = 3 → Y k = .boolean ∧ (T k).2.2.2 = false)
theorem nf_of {ci N : Nat} {C : String} {T : u_T} (h : mCl[ci]? = some (C, T, N)) : mNf ci = N := by unfold mNf; rw [h]
theorem fs_at {base : Nat} {q : mSh} {f : Nat → Int} {k : Nat} (h : k < mNf q.1) : ((List.range (mNf q.1)).map (fun j => mFv base q j (f j)))[k]? = some (mFv base q k (f k)) := by
  rw [List.getElem?_map, List.getElem?_range h]; rfl
theorem fs_set {base n k : Nat} {g g' : Nat → Value} {v : Value} (h : k < n) (hk : g' k = v) (ho : ∀ j, j ≠ k → g' j = g j) : ((List.range n).map g).set k v = (List.range n).map g' := by
  apply List.ext_getElem?
  intro j
  by_cases e : j = k
  · subst e
    rw [List.getElem?_set_self (by simpa using h), List.getElem?_map, List.getElem?_range h, Option.map_some, hk]
  · rw [List.getElem?_set_ne (fun z => e z.symm), List.getElem?_map, List.getElem?_map]
    rcases Nat.lt_or_ge j n with hj | hj
    · rw [List.getElem?_range hj, Option.map_some, Option.map_some, ho j e]
    · rw [List.getElem?_eq_none_iff.mpr (by simpa using hj)]; rfl
theorem uS_o {s : mSt} {a k : Nat} {x : Int} {b : Nat} (h : b ≠ a) : uS s a k x b = s b := by funext j; unfold uS; rw [if_neg (fun z => h z.1)]
theorem uS_k {s : mSt} {a k : Nat} {x : Int} : uS s a k x a k = x := by unfold uS; rw [if_pos ⟨rfl, rfl⟩]
theorem uS_j {s : mSt} {a k j : Nat} {x : Int} (h : j ≠ k) : uS s a k x a j = s a j := by unfold uS; rw [if_neg (fun z => h z.2)]
theorem nar_c {x : Int} (hx : 0 ≤ x ∧ x < 65536) : vp_nar .char (Int32.ofInt x) = Int32.ofInt x := by
  have h := q_i2c (x := x) (by unfold nr32; omega)
  rw [show x % 65536 = x by omega] at h
  rw [← h]
  exact pk_vc _
section RH
variable {p : Program} {l : Launch} {e : Env} {R : Room} {U : State} {m : MethodId} {args : Array Value} {below : List Frame} {meth : Method} {c : Code} {Q : State → Prop}
variable {base : Nat} {sp : Nat → Nat} {D : va_G} {dA : Nat → ClassId} {mi nL B n0 bud pc : Nat} {ls : mLo} {st : List mV} {S : List mSh} {s : mSt}
theorem r_getI (F : FX p U m args meth c D dA mi) {idx ci k kd o : Nat} (L : FL mi idx ci k kd) (hk : kd ≠ 1 ∧ kd ≠ 2) (ho : kS S o = ci) (hd : decode (mB mi) pc = .ok (.getfield idx, 3)) (h : WG p l e R U m args below meth c Q base sp D dA nL B n0 bud (pc + 3) ls (mI (s o k) :: st) S s) : WG p l e R U m args below meth c Q base sp D dA nL B n0 bud pc ls (mR o :: st) S s := by
  intro H locs cells slots rls hv hl hn hc hz
  obtain ⟨C, T, N, Y, hcl, hkN, hlk, hC, hin, hty, hnm, hci, hkd, k0, k1, k2, k3⟩ := L
  obtain ⟨n, rs, e⟩ := kS_at ho (by omega)
  have hw := mWs_at (base := base) (dA := dA) (s := s) e
  rw [ent_obj hci] at hw
  have hnf := nf_of hcl
  refine va_get F.1 F.2.1 F.2.2.2.2.1 hin F.2.2.2.1 F.2.2.2.2.2.1 hv.1 o hw hcl k hkN (F.2.2.2.2.1 _ hlk) (fun x hx => by rw [hC] at hx; exact hx) (fs_at (by rw [hnf]; exact hkN)) hd ?_
  have hr := (hv.2.2 o _ e).2 k
  have hm : mFv base (ci, n, rs) k (s o k) = mUp base sp (mI (s o k)) := by
    unfold mFv
    rw [if_neg (by show ¬ mFKd ci k = 1; rw [hkd]; exact hk.1), if_neg (by show ¬ mFKd ci k = 2; rw [hkd]; exact hk.2)]; rfl
  rw [hm]
  exact h H locs cells slots rls hv hl ⟨(nrC_f0 hci (by rw [hkd]; exact hk.1)).mp hr, hn.2⟩ hc hz
theorem r_getJ (F : FX p U m args meth c D dA mi) {idx ci k kd o : Nat} (L : FL mi idx ci k kd) (hk : kd = 1) (ho : kS S o = ci) (hd : decode (mB mi) pc = .ok (.getfield idx, 3)) (h : WG p l e R U m args below meth c Q base sp D dA nL B n0 bud (pc + 3) ls (mJ (s o k) :: st) S s) : WG p l e R U m args below meth c Q base sp D dA nL B n0 bud pc ls (mR o :: st) S s := by
  intro H locs cells slots rls hv hl hn hc hz
  obtain ⟨C, T, N, Y, hcl, hkN, hlk, hC, hin, hty, hnm, hci, hkd, k0, k1, k2, k3⟩ := L
  obtain ⟨n, rs, e⟩ := kS_at ho (by omega)
  have hw := mWs_at (base := base) (dA := dA) (s := s) e
  rw [ent_obj hci] at hw
  have hnf := nf_of hcl
  refine va_get F.1 F.2.1 F.2.2.2.2.1 hin F.2.2.2.1 F.2.2.2.2.2.1 hv.1 o hw hcl k hkN (F.2.2.2.2.1 _ hlk) (fun x hx => by rw [hC] at hx; exact hx) (fs_at (by rw [hnf]; exact hkN)) hd ?_
  have hr := (hv.2.2 o _ e).2 k
  have hm : mFv base (ci, n, rs) k (s o k) = mUp base sp (mJ (s o k)) := by
    unfold mFv
    rw [if_pos (by show mFKd ci k = 1; rw [hkd]; exact hk)]; rfl
  rw [hm]
  exact h H locs cells slots rls hv hl ⟨(nrC_f1 hci (by rw [hkd]; exact hk)).mp hr, hn.2⟩ hc hz
theorem r_getR (F : FX p U m args meth c D dA mi) {idx ci k o r : Nat} (L : FL mi idx ci k 2) (ho : kS S o = ci) (hr : rS S o k = r + 1) (hd : decode (mB mi) pc = .ok (.getfield idx, 3)) (h : WG p l e R U m args below meth c Q base sp D dA nL B n0 bud (pc + 3) ls (mR r :: st) S s) : WG p l e R U m args below meth c Q base sp D dA nL B n0 bud pc ls (mR o :: st) S s := by
  intro H locs cells slots rls hv hl hn hc hz
  obtain ⟨C, T, N, Y, hcl, hkN, hlk, hC, hin, hty, hnm, hci, hkd, k0, k1, k2, k3⟩ := L
  obtain ⟨n, rs, e⟩ := kS_at ho (by omega)
  have hw := mWs_at (base := base) (dA := dA) (s := s) e
  rw [ent_obj hci] at hw
  have hnf := nf_of hcl
  refine va_get F.1 F.2.1 F.2.2.2.2.1 hin F.2.2.2.1 F.2.2.2.2.2.1 hv.1 o hw hcl k hkN (F.2.2.2.2.1 _ hlk) (fun x hx => by rw [hC] at hx; exact hx) (fs_at (by rw [hnf]; exact hkN)) hd ?_
  have hm : mFv base (ci, n, rs) k (s o k) = mUp base sp (mR r) := by
    unfold mFv
    unfold rS at hr
    rw [e] at hr
    have hr : rs.getD k 0 = r + 1 := hr
    rw [if_neg (by show ¬ mFKd ci k = 1; rw [hkd]; decide), if_pos (by show mFKd ci k = 2; exact hkd)]
    show mRf base (rs.getD k 0) = _
    rw [hr]; rfl
  rw [hm]
  exact h H locs cells slots rls hv hl ⟨trivial, hn.2⟩ hc hz
theorem r_putI (F : FX p U m args meth c D dA mi) {idx ci k o : Nat} {x : Int} (L : FL mi idx ci k 0)  (ho : kS S o = ci) (hd : decode (mB mi) pc = .ok (.putfield idx, 3)) (h : WG p l e R U m args below meth c Q base sp D dA nL B n0 bud (pc + 3) ls st S (uS s o k x)) : WG p l e R U m args below meth c Q base sp D dA nL B n0 bud pc ls (mI x :: mR o :: st) S s := by
  intro H locs cells slots rls hv hl hn hc hz
  obtain ⟨C, T, N, Y, hcl, hkN, hlk, hC, hin, hty, hnm, hci, hkd, k0, k1, k2, k3⟩ := L
  obtain ⟨n, rs, e⟩ := kS_at ho (by omega)
  have hw := mWs_at (base := base) (dA := dA) (s := s) e
  rw [ent_obj hci] at hw
  have hnf := nf_of hcl
  have hY := k0 rfl
  refine va_put F.1 F.2.1 F.2.2.2.2.1 hin Y hty hnm F.2.2.2.1 F.2.2.2.2.2.1 hv.1 mWs_D hv.2.1 o hw hcl k hkN (F.2.2.2.2.1 _ hlk) (fun x hx => by rw [hC] at hx; exact hx) hY.2 (hty k hkN) (v := mUp base sp (mI x)) (by rw [hY.1]; rfl) (by rw [hY.1]; rfl) (by simpa [hnf] using hkN) hd (fun H1 locs1 hP1 hD1 hS1 => ?_)
  rw [mWs_set (S' := S) (s' := uS s o k x) rfl e (fun j hj => ⟨rfl, uS_o hj⟩) (by
    rw [ent_obj hci]
    refine congrArg (fun z => Sum.inr (ci, z)) (fs_set (base := base) (by rw [hnf]; exact hkN) ?_ (fun j hj => ?_)).symm
    · rw [uS_k]; unfold mFv; rw [if_neg (by show ¬ mFKd ci k = 1; rw [hkd]; decide), if_neg (by show ¬ mFKd ci k = 2; rw [hkd]; decide)]; rfl
    · rw [uS_j hj])] at hP1
  exact h H1 locs1 cells slots rls ⟨hP1, hS1, nrH_up hv.2.2 e ((nrC_f0 hci (by show mFKd ci k ≠ 1; rw [hkd]; decide)).mpr hn.1)⟩ hl hn.2.2 hc hz
theorem r_putZ (F : FX p U m args meth c D dA mi) {idx ci k o : Nat} {x : Int} (L : FL mi idx ci k 3) (hx : x = 0 ∨ x = 1) (ho : kS S o = ci) (hd : decode (mB mi) pc = .ok (.putfield idx, 3)) (h : WG p l e R U m args below meth c Q base sp D dA nL B n0 bud (pc + 3) ls st S (uS s o k x)) : WG p l e R U m args below meth c Q base sp D dA nL B n0 bud pc ls (mI x :: mR o :: st) S s := by
  intro H locs cells slots rls hv hl hn hc hz
  obtain ⟨C, T, N, Y, hcl, hkN, hlk, hC, hin, hty, hnm, hci, hkd, k0, k1, k2, k3⟩ := L
  obtain ⟨n, rs, e⟩ := kS_at ho (by omega)
  have hw := mWs_at (base := base) (dA := dA) (s := s) e
  rw [ent_obj hci] at hw
  have hnf := nf_of hcl
  have hY := k3 rfl
  refine va_put F.1 F.2.1 F.2.2.2.2.1 hin Y hty hnm F.2.2.2.1 F.2.2.2.2.2.1 hv.1 mWs_D hv.2.1 o hw hcl k hkN (F.2.2.2.2.1 _ hlk) (fun x hx => by rw [hC] at hx; exact hx) hY.2 (hty k hkN) (v := mUp base sp (mI x)) (by rw [hY.1]; rcases hx with rfl | rfl <;> rfl) (by rw [hY.1]; rcases hx with rfl | rfl <;> rfl) (by simpa [hnf] using hkN) hd (fun H1 locs1 hP1 hD1 hS1 => ?_)
  rw [mWs_set (S' := S) (s' := uS s o k x) rfl e (fun j hj => ⟨rfl, uS_o hj⟩) (by
    rw [ent_obj hci]
    refine congrArg (fun z => Sum.inr (ci, z)) (fs_set (base := base) (by rw [hnf]; exact hkN) ?_ (fun j hj => ?_)).symm
    · rw [uS_k]; unfold mFv; rw [if_neg (by show ¬ mFKd ci k = 1; rw [hkd]; decide), if_neg (by show ¬ mFKd ci k = 2; rw [hkd]; decide)]; rfl
    · rw [uS_j hj])] at hP1
  exact h H1 locs1 cells slots rls ⟨hP1, hS1, nrH_up hv.2.2 e ((nrC_f0 hci (by show mFKd ci k ≠ 1; rw [hkd]; decide)).mpr hn.1)⟩ hl hn.2.2 hc hz
theorem r_putJ (F : FX p U m args meth c D dA mi) {idx ci k o : Nat} {x : Int} (L : FL mi idx ci k 1)  (ho : kS S o = ci) (hd : decode (mB mi) pc = .ok (.putfield idx, 3)) (h : WG p l e R U m args below meth c Q base sp D dA nL B n0 bud (pc + 3) ls st S (uS s o k x)) : WG p l e R U m args below meth c Q base sp D dA nL B n0 bud pc ls (mJ x :: mR o :: st) S s := by
  intro H locs cells slots rls hv hl hn hc hz
  obtain ⟨C, T, N, Y, hcl, hkN, hlk, hC, hin, hty, hnm, hci, hkd, k0, k1, k2, k3⟩ := L
  obtain ⟨n, rs, e⟩ := kS_at ho (by omega)
  have hw := mWs_at (base := base) (dA := dA) (s := s) e
  rw [ent_obj hci] at hw
  have hnf := nf_of hcl
  have hY := k1 rfl
  refine va_put F.1 F.2.1 F.2.2.2.2.1 hin Y hty hnm F.2.2.2.1 F.2.2.2.2.2.1 hv.1 mWs_D hv.2.1 o hw hcl k hkN (F.2.2.2.2.1 _ hlk) (fun x hx => by rw [hC] at hx; exact hx) hY.2 (hty k hkN) (v := mUp base sp (mJ x)) (by rw [hY.1]; rfl) (by rw [hY.1]; rfl) (by simpa [hnf] using hkN) hd (fun H1 locs1 hP1 hD1 hS1 => ?_)
  rw [mWs_set (S' := S) (s' := uS s o k x) rfl e (fun j hj => ⟨rfl, uS_o hj⟩) (by
    rw [ent_obj hci]
    refine congrArg (fun z => Sum.inr (ci, z)) (fs_set (base := base) (by rw [hnf]; exact hkN) ?_ (fun j hj => ?_)).symm
    · rw [uS_k]; unfold mFv; rw [if_pos (by show mFKd ci k = 1; exact hkd)]; rfl
    · rw [uS_j hj])] at hP1
  exact h H1 locs1 cells slots rls ⟨hP1, hS1, nrH_up hv.2.2 e ((nrC_f1 hci hkd).mpr hn.1)⟩ hl hn.2.2 hc hz
theorem pS_at {S : List mSh} {o k v n : Nat} {ci : Nat} {rs : List Nat} (e : S[o]? = some (ci, n, rs)) : (pS S o k v)[o]? = some (ci, n, rs.set k v) := by
  simp [pS, List.getElem?_modify, e]
theorem pS_ne {S : List mSh} {o k v j : Nat} (h : j ≠ o) : (pS S o k v)[j]? = S[j]? := by
  have h : ¬ o = j := fun z => h z.symm
  simp [pS, List.getElem?_modify, h]
theorem pS_len {S : List mSh} {o k v : Nat} : (pS S o k v).length = S.length := by unfold pS; exact List.length_modify ..
theorem r_putR (F : FX p U m args meth c D dA mi) {idx ci k o r : Nat} (L : FL mi idx ci k 2) (hin1 : (mY mi).name = "<init>") (hown1 : ∀ C T N, mCl[ci]? = some (C, T, N) → C = (mY mi).cls) (hrl : ∀ n rs, S[o]? = some (ci, n, rs) → k < rs.length) (ho : kS S o = ci) (hd : decode (mB mi) pc = .ok (.putfield idx, 3)) (h : WG p l e R U m args below meth c Q base sp D dA nL B n0 bud (pc + 3) ls st (pS S o k (r + 1)) s) : WG p l e R U m args below meth c Q base sp D dA nL B n0 bud pc ls (mR r :: mR o :: st) S s := by
  intro H locs cells slots rls hv hl hn hc hz
  obtain ⟨C, T, N, Y, hcl, hkN, hlk, hC, hin, hty, hnm, hci, hkd, k0, k1, k2, k3⟩ := L
  obtain ⟨n, rs, e⟩ := kS_at ho (by omega)
  have hw := mWs_at (base := base) (dA := dA) (s := s) e
  rw [ent_obj hci] at hw
  have hnf := nf_of hcl
  have hY := k2 rfl
  have hrs := hrl n rs e
  refine va_putF F.1 F.2.1 F.2.2.2.2.1 hin Y hty hnm F.2.2.2.1 F.2.2.2.2.2.1 hv.1 mWs_D hv.2.1 o hw hcl k hkN (F.2.2.2.2.1 _ hlk) (fun x hx => by rw [hC] at hx; exact hx) hY.1 (F.2.2.2.2.2.2.2.2.trans hin1) (hC.trans (hown1 _ _ _ hcl)) (hty k hkN) (by rcases hY.2 with ⟨_, q⟩ | ⟨_, q⟩ <;> rw [q] <;> rfl) (by rcases hY.2 with ⟨_, q⟩ | ⟨_, q⟩ <;> rw [q] <;> rfl) (by simpa [hnf] using hkN) hd (fun H1 locs1 hP1 hD1 hS1 => ?_)
  have e' := pS_at (k := k) (v := r + 1) e
  rw [mWs_set (S' := pS S o k (r + 1)) (s' := s) pS_len e' (fun j hj => ⟨pS_ne hj, rfl⟩) (by
    rw [ent_obj hci]
    refine congrArg (fun z => Sum.inr (ci, z)) (fs_set (base := base) (by rw [hnf]; exact hkN) ?_ (fun j hj => ?_)).symm
    · unfold mFv
      rw [if_neg (by show ¬ mFKd ci k = 1; rw [hkd]; decide), if_pos (by show mFKd ci k = 2; exact hkd)]
      show mRf base ((rs.set k (r + 1)).getD k 0) = _
      rw [List.getD_eq_getElem?_getD, List.getElem?_set_self hrs]; rfl
    · unfold mFv
      show (if mFKd ci j = 1 then _ else if mFKd ci j = 2 then mRf base ((rs.set k (r + 1)).getD j 0) else _) = (if mFKd ci j = 1 then _ else if mFKd ci j = 2 then mRf base (rs.getD j 0) else _)
      rw [List.getD_eq_getElem?_getD, List.getElem?_set_ne (fun z => hj z.symm), ← List.getD_eq_getElem?_getD])] at hP1
  refine h H1 locs1 cells slots rls ⟨hP1, hS1, fun a q hq => ?_⟩ hl hn.2.2 (by rw [pS_len]; exact hc) hz
  by_cases ha : a = o
  · subst ha
    rw [e'] at hq
    cases hq
    have := hv.2.2 a _ e
    exact this
  · rw [pS_ne ha] at hq
    exact hv.2.2 a q hq
theorem r_iald (F : FX p U m args meth c D dA mi) {a n : Nat} {j : Int} (ha : aS S a 22 n) (hj : 0 ≤ j ∧ j < n) (hd : decode (mB mi) pc = .ok (.iaload, 1)) (h : WG p l e R U m args below meth c Q base sp D dA nL B n0 bud (pc + 1) ls (mI (s a j.toNat) :: st) S s) : WG p l e R U m args below meth c Q base sp D dA nL B n0 bud pc ls (mI j :: mR a :: st) S s := by
  intro H locs cells slots rls hv hl hn hc hz
  obtain ⟨rs, e⟩ := aS_at ha (by decide)
  have hw := mWs_at (base := base) (dA := dA) (s := s) e
  rw [ent_int (show 20 ≤ 22 by decide) (show 22 ≠ 23 by decide) (show 22 < 25 by decide)] at hw
  have hb := hv.2.2 a _ e
  have hi := q_ix hj (Nat.lt_of_le_of_lt hb.1 (by decide))
  refine va_iald F.1 F.2.1 F.2.2.2.2.2.1 hv.1 a 2 hw rfl hi.1 hd ?_
  rw [hi.2]
  exact h H locs cells slots rls hv hl ⟨(nrC_int (show 20 ≤ 22 by decide) (show 22 ≠ 23 by decide) (show 22 < 25 by decide)).mp (hb.2 j.toNat), hn.2.2⟩ hc hz
theorem r_bald (F : FX p U m args meth c D dA mi) {a n : Nat} {j : Int} (ha : aS S a 20 n) (hj : 0 ≤ j ∧ j < n) (hd : decode (mB mi) pc = .ok (.baload, 1)) (h : WG p l e R U m args below meth c Q base sp D dA nL B n0 bud (pc + 1) ls (mI (s a j.toNat) :: st) S s) : WG p l e R U m args below meth c Q base sp D dA nL B n0 bud pc ls (mI j :: mR a :: st) S s := by
  intro H locs cells slots rls hv hl hn hc hz
  obtain ⟨rs, e⟩ := aS_at ha (by decide)
  have hw := mWs_at (base := base) (dA := dA) (s := s) e
  rw [ent_int (show 20 ≤ 20 by decide) (show 20 ≠ 23 by decide) (show 20 < 25 by decide)] at hw
  have hb := hv.2.2 a _ e
  have hi := q_ix hj (Nat.lt_of_le_of_lt hb.1 (by decide))
  refine va_bald F.1 F.2.1 F.2.2.2.2.2.1 hv.1 a 0 hw rfl hi.1 hd ?_
  rw [hi.2]
  exact h H locs cells slots rls hv hl ⟨(nrC_int (show 20 ≤ 20 by decide) (show 20 ≠ 23 by decide) (show 20 < 25 by decide)).mp (hb.2 j.toNat), hn.2.2⟩ hc hz
theorem r_zald (F : FX p U m args meth c D dA mi) {a n : Nat} {j : Int} (ha : aS S a 24 n) (hj : 0 ≤ j ∧ j < n) (hd : decode (mB mi) pc = .ok (.baload, 1)) (h : WG p l e R U m args below meth c Q base sp D dA nL B n0 bud (pc + 1) ls (mI (s a j.toNat) :: st) S s) : WG p l e R U m args below meth c Q base sp D dA nL B n0 bud pc ls (mI j :: mR a :: st) S s := by
  intro H locs cells slots rls hv hl hn hc hz
  obtain ⟨rs, e⟩ := aS_at ha (by decide)
  have hw := mWs_at (base := base) (dA := dA) (s := s) e
  rw [ent_int (show 20 ≤ 24 by decide) (show 24 ≠ 23 by decide) (show 24 < 25 by decide)] at hw
  have hb := hv.2.2 a _ e
  have hi := q_ix hj (Nat.lt_of_le_of_lt hb.1 (by decide))
  refine va_zald F.1 F.2.1 F.2.2.2.2.2.1 hv.1 a 4 hw rfl hi.1 hd ?_
  rw [hi.2]
  exact h H locs cells slots rls hv hl ⟨(nrC_int (show 20 ≤ 24 by decide) (show 24 ≠ 23 by decide) (show 24 < 25 by decide)).mp (hb.2 j.toNat), hn.2.2⟩ hc hz
theorem r_cald (F : FX p U m args meth c D dA mi) {a n : Nat} {j : Int} (ha : aS S a 21 n) (hj : 0 ≤ j ∧ j < n) (hd : decode (mB mi) pc = .ok (.caload, 1)) (h : WG p l e R U m args below meth c Q base sp D dA nL B n0 bud (pc + 1) ls (mI (s a j.toNat) :: st) S s) : WG p l e R U m args below meth c Q base sp D dA nL B n0 bud pc ls (mI j :: mR a :: st) S s := by
  intro H locs cells slots rls hv hl hn hc hz
  obtain ⟨rs, e⟩ := aS_at ha (by decide)
  have hw := mWs_at (base := base) (dA := dA) (s := s) e
  rw [ent_int (show 20 ≤ 21 by decide) (show 21 ≠ 23 by decide) (show 21 < 25 by decide)] at hw
  have hb := hv.2.2 a _ e
  have hi := q_ix hj (Nat.lt_of_le_of_lt hb.1 (by decide))
  refine va_cald F.1 F.2.1 F.2.2.2.2.2.1 hv.1 a 1 hw rfl hi.1 hd ?_
  rw [hi.2]
  exact h H locs cells slots rls hv hl ⟨(nrC_int (show 20 ≤ 21 by decide) (show 21 ≠ 23 by decide) (show 21 < 25 by decide)).mp (hb.2 j.toNat), hn.2.2⟩ hc hz
theorem r_lald (F : FX p U m args meth c D dA mi) {a n : Nat} {j : Int} (ha : aS S a 23 n) (hj : 0 ≤ j ∧ j < n) (hd : decode (mB mi) pc = .ok (.laload, 1)) (h : WG p l e R U m args below meth c Q base sp D dA nL B n0 bud (pc + 1) ls (mJ (s a j.toNat) :: st) S s) : WG p l e R U m args below meth c Q base sp D dA nL B n0 bud pc ls (mI j :: mR a :: st) S s := by
  intro H locs cells slots rls hv hl hn hc hz
  obtain ⟨rs, e⟩ := aS_at ha (by decide)
  have hw := mWs_at (base := base) (dA := dA) (s := s) e
  rw [ent_long rfl] at hw
  have hb := hv.2.2 a _ e
  have hi := q_ix hj (Nat.lt_of_le_of_lt hb.1 (by decide))
  refine va_lald F.1 F.2.1 F.2.2.2.2.2.1 hv.1 a 3 hw rfl hi.1 hd ?_
  rw [hi.2]
  exact h H locs cells slots rls hv hl ⟨(nrC_long rfl).mp (hb.2 j.toNat), hn.2.2⟩ hc hz
theorem rw_of {base : Nat} {x : Int} {r : Nat} (h : x = r) : va_rf (mRw base x) = .ref (base + r) := by
  subst h
  unfold mRw
  rw [if_neg (by omega)]
  simp [va_rf]
theorem ty_ref {dA : Nat → ClassId} {kd : Nat} (h : 25 ≤ kd ∧ kd ≤ 28) : ∃ ty, (mTys dA)[kd - 20]? = some (dA kd, ty) ∧ ty.isReference = true := by
  obtain ⟨h1, h2⟩ := h
  rcases (show kd = 25 ∨ kd = 26 ∨ kd = 27 ∨ kd = 28 by omega) with rfl | rfl | rfl | rfl <;> exact ⟨_, rfl, rfl⟩
theorem r_aald (F : FX p U m args meth c D dA mi) {a n kd r : Nat} {j : Int} (ha : aS S a kd n) (hk : 25 ≤ kd ∧ kd ≤ 28) (hj : 0 ≤ j ∧ j < n) (hr : s a j.toNat = r) (hd : decode (mB mi) pc = .ok (.aaload, 1)) (h : WG p l e R U m args below meth c Q base sp D dA nL B n0 bud (pc + 1) ls (mR r :: st) S s) : WG p l e R U m args below meth c Q base sp D dA nL B n0 bud pc ls (mI j :: mR a :: st) S s := by
  intro H locs cells slots rls hv hl hn hc hz
  obtain ⟨rs, e⟩ := aS_at ha (by omega)
  have hw := mWs_at (base := base) (dA := dA) (s := s) e
  rw [ent_ref hk.1] at hw
  have hb := hv.2.2 a _ e
  have hi := q_ix hj (Nat.lt_of_le_of_lt hb.1 (by decide))
  obtain ⟨ty, ht, hty⟩ := ty_ref (dA := dA) hk
  have hlt : (Int32.ofInt j).toNatClampNeg < n := by rw [hi.2]; omega
  refine W.aald (v := va_rf (mRw base (s a (Int32.ofInt j).toNatClampNeg))) (ty := ty) F.1 F.2.1 (hv.1 a _ hw) ((F.2.2.2.2.2.1.2 _ _ ht).1 n (fun j => va_rf (mRw base (s a j)))) hty (fun q => by cases q) (by show ¬ (Int32.ofInt j < 0 ∨ (arrV _ _ _).slots.size ≤ _); rw [arrV_size]; exact hi.1) (by show (arrV _ _ _).slots[_]? = _; rw [arrV_read _ _ hlt]) rfl rfl hd ?_
  rw [hi.2, rw_of hr]
  exact h H locs cells slots rls hv hl ⟨trivial, hn.2.2⟩ hc hz
theorem r_iast (F : FX p U m args meth c D dA mi) {a n : Nat} {j x : Int} (ha : aS S a 22 n)  (hj : 0 ≤ j ∧ j < n) (hd : decode (mB mi) pc = .ok (.iastore, 1)) (h : WG p l e R U m args below meth c Q base sp D dA nL B n0 bud (pc + 1) ls st S (uS s a j.toNat x)) : WG p l e R U m args below meth c Q base sp D dA nL B n0 bud pc ls (mI x :: mI j :: mR a :: st) S s := by
  intro H locs cells slots rls hv hl hn hc hz
  obtain ⟨rs, e⟩ := aS_at ha (by decide)
  have hw := mWs_at (base := base) (dA := dA) (s := s) e
  rw [ent_int (show 20 ≤ 22 by decide) (show 22 ≠ 23 by decide) (show 22 < 25 by decide)] at hw
  have hb := hv.2.2 a _ e
  have hi := q_ix hj (Nat.lt_of_le_of_lt hb.1 (by decide))
  refine va_iast F.1 F.2.1 F.2.2.2.2.2.1 hv.1 mWs_D hv.2.1 a 2 hw rfl hi.1 hd (fun H1 locs1 hP1 hD1 hS1 => ?_)
  rw [hi.2] at hP1
  rw [mWs_set (S' := S) (s' := uS s a j.toNat x) rfl e (fun b hb => ⟨rfl, uS_o hb⟩) (by
    rw [ent_int (show 20 ≤ 22 by decide) (show 22 ≠ 23 by decide) (show 22 < 25 by decide)]
    refine congrArg (fun z => Sum.inl (dA 22, n, Sum.inl z)) (funext fun q => ?_)
    by_cases hq : q = j.toNat
    · subst hq; rw [uS_k]; simp [upd]
    · rw [uS_j hq]; simp [upd, hq])] at hP1
  exact h H1 locs1 cells slots rls ⟨hP1, hS1, nrH_up hv.2.2 e ((nrC_int (show 20 ≤ 22 by decide) (show 22 ≠ 23 by decide) (show 22 < 25 by decide)).mpr hn.1)⟩ hl hn.2.2.2 hc hz
theorem r_last (F : FX p U m args meth c D dA mi) {a n : Nat} {j x : Int} (ha : aS S a 23 n)  (hj : 0 ≤ j ∧ j < n) (hd : decode (mB mi) pc = .ok (.lastore, 1)) (h : WG p l e R U m args below meth c Q base sp D dA nL B n0 bud (pc + 1) ls st S (uS s a j.toNat x)) : WG p l e R U m args below meth c Q base sp D dA nL B n0 bud pc ls (mJ x :: mI j :: mR a :: st) S s := by
  intro H locs cells slots rls hv hl hn hc hz
  obtain ⟨rs, e⟩ := aS_at ha (by decide)
  have hw := mWs_at (base := base) (dA := dA) (s := s) e
  rw [ent_long rfl] at hw
  have hb := hv.2.2 a _ e
  have hi := q_ix hj (Nat.lt_of_le_of_lt hb.1 (by decide))
  refine va_last F.1 F.2.1 F.2.2.2.2.2.1 hv.1 mWs_D hv.2.1 a 3 hw rfl hi.1 hd (fun H1 locs1 hP1 hD1 hS1 => ?_)
  rw [hi.2] at hP1
  rw [mWs_set (S' := S) (s' := uS s a j.toNat x) rfl e (fun b hb => ⟨rfl, uS_o hb⟩) (by
    rw [ent_long rfl]
    refine congrArg (fun z => Sum.inl (dA 23, n, Sum.inr (Sum.inl z))) (funext fun q => ?_)
    by_cases hq : q = j.toNat
    · subst hq; rw [uS_k]; simp [vp_updL]
    · rw [uS_j hq]; simp [vp_updL, hq])] at hP1
  exact h H1 locs1 cells slots rls ⟨hP1, hS1, nrH_up hv.2.2 e ((nrC_long rfl).mpr hn.1)⟩ hl hn.2.2.2 hc hz
theorem r_bast (F : FX p U m args meth c D dA mi) {a n : Nat} {j x : Int} (ha : aS S a 20 n) (hx : -128 ≤ x ∧ x < 128) (hj : 0 ≤ j ∧ j < n) (hd : decode (mB mi) pc = .ok (.bastore, 1)) (h : WG p l e R U m args below meth c Q base sp D dA nL B n0 bud (pc + 1) ls st S (uS s a j.toNat x)) : WG p l e R U m args below meth c Q base sp D dA nL B n0 bud pc ls (mI x :: mI j :: mR a :: st) S s := by
  intro H locs cells slots rls hv hl hn hc hz
  obtain ⟨rs, e⟩ := aS_at ha (by decide)
  have hw := mWs_at (base := base) (dA := dA) (s := s) e
  rw [ent_int (show 20 ≤ 20 by decide) (show 20 ≠ 23 by decide) (show 20 < 25 by decide)] at hw
  have hb := hv.2.2 a _ e
  have hi := q_ix hj (Nat.lt_of_le_of_lt hb.1 (by decide))
  refine va_bast F.1 F.2.1 F.2.2.2.2.2.1 hv.1 mWs_D hv.2.1 a 0 hw rfl hi.1 hd (fun H1 locs1 hP1 hD1 hS1 => ?_)
  rw [hi.2] at hP1
  rw [vp_nar_byte, q_i2b hn.1, show w8 x = x from Int.bmod_eq_of_le (by omega) (by omega)] at hP1
  rw [mWs_set (S' := S) (s' := uS s a j.toNat x) rfl e (fun b hb => ⟨rfl, uS_o hb⟩) (by
    rw [ent_int (show 20 ≤ 20 by decide) (show 20 ≠ 23 by decide) (show 20 < 25 by decide)]
    refine congrArg (fun z => Sum.inl (dA 20, n, Sum.inl z)) (funext fun q => ?_)
    by_cases hq : q = j.toNat
    · subst hq; rw [uS_k]; simp [upd]
    · rw [uS_j hq]; simp [upd, hq])] at hP1
  exact h H1 locs1 cells slots rls ⟨hP1, hS1, nrH_up hv.2.2 e ((nrC_int (show 20 ≤ 20 by decide) (show 20 ≠ 23 by decide) (show 20 < 25 by decide)).mpr hn.1)⟩ hl hn.2.2.2 hc hz
theorem r_zast (F : FX p U m args meth c D dA mi) {a n : Nat} {j x : Int} (ha : aS S a 24 n) (hx : x = 0 ∨ x = 1) (hj : 0 ≤ j ∧ j < n) (hd : decode (mB mi) pc = .ok (.bastore, 1)) (h : WG p l e R U m args below meth c Q base sp D dA nL B n0 bud (pc + 1) ls st S (uS s a j.toNat x)) : WG p l e R U m args below meth c Q base sp D dA nL B n0 bud pc ls (mI x :: mI j :: mR a :: st) S s := by
  intro H locs cells slots rls hv hl hn hc hz
  obtain ⟨rs, e⟩ := aS_at ha (by decide)
  have hw := mWs_at (base := base) (dA := dA) (s := s) e
  rw [ent_int (show 20 ≤ 24 by decide) (show 24 ≠ 23 by decide) (show 24 < 25 by decide)] at hw
  have hb := hv.2.2 a _ e
  have hi := q_ix hj (Nat.lt_of_le_of_lt hb.1 (by decide))
  refine va_zast F.1 F.2.1 F.2.2.2.2.2.1 hv.1 mWs_D hv.2.1 a 4 hw rfl hi.1 hd (fun H1 locs1 hP1 hD1 hS1 => ?_)
  rw [hi.2] at hP1
  rw [show vp_nar .boolean (Int32.ofInt x) = Int32.ofInt x by rcases hx with rfl | rfl <;> rfl] at hP1
  rw [mWs_set (S' := S) (s' := uS s a j.toNat x) rfl e (fun b hb => ⟨rfl, uS_o hb⟩) (by
    rw [ent_int (show 20 ≤ 24 by decide) (show 24 ≠ 23 by decide) (show 24 < 25 by decide)]
    refine congrArg (fun z => Sum.inl (dA 24, n, Sum.inl z)) (funext fun q => ?_)
    by_cases hq : q = j.toNat
    · subst hq; rw [uS_k]; simp [upd]
    · rw [uS_j hq]; simp [upd, hq])] at hP1
  exact h H1 locs1 cells slots rls ⟨hP1, hS1, nrH_up hv.2.2 e ((nrC_int (show 20 ≤ 24 by decide) (show 24 ≠ 23 by decide) (show 24 < 25 by decide)).mpr hn.1)⟩ hl hn.2.2.2 hc hz
theorem r_cast (F : FX p U m args meth c D dA mi) {a n : Nat} {j x : Int} (ha : aS S a 21 n) (hx : 0 ≤ x ∧ x < 65536) (hj : 0 ≤ j ∧ j < n) (hd : decode (mB mi) pc = .ok (.castore, 1)) (h : WG p l e R U m args below meth c Q base sp D dA nL B n0 bud (pc + 1) ls st S (uS s a j.toNat x)) : WG p l e R U m args below meth c Q base sp D dA nL B n0 bud pc ls (mI x :: mI j :: mR a :: st) S s := by
  intro H locs cells slots rls hv hl hn hc hz
  obtain ⟨rs, e⟩ := aS_at ha (by decide)
  have hw := mWs_at (base := base) (dA := dA) (s := s) e
  rw [ent_int (show 20 ≤ 21 by decide) (show 21 ≠ 23 by decide) (show 21 < 25 by decide)] at hw
  have hb := hv.2.2 a _ e
  have hi := q_ix hj (Nat.lt_of_le_of_lt hb.1 (by decide))
  refine va_cast F.1 F.2.1 F.2.2.2.2.2.1 hv.1 mWs_D hv.2.1 a 1 hw rfl hi.1 hd (fun H1 locs1 hP1 hD1 hS1 => ?_)
  rw [hi.2] at hP1
  rw [nar_c hx] at hP1
  rw [mWs_set (S' := S) (s' := uS s a j.toNat x) rfl e (fun b hb => ⟨rfl, uS_o hb⟩) (by
    rw [ent_int (show 20 ≤ 21 by decide) (show 21 ≠ 23 by decide) (show 21 < 25 by decide)]
    refine congrArg (fun z => Sum.inl (dA 21, n, Sum.inl z)) (funext fun q => ?_)
    by_cases hq : q = j.toNat
    · subst hq; rw [uS_k]; simp [upd]
    · rw [uS_j hq]; simp [upd, hq])] at hP1
  exact h H1 locs1 cells slots rls ⟨hP1, hS1, nrH_up hv.2.2 e ((nrC_int (show 20 ≤ 21 by decide) (show 21 ≠ 23 by decide) (show 21 < 25 by decide)).mpr hn.1)⟩ hl hn.2.2.2 hc hz
end RH
end
section
/-! constants, rows of references, lengths, the script, new cells, copies -/
theorem sW_eq {base : Nat} {sp : Nat → Nat} : ∀ (st : List mV), ((st.map (mUp base sp)).map fun v => v.category).sum = sW st
  | [] => rfl
  | Sum.inl x :: t => by
    rw [List.map_cons, List.map_cons, List.sum_cons, sW_eq t]
    show 1 + sW t = sW t + 1
    omega
  | Sum.inr (Sum.inl x) :: t => by
    rw [List.map_cons, List.map_cons, List.sum_cons, sW_eq t]
    show 2 + sW t = sW t + 2
    omega
  | Sum.inr (Sum.inr (Sum.inl none)) :: t => by
    rw [List.map_cons, List.map_cons, List.sum_cons, sW_eq t]
    show 1 + sW t = sW t + 1
    omega
  | Sum.inr (Sum.inr (Sum.inl (some k))) :: t => by
    rw [List.map_cons, List.map_cons, List.sum_cons, sW_eq t]
    show 1 + sW t = sW t + 1
    omega
  | Sum.inr (Sum.inr (Sum.inr j)) :: t => by
    rw [List.map_cons, List.map_cons, List.sum_cons, sW_eq t]
    show 1 + sW t = sW t + 1
    omega
/-- what a class is: its words, its fields' types, what a new object holds -/
def CLs (ci : Nat) (C : String) (T : u_T) (N : Nat) (Y : Nat → FieldType) : Prop := mCl[ci]? = some (C, T, N) ∧ (∀ w ∈ u_ws C T N, w ∈ mT) ∧ (∀ j, j < N → parseFieldDescriptor (T j).2.2.1 = some (Y j)) ∧ ci < 20 ∧ (∀ j, j < N → defaultValue (Y j) = if mFKd ci j = 1 then .long 0 else if mFKd ci j = 2 then .null else .int 0) ∧ Cond.instantiable C N ∈ mT ∧ Cond.initialized C ∈ mT ∧ N ≤ 2400
section RM
variable {p : Program} {l : Launch} {e : Env} {R : Room} {U : State} {m : MethodId} {args : Array Value} {below : List Frame} {meth : Method} {c : Code} {Q : State → Prop}
variable {base : Nat} {sp : Nat → Nat} {D : va_G} {dA : Nat → ClassId} {mi nL B n0 bud pc : Nat} {ls : mLo} {st : List mV} {S : List mSh} {s : mSt}
theorem r_ldc (F : FX p U m args meth c D dA mi) {idx : Nat} {a : Int} (ha : nr32 a) (hlk : Cond.constant (mY mi).cls idx (Int32.ofInt a) ∈ mT) (hd : decode (mB mi) pc = .ok (.ldc idx, 2)) (h : WG p l e R U m args below meth c Q base sp D dA nL B n0 bud (pc + 2) ls (mI a :: st) S s) : WG p l e R U m args below meth c Q base sp D dA nL B n0 bud pc ls st S s := by
  intro H locs cells slots rls hv hl hn hc hz
  refine lv_ldc F.1 F.2.1 F.2.2.2.1 (F.2.2.2.2.1 _ hlk) hd ?_
  exact h H locs cells slots rls hv hl ⟨ha, hn⟩ hc hz
theorem r_ldcw (F : FX p U m args meth c D dA mi) {idx : Nat} {a : Int} (ha : nr32 a) (hlk : Cond.constant (mY mi).cls idx (Int32.ofInt a) ∈ mT) (hd : decode (mB mi) pc = .ok (.ldc_w idx, 3)) (h : WG p l e R U m args below meth c Q base sp D dA nL B n0 bud (pc + 3) ls (mI a :: st) S s) : WG p l e R U m args below meth c Q base sp D dA nL B n0 bud pc ls st S s := by
  intro H locs cells slots rls hv hl hn hc hz
  refine lv_ldcw F.1 F.2.1 F.2.2.2.1 (F.2.2.2.2.1 _ hlk) hd ?_
  exact h H locs cells slots rls hv hl ⟨ha, hn⟩ hc hz
theorem r_ldc2 (F : FX p U m args meth c D dA mi) {idx : Nat} {a : Int} (ha : nr64 a) (hlk : Cond.constantLong (mY mi).cls idx (Int64.ofInt a) ∈ mT) (hd : decode (mB mi) pc = .ok (.ldc2_w idx, 3)) (h : WG p l e R U m args below meth c Q base sp D dA nL B n0 bud (pc + 3) ls (mJ a :: st) S s) : WG p l e R U m args below meth c Q base sp D dA nL B n0 bud pc ls st S s := by
  intro H locs cells slots rls hv hl hn hc hz
  refine lv_ldc2 F.1 F.2.1 F.2.2.2.1 (F.2.2.2.2.1 _ hlk) hd ?_
  exact h H locs cells slots rls hv hl ⟨ha, hn⟩ hc hz
theorem el_cl {kd : Nat} (h1 : 25 ≤ kd) (h2 : kd ≤ 27) {dA : Nat → ClassId} : ∃ q : vw_C, mCl[elOf kd]? = some q ∧ (mTys dA)[kd - 20]? = some (dA kd, .object q.1) ∧ elOf kd < 20 := by
  rcases (show kd = 25 ∨ kd = 26 ∨ kd = 27 by omega) with rfl | rfl | rfl
  · exact ⟨_, rfl, rfl, by decide⟩
  · exact ⟨_, rfl, rfl, by decide⟩
  · exact ⟨_, rfl, rfl, by decide⟩
theorem r_aast (F : FX p U m args meth c D dA mi) {a n kd r : Nat} {j : Int} (ha : aS S a kd n) (hk : 25 ≤ kd ∧ kd ≤ 27 ∧ kS S r = elOf kd) (hj : 0 ≤ j ∧ j < n) (hd : decode (mB mi) pc = .ok (.aastore, 1)) (h : WG p l e R U m args below meth c Q base sp D dA nL B n0 bud (pc + 1) ls st S (uS s a j.toNat r)) : WG p l e R U m args below meth c Q base sp D dA nL B n0 bud pc ls (mR r :: mI j :: mR a :: st) S s := by
  intro H locs cells slots rls hv hl hn hc hz
  obtain ⟨rs, e⟩ := aS_at ha (by omega)
  have hw := mWs_at (base := base) (dA := dA) (s := s) e
  rw [ent_ref hk.1] at hw
  have hb := hv.2.2 a _ e
  have hi := q_ix hj (Nat.lt_of_le_of_lt hb.1 (by decide))
  obtain ⟨q, hq, ht, hlt⟩ := el_cl hk.1 hk.2.1 (dA := dA)
  obtain ⟨n', rs', e'⟩ := kS_at hk.2.2 (by omega)
  have hw' := mWs_at (base := base) (dA := dA) (s := s) e'
  rw [ent_obj hlt] at hw'
  refine va_astq F.1 F.2.1 F.2.2.2.2.2.1 hv.1 mWs_D hv.2.1 a (kd - 20) r (elOf kd) hw ht hw' hq hi.1 hd (fun H1 locs1 hP1 hD1 hS1 => ?_)
  rw [hi.2] at hP1
  rw [mWs_set (S' := S) (s' := uS s a j.toNat r) rfl e (fun b hb => ⟨rfl, uS_o hb⟩) (by
    rw [ent_ref hk.1]
    refine congrArg (fun z => Sum.inl (dA kd, n, Sum.inr (Sum.inr (Sum.inr (Sum.inr z))))) (funext fun q => ?_)
    by_cases hq : q = j.toNat
    · subst hq
      rw [uS_k]
      unfold mRw
      rw [if_neg (by omega)]
      simp [va_up]
    · rw [uS_j hq]; simp [va_up, hq])] at hP1
  exact h H1 locs1 cells slots rls ⟨hP1, hS1, nrH_up hv.2.2 e (nrC_ref hk.1)⟩ hl hn.2.2.2 hc hz
theorem ent_arr {base : Nat} {dA : Nat → ClassId} {q : mSh} {f : Nat → Int} (h : 20 ≤ q.1) : ∃ z, mEnt base dA q f = .inl (dA q.1, q.2.1, z) := by
  unfold mEnt
  rw [if_neg (by omega)]
  split
  · exact ⟨_, rfl⟩
  · split <;> exact ⟨_, rfl⟩
theorem ty_at {dA : Nat → ClassId} {kd : Nat} (h : 20 ≤ kd ∧ kd ≤ 28) : ∃ ty, (mTys dA)[kd - 20]? = some (dA kd, ty) := by
  rcases (show kd = 20 ∨ kd = 21 ∨ kd = 22 ∨ kd = 23 ∨ kd = 24 ∨ kd = 25 ∨ kd = 26 ∨ kd = 27 ∨ kd = 28 by omega) with rfl | rfl | rfl | rfl | rfl | rfl | rfl | rfl | rfl <;> exact ⟨_, rfl⟩
theorem r_alen (F : FX p U m args meth c D dA mi) {a n kd : Nat} (ha : aS S a kd n) (hk : 20 ≤ kd ∧ kd ≤ 28 ∧ n < 2147483648) (hd : decode (mB mi) pc = .ok (.arraylength, 1)) (h : WG p l e R U m args below meth c Q base sp D dA nL B n0 bud (pc + 1) ls (mI n :: st) S s) : WG p l e R U m args below meth c Q base sp D dA nL B n0 bud pc ls (mR a :: st) S s := by
  intro H locs cells slots rls hv hl hn hc hz
  obtain ⟨rs, e⟩ := aS_at ha (by omega)
  have hw := mWs_at (base := base) (dA := dA) (s := s) e
  obtain ⟨z, hz1⟩ := ent_arr (base := base) (dA := dA) (q := (kd, n, rs)) (f := s a) hk.1
  rw [hz1] at hw
  obtain ⟨ty, ht⟩ := ty_at (dA := dA) ⟨hk.1, hk.2.1⟩
  refine va_alen (v := Int32.ofInt n) F.1 F.2.1 F.2.2.2.2.2.1 hv.1 a (kd - 20) hw ht rfl hd ?_
  exact h H locs cells slots rls hv hl ⟨(show nr32 _ by unfold nr32; omega), hn.2⟩ hc hz
/-- the script, as the law's frame has it -/
def SX (X : (Nat → Int) × Nat) (U : State) (base : Nat) (sp : Nat → Nat) : Prop := ∃ xs : Nat → Int32, va_X (sp 0) X.2 xs U U.heap ∧ sp 0 < U.heap.size ∧ sp 0 < base ∧ X.2 < 2147483648 ∧ ∀ j, j < X.2 → (xs j).toInt = X.1 j
theorem r_sld (F : FX p U m args meth c D dA mi) {X : (Nat → Int) × Nat} (hX : SX X U base sp) {j : Int} (hj : 0 ≤ j ∧ j < X.2) (hd : decode (mB mi) pc = .ok (.iaload, 1)) (h : WG p l e R U m args below meth c Q base sp D dA nL B n0 bud (pc + 1) ls (mI (X.1 j.toNat) :: st) S s) : WG p l e R U m args below meth c Q base sp D dA nL B n0 bud pc ls (mI j :: mX 0 :: st) S s := by
  intro H locs cells slots rls hv hl hn hc hz
  obtain ⟨xs, h1, h2, h3, h4, h5⟩ := hX
  have hi := q_ix hj h4
  refine va_sld F.1 F.2.1 h1 h2 (Nat.not_le.mpr h3) hv.2.1 hi.1 hd ?_
  rw [hi.2]
  have hx := h5 j.toNat (by omega)
  have hxx : xs j.toNat = Int32.ofInt (X.1 j.toNat) := by rw [← hx, Int32.ofInt_toInt]
  rw [hxx]
  exact h H locs cells slots rls hv hl ⟨(show nr32 _ by rw [← hx]; exact nr_i _), hn.2.2⟩ hc hz
theorem r_slen (F : FX p U m args meth c D dA mi) {X : (Nat → Int) × Nat} (hX : SX X U base sp) (hd : decode (mB mi) pc = .ok (.arraylength, 1)) (h : WG p l e R U m args below meth c Q base sp D dA nL B n0 bud (pc + 1) ls (mI X.2 :: st) S s) : WG p l e R U m args below meth c Q base sp D dA nL B n0 bud pc ls (mX 0 :: st) S s := by
  intro H locs cells slots rls hv hl hn hc hz
  obtain ⟨xs, h1, h2, h3, h4, h5⟩ := hX
  refine va_slen F.1 F.2.1 h1 h2 (Nat.not_le.mpr h3) hv.2.1 hd ?_
  exact h H locs cells slots rls hv hl ⟨(show nr32 _ by unfold nr32; omega), hn.2⟩ hc hz
theorem r_oinit (F : FX p U m args meth c D dA mi) {idx r : Nat} (hlk : Cond.methodLink (mY mi).cls idx Lib.objectInit ∈ mT) (hin : Cond.instanceMethod Lib.objectInit ∈ mT) (hco : Cond.code Lib.objectInit ⟨#[0xb1]⟩ 1 none ∈ mT) (hnl : nL = mML mi) (hfr : 1 ≤ R.frames) (hlo : 20 ≤ R.locals) (hw : sW st ≤ 8) (hd : decode (mB mi) pc = .ok (.invokespecial idx, 3)) (h : WG p l e R U m args below meth c Q base sp D dA nL B n0 bud (pc + 3) ls st S s) : WG p l e R U m args below meth c Q base sp D dA nL B n0 bud pc ls (mR r :: st) S s := by
  intro H locs cells slots rls hv hl hn hc hz
  refine W.objInit F.1 F.2.1 F.2.2.2.1 (F.2.2.2.2.1 _ hlk) (F.2.2.2.2.1 _ hin) (F.2.2.2.2.1 _ hco) rfl (by show rls.size = _; rw [hl.2.1, F.2.2.1, hnl]) rfl hd hfr ?_ ?_
  · have := sW_eq (base := base) (sp := sp) st
    show 2 * 0 + ((st.map (mUp base sp)).map fun v => v.category).sum + 12 ≤ _
    omega
  · exact h H locs cells slots rls hv hl hn.2 hc hz
theorem cS_o {s : mSt} {a i b j n d : Nat} (h : d ≠ b) : cS s a i b j n d = s d := by funext q; unfold cS; rw [if_neg (fun z => h z.1)]
theorem r_copy (F : FX p U m args meth c D dA mi) {idx a b l0 l1 : Nat} {i j n : Int} (hlk : Cond.methodLink (mY mi).cls idx arraycopyName ∈ mT) (hna : Cond.native arraycopyName ∈ mT) (hst : Cond.static arraycopyName ∈ mT) (hin : Cond.initialized "java/lang/System" ∈ mT) (hnl : nL = mML mi) (hfr : 1 ≤ R.frames) (hlo : 60 ≤ R.locals) (hw : sW st ≤ 8) (ha : aS S a 22 l0 ∧ 0 ≤ i ∧ 0 ≤ n ∧ i + n ≤ l0) (hb : aS S b 22 l1 ∧ 0 ≤ j ∧ j + n ≤ l1) (hd : decode (mB mi) pc = .ok (.invokestatic idx, 3)) (h : WG p l e R U m args below meth c Q base sp D dA nL B n0 bud (pc + 3) ls st S (cS s a i.toNat b j.toNat n.toNat)) : WG p l e R U m args below meth c Q base sp D dA nL B n0 bud pc ls (mI n :: mI j :: mR b :: mI i :: mR a :: st) S s := by
  intro H locs cells slots rls hv hl hn hc hz
  obtain ⟨ha, hi0, hn0, hin0⟩ := ha
  obtain ⟨hb, hj0, hjn⟩ := hb
  obtain ⟨rs, ea⟩ := aS_at ha (by decide)
  obtain ⟨rt, eb⟩ := aS_at hb (by decide)
  have hwa := mWs_at (base := base) (dA := dA) (s := s) ea
  have hwb := mWs_at (base := base) (dA := dA) (s := s) eb
  rw [ent_int (show 20 ≤ 22 by decide) (show 22 ≠ 23 by decide) (show 22 < 25 by decide)] at hwa hwb
  have ba := hv.2.2 a _ ea
  have bb := hv.2.2 b _ eb
  have b1 : l0 ≤ 2400 := ba.1
  have b2 : l1 ≤ 2400 := bb.1
  have nn : ∀ z : Int, 0 ≤ z → z ≤ 2400 → ¬ Int32.ofInt z < 0 ∧ (Int32.ofInt z).toNatClampNeg = z.toNat := by
    intro z h0 h1
    have hr : nr32 z := by unfold nr32; omega
    refine ⟨by rw [z32, q_lt hr nr_0]; omega, ?_⟩
    show (Int32.ofInt z).toInt.toNat = _
    rw [ti32 hr]
  obtain ⟨i1, i2⟩ := nn i hi0 (by omega)
  obtain ⟨j1, j2⟩ := nn j hj0 (by omega)
  obtain ⟨k1, k2⟩ := nn n hn0 (by omega)
  refine va_copyi F.1 F.2.1 (by rw [F.2.2.1, hl.2.1, hnl]) F.2.2.2.1 (F.2.2.2.2.1 _ hlk) (F.2.2.2.2.1 _ hna) (F.2.2.2.2.1 _ hst) (F.2.2.2.2.1 _ hin) F.2.2.2.2.2.1 hv.1 mWs_D hv.2.1 a b 2 2 hwa hwb rfl rfl rfl i1 j1 k1 (by rw [i2, k2]; show i.toNat + n.toNat ≤ l0; omega) (by rw [j2, k2]; show j.toNat + n.toNat ≤ l1; omega) (fun _ _ => rfl) hfr ?_ hd (fun H1 locs1 hP1 hD1 hS1 => ?_)
  · have := sW_eq (base := base) (sp := sp) st
    rw [this]
    exact Nat.le_trans (Nat.add_le_add_right hw _) (Nat.le_trans (by decide +kernel) hlo)
  rw [i2, j2, k2] at hP1
  rw [mWs_set (S' := S) (s' := cS s a i.toNat b j.toNat n.toNat) rfl eb (fun d hd => ⟨rfl, cS_o hd⟩) (by
    rw [ent_int (show 20 ≤ 22 by decide) (show 22 ≠ 23 by decide) (show 22 < 25 by decide)]
    refine congrArg (fun z => Sum.inl (dA 22, l1, Sum.inl z)) (funext fun q => ?_)
    unfold cS
    by_cases hq : j.toNat ≤ q ∧ q < j.toNat + n.toNat
    · rw [if_pos ⟨rfl, hq⟩, pk_cpy_in hq.1 hq.2]
    · rw [if_neg (fun z => hq z.2), pk_cpy_out (by omega)])] at hP1
  refine h H1 locs1 cells slots rls ⟨hP1, hS1, fun d q hq => ⟨(hv.2.2 d q hq).1, fun k => ?_⟩⟩ hl hn.2.2.2.2.2 hc hz
  unfold cS
  by_cases hk : d = b ∧ j.toNat ≤ k ∧ k < j.toNat + n.toNat
  · rw [if_pos hk]
    obtain ⟨rfl, -⟩ := hk
    cases hq.symm.trans eb
    exact (nrC_int (show 20 ≤ 22 by decide) (show 22 ≠ 23 by decide) (show 22 < 25 by decide)).mpr ((nrC_int (show 20 ≤ 22 by decide) (show 22 ≠ 23 by decide) (show 22 < 25 by decide)).mp (ba.2 _))
  · rw [if_neg hk]; exact (hv.2.2 d q hq).2 k
end RM
end
section
/-! new cells -/
theorem sz_eq {base n0 cells bud B : Nat} {D : va_G} {dA : Nat → ClassId} {U : State} {S : List mSh} {s : mSt} {H : Heap} {locs : List Loc} (hU : U.heap.size = base + n0) (hv : HV base D dA U.heap S s H locs) (hc : cells + bud = B ∧ S.length + bud = n0 + B) (hup : H.size ≤ U.heap.size + cells) : H.size = base + S.length := by
  have h1 := hv.2.1.1
  have h2 : base + S.length ≤ H.size := by
    rcases Nat.eq_zero_or_pos S.length with h0 | h0
    · omega
    · have hk : S.length - 1 < S.length := by omega
      have := (hv.1 _ _ (mWs_at (List.getElem?_eq_getElem hk))).lt
      have this : base + (S.length - 1) < H.size := this
      omega
  omega
theorem P_app {base : Nat} {D : va_G} {dA : Nat → ClassId} {S T : List mSh} {s s' : mSt} {H H1 : Heap} (hsz : H.size = base + S.length) (hP : va_P D mCl (mWs base dA S s) H) (ho : ∀ q : Nat, q < H.size → H1[q]? = H[q]?) (hs : ∀ k, k < S.length → s' k = s k) (hn : ∀ (i : Nat) (q : mSh), T[i]? = some q → va_at D mCl (base + (S.length + i), mEnt base dA q (s' (S.length + i))) H1) : va_P D mCl (mWs base dA (S ++ T) s') H1 := by
  intro k x hx
  obtain ⟨h1, h2⟩ := mWs_lt hx
  rcases Nat.lt_or_ge k S.length with hk | hk
  · have e1 : (S ++ T)[k]? = some S[k] := by rw [List.getElem?_append_left hk, List.getElem?_eq_getElem hk]
    rw [mWs_at e1, hs k hk] at hx
    have := hP k _ (mWs_at (List.getElem?_eq_getElem hk))
    cases hx
    exact this.kept (ho _ (by show base + k < H.size; omega))
  · have hl : k - S.length < T.length := by rw [List.length_append] at h1; omega
    have e1 : (S ++ T)[k]? = some T[k - S.length] := by rw [List.getElem?_append_right hk, List.getElem?_eq_getElem hl]
    rw [mWs_at e1] at hx
    have := hn (k - S.length) _ (List.getElem?_eq_getElem hl)
    rw [show S.length + (k - S.length) = k by omega] at this
    cases hx
    exact this
theorem zS_o {s : mSt} {a b : Nat} {x : Int} (h : b ≠ a) : zS s a x b = s b := by funext j; unfold zS; rw [if_neg h]
theorem zS_s {s : mSt} {a j : Nat} {x : Int} : zS s a x a j = x := by unfold zS; rw [if_pos rfl]
theorem nrC_0 (q : mSh) (j : Nat) : nrC q j 0 := by
  unfold nrC
  split
  · exact nr_up nr_0
  · split
    · exact nr_0
    · trivial
theorem nrH_app {S T : List mSh} {s s' : mSt} (h : nrH S s) (hs : ∀ k, k < S.length → s' k = s k) (hn : ∀ (i : Nat) (q : mSh), T[i]? = some q → q.2.1 ≤ 2400 ∧ ∀ j, nrC q j (s' (S.length + i) j)) : nrH (S ++ T) s' := by
  intro k q hq
  rcases Nat.lt_or_ge k S.length with hk | hk
  · rw [List.getElem?_append_left hk] at hq
    rw [hs k hk]
    exact h k q hq
  · rw [List.getElem?_append_right hk] at hq
    have := hn _ q hq
    rw [show S.length + (k - S.length) = k by omega] at this
    exact this
theorem one_at {α : Type} {q x : α} {i : Nat} (h : [q][i]? = some x) : i = 0 ∧ x = q := by
  have hi : i < 1 := (List.getElem?_eq_some_iff.mp h).1
  have : i = 0 := by omega
  subst this
  exact ⟨rfl, (Option.some.inj h).symm⟩
theorem S_new {base : Nat} {H0 H H1 : Heap} {locs : List Loc} (h : va_S (mA base) H0 H locs) (hz : H.size ≤ H1.size) (ho : ∀ q : Nat, q < H.size → H1[q]? = H[q]?) : va_S (mA base) H0 H1 locs :=
  ⟨Nat.le_trans h.1 hz, fun x h1 h2 => (ho x (Nat.lt_of_lt_of_le h1 h.1)).trans (h.2.1 x h1 h2), h.2.2⟩
section RN
variable {p : Program} {l : Launch} {e : Env} {R : Room} {U : State} {m : MethodId} {args : Array Value} {below : List Frame} {meth : Method} {c : Code} {Q : State → Prop}
variable {base : Nat} {sp : Nat → Nat} {D : va_G} {dA : Nat → ClassId} {mi nL B n0 bud pc : Nat} {ls : mLo} {st : List mV} {S : List mSh} {s : mSt}
theorem W_size {H : Heap} {locs : List Loc} {cells slots : Nat} {g : JFrame} (h : H.size ≤ U.heap.size + cells → W p l e R U m args below meth c H locs cells slots Q g) : W p l e R U m args below meth c H locs cells slots Q g := fun T hT X => h (by rw [← hT]; exact X.heapSize) T hT X
theorem r_new (F : FX p U m args meth c D dA mi) (hU : U.heap.size = base + n0) (hB : B ≤ R.cells ∧ 2400 * B ≤ R.slots) {idx ci N : Nat} {C : String} {T : u_T} {Y : Nat → FieldType} (L : CLs ci C T N Y) (hlk : Cond.classLink (mY mi).cls idx C ∈ mT) (hd : decode (mB mi) pc = .ok (.new idx, 3)) (h : WG p l e R U m args below meth c Q base sp D dA nL B n0 bud (pc + 3) ls (mR S.length :: st) (S ++ [(ci, N, List.replicate N 0)]) (zS s S.length 0)) : WG p l e R U m args below meth c Q base sp D dA nL B n0 (bud + 1) pc ls st S s := by
  intro H locs cells slots rls hv hl hn hc hz
  refine W_size (fun hup => ?_)
  have hs := sz_eq hU hv hc hup
  obtain ⟨hcl, hin, hty, hci, hdf, hins, hini, hN⟩ := L
  have hKn := F.2.2.2.2.2.1.1 ci _ hcl
  have hnf := nf_of hcl
  refine W.newcK F.1 F.2.1 F.2.2.2.1 (F.2.2.2.2.1 _ hlk) (F.2.2.2.2.1 _ hins) (F.2.2.2.2.1 _ hini) rfl hd (by omega) (by omega) hKn.2.1 hs (fun H1 kC hkC e1 z1 o1 => ?_)
  refine h H1 locs (cells + 1) (slots + N) rls ⟨P_app hs hv.1 (fun q hq => o1 q (by omega)) (fun k hk => zS_o (by omega)) (fun i q hq => ?_), S_new hv.2.1 (by omega) (fun q hq => o1 q (by omega)), nrH_app hv.2.2 (fun k hk => zS_o (by omega)) (fun i q hq => ?_)⟩ hl ⟨trivial, hn⟩ (by rw [List.length_append]; show _ ∧ S.length + 1 + bud = _; omega) (by omega)
  · obtain ⟨rfl, rfl⟩ := one_at hq
    rw [ent_obj hci]
    refine ⟨_, hcl, (u_born Y F.2.2.2.2.1 hin hKn hkC e1 hty).to (fun j hj => ?_)⟩
    unfold vp_V
    rw [List.getD_eq_getElem?_getD, fs_at (by show j < mNf ci; rw [hnf]; exact hj), hdf j hj]
    show _ = mFv base (ci, N, List.replicate N 0) j (zS s S.length 0 S.length j)
    rw [zS_s]
    unfold mFv
    show _ = if mFKd ci j = 1 then _ else if mFKd ci j = 2 then mRf base ((List.replicate N 0).getD j 0) else _
    split
    · rfl
    · split
      · rw [List.getD_eq_getElem?_getD, List.getElem?_replicate, if_pos hj]; rfl
      · rfl
  · obtain ⟨rfl, rfl⟩ := one_at hq
    exact ⟨hN, fun j => by rw [Nat.add_zero, zS_s]; exact nrC_0 _ _⟩
theorem r_newa_byte (F : FX p U m args meth c D dA mi) (hU : U.heap.size = base + n0) (hB : B ≤ R.cells ∧ 2400 * B ≤ R.slots) (harr : Cond.arrayClass .byte ∈ mT) {n : Int} (hn0 : 0 ≤ n ∧ n ≤ 2400) (hd : decode (mB mi) pc = .ok (.newarray .byte, 2)) (h : WG p l e R U m args below meth c Q base sp D dA nL B n0 bud (pc + 2) ls (mR S.length :: st) (S ++ [(20, n.toNat, [])]) (zS s S.length 0)) : WG p l e R U m args below meth c Q base sp D dA nL B n0 (bud + 1) pc ls (mI n :: st) S s := by
  intro H locs cells slots rls hv hl hn hc hz
  refine W_size (fun hup => ?_)
  have hs := sz_eq hU hv hc hup
  have hr : nr32 n := by unfold nr32; omega
  have h0 : ¬ Int32.ofInt n < 0 := by rw [z32, q_lt hr nr_0]; omega
  have h1 : (Int32.ofInt n).toNatClampNeg = n.toNat := by show (Int32.ofInt n).toInt.toNat = _; rw [ti32 hr]
  refine va_newaK (atype := .byte) F.1 F.2.1 (F.2.2.2.2.1 _ harr) rfl hd rfl h0 h1 (by show n.toNat * _ ≤ _; exact Nat.le_trans (Nat.mul_le_mul (show n.toNat ≤ 2400 by omega) (show componentBytes .byte ≤ 8 by decide)) (by decide)) (by omega) (by omega) hs (fun H1 cA e1 z1 o1 hAr hNm => ?_)
  have hcA : cA = dA 20 := Option.some.inj (hNm.symm.trans (F.2.2.2.2.2.1.2 0 _ rfl).2)
  refine h H1 locs (cells + 1) (slots + n.toNat) rls ⟨P_app hs hv.1 (fun q hq => o1 q (by omega)) (fun k hk => zS_o (by omega)) (fun i q hq => ?_), S_new hv.2.1 (by omega) (fun q hq => o1 q (by omega)), nrH_app hv.2.2 (fun k hk => zS_o (by omega)) (fun i q hq => ?_)⟩ hl ⟨trivial, hn.2⟩ (by rw [List.length_append]; show _ ∧ S.length + 1 + bud = _; omega) (by omega)
  · obtain ⟨rfl, rfl⟩ := one_at hq
    rw [ent_int (show 20 ≤ 20 by decide) (show 20 ≠ 23 by decide) (show 20 < 25 by decide)]
    show H1[base + S.length]? = some (vp_cell _ _)
    rw [e1, hcA]
    show some (arrV (dA 20) n.toNat fun _ => Value.int 0) = some (arrV (dA 20) n.toNat fun j => Value.int (Int32.ofInt (zS s S.length 0 (S.length + 0) j)))
    refine congrArg (fun f => some (arrV (dA 20) n.toNat f)) (funext fun j => ?_)
    rw [Nat.add_zero, zS_s]
    rfl
  · obtain ⟨rfl, rfl⟩ := one_at hq
    exact ⟨(show n.toNat ≤ 2400 by omega), fun j => by rw [Nat.add_zero, zS_s]; exact nrC_0 _ _⟩
theorem r_newa_char (F : FX p U m args meth c D dA mi) (hU : U.heap.size = base + n0) (hB : B ≤ R.cells ∧ 2400 * B ≤ R.slots) (harr : Cond.arrayClass .char ∈ mT) {n : Int} (hn0 : 0 ≤ n ∧ n ≤ 2400) (hd : decode (mB mi) pc = .ok (.newarray .char, 2)) (h : WG p l e R U m args below meth c Q base sp D dA nL B n0 bud (pc + 2) ls (mR S.length :: st) (S ++ [(21, n.toNat, [])]) (zS s S.length 0)) : WG p l e R U m args below meth c Q base sp D dA nL B n0 (bud + 1) pc ls (mI n :: st) S s := by
  intro H locs cells slots rls hv hl hn hc hz
  refine W_size (fun hup => ?_)
  have hs := sz_eq hU hv hc hup
  have hr : nr32 n := by unfold nr32; omega
  have h0 : ¬ Int32.ofInt n < 0 := by rw [z32, q_lt hr nr_0]; omega
  have h1 : (Int32.ofInt n).toNatClampNeg = n.toNat := by show (Int32.ofInt n).toInt.toNat = _; rw [ti32 hr]
  refine va_newaK (atype := .char) F.1 F.2.1 (F.2.2.2.2.1 _ harr) rfl hd rfl h0 h1 (by show n.toNat * _ ≤ _; exact Nat.le_trans (Nat.mul_le_mul (show n.toNat ≤ 2400 by omega) (show componentBytes .char ≤ 8 by decide)) (by decide)) (by omega) (by omega) hs (fun H1 cA e1 z1 o1 hAr hNm => ?_)
  have hcA : cA = dA 21 := Option.some.inj (hNm.symm.trans (F.2.2.2.2.2.1.2 1 _ rfl).2)
  refine h H1 locs (cells + 1) (slots + n.toNat) rls ⟨P_app hs hv.1 (fun q hq => o1 q (by omega)) (fun k hk => zS_o (by omega)) (fun i q hq => ?_), S_new hv.2.1 (by omega) (fun q hq => o1 q (by omega)), nrH_app hv.2.2 (fun k hk => zS_o (by omega)) (fun i q hq => ?_)⟩ hl ⟨trivial, hn.2⟩ (by rw [List.length_append]; show _ ∧ S.length + 1 + bud = _; omega) (by omega)
  · obtain ⟨rfl, rfl⟩ := one_at hq
    rw [ent_int (show 20 ≤ 21 by decide) (show 21 ≠ 23 by decide) (show 21 < 25 by decide)]
    show H1[base + S.length]? = some (vp_cell _ _)
    rw [e1, hcA]
    show some (arrV (dA 21) n.toNat fun _ => Value.int 0) = some (arrV (dA 21) n.toNat fun j => Value.int (Int32.ofInt (zS s S.length 0 (S.length + 0) j)))
    refine congrArg (fun f => some (arrV (dA 21) n.toNat f)) (funext fun j => ?_)
    rw [Nat.add_zero, zS_s]
    rfl
  · obtain ⟨rfl, rfl⟩ := one_at hq
    exact ⟨(show n.toNat ≤ 2400 by omega), fun j => by rw [Nat.add_zero, zS_s]; exact nrC_0 _ _⟩
theorem r_newa_int (F : FX p U m args meth c D dA mi) (hU : U.heap.size = base + n0) (hB : B ≤ R.cells ∧ 2400 * B ≤ R.slots) (harr : Cond.arrayClass .int ∈ mT) {n : Int} (hn0 : 0 ≤ n ∧ n ≤ 2400) (hd : decode (mB mi) pc = .ok (.newarray .int, 2)) (h : WG p l e R U m args below meth c Q base sp D dA nL B n0 bud (pc + 2) ls (mR S.length :: st) (S ++ [(22, n.toNat, [])]) (zS s S.length 0)) : WG p l e R U m args below meth c Q base sp D dA nL B n0 (bud + 1) pc ls (mI n :: st) S s := by
  intro H locs cells slots rls hv hl hn hc hz
  refine W_size (fun hup => ?_)
  have hs := sz_eq hU hv hc hup
  have hr : nr32 n := by unfold nr32; omega
  have h0 : ¬ Int32.ofInt n < 0 := by rw [z32, q_lt hr nr_0]; omega
  have h1 : (Int32.ofInt n).toNatClampNeg = n.toNat := by show (Int32.ofInt n).toInt.toNat = _; rw [ti32 hr]
  refine va_newaK (atype := .int) F.1 F.2.1 (F.2.2.2.2.1 _ harr) rfl hd rfl h0 h1 (by show n.toNat * _ ≤ _; exact Nat.le_trans (Nat.mul_le_mul (show n.toNat ≤ 2400 by omega) (show componentBytes .int ≤ 8 by decide)) (by decide)) (by omega) (by omega) hs (fun H1 cA e1 z1 o1 hAr hNm => ?_)
  have hcA : cA = dA 22 := Option.some.inj (hNm.symm.trans (F.2.2.2.2.2.1.2 2 _ rfl).2)
  refine h H1 locs (cells + 1) (slots + n.toNat) rls ⟨P_app hs hv.1 (fun q hq => o1 q (by omega)) (fun k hk => zS_o (by omega)) (fun i q hq => ?_), S_new hv.2.1 (by omega) (fun q hq => o1 q (by omega)), nrH_app hv.2.2 (fun k hk => zS_o (by omega)) (fun i q hq => ?_)⟩ hl ⟨trivial, hn.2⟩ (by rw [List.length_append]; show _ ∧ S.length + 1 + bud = _; omega) (by omega)
  · obtain ⟨rfl, rfl⟩ := one_at hq
    rw [ent_int (show 20 ≤ 22 by decide) (show 22 ≠ 23 by decide) (show 22 < 25 by decide)]
    show H1[base + S.length]? = some (vp_cell _ _)
    rw [e1, hcA]
    show some (arrV (dA 22) n.toNat fun _ => Value.int 0) = some (arrV (dA 22) n.toNat fun j => Value.int (Int32.ofInt (zS s S.length 0 (S.length + 0) j)))
    refine congrArg (fun f => some (arrV (dA 22) n.toNat f)) (funext fun j => ?_)
    rw [Nat.add_zero, zS_s]
    rfl
  · obtain ⟨rfl, rfl⟩ := one_at hq
    exact ⟨(show n.toNat ≤ 2400 by omega), fun j => by rw [Nat.add_zero, zS_s]; exact nrC_0 _ _⟩
theorem r_newa_long (F : FX p U m args meth c D dA mi) (hU : U.heap.size = base + n0) (hB : B ≤ R.cells ∧ 2400 * B ≤ R.slots) (harr : Cond.arrayClass .long ∈ mT) {n : Int} (hn0 : 0 ≤ n ∧ n ≤ 2400) (hd : decode (mB mi) pc = .ok (.newarray .long, 2)) (h : WG p l e R U m args below meth c Q base sp D dA nL B n0 bud (pc + 2) ls (mR S.length :: st) (S ++ [(23, n.toNat, [])]) (zS s S.length 0)) : WG p l e R U m args below meth c Q base sp D dA nL B n0 (bud + 1) pc ls (mI n :: st) S s := by
  intro H locs cells slots rls hv hl hn hc hz
  refine W_size (fun hup => ?_)
  have hs := sz_eq hU hv hc hup
  have hr : nr32 n := by unfold nr32; omega
  have h0 : ¬ Int32.ofInt n < 0 := by rw [z32, q_lt hr nr_0]; omega
  have h1 : (Int32.ofInt n).toNatClampNeg = n.toNat := by show (Int32.ofInt n).toInt.toNat = _; rw [ti32 hr]
  refine va_newaK (atype := .long) F.1 F.2.1 (F.2.2.2.2.1 _ harr) rfl hd rfl h0 h1 (by show n.toNat * _ ≤ _; exact Nat.le_trans (Nat.mul_le_mul (show n.toNat ≤ 2400 by omega) (show componentBytes .long ≤ 8 by decide)) (by decide)) (by omega) (by omega) hs (fun H1 cA e1 z1 o1 hAr hNm => ?_)
  have hcA : cA = dA 23 := Option.some.inj (hNm.symm.trans (F.2.2.2.2.2.1.2 3 _ rfl).2)
  refine h H1 locs (cells + 1) (slots + n.toNat) rls ⟨P_app hs hv.1 (fun q hq => o1 q (by omega)) (fun k hk => zS_o (by omega)) (fun i q hq => ?_), S_new hv.2.1 (by omega) (fun q hq => o1 q (by omega)), nrH_app hv.2.2 (fun k hk => zS_o (by omega)) (fun i q hq => ?_)⟩ hl ⟨trivial, hn.2⟩ (by rw [List.length_append]; show _ ∧ S.length + 1 + bud = _; omega) (by omega)
  · obtain ⟨rfl, rfl⟩ := one_at hq
    rw [ent_long rfl]
    show H1[base + S.length]? = some (vp_cell _ _)
    rw [e1, hcA]
    show some (arrV (dA 23) n.toNat fun _ => Value.long 0) = some (arrV (dA 23) n.toNat fun j => Value.long (Int64.ofInt (zS s S.length 0 (S.length + 0) j)))
    refine congrArg (fun f => some (arrV (dA 23) n.toNat f)) (funext fun j => ?_)
    rw [Nat.add_zero, zS_s]
    rfl
  · obtain ⟨rfl, rfl⟩ := one_at hq
    exact ⟨(show n.toNat ≤ 2400 by omega), fun j => by rw [Nat.add_zero, zS_s]; exact nrC_0 _ _⟩
theorem r_newa_boolean (F : FX p U m args meth c D dA mi) (hU : U.heap.size = base + n0) (hB : B ≤ R.cells ∧ 2400 * B ≤ R.slots) (harr : Cond.arrayClass .boolean ∈ mT) {n : Int} (hn0 : 0 ≤ n ∧ n ≤ 2400) (hd : decode (mB mi) pc = .ok (.newarray .boolean, 2)) (h : WG p l e R U m args below meth c Q base sp D dA nL B n0 bud (pc + 2) ls (mR S.length :: st) (S ++ [(24, n.toNat, [])]) (zS s S.length 0)) : WG p l e R U m args below meth c Q base sp D dA nL B n0 (bud + 1) pc ls (mI n :: st) S s := by
  intro H locs cells slots rls hv hl hn hc hz
  refine W_size (fun hup => ?_)
  have hs := sz_eq hU hv hc hup
  have hr : nr32 n := by unfold nr32; omega
  have h0 : ¬ Int32.ofInt n < 0 := by rw [z32, q_lt hr nr_0]; omega
  have h1 : (Int32.ofInt n).toNatClampNeg = n.toNat := by show (Int32.ofInt n).toInt.toNat = _; rw [ti32 hr]
  refine va_newaK (atype := .boolean) F.1 F.2.1 (F.2.2.2.2.1 _ harr) rfl hd rfl h0 h1 (by show n.toNat * _ ≤ _; exact Nat.le_trans (Nat.mul_le_mul (show n.toNat ≤ 2400 by omega) (show componentBytes .boolean ≤ 8 by decide)) (by decide)) (by omega) (by omega) hs (fun H1 cA e1 z1 o1 hAr hNm => ?_)
  have hcA : cA = dA 24 := Option.some.inj (hNm.symm.trans (F.2.2.2.2.2.1.2 4 _ rfl).2)
  refine h H1 locs (cells + 1) (slots + n.toNat) rls ⟨P_app hs hv.1 (fun q hq => o1 q (by omega)) (fun k hk => zS_o (by omega)) (fun i q hq => ?_), S_new hv.2.1 (by omega) (fun q hq => o1 q (by omega)), nrH_app hv.2.2 (fun k hk => zS_o (by omega)) (fun i q hq => ?_)⟩ hl ⟨trivial, hn.2⟩ (by rw [List.length_append]; show _ ∧ S.length + 1 + bud = _; omega) (by omega)
  · obtain ⟨rfl, rfl⟩ := one_at hq
    rw [ent_int (show 20 ≤ 24 by decide) (show 24 ≠ 23 by decide) (show 24 < 25 by decide)]
    show H1[base + S.length]? = some (vp_cell _ _)
    rw [e1, hcA]
    show some (arrV (dA 24) n.toNat fun _ => Value.int 0) = some (arrV (dA 24) n.toNat fun j => Value.int (Int32.ofInt (zS s S.length 0 (S.length + 0) j)))
    refine congrArg (fun f => some (arrV (dA 24) n.toNat f)) (funext fun j => ?_)
    rw [Nat.add_zero, zS_s]
    rfl
  · obtain ⟨rfl, rfl⟩ := one_at hq
    exact ⟨(show n.toNat ≤ 2400 by omega), fun j => by rw [Nat.add_zero, zS_s]; exact nrC_0 _ _⟩
theorem r_anew (F : FX p U m args meth c D dA mi) (hU : U.heap.size = base + n0) (hB : B ≤ R.cells ∧ 2400 * B ≤ R.slots) {idx kd : Nat} {C : String} (hlk : Cond.classLink (mY mi).cls idx C ∈ mT) (hov : va_AO C U) (hk : 25 ≤ kd ∧ kd ≤ 27) (hty : (mTys dA)[kd - 20]? = some (dA kd, .object C)) {n : Int} (hn0 : 0 ≤ n ∧ n ≤ 2400) (hd : decode (mB mi) pc = .ok (.anewarray idx, 3)) (h : WG p l e R U m args below meth c Q base sp D dA nL B n0 bud (pc + 3) ls (mR S.length :: st) (S ++ [(kd, n.toNat, [])]) (zS s S.length (-1))) : WG p l e R U m args below meth c Q base sp D dA nL B n0 (bud + 1) pc ls (mI n :: st) S s := by
  intro H locs cells slots rls hv hl hn hc hz
  refine W_size (fun hup => ?_)
  have hs := sz_eq hU hv hc hup
  have hr : nr32 n := by unfold nr32; omega
  have h0 : ¬ Int32.ofInt n < 0 := by rw [z32, q_lt hr nr_0]; omega
  have h1 : (Int32.ofInt n).toNatClampNeg = n.toNat := by show (Int32.ofInt n).toInt.toNat = _; rw [ti32 hr]
  refine W.anew F.1 F.2.1 F.2.2.2.1 (F.2.2.2.2.1 _ hlk) (va_AO.use hov) rfl hd rfl h0 (by rw [h1]; omega) (by omega) (by rw [h1]; omega) (fun cA kA comp f1 f2 f3 f4 => ?_)
  obtain ⟨-, kA', comp', -, -, -, f5⟩ := F.2.2.2.2.2.1.2 _ _ hty
  have hcA : cA = dA kd := Option.some.inj (f1.symm.trans f5)
  rw [h1]
  generalize hH1 : H.push ({ cls := cA, slots := Array.replicate n.toNat .null, vm := .none } : Cell) = H1
  have z1 : H1.size = H.size + 1 := by rw [← hH1, Array.size_push]
  have e1 : H1[H.size]? = some (arrV cA n.toNat (fun _ => .null)) := by rw [← hH1, Array.getElem?_push_size, ← arrV_new]
  have o1 : ∀ q : Nat, q < H.size → H1[q]? = H[q]? := fun q hq => by rw [← hH1, Array.getElem?_push, if_neg (Nat.ne_of_lt hq)]
  rw [hs]
  refine h H1 locs (cells + 1) (slots + n.toNat) rls ⟨P_app hs hv.1 o1 (fun k hk => zS_o (by omega)) (fun i q hq => ?_), S_new hv.2.1 (by omega) o1, nrH_app hv.2.2 (fun k hk => zS_o (by omega)) (fun i q hq => ?_)⟩ hl ⟨trivial, hn.2⟩ (by rw [List.length_append]; show _ ∧ S.length + 1 + bud = _; omega) (by omega)
  · obtain ⟨rfl, rfl⟩ := one_at hq
    rw [ent_ref hk.1]
    show H1[base + S.length]? = some (vp_cell _ _)
    rw [← hs, e1, hcA]
    show some (arrV (dA kd) n.toNat fun _ => Value.null) = some (arrV (dA kd) n.toNat fun j => va_rf (mRw base (zS s S.length (-1) (S.length + 0) j)))
    refine congrArg (fun f => some (arrV (dA kd) n.toNat f)) (funext fun j => ?_)
    rw [Nat.add_zero, zS_s]
    rfl
  · obtain ⟨rfl, rfl⟩ := one_at hq
    exact ⟨(show n.toNat ≤ 2400 by omega), fun j => nrC_ref hk.1⟩
end RN
end
section
/-! rows of rows -/
theorem arrV_cg {cI : ClassId} {N : Nat} {f g : Nat → Value} (h : ∀ j, j < N → f j = g j) : arrV cI N f = arrV cI N g := by
  unfold arrV
  congr 2
  funext j
  exact h j.val j.isLt
theorem mna_outer (c : ClassId) (N h0 : Nat) : ∀ i : Nat, Jvm.Free.Multi.outerC c N h0 i = arrV c N (fun j => va_rf (if j < i then some (h0 + 1 + j) else none))
  | 0 => by
    show ({ cls := c, slots := Array.replicate N .null, vm := .none } : Cell) = _
    rw [arrV_new]
    refine congrArg (arrV c N) (funext fun j => ?_)
    simp [va_rf]
  | i + 1 => by
    show (Jvm.Free.Multi.outerC c N h0 i).setSlot i (.ref (h0 + 1 + i)) = _
    rw [mna_outer c N h0 i, arrV_store]
    refine congrArg (arrV c N) (funext fun j => ?_)
    by_cases e : j = i
    · subst e
      simp [updV, va_rf]
    · by_cases h : j < i
      · simp [updV, e, h, Nat.lt_succ_of_lt h]
      · simp [updV, e, h, show ¬ j < i + 1 by omega]
section RA
variable {p : Program} {l : Launch} {e : Env} {R : Room} {U : State} {m : MethodId} {args : Array Value} {below : List Frame} {meth : Method} {c : Code} {Q : State → Prop}
variable {base : Nat} {sp : Nat → Nat} {D : va_G} {dA : Nat → ClassId} {mi nL B n0 bud pc : Nat} {ls : mLo} {st : List mV} {S : List mSh} {s : mSt}
theorem r_mna (F : FX p U m args meth c D dA mi) (hU : U.heap.size = base + n0) (hB : B ≤ R.cells ∧ 2400 * B ≤ R.slots) {idx : Nat} (hlk : Cond.classLink (mY mi).cls idx "[[I" ∈ mT) (hov : (Cond.arrayOver (.array .int)).before args U = true) (harr : Cond.arrayClass .int ∈ mT) {k n : Int} (hk0 : 0 ≤ k ∧ k ≤ 100 ∧ 0 ≤ n ∧ n ≤ 20 ∧ n.toNat + 1 ≤ bud) (hd : decode (mB mi) pc = .ok (.multianewarray idx 2, 4)) (h : WG p l e R U m args below meth c Q base sp D dA nL B n0 (bud - (n.toNat + 1)) (pc + 4) ls (mR S.length :: st) (S ++ ((28, n.toNat, []) :: List.replicate n.toNat (22, k.toNat, []))) (mM2 S s)) : WG p l e R U m args below meth c Q base sp D dA nL B n0 bud pc ls (mI k :: mI n :: st) S s := by
  intro H locs cells slots rls hv hl hn hc hz
  refine W_size (fun hup => ?_)
  have hs := sz_eq hU hv hc hup
  have nn : ∀ z : Int, 0 ≤ z → z ≤ 100 → ¬ Int32.ofInt z < 0 ∧ (Int32.ofInt z).toNatClampNeg = z.toNat := by
    intro z h0 h1
    have hr : nr32 z := by unfold nr32; omega
    refine ⟨by rw [z32, q_lt hr nr_0]; omega, ?_⟩
    show (Int32.ofInt z).toInt.toNat = _
    rw [ti32 hr]
  obtain ⟨k1, k2⟩ := nn k hk0.1 hk0.2.1
  obtain ⟨n1, n2⟩ := nn n hk0.2.2.1 (by omega)
  have hm : n.toNat * k.toNat ≤ 20 * 100 := Nat.mul_le_mul (by omega) (by omega)
  intro T0 hT X0
  obtain ⟨vm₁, cA, comp, -, fA, fC, hO, -, X', step⟩ := X0.multianewarray2F F.1 F.2.2.2.1 (F.2.2.2.2.1 _ hlk) hov (F.2.2.2.2.1 _ harr) (g := F0 m pc rls (Value.int (Int32.ofInt k) :: Value.int (Int32.ofInt n) :: st.map (mUp base sp))) rfl (by rw [F.2.1]; exact hd) rfl n1 k1 (by rw [n2]; omega) (by rw [k2]; show k.toNat * 4 ≤ _; omega) (by rw [k2]; omega) rfl rfl (by rw [n2]; omega) (by rw [n2, k2]; omega)
  have hTh : (T0.setVm vm₁).heap = H := hT
  rw [n2, k2] at X' step
  generalize hF : Jvm.Free.Multi.fill (T0.setVm vm₁) cA comp n.toNat k.toNat (defaultValue .int) n.toNat = G at X' step
  obtain ⟨f1, f2, -, -⟩ := Jvm.Free.Multi.fill_facts (T0.setVm vm₁) cA comp n.toNat k.toNat (defaultValue .int) n.toNat
  rw [hF, hTh] at f1 f2
  have hold : ∀ x : Nat, x < H.size → G.heap[x]? = H[x]? := fun x hx => by
    have := Jvm.Free.Multi.fill_old (T0.setVm vm₁) cA comp n.toNat k.toNat (defaultValue .int) (a := x) (by rw [hTh]; exact hx) n.toNat
    rw [hF, hTh] at this
    exact this
  have hrow : ∀ j : Nat, j < n.toNat → G.heap[H.size + 1 + j]? = some (Jvm.Free.Multi.innerC comp k.toNat (defaultValue .int)) := fun j hj => by
    have := Jvm.Free.Multi.fill_inner (T0.setVm vm₁) cA comp n.toNat k.toNat (defaultValue .int) n.toNat j hj
    rw [hF, hTh] at this
    exact this
  have hcA : cA = dA 28 := Option.some.inj (fA.symm.trans (F.2.2.2.2.2.1.2 8 _ rfl).2)
  have hcm : comp = dA 22 := Option.some.inj (fC.symm.trans (F.2.2.2.2.2.1.2 2 _ rfl).2)
  subst hcA
  subst hcm
  have hso : ∀ q, q < S.length → mM2 S s q = s q := fun q hq => by funext j; unfold mM2; rw [if_neg (by omega), if_neg (by omega)]
  have hlen : (S ++ ((28, n.toNat, []) :: List.replicate n.toNat (22, k.toNat, [])) : List mSh).length = S.length + (n.toNat + 1) := by simp
  have key := h G.heap locs (cells + 1 + n.toNat) (slots + n.toNat + n.toNat * k.toNat) rls ⟨P_app hs hv.1 hold hso (fun i q hq => ?_), S_new hv.2.1 (by omega) hold, nrH_app hv.2.2 hso (fun i q hq => ?_)⟩ hl ⟨trivial, hn.2.2⟩ (by rw [hlen]; omega) (by omega)
  · obtain ⟨t, a1, b1⟩ := key G rfl X'
    refine ⟨t, step t ?_, b1⟩
    have e : T0.heap.size = base + S.length := by rw [hT]; exact hs
    rw [e]
    exact a1
  · cases i with
    | zero =>
      have hq : (28, n.toNat, []) = q := Option.some.inj hq
      subst hq
      rw [ent_ref (show 25 ≤ 28 by decide)]
      show G.heap[base + S.length]? = some (arrV (dA 28) n.toNat (fun j => va_rf (mRw base (mM2 S s (S.length + 0) j))))
      rw [← hs, f2, mna_outer]
      refine congrArg some (arrV_cg (fun j hj => ?_))
      rw [if_pos hj]
      refine congrArg va_rf ?_
      have e1 : mM2 S s (S.length + 0) j = ((S.length + 1 + j : Nat) : Int) := by unfold mM2; rw [if_pos (by omega)]
      rw [e1]
      unfold mRw
      rw [if_neg (by omega)]
      congr 1
      omega
    | succ i =>
      have hq : (List.replicate n.toNat (22, k.toNat, ([] : List Nat)))[i]? = some q := by simpa using hq
      rw [List.getElem?_replicate] at hq
      by_cases hi : i < n.toNat
      · rw [if_pos hi] at hq
        cases hq
        rw [ent_int (show 20 ≤ 22 by decide) (show 22 ≠ 23 by decide) (show 22 < 25 by decide)]
        show G.heap[base + (S.length + (i + 1))]? = some (arrV (dA 22) k.toNat (fun j => Value.int (Int32.ofInt (mM2 S s (S.length + (i + 1)) j))))
        rw [show base + (S.length + (i + 1)) = H.size + 1 + i by omega, hrow i hi]
        show some ({ cls := dA 22, slots := Array.replicate k.toNat (defaultValue .int), vm := .none } : Cell) = _
        rw [arrV_new]
        refine congrArg some (arrV_cg (fun j hj => ?_))
        unfold mM2
        rw [if_neg (by omega), if_pos (by omega)]
        rfl
      · rw [if_neg hi] at hq
        cases hq
  · cases i with
    | zero =>
      have hq : (28, n.toNat, []) = q := Option.some.inj hq
      subst hq
      exact ⟨(show n.toNat ≤ 2400 by omega), fun j => nrC_ref (show 25 ≤ 28 by decide)⟩
    | succ i =>
      have hq : (List.replicate n.toNat (22, k.toNat, ([] : List Nat)))[i]? = some q := by simpa using hq
      rw [List.getElem?_replicate] at hq
      by_cases hi : i < n.toNat
      · rw [if_pos hi] at hq
        cases hq
        refine ⟨(show k.toNat ≤ 2400 by omega), fun j => ?_⟩
        unfold mM2
        rw [if_neg (by omega), if_pos (by omega)]
        exact nrC_0 _ _
      · rw [if_neg hi] at hq
        cases hq
end RA
end
section
/-! calls and ends -/
def wsM (mj : Nat) : List Cond := Cond.code (mY mj) (mB mj) (mML mj) (mRet mj) :: mT
def rmD (d mj : Nat) : Room := { frames := d, cells := mCe mj, slots := 2400 * mCe mj, locals := 60 * d }
def nrO (r : Option mV) : Prop := match r with
  | none => True
  | some v => nrV v
/-- the words that are not carried with the tables: of arrays of objects, of nest mates -/
def mNw : List Cond := lw_tbl.filter (fun w => match w with | .methodLinkNest _ _ _ _ => true | _ => false)
def EX (SK : State → Prop) (U : State) : Prop := (∀ C, C = "ClashDay$Board" ∨ C = "ClashDay$Rule" ∨ C = "ClashDay$Scene" → va_AO C U) ∧ (Cond.arrayOver (.array .int)).before #[] U = true ∧ (∀ a i y h, Cond.methodLinkNest a i y h ∈ mNw → va_Nw (.methodLinkNest a i y h) U) ∧ SK U
/-- what SK must bear -/
def SKm (base : Nat) (SK : State → Prop) : Prop := ∀ U V : State, U.WarmedH V.vm → (∀ q : Nat, q < base → V.heap[q]? = U.heap[q]?) → SK U → SK V
theorem EX.mv {base : Nat} {SK : State → Prop} (hm : SKm base SK) {U V : State} (hW : U.WarmedH V.vm) (hh : ∀ q : Nat, q < base → V.heap[q]? = U.heap[q]?) (h : EX SK U) : EX SK V := by
  refine ⟨fun C hC => va_AO.moved hW.alike (h.1 C hC), ?_, fun a i y q hq => va_Nw.warmM hW (h.2.2.1 a i y q hq), hm U V hW hh h.2.2.2⟩
  have h1 := Cond.arrayOver_setVmC (args := #[]) (s := U) hW.alike (.array .int)
  rw [h.2.1] at h1
  exact h1
def PcW (base : Nat) (sp : Nat → Nat) (D : va_G) (dA : Nat → ClassId) (SK : State → Prop) (as : List mV) (S : List mSh) (s : mSt) : Array Value → State → Prop := fun v V =>
  v = (as.map (mUp base sp)).toArray ∧ va_P D mCl (mWs base dA S s) V.heap ∧ V.heap.size = base + S.length ∧ nrH S s ∧ nrS as ∧ va_K D mCl (mTys dA) V ∧ EX SK V
def QcW (base : Nat) (sp : Nat → Nat) (D : va_G) (dA : Nat → ClassId) (n : Nat) (K : mRt) : Array Value → State → Outcome → State → Prop := fun _ V oc t =>
  (∃ r S' s', oc = .returned (r.map (mUp base sp)) ∧ K r S' s' ∧ va_P D mCl (mWs base dA S' s') t.heap ∧ nrH S' s' ∧ nrO r ∧ S'.length = n) ∧ va_F (mA base) V t
def MetW (l : Launch) (base : Nat) (sp : Nat → Nat) (D : va_G) (dA : Nat → ClassId) (SK : State → Prop) (d mj : Nat) (as : List mV) (S : List mSh) (s : mSt) (K : mRt) : Prop :=
  Met l (mY mj) (wsM mj) (rmD d mj) (PcW base sp D dA SK as S s) (QcW base sp D dA (S.length + mCe mj) K) (mCe mj) (2400 * mCe mj) (mA base)
/-- what the tables say of a method -/
def MK (mj : Nat) : Prop := Cond.code (mY mj) (mB mj) (mML mj) (mRet mj) ∈ mT ∧ Cond.initialized (mY mj).cls ∈ mT ∧ ((mY mj).cls ≠ "java/lang/invoke/MethodHandle" ∧ (mY mj).cls ≠ "java/lang/invoke/VarHandle") ∧ plainName (mY mj).cls = true ∧ mML mj ≤ 40 ∧
  (mRk mj = 0 ∨ mRk mj = 6 → mRet mj = none) ∧ (mRk mj = 1 → mRet mj = some .int) ∧ (mRk mj = 2 → mRet mj = some .boolean) ∧ (mRk mj = 3 → mRet mj = some .char) ∧ (mRk mj = 4 → mRet mj = some .long) ∧ (mRk mj = 5 → ∃ n, mRet mj = some (.object n)) ∧ (mRk mj = 6 → (mY mj).name = "<init>")
theorem mT_good {w : Cond} (h : w ∈ mT) : (w.onTables && w.keeps) = true ∨ ∃ ty, w = .arrayClass ty := good_of_word (List.mem_filter.mp h).2
theorem wsM_good {mj : Nat} (h : MK mj) : GoodIn mT (wsM mj) := by
  intro w hw
  rcases List.mem_cons.mp hw with rfl | hw
  · exact ⟨h.1, mT_good h.1⟩
  · exact ⟨hw, mT_good hw⟩
theorem popA_el : ∀ {n : Nat} {st acc : List mV} {k : List mV → List mV → Prop}, popA n st acc k → ∃ as rest, st = as.reverse ++ rest ∧ as.length = n ∧ k (as ++ acc) rest := by
  intro n
  induction n with
  | zero => intro st acc k h; cases st <;> exact ⟨[], _, rfl, rfl, h⟩
  | succ n ih =>
    intro st acc k h
    cases st with
    | nil => exact False.elim h
    | cons v t =>
      obtain ⟨as, rest, e1, e2, h1⟩ := ih (acc := v :: acc) h
      refine ⟨as ++ [v], rest, by rw [e1]; simp, by simp [e2], by simpa using h1⟩
theorem nrS_app : ∀ {a b : List mV}, nrS (a ++ b) → nrS a ∧ nrS b
  | [], _, h => ⟨trivial, h⟩
  | _ :: _, _, h => ⟨⟨h.1, (nrS_app h.2).1⟩, (nrS_app h.2).2⟩
theorem nrS_mem : ∀ {a : List mV}, nrS a ↔ ∀ v ∈ a, nrV v
  | [] => ⟨fun _ _ h => absurd h List.not_mem_nil, fun _ => trivial⟩
  | v :: t => ⟨fun h u hu => by rcases List.mem_cons.mp hu with rfl | hu; exact h.1; exact nrS_mem.mp h.2 u hu, fun h => ⟨h v List.mem_cons_self, nrS_mem.mpr fun u hu => h u (List.mem_cons_of_mem _ hu)⟩⟩
theorem nrS_rev {a : List mV} (h : nrS a.reverse) : nrS a := nrS_mem.mpr fun v hv => nrS_mem.mp h v (List.mem_reverse.mpr hv)
section RC
variable {p : Program} {l : Launch} {e : Env} {R : Room} {U : State} {m : MethodId} {args : Array Value} {below : List Frame} {meth : Method} {c : Code} {Q : State → Prop}
variable {base : Nat} {sp : Nat → Nat} {D : va_G} {dA : Nat → ClassId} {SK : State → Prop} {mi nL B n0 bud pc : Nat} {ls : mLo} {st : List mV} {S : List mSh} {s : mSt}
/-- behind a call -/
theorem W_call {H : Heap} {locs : List Loc} {cells slots : Nat} {rls : Array Slot} {st0 rest : List Value} {mj n : Nat} {a : Array Value} {K : mRt}
    (hr : va_Run p l e R U m args below meth c H locs cells slots (mCe mj) (2400 * mCe mj) (F0 m pc rls st0) rest (QcW base sp D dA n K a) (mA base)) (hS : va_S (mA base) U.heap H locs)
    (kk : ∀ r S' s' H1 locs1, K r S' s' → HV base D dA U.heap S' s' H1 locs1 → nrO r → S'.length = n → W p l e R U m args below meth c H1 locs1 (cells + mCe mj) (slots + 2400 * mCe mj) Q (F0 m (pc + 3) rls ((r.map (mUp base sp)).toList ++ rest))) : W p l e R U m args below meth c H locs cells slots Q (F0 m pc rls st0) := by
  intro T hT X
  obtain ⟨v, st₀, t, T', L, h0, X', hL, e1, e2, ⟨⟨r, S', s', hv, hk, hP, hn, ho, hlen⟩, hz, hkeep⟩, stp⟩ := hr T hT X
  cases hv
  rw [h0] at hz hkeep
  have hS1 : va_S (mA base) U.heap T'.heap (locs ++ L) := by
    refine ⟨by rw [e1]; exact Nat.le_trans hS.1 hz, fun q h1 h2 => ?_, fun q hq => ?_⟩
    · rw [e1, hkeep q (Nat.lt_of_lt_of_le h1 hS.1) h2]; exact hS.2.1 q h1 h2
    · rcases List.mem_append.mp hq with h | h
      · exact hS.2.2 q h
      · exact hL q h
  obtain ⟨t2, a1, b1⟩ := kk r S' s' T'.heap (locs ++ L) hk ⟨by rw [e1]; exact hP, hS1, hn⟩ ho hlen T' rfl X'
  exact ⟨t2, stp t2 a1, b1⟩
theorem pre_ok (F : FX p U m args meth c D dA mi) (hSK : SKm base SK) (hE : EX SK U) (hbU : base ≤ U.heap.size) {H : Heap} {locs : List Loc} {as : List mV} (hv : HV base D dA U.heap S s H locs) (hs : H.size = base + S.length) (hn : nrS as) : PreS U H (PcW base sp D dA SK as S s) (as.map (mUp base sp)) := by
  refine ⟨fun a V g mk q => ?_, fun V hV hW => ⟨rfl, by rw [hV]; exact hv.1, by rw [hV]; exact hs, hv.2.2, hn, va_K.moved hW.alike F.2.2.2.2.2.1, EX.mv hSK hW (fun q hq => ?_) hE⟩⟩
  · obtain ⟨q1, q2, q3, q4, q5, q6, q7⟩ := q
    refine ⟨q1, q2, q3, q4, q5, va_K.moved (u := V) (U := V.calling g mk a) (Vm.Alike.refl V.vm) q6, ?_⟩
    exact EX.mv (U := V) (V := V.calling g mk a) hSK (State.WarmedH.refl V) (fun q hq => rfl) q7
  · rw [hV]
    exact hv.2.1.2.1 q (by omega) (by show ¬ base ≤ q; omega)
theorem r_static (F : FX p U m args meth c D dA mi) (hSK : SKm base SK) (hE : EX SK U) (hbU : base ≤ U.heap.size) (hU : U.heap.size = base + n0) (hnl : nL = mML mi) {d : Nat} (hRf : d + 1 ≤ R.frames ∧ 60 * (d + 1) ≤ R.locals) (hB : B ≤ R.cells ∧ 2400 * B ≤ R.slots) {mj idx : Nat} (hK : MK mj) (hst : Cond.static (mY mj) ∈ mT) (hlk : Cond.methodLink (mY mi).cls idx (mY mj) ∈ mT) {n : Nat} (hpar : (parseMethodDescriptor (mY mj).desc).map (fun d => d.parameters.length) = some n) {as : List mV} (hlen : as.length = n) (hw : sW st ≤ 8) (hbud : mCe mj ≤ bud) {K : mRt} (hM : nrS as → nrH S s → MetW l base sp D dA SK d mj as S s K) (hd : decode (mB mi) pc = .ok (.invokestatic idx, 3))
    (h : ∀ r S' s', K r S' s' → WG p l e R U m args below meth c Q base sp D dA nL B n0 (bud - mCe mj) (pc + 3) ls (r.toList ++ st) S' s') : WG p l e R U m args below meth c Q base sp D dA nL B n0 bud pc ls (as.reverse ++ st) S s := by
  intro H locs cells slots rls hv hl hn hc hz
  refine W_size (fun hup => ?_)
  have hs := sz_eq hU hv hc hup
  have hn2 := nrS_app hn
  have hmap : (as.reverse ++ st).map (mUp base sp) = (as.map (mUp base sp)).reverse ++ st.map (mUp base sp) := by simp
  rw [hmap]
  have hcb := callB_of (own := (mY mi).cls) (index := idx) n F.2.2.2.2.1 (wsM_good hK) (ws' := mT) rfl (rm := rmD d mj) (R := R) rfl rfl (F.2.2.2.2.1 _ hK.2.1) (F.2.2.2.2.1 _ hlk) ⟨hK.2.2.1.1, hK.2.2.1.2, hpar⟩ ⟨hRf.1, by have := hK.2.2.2.2.1; have := hRf.2; show 8 + (mML mj + 11) + 60 * d ≤ _; omega⟩
  refine W_call (mj := mj) (va_runS (nL := nL) ⟨F.1, F.2.1, by rw [F.2.2.1, hnl], F.2.2.2.1, F.2.2.2.2.1⟩ (hM (nrS_rev hn2.1) hv.2.2) ⟨hcb, F.2.2.2.2.1 _ hst⟩ (pre_ok F hSK hE hbU hv hs (nrS_rev hn2.1)) rfl (by simp [hlen]) hl.2.1 rfl (by rw [sW_eq]; show 2 * 0 + sW st ≤ 8; omega) hd ⟨by omega, by omega⟩) hv.2.1 (fun r S' s' H1 locs1 hk hv1 ho hl1 => ?_)
  have := h r S' s' hk H1 locs1 (cells + mCe mj) (slots + 2400 * mCe mj) rls hv1 hl (by cases r with | none => exact hn2.2 | some v => exact ⟨ho, hn2.2⟩) (by rw [hl1]; omega) (by omega)
  cases r with
  | none => exact this
  | some v => exact this
theorem r_virtual (F : FX p U m args meth c D dA mi) (hSK : SKm base SK) (hE : EX SK U) (hbU : base ≤ U.heap.size) (hU : U.heap.size = base + n0) (hnl : nL = mML mi) {d : Nat} (hRf : d + 1 ≤ R.frames ∧ 60 * (d + 1) ≤ R.locals) (hB : B ≤ R.cells ∧ 2400 * B ≤ R.slots) {mj idx : Nat} (hK : MK mj) (hin : Cond.instanceMethod (mY mj) ∈ mT) (hse : Cond.selects (mY mj).cls (mY mj) (mY mj) ∈ mT) (hlk : Cond.methodLink (mY mi).cls idx (mY mj) ∈ mT) {n ci o : Nat} (hci : ∃ T N, mCl[ci]? = some ((mY mj).cls, T, N)) (hc20 : ci < 20) (ho : kS S o = ci) (hpar : (parseMethodDescriptor (mY mj).desc).map (fun d => d.parameters.length) = some n) {as : List mV} (hlen : as.length = n) (hw : sW st ≤ 8) (hbud : mCe mj ≤ bud) {K : mRt} (hM : nrS (mR o :: as) → nrH S s → MetW l base sp D dA SK d mj (mR o :: as) S s K) (hd : decode (mB mi) pc = .ok (.invokevirtual idx, 3))
    (h : ∀ r S' s', K r S' s' → WG p l e R U m args below meth c Q base sp D dA nL B n0 (bud - mCe mj) (pc + 3) ls (r.toList ++ st) S' s') : WG p l e R U m args below meth c Q base sp D dA nL B n0 bud pc ls ((mR o :: as).reverse ++ st) S s := by
  intro H locs cells slots rls hv hl hn hc hz
  refine W_size (fun hup => ?_)
  have hs := sz_eq hU hv hc hup
  have hn2 := nrS_app hn
  have hmap : ((mR o :: as).reverse ++ st).map (mUp base sp) = (as.map (mUp base sp)).reverse ++ Value.ref (base + o) :: st.map (mUp base sp) := by simp [mUp]
  rw [hmap]
  obtain ⟨T0, N0, hcl⟩ := hci
  obtain ⟨nf, rs, eo⟩ := kS_at ho (by omega)
  have hw0 := mWs_at (base := base) (dA := dA) (s := s) eo
  rw [ent_obj hc20] at hw0
  have hcb := callB_of (own := (mY mi).cls) (index := idx) n F.2.2.2.2.1 (wsM_good hK) (ws' := mT) rfl (rm := rmD d mj) (R := R) rfl rfl (F.2.2.2.2.1 _ hK.2.1) (F.2.2.2.2.1 _ hlk) ⟨hK.2.2.1.1, hK.2.2.1.2, hpar⟩ ⟨hRf.1, by have := hK.2.2.2.2.1; have := hRf.2; show 8 + (mML mj + 11) + 60 * d ≤ _; omega⟩
  refine W_call (mj := mj) (va_runV (nL := nL) (As := as.map (mUp base sp)) (b := base + o) ⟨F.1, F.2.1, by rw [F.2.2.1, hnl], F.2.2.2.1, F.2.2.2.2.1⟩ (hM (nrS_rev hn2.1) hv.2.2) ⟨hcb, F.2.2.2.2.1 _ hin, F.2.2.2.2.1 _ hse⟩ ⟨(pre_ok F hSK hE hbU hv hs (nrS_rev hn2.1)).1, va_recv F.2.2.2.2.2.1 hv.1 hcl hw0, (pre_ok F hSK hE hbU hv hs (nrS_rev hn2.1)).2⟩ rfl (by simp [hlen]) hl.2.1 rfl (by rw [sW_eq]; show 2 * 0 + sW st ≤ 8; omega) hd ⟨by omega, by omega⟩) hv.2.1 (fun r S' s' H1 locs1 hk hv1 ho hl1 => ?_)
  have := h r S' s' hk H1 locs1 (cells + mCe mj) (slots + 2400 * mCe mj) rls hv1 hl (by cases r with | none => exact hn2.2 | some v => exact ⟨ho, hn2.2⟩) (by rw [hl1]; omega) (by omega)
  cases r with
  | none => exact this
  | some v => exact this
theorem r_special (F : FX p U m args meth c D dA mi) (hSK : SKm base SK) (hE : EX SK U) (hbU : base ≤ U.heap.size) (hU : U.heap.size = base + n0) (hnl : nL = mML mi) {d : Nat} (hRf : d + 1 ≤ R.frames ∧ 60 * (d + 1) ≤ R.locals) (hB : B ≤ R.cells ∧ 2400 * B ≤ R.slots) {mj idx : Nat} (hK : MK mj) (hin : Cond.instanceMethod (mY mj) ∈ mT) (hre : mRet mj = none) (hini : (mY mj).name = "<init>") (hlk : Cond.methodLink (mY mi).cls idx (mY mj) ∈ mT) {n ci o : Nat} (hci : ∃ T N, mCl[ci]? = some ((mY mj).cls, T, N)) (hc20 : ci < 20) (ho : kS S o = ci) (hpar : (parseMethodDescriptor (mY mj).desc).map (fun d => d.parameters.length) = some n) {as : List mV} (hlen : as.length = n) (hw : sW st ≤ 8) (hbud : mCe mj ≤ bud) {K : mRt} (hM : nrS (mR o :: as) → nrH S s → MetW l base sp D dA SK d mj (mR o :: as) S s K) (hd : decode (mB mi) pc = .ok (.invokespecial idx, 3))
    (h : ∀ r S' s', K r S' s' → WG p l e R U m args below meth c Q base sp D dA nL B n0 (bud - mCe mj) (pc + 3) ls (r.toList ++ st) S' s') : WG p l e R U m args below meth c Q base sp D dA nL B n0 bud pc ls ((mR o :: as).reverse ++ st) S s := by
  intro H locs cells slots rls hv hl hn hc hz
  refine W_size (fun hup => ?_)
  have hs := sz_eq hU hv hc hup
  have hn2 := nrS_app hn
  have hmap : ((mR o :: as).reverse ++ st).map (mUp base sp) = (as.map (mUp base sp)).reverse ++ Value.ref (base + o) :: st.map (mUp base sp) := by simp [mUp]
  rw [hmap]
  obtain ⟨T0, N0, hcl⟩ := hci
  obtain ⟨nf, rs, eo⟩ := kS_at ho (by omega)
  have hw0 := mWs_at (base := base) (dA := dA) (s := s) eo
  rw [ent_obj hc20] at hw0
  have hcb := callB_of (own := (mY mi).cls) (index := idx) n F.2.2.2.2.1 (wsM_good hK) (ws' := mT) (by unfold wsM; rw [hre]) (rm := rmD d mj) (R := R) rfl rfl (F.2.2.2.2.1 _ hK.2.1) (F.2.2.2.2.1 _ hlk) ⟨hK.2.2.1.1, hK.2.2.1.2, hpar⟩ ⟨hRf.1, by have := hK.2.2.2.2.1; have := hRf.2; show 8 + (mML mj + 11) + 60 * d ≤ _; omega⟩
  refine W_call (mj := mj) (va_runI (nL := nL) (As := as.map (mUp base sp)) (b := base + o) ⟨F.1, F.2.1, by rw [F.2.2.1, hnl], F.2.2.2.1, F.2.2.2.2.1⟩ (hM (nrS_rev hn2.1) hv.2.2) ⟨hcb, hini, F.2.2.2.2.1 _ hin⟩ (pre_ok F hSK hE hbU hv hs (nrS_rev hn2.1)) rfl (by simp [hlen]) hl.2.1 rfl (by rw [sW_eq]; show 2 * 0 + sW st ≤ 8; omega) hd ⟨by omega, by omega⟩) hv.2.1 (fun r S' s' H1 locs1 hk hv1 ho hl1 => ?_)
  have := h r S' s' hk H1 locs1 (cells + mCe mj) (slots + 2400 * mCe mj) rls hv1 hl (by cases r with | none => exact hn2.2 | some v => exact ⟨ho, hn2.2⟩) (by rw [hl1]; omega) (by omega)
  cases r with
  | none => exact this
  | some v => exact this
theorem r_nest (F : FX p U m args meth c D dA mi) (hSK : SKm base SK) (hE : EX SK U) (hbU : base ≤ U.heap.size) (hU : U.heap.size = base + n0) (hnl : nL = mML mi) {d : Nat} (hRf : d + 1 ≤ R.frames ∧ 60 * (d + 1) ≤ R.locals) (hB : B ≤ R.cells ∧ 2400 * B ≤ R.slots) {mj idx : Nat} (hK : MK mj) {host : String} (hin : Cond.instanceMethod (mY mj) ∈ mT) (hre : mRet mj = none) (hini : (mY mj).name = "<init>") (hlk : Cond.methodLinkNest (mY mi).cls idx (mY mj) host ∈ mNw) {n ci o : Nat} (hci : ∃ T N, mCl[ci]? = some ((mY mj).cls, T, N)) (hc20 : ci < 20) (ho : kS S o = ci) (hpar : (parseMethodDescriptor (mY mj).desc).map (fun d => d.parameters.length) = some n) {as : List mV} (hlen : as.length = n) (hw : sW st ≤ 8) (hbud : mCe mj ≤ bud) {K : mRt} (hM : nrS (mR o :: as) → nrH S s → MetW l base sp D dA SK d mj (mR o :: as) S s K) (hd : decode (mB mi) pc = .ok (.invokespecial idx, 3))
    (h : ∀ r S' s', K r S' s' → WG p l e R U m args below meth c Q base sp D dA nL B n0 (bud - mCe mj) (pc + 3) ls (r.toList ++ st) S' s') : WG p l e R U m args below meth c Q base sp D dA nL B n0 bud pc ls ((mR o :: as).reverse ++ st) S s := by
  intro H locs cells slots rls hv hl hn hc hz
  refine W_size (fun hup => ?_)
  have hs := sz_eq hU hv hc hup
  have hn2 := nrS_app hn
  have hmap : ((mR o :: as).reverse ++ st).map (mUp base sp) = (as.map (mUp base sp)).reverse ++ Value.ref (base + o) :: st.map (mUp base sp) := by simp [mUp]
  rw [hmap]
  obtain ⟨T0, N0, hcl⟩ := hci
  obtain ⟨nf, rs, eo⟩ := kS_at ho (by omega)
  have hw0 := mWs_at (base := base) (dA := dA) (s := s) eo
  rw [ent_obj hc20] at hw0
  have hcb := va_cnB (own := (mY mi).cls) (index := idx) (host := host) n F.2.2.2.2.1 (wsM_good hK) (ws' := mT) (by unfold wsM; rw [hre]) (rm := rmD d mj) (R := R) rfl rfl (hE.2.2.1 _ _ _ _ hlk) (F.2.2.2.2.1 _ hK.2.1) ⟨hK.2.2.1.1, hK.2.2.1.2, hpar⟩ ⟨hRf.1, by have := hK.2.2.2.2.1; have := hRf.2; show 8 + (mML mj + 11) + 60 * d ≤ _; omega⟩
  refine W_call (mj := mj) (va_runIN (nL := nL) (As := as.map (mUp base sp)) (b := base + o) ⟨F.1, F.2.1, by rw [F.2.2.1, hnl], F.2.2.2.1, F.2.2.2.2.1⟩ (hM (nrS_rev hn2.1) hv.2.2) ⟨hcb, hini, F.2.2.2.2.1 _ hin⟩ (pre_ok F hSK hE hbU hv hs (nrS_rev hn2.1)) rfl (by simp [hlen]) hl.2.1 rfl (by rw [sW_eq]; show 2 * 0 + sW st ≤ 8; omega) hd ⟨by omega, by omega⟩) hv.2.1 (fun r S' s' H1 locs1 hk hv1 ho hl1 => ?_)
  have := h r S' s' hk H1 locs1 (cells + mCe mj) (slots + 2400 * mCe mj) rls hv1 hl (by cases r with | none => exact hn2.2 | some v => exact ⟨ho, hn2.2⟩) (by rw [hl1]; omega) (by omega)
  cases r with
  | none => exact this
  | some v => exact this
end RC
end
section
/-! the tables are as the words say -/
def plA (mj : Nat) : Nat × Nat × Nat × Nat × Nat := (mPl.getD (mj / 40) []).getD (mj % 40) (0, 0, 0, 0, 0)
def lw_ch : List (List Cond) := [k2_sels lw_privs, tables_1_1, tables_1_2, tables_1_3, tables_1_4, tables_1_5, tables_1_6, tables_1_7, tables_1_8, tables_1_9]
theorem lw_ch_in : ∀ l ∈ lw_ch, ∀ w ∈ l, w ∈ lw_tbl := by
  intro l hl w hw
  unfold lw_tbl tables_1
  simp only [lw_ch, List.mem_cons, List.not_mem_nil, or_false] at hl
  simp only [List.mem_append]
  rcases hl with rfl | rfl | rfl | rfl | rfl | rfl | rfl | rfl | rfl | rfl <;> simp only [hw, true_or, or_true]
def wAt (p : Nat) (w : Cond) : Bool := decide ((lw_ch.getD (p / 1000) [])[p % 1000]? = some w)
theorem wAt_tbl {p : Nat} {w : Cond} (h : wAt p w = true) : w ∈ lw_tbl := by
  have h1 := List.mem_of_getElem? (of_decide_eq_true h)
  rw [List.getD_eq_getElem?_getD] at h1
  cases hc : lw_ch[p / 1000]? with
  | none => rw [hc] at h1; exact absurd h1 List.not_mem_nil
  | some l => rw [hc] at h1; exact lw_ch_in l (List.mem_of_getElem? hc) w h1
theorem wAt_in {p : Nat} {w : Cond} (h : wAt p w = true) (hg : goodWord w = true) : w ∈ mT := List.mem_filter.mpr ⟨wAt_tbl h, hg⟩
def ckR (rk : Nat) (r : Option FieldType) (nm : String) : Bool := match rk, r with
  | 0, none => true
  | 6, none => nm == "<init>"
  | 1, some .int => true
  | 2, some .boolean => true
  | 3, some .char => true
  | 4, some .long => true
  | 5, some (.object _) => true
  | _, _ => false
def ckM (mj : Nat) : Bool :=
  wAt (plA mj).1 (.code (mY mj) (mB mj) (mML mj) (mRet mj)) && wAt (plA mj).2.2.2.1 (.initialized (mY mj).cls) && (mY mj).cls != "java/lang/invoke/MethodHandle" && (mY mj).cls != "java/lang/invoke/VarHandle" && plainName (mY mj).cls && decide (mML mj ≤ 40) && ckR (mRk mj) (mRet mj) (mY mj).name &&
  (match (plA mj).2.2.2.2 with
    | 1 => wAt (plA mj).2.1 (.static (mY mj)) && decide ((parseMethodDescriptor (mY mj).desc).map (fun d => d.parameters.length) = some (mNa mj))
    | _ => wAt (plA mj).2.1 (.instanceMethod (mY mj)) && (mRk mj == 6 || wAt (plA mj).2.2.1 (.selects (mY mj).cls (mY mj) (mY mj))) && decide ((parseMethodDescriptor (mY mj).desc).map (fun d => d.parameters.length + 1) = some (mNa mj)))
def sLen : MethodName := ⟨"java/lang/String", "length", "()I"⟩
def sChr : MethodName := ⟨"java/lang/String", "charAt", "(I)C"⟩
def clIs (ci : Nat) (C : String) : Bool := match mCl[ci]? with
  | some r => r.1 == C
  | none => false
def ckL (cn : Nat) (q : mLR) : Bool := match q.2.2.2.2.2.2 with
  | 0 => (match mCl[q.2.1.toNat]? with
    | some r => decide (0 ≤ q.2.1) && decide (0 ≤ q.2.2.1) && decide (q.2.2.1.toNat < r.2.2) && wAt q.2.2.2.2.2.1 (.fieldLink (mNames.getD cn "") q.1 r.1 (r.2.1 q.2.2.1.toNat).2.1 (r.2.1 q.2.2.1.toNat).2.2.1) && mFKd q.2.1.toNat q.2.2.1.toNat == q.2.2.2.1 && (q.2.2.2.2.1 != 1 || r.1 == mNames.getD cn "")
    | none => false)
  | 1 => (match q.2.1 with
    | .ofNat mj => decide (0 < mj ∧ mj < 311) && wAt q.2.2.2.2.2.1 (.methodLink (mNames.getD cn "") q.1 (mY mj)) && (plA mj).2.2.2.2 == 1 && q.2.2.1 == (mCe mj : Int) && q.2.2.2.1 == mNa mj
    | .negSucc 1 => wAt q.2.2.2.2.2.1 (.methodLink (mNames.getD cn "") q.1 arraycopyName)
    | .negSucc 4 => wAt q.2.2.2.2.2.1 (.methodLink (mNames.getD cn "") q.1 Lib.Math.max.name)
    | .negSucc 5 => wAt q.2.2.2.2.2.1 (.methodLink (mNames.getD cn "") q.1 Lib.Math.min.name)
    | _ => false)
  | 6 => (match q.2.1 with
    | .ofNat mj => decide (0 < mj ∧ mj < 311) && wAt q.2.2.2.2.2.1 (.methodLink (mNames.getD cn "") q.1 (mY mj)) && (plA mj).2.2.2.2 == 0 && mRk mj != 6 && q.2.2.1 == (mCe mj : Int) && q.2.2.2.1 == mNa mj && clIs q.2.2.2.2.1 (mY mj).cls
    | .negSucc 2 => cn == 8 && wAt q.2.2.2.2.2.1 (.methodLink (mNames.getD cn "") q.1 sLen)
    | .negSucc 3 => cn == 8 && wAt q.2.2.2.2.2.1 (.methodLink (mNames.getD cn "") q.1 sChr)
    | _ => false)
  | 7 => (match q.2.1 with
    | .ofNat mj => decide (0 < mj ∧ mj < 311) && (wAt q.2.2.2.2.2.1 (.methodLink (mNames.getD cn "") q.1 (mY mj)) || wAt q.2.2.2.2.2.1 (.methodLinkNest (mNames.getD cn "") q.1 (mY mj) "ClashDay")) && (plA mj).2.2.2.2 == 0 && mRk mj == 6 && q.2.2.1 == (mCe mj : Int) && q.2.2.2.1 == mNa mj && clIs q.2.2.2.2.1 (mY mj).cls
    | .negSucc 0 => wAt q.2.2.2.2.2.1 (.methodLink (mNames.getD cn "") q.1 Lib.objectInit)
    | _ => false)
  | 2 => (match q.2.1 with
    | .ofNat 28 => wAt q.2.2.2.2.2.1 (.classLink (mNames.getD cn "") q.1 "[[I")
    | .ofNat ci => (match mCl[ci]? with
      | some r => wAt q.2.2.2.2.2.1 (.classLink (mNames.getD cn "") q.1 r.1) && q.2.2.2.1 == r.2.2
      | none => false)
    | _ => false)
  | 3 => wAt q.2.2.2.2.2.1 (.constant (mNames.getD cn "") q.1 (Int32.ofInt q.2.1)) && decide (-2147483648 ≤ q.2.1 ∧ q.2.1 < 2147483648) && q.2.2.1 == 0
  | 4 => wAt q.2.2.2.2.2.1 (.constantLong (mNames.getD cn "") q.1 (Int64.ofInt q.2.1)) && decide (-9223372036854775808 ≤ q.2.1 ∧ q.2.1 < 9223372036854775808)
  | 5 => cn == 8 && q.1 == 37 && q.2.2.1 == 1
  | _ => false
set_option maxRecDepth 100000 in
theorem ckL_0 : mLk0.all (fun g => g.all (ckL 0)) = true := by decide +kernel
set_option maxRecDepth 100000 in
theorem ckL_1 : mLk1.all (fun g => g.all (ckL 1)) = true := by decide +kernel
set_option maxRecDepth 100000 in
theorem ckL_2 : mLk2.all (fun g => g.all (ckL 2)) = true := by decide +kernel
set_option maxRecDepth 100000 in
theorem ckL_3 : mLk3.all (fun g => g.all (ckL 3)) = true := by decide +kernel
set_option maxRecDepth 100000 in
theorem ckL_4 : mLk4.all (fun g => g.all (ckL 4)) = true := by decide +kernel
set_option maxRecDepth 100000 in
theorem ckL_5 : mLk5.all (fun g => g.all (ckL 5)) = true := by decide +kernel
set_option maxRecDepth 100000 in
theorem ckL_6 : mLk6.all (fun g => g.all (ckL 6)) = true := by decide +kernel
set_option maxRecDepth 100000 in
theorem ckL_7 : mLk7.all (fun g => g.all (ckL 7)) = true := by decide +kernel
set_option maxRecDepth 100000 in
theorem ckL_8 : mLk8.all (fun g => g.all (ckL 8)) = true := by decide +kernel
set_option maxRecDepth 100000 in
theorem ckL_9 : mLk9.all (fun g => g.all (ckL 9)) = true := by decide +kernel
set_option maxRecDepth 100000 in
theorem ckL_10 : mLk10.all (fun g => g.all (ckL 10)) = true := by decide +kernel
set_option maxRecDepth 100000 in
theorem ckL_11 : mLk11.all (fun g => g.all (ckL 11)) = true := by decide +kernel
set_option maxRecDepth 100000 in
theorem ckL_12 : mLk12.all (fun g => g.all (ckL 12)) = true := by decide +kernel
set_option maxRecDepth 100000 in
theorem ckL_13 : mLk13.all (fun g => g.all (ckL 13)) = true := by decide +kernel
set_option maxRecDepth 100000 in
theorem ckL_14 : mLk14.all (fun g => g.all (ckL 14)) = true := by decide +kernel
set_option maxRecDepth 100000 in
theorem ckL_15 : mLk15.all (fun g => g.all (ckL 15)) = true := by decide +kernel
def lay0 : List Nat := [1155, 1157, 1159, 1161, 1163, 1165, 1167, 1169, 1171, 1173, 1175, 1177, 1179, 1181, 1183]
set_option maxRecDepth 100000 in
theorem layk_0 : ∀ j, j < 15 → wAt (lay0.getD j 0) (u_lay "ClashDay$Board" kT0 j) = true := by decide +kernel
set_option maxRecDepth 100000 in
theorem cty_0 : ∀ j, j < 15 → parseFieldDescriptor (kT0 j).2.2.1 = some (kY0 j) := by decide +kernel
set_option maxRecDepth 100000 in
theorem cnm_0 : ∀ a, a < 15 → ∀ b, b < 15 → a ≠ b → (kT0 a).2.1 ≠ (kT0 b).2.1 := by decide +kernel
set_option maxRecDepth 100000 in
theorem cdf_0 : ∀ j, j < 15 → defaultValue (kY0 j) = (if mFKd 0 j = 1 then .long 0 else if mFKd 0 j = 2 then .null else .int 0) := by decide +kernel
set_option maxRecDepth 100000 in
theorem cwi_0 : wAt 1100 (.instantiable "ClashDay$Board" 15) = true ∧ wAt 1006 (.initialized "ClashDay$Board") = true := by decide +kernel
set_option maxRecDepth 100000 in
theorem cfk_0 : ∀ j, j < 15 → (kT0 j).1 = "ClashDay$Board" ∧ ((mFKd 0 j = 0 ∧ kY0 j = .int ∧ (kT0 j).2.2.2 = false) ∨ (mFKd 0 j = 1 ∧ kY0 j = .long ∧ (kT0 j).2.2.2 = false) ∨ (mFKd 0 j = 3 ∧ kY0 j = .boolean ∧ (kT0 j).2.2.2 = false) ∨ (mFKd 0 j = 2 ∧ (kT0 j).2.2.2 = true ∧ (kY0 j).isReference = true)) := by decide +kernel
def lay1 : List Nat := [1072, 1074]
set_option maxRecDepth 100000 in
theorem layk_1 : ∀ j, j < 2 → wAt (lay1.getD j 0) (u_lay "ClashDay$DayReader" kT1 j) = true := by decide +kernel
set_option maxRecDepth 100000 in
theorem cty_1 : ∀ j, j < 2 → parseFieldDescriptor (kT1 j).2.2.1 = some (kY1 j) := by decide +kernel
set_option maxRecDepth 100000 in
theorem cnm_1 : ∀ a, a < 2 → ∀ b, b < 2 → a ≠ b → (kT1 a).2.1 ≠ (kT1 b).2.1 := by decide +kernel
set_option maxRecDepth 100000 in
theorem cdf_1 : ∀ j, j < 2 → defaultValue (kY1 j) = (if mFKd 1 j = 1 then .long 0 else if mFKd 1 j = 2 then .null else .int 0) := by decide +kernel
set_option maxRecDepth 100000 in
theorem cwi_1 : wAt 1065 (.instantiable "ClashDay$DayReader" 2) = true ∧ wAt 1003 (.initialized "ClashDay$DayReader") = true := by decide +kernel
set_option maxRecDepth 100000 in
theorem cfk_1 : ∀ j, j < 2 → (kT1 j).1 = "ClashDay$DayReader" ∧ ((mFKd 1 j = 0 ∧ kY1 j = .int ∧ (kT1 j).2.2.2 = false) ∨ (mFKd 1 j = 1 ∧ kY1 j = .long ∧ (kT1 j).2.2.2 = false) ∨ (mFKd 1 j = 3 ∧ kY1 j = .boolean ∧ (kT1 j).2.2.2 = false) ∨ (mFKd 1 j = 2 ∧ (kT1 j).2.2.2 = true ∧ (kY1 j).isReference = true)) := by decide +kernel
def lay2 : List Nat := [2141, 2143, 2145, 2147]
set_option maxRecDepth 100000 in
theorem layk_2 : ∀ j, j < 4 → wAt (lay2.getD j 0) (u_lay "ClashDay$Lines" kT2 j) = true := by decide +kernel
set_option maxRecDepth 100000 in
theorem cty_2 : ∀ j, j < 4 → parseFieldDescriptor (kT2 j).2.2.1 = some (kY2 j) := by decide +kernel
set_option maxRecDepth 100000 in
theorem cnm_2 : ∀ a, a < 4 → ∀ b, b < 4 → a ≠ b → (kT2 a).2.1 ≠ (kT2 b).2.1 := by decide +kernel
set_option maxRecDepth 100000 in
theorem cdf_2 : ∀ j, j < 4 → defaultValue (kY2 j) = (if mFKd 2 j = 1 then .long 0 else if mFKd 2 j = 2 then .null else .int 0) := by decide +kernel
set_option maxRecDepth 100000 in
theorem cwi_2 : wAt 2129 (.instantiable "ClashDay$Lines" 4) = true ∧ wAt 1011 (.initialized "ClashDay$Lines") = true := by decide +kernel
set_option maxRecDepth 100000 in
theorem cfk_2 : ∀ j, j < 4 → (kT2 j).1 = "ClashDay$Lines" ∧ ((mFKd 2 j = 0 ∧ kY2 j = .int ∧ (kT2 j).2.2.2 = false) ∨ (mFKd 2 j = 1 ∧ kY2 j = .long ∧ (kT2 j).2.2.2 = false) ∨ (mFKd 2 j = 3 ∧ kY2 j = .boolean ∧ (kT2 j).2.2.2 = false) ∨ (mFKd 2 j = 2 ∧ (kT2 j).2.2.2 = true ∧ (kY2 j).isReference = true)) := by decide +kernel
def lay3 : List Nat := [1197, 1199, 1201, 1203]
set_option maxRecDepth 100000 in
theorem layk_3 : ∀ j, j < 4 → wAt (lay3.getD j 0) (u_lay "ClashDay$Notes" kT3 j) = true := by decide +kernel
set_option maxRecDepth 100000 in
theorem cty_3 : ∀ j, j < 4 → parseFieldDescriptor (kT3 j).2.2.1 = some (kY3 j) := by decide +kernel
set_option maxRecDepth 100000 in
theorem cnm_3 : ∀ a, a < 4 → ∀ b, b < 4 → a ≠ b → (kT3 a).2.1 ≠ (kT3 b).2.1 := by decide +kernel
set_option maxRecDepth 100000 in
theorem cdf_3 : ∀ j, j < 4 → defaultValue (kY3 j) = (if mFKd 3 j = 1 then .long 0 else if mFKd 3 j = 2 then .null else .int 0) := by decide +kernel
set_option maxRecDepth 100000 in
theorem cwi_3 : wAt 1187 (.instantiable "ClashDay$Notes" 4) = true ∧ wAt 1007 (.initialized "ClashDay$Notes") = true := by decide +kernel
set_option maxRecDepth 100000 in
theorem cfk_3 : ∀ j, j < 4 → (kT3 j).1 = "ClashDay$Notes" ∧ ((mFKd 3 j = 0 ∧ kY3 j = .int ∧ (kT3 j).2.2.2 = false) ∨ (mFKd 3 j = 1 ∧ kY3 j = .long ∧ (kT3 j).2.2.2 = false) ∨ (mFKd 3 j = 3 ∧ kY3 j = .boolean ∧ (kT3 j).2.2.2 = false) ∨ (mFKd 3 j = 2 ∧ (kT3 j).2.2.2 = true ∧ (kY3 j).isReference = true)) := by decide +kernel
def lay4 : List Nat := [2029, 2031, 2033, 2035, 2037, 2039, 2041, 2043, 2045, 2047, 2049, 2051, 2053]
set_option maxRecDepth 100000 in
theorem layk_4 : ∀ j, j < 13 → wAt (lay4.getD j 0) (u_lay "ClashDay$Planner" kT4 j) = true := by decide +kernel
set_option maxRecDepth 100000 in
theorem cty_4 : ∀ j, j < 13 → parseFieldDescriptor (kT4 j).2.2.1 = some (kY4 j) := by decide +kernel
set_option maxRecDepth 100000 in
theorem cnm_4 : ∀ a, a < 13 → ∀ b, b < 13 → a ≠ b → (kT4 a).2.1 ≠ (kT4 b).2.1 := by decide +kernel
set_option maxRecDepth 100000 in
theorem cdf_4 : ∀ j, j < 13 → defaultValue (kY4 j) = (if mFKd 4 j = 1 then .long 0 else if mFKd 4 j = 2 then .null else .int 0) := by decide +kernel
set_option maxRecDepth 100000 in
theorem cwi_4 : wAt 1239 (.instantiable "ClashDay$Planner" 13) = true ∧ wAt 1008 (.initialized "ClashDay$Planner") = true := by decide +kernel
set_option maxRecDepth 100000 in
theorem cfk_4 : ∀ j, j < 13 → (kT4 j).1 = "ClashDay$Planner" ∧ ((mFKd 4 j = 0 ∧ kY4 j = .int ∧ (kT4 j).2.2.2 = false) ∨ (mFKd 4 j = 1 ∧ kY4 j = .long ∧ (kT4 j).2.2.2 = false) ∨ (mFKd 4 j = 3 ∧ kY4 j = .boolean ∧ (kT4 j).2.2.2 = false) ∨ (mFKd 4 j = 2 ∧ (kT4 j).2.2.2 = true ∧ (kY4 j).isReference = true)) := by decide +kernel
def lay5 : List Nat := [2161, 2163, 2165, 2167, 2169]
set_option maxRecDepth 100000 in
theorem layk_5 : ∀ j, j < 5 → wAt (lay5.getD j 0) (u_lay "ClashDay$Rule" kT5 j) = true := by decide +kernel
set_option maxRecDepth 100000 in
theorem cty_5 : ∀ j, j < 5 → parseFieldDescriptor (kT5 j).2.2.1 = some (kY5 j) := by decide +kernel
set_option maxRecDepth 100000 in
theorem cnm_5 : ∀ a, a < 5 → ∀ b, b < 5 → a ≠ b → (kT5 a).2.1 ≠ (kT5 b).2.1 := by decide +kernel
set_option maxRecDepth 100000 in
theorem cdf_5 : ∀ j, j < 5 → defaultValue (kY5 j) = (if mFKd 5 j = 1 then .long 0 else if mFKd 5 j = 2 then .null else .int 0) := by decide +kernel
set_option maxRecDepth 100000 in
theorem cwi_5 : wAt 2150 (.instantiable "ClashDay$Rule" 5) = true ∧ wAt 1012 (.initialized "ClashDay$Rule") = true := by decide +kernel
set_option maxRecDepth 100000 in
theorem cfk_5 : ∀ j, j < 5 → (kT5 j).1 = "ClashDay$Rule" ∧ ((mFKd 5 j = 0 ∧ kY5 j = .int ∧ (kT5 j).2.2.2 = false) ∨ (mFKd 5 j = 1 ∧ kY5 j = .long ∧ (kT5 j).2.2.2 = false) ∨ (mFKd 5 j = 3 ∧ kY5 j = .boolean ∧ (kT5 j).2.2.2 = false) ∨ (mFKd 5 j = 2 ∧ (kT5 j).2.2.2 = true ∧ (kY5 j).isReference = true)) := by decide +kernel
def lay6 : List Nat := [1086, 1088]
set_option maxRecDepth 100000 in
theorem layk_6 : ∀ j, j < 2 → wAt (lay6.getD j 0) (u_lay "ClashDay$RuleReader" kT6 j) = true := by decide +kernel
set_option maxRecDepth 100000 in
theorem cty_6 : ∀ j, j < 2 → parseFieldDescriptor (kT6 j).2.2.1 = some (kY6 j) := by decide +kernel
set_option maxRecDepth 100000 in
theorem cnm_6 : ∀ a, a < 2 → ∀ b, b < 2 → a ≠ b → (kT6 a).2.1 ≠ (kT6 b).2.1 := by decide +kernel
set_option maxRecDepth 100000 in
theorem cdf_6 : ∀ j, j < 2 → defaultValue (kY6 j) = (if mFKd 6 j = 1 then .long 0 else if mFKd 6 j = 2 then .null else .int 0) := by decide +kernel
set_option maxRecDepth 100000 in
theorem cwi_6 : wAt 1079 (.instantiable "ClashDay$RuleReader" 2) = true ∧ wAt 1004 (.initialized "ClashDay$RuleReader") = true := by decide +kernel
set_option maxRecDepth 100000 in
theorem cfk_6 : ∀ j, j < 2 → (kT6 j).1 = "ClashDay$RuleReader" ∧ ((mFKd 6 j = 0 ∧ kY6 j = .int ∧ (kT6 j).2.2.2 = false) ∨ (mFKd 6 j = 1 ∧ kY6 j = .long ∧ (kT6 j).2.2.2 = false) ∨ (mFKd 6 j = 3 ∧ kY6 j = .boolean ∧ (kT6 j).2.2.2 = false) ∨ (mFKd 6 j = 2 ∧ (kT6 j).2.2.2 = true ∧ (kY6 j).isReference = true)) := by decide +kernel
def lay7 : List Nat := [1221, 1223, 1225, 1227, 1229, 1231]
set_option maxRecDepth 100000 in
theorem layk_7 : ∀ j, j < 6 → wAt (lay7.getD j 0) (u_lay "ClashDay$Scene" kT7 j) = true := by decide +kernel
set_option maxRecDepth 100000 in
theorem cty_7 : ∀ j, j < 6 → parseFieldDescriptor (kT7 j).2.2.1 = some (kY7 j) := by decide +kernel
set_option maxRecDepth 100000 in
theorem cnm_7 : ∀ a, a < 6 → ∀ b, b < 6 → a ≠ b → (kT7 a).2.1 ≠ (kT7 b).2.1 := by decide +kernel
set_option maxRecDepth 100000 in
theorem cdf_7 : ∀ j, j < 6 → defaultValue (kY7 j) = (if mFKd 7 j = 1 then .long 0 else if mFKd 7 j = 2 then .null else .int 0) := by decide +kernel
set_option maxRecDepth 100000 in
theorem cwi_7 : wAt 1094 (.instantiable "ClashDay$Scene" 6) = true ∧ wAt 1005 (.initialized "ClashDay$Scene") = true := by decide +kernel
set_option maxRecDepth 100000 in
theorem cfk_7 : ∀ j, j < 6 → (kT7 j).1 = "ClashDay$Scene" ∧ ((mFKd 7 j = 0 ∧ kY7 j = .int ∧ (kT7 j).2.2.2 = false) ∨ (mFKd 7 j = 1 ∧ kY7 j = .long ∧ (kT7 j).2.2.2 = false) ∨ (mFKd 7 j = 3 ∧ kY7 j = .boolean ∧ (kT7 j).2.2.2 = false) ∨ (mFKd 7 j = 2 ∧ (kT7 j).2.2.2 = true ∧ (kY7 j).isReference = true)) := by decide +kernel
def lay8 : List Nat := [1048, 1050, 1052, 1054, 1056, 1058, 1060]
set_option maxRecDepth 100000 in
theorem layk_8 : ∀ j, j < 7 → wAt (lay8.getD j 0) (u_lay "ClashDay$Tape" kT8 j) = true := by decide +kernel
set_option maxRecDepth 100000 in
theorem cty_8 : ∀ j, j < 7 → parseFieldDescriptor (kT8 j).2.2.1 = some (kY8 j) := by decide +kernel
set_option maxRecDepth 100000 in
theorem cnm_8 : ∀ a, a < 7 → ∀ b, b < 7 → a ≠ b → (kT8 a).2.1 ≠ (kT8 b).2.1 := by decide +kernel
set_option maxRecDepth 100000 in
theorem cdf_8 : ∀ j, j < 7 → defaultValue (kY8 j) = (if mFKd 8 j = 1 then .long 0 else if mFKd 8 j = 2 then .null else .int 0) := by decide +kernel
set_option maxRecDepth 100000 in
theorem cwi_8 : wAt 1030 (.instantiable "ClashDay$Tape" 7) = true ∧ wAt 1002 (.initialized "ClashDay$Tape") = true := by decide +kernel
set_option maxRecDepth 100000 in
theorem cfk_8 : ∀ j, j < 7 → (kT8 j).1 = "ClashDay$Tape" ∧ ((mFKd 8 j = 0 ∧ kY8 j = .int ∧ (kT8 j).2.2.2 = false) ∨ (mFKd 8 j = 1 ∧ kY8 j = .long ∧ (kT8 j).2.2.2 = false) ∨ (mFKd 8 j = 3 ∧ kY8 j = .boolean ∧ (kT8 j).2.2.2 = false) ∨ (mFKd 8 j = 2 ∧ (kT8 j).2.2.2 = true ∧ (kY8 j).isReference = true)) := by decide +kernel
def lay9 : List Nat := [2101, 2103, 2105, 2107, 2109, 2111, 2113, 2115, 2117, 2119, 2121, 2123, 2125]
set_option maxRecDepth 100000 in
theorem layk_9 : ∀ j, j < 13 → wAt (lay9.getD j 0) (u_lay "ClashDay$Trials" kT9 j) = true := by decide +kernel
set_option maxRecDepth 100000 in
theorem cty_9 : ∀ j, j < 13 → parseFieldDescriptor (kT9 j).2.2.1 = some (kY9 j) := by decide +kernel
set_option maxRecDepth 100000 in
theorem cnm_9 : ∀ a, a < 13 → ∀ b, b < 13 → a ≠ b → (kT9 a).2.1 ≠ (kT9 b).2.1 := by decide +kernel
set_option maxRecDepth 100000 in
theorem cdf_9 : ∀ j, j < 13 → defaultValue (kY9 j) = (if mFKd 9 j = 1 then .long 0 else if mFKd 9 j = 2 then .null else .int 0) := by decide +kernel
set_option maxRecDepth 100000 in
theorem cwi_9 : wAt 2074 (.instantiable "ClashDay$Trials" 13) = true ∧ wAt 1010 (.initialized "ClashDay$Trials") = true := by decide +kernel
set_option maxRecDepth 100000 in
theorem cfk_9 : ∀ j, j < 13 → (kT9 j).1 = "ClashDay$Trials" ∧ ((mFKd 9 j = 0 ∧ kY9 j = .int ∧ (kT9 j).2.2.2 = false) ∨ (mFKd 9 j = 1 ∧ kY9 j = .long ∧ (kT9 j).2.2.2 = false) ∨ (mFKd 9 j = 3 ∧ kY9 j = .boolean ∧ (kT9 j).2.2.2 = false) ∨ (mFKd 9 j = 2 ∧ (kT9 j).2.2.2 = true ∧ (kY9 j).isReference = true)) := by decide +kernel
def lay10 : List Nat := [2065, 2067, 2069]
set_option maxRecDepth 100000 in
theorem layk_10 : ∀ j, j < 3 → wAt (lay10.getD j 0) (u_lay "ClashDay$Turns" kT10 j) = true := by decide +kernel
set_option maxRecDepth 100000 in
theorem cty_10 : ∀ j, j < 3 → parseFieldDescriptor (kT10 j).2.2.1 = some (kY10 j) := by decide +kernel
set_option maxRecDepth 100000 in
theorem cnm_10 : ∀ a, a < 3 → ∀ b, b < 3 → a ≠ b → (kT10 a).2.1 ≠ (kT10 b).2.1 := by decide +kernel
set_option maxRecDepth 100000 in
theorem cdf_10 : ∀ j, j < 3 → defaultValue (kY10 j) = (if mFKd 10 j = 1 then .long 0 else if mFKd 10 j = 2 then .null else .int 0) := by decide +kernel
set_option maxRecDepth 100000 in
theorem cwi_10 : wAt 2057 (.instantiable "ClashDay$Turns" 3) = true ∧ wAt 1009 (.initialized "ClashDay$Turns") = true := by decide +kernel
set_option maxRecDepth 100000 in
theorem cfk_10 : ∀ j, j < 3 → (kT10 j).1 = "ClashDay$Turns" ∧ ((mFKd 10 j = 0 ∧ kY10 j = .int ∧ (kT10 j).2.2.2 = false) ∨ (mFKd 10 j = 1 ∧ kY10 j = .long ∧ (kT10 j).2.2.2 = false) ∨ (mFKd 10 j = 3 ∧ kY10 j = .boolean ∧ (kT10 j).2.2.2 = false) ∨ (mFKd 10 j = 2 ∧ (kT10 j).2.2.2 = true ∧ (kY10 j).isReference = true)) := by decide +kernel
def lay11 : List Nat := [2186, 2188, 2190, 2192, 2194, 2196, 2198, 2200, 2202, 2204, 2206, 2208, 2210, 2212]
set_option maxRecDepth 100000 in
theorem layk_11 : ∀ j, j < 14 → wAt (lay11.getD j 0) (u_lay "ClashDay" kT11 j) = true := by decide +kernel
set_option maxRecDepth 100000 in
theorem cty_11 : ∀ j, j < 14 → parseFieldDescriptor (kT11 j).2.2.1 = some (kY11 j) := by decide +kernel
set_option maxRecDepth 100000 in
theorem cnm_11 : ∀ a, a < 14 → ∀ b, b < 14 → a ≠ b → (kT11 a).2.1 ≠ (kT11 b).2.1 := by decide +kernel
set_option maxRecDepth 100000 in
theorem cdf_11 : ∀ j, j < 14 → defaultValue (kY11 j) = (if mFKd 11 j = 1 then .long 0 else if mFKd 11 j = 2 then .null else .int 0) := by decide +kernel
set_option maxRecDepth 100000 in
theorem cwi_11 : wAt 1022 (.instantiable "ClashDay" 14) = true ∧ wAt 1001 (.initialized "ClashDay") = true := by decide +kernel
set_option maxRecDepth 100000 in
theorem cfk_11 : ∀ j, j < 14 → (kT11 j).1 = "ClashDay" ∧ ((mFKd 11 j = 0 ∧ kY11 j = .int ∧ (kT11 j).2.2.2 = false) ∨ (mFKd 11 j = 1 ∧ kY11 j = .long ∧ (kT11 j).2.2.2 = false) ∨ (mFKd 11 j = 3 ∧ kY11 j = .boolean ∧ (kT11 j).2.2.2 = false) ∨ (mFKd 11 j = 2 ∧ (kT11 j).2.2.2 = true ∧ (kY11 j).isReference = true)) := by decide +kernel
def lay12 : List Nat := [6080, 6082, 6084, 6086, 6088, 6090, 6092, 6094, 6096, 6098, 6100, 6102, 6104, 6106, 6108, 6110, 6112, 6114, 6116, 6118, 6120, 6122, 6124, 6126, 6128, 6130, 6132, 6134, 6136, 6138, 6140, 6142, 6144, 6146, 6148, 6150, 6152, 6154, 6156, 6158, 6160, 6162, 6164, 6166, 6168, 6170, 6172, 6174, 6176, 6178, 6180, 6182, 6184, 6186, 6188, 6190, 6192, 6194]
set_option maxRecDepth 100000 in
theorem layk_12 : ∀ j, j < 58 → wAt (lay12.getD j 0) (u_lay "ClashDayModel" kT12 j) = true := by decide +kernel
set_option maxRecDepth 100000 in
theorem cty_12 : ∀ j, j < 58 → parseFieldDescriptor (kT12 j).2.2.1 = some (kY12 j) := by decide +kernel
set_option maxRecDepth 100000 in
theorem cnm_12 : ∀ a, a < 58 → ∀ b, b < 58 → a ≠ b → (kT12 a).2.1 ≠ (kT12 b).2.1 := by decide +kernel
set_option maxRecDepth 100000 in
theorem cdf_12 : ∀ j, j < 58 → defaultValue (kY12 j) = (if mFKd 12 j = 1 then .long 0 else if mFKd 12 j = 2 then .null else .int 0) := by decide +kernel
set_option maxRecDepth 100000 in
theorem cwi_12 : wAt 6017 (.instantiable "ClashDayModel" 58) = true ∧ wAt 1013 (.initialized "ClashDayModel") = true := by decide +kernel
set_option maxRecDepth 100000 in
theorem cfk_12 : ∀ j, j < 58 → (kT12 j).1 = "ClashDayModel" ∧ ((mFKd 12 j = 0 ∧ kY12 j = .int ∧ (kT12 j).2.2.2 = false) ∨ (mFKd 12 j = 1 ∧ kY12 j = .long ∧ (kT12 j).2.2.2 = false) ∨ (mFKd 12 j = 3 ∧ kY12 j = .boolean ∧ (kT12 j).2.2.2 = false) ∨ (mFKd 12 j = 2 ∧ (kT12 j).2.2.2 = true ∧ (kY12 j).isReference = true)) := by decide +kernel
end
section
/-! the methods are as the words say -/
set_option maxRecDepth 100000 in
theorem ckM_0 : ∀ j, j < 10 → ckM (1 + j) = true := by decide +kernel
set_option maxRecDepth 100000 in
theorem ckM_1 : ∀ j, j < 10 → ckM (11 + j) = true := by decide +kernel
set_option maxRecDepth 100000 in
theorem ckM_2 : ∀ j, j < 10 → ckM (21 + j) = true := by decide +kernel
set_option maxRecDepth 100000 in
theorem ckM_3 : ∀ j, j < 10 → ckM (31 + j) = true := by decide +kernel
set_option maxRecDepth 100000 in
theorem ckM_4 : ∀ j, j < 10 → ckM (41 + j) = true := by decide +kernel
set_option maxRecDepth 100000 in
theorem ckM_5 : ∀ j, j < 10 → ckM (51 + j) = true := by decide +kernel
set_option maxRecDepth 100000 in
theorem ckM_6 : ∀ j, j < 10 → ckM (61 + j) = true := by decide +kernel
set_option maxRecDepth 100000 in
theorem ckM_7 : ∀ j, j < 10 → ckM (71 + j) = true := by decide +kernel
set_option maxRecDepth 100000 in
theorem ckM_8 : ∀ j, j < 10 → ckM (81 + j) = true := by decide +kernel
set_option maxRecDepth 100000 in
theorem ckM_9 : ∀ j, j < 10 → ckM (91 + j) = true := by decide +kernel
set_option maxRecDepth 100000 in
theorem ckM_10 : ∀ j, j < 10 → ckM (101 + j) = true := by decide +kernel
set_option maxRecDepth 100000 in
theorem ckM_11 : ∀ j, j < 10 → ckM (111 + j) = true := by decide +kernel
set_option maxRecDepth 100000 in
theorem ckM_12 : ∀ j, j < 10 → ckM (121 + j) = true := by decide +kernel
set_option maxRecDepth 100000 in
theorem ckM_13 : ∀ j, j < 10 → ckM (131 + j) = true := by decide +kernel
set_option maxRecDepth 100000 in
theorem ckM_14 : ∀ j, j < 10 → ckM (141 + j) = true := by decide +kernel
set_option maxRecDepth 100000 in
theorem ckM_15 : ∀ j, j < 10 → ckM (151 + j) = true := by decide +kernel
set_option maxRecDepth 100000 in
theorem ckM_16 : ∀ j, j < 10 → ckM (161 + j) = true := by decide +kernel
set_option maxRecDepth 100000 in
theorem ckM_17 : ∀ j, j < 10 → ckM (171 + j) = true := by decide +kernel
set_option maxRecDepth 100000 in
theorem ckM_18 : ∀ j, j < 10 → ckM (181 + j) = true := by decide +kernel
set_option maxRecDepth 100000 in
theorem ckM_19 : ∀ j, j < 10 → ckM (191 + j) = true := by decide +kernel
set_option maxRecDepth 100000 in
theorem ckM_20 : ∀ j, j < 10 → ckM (201 + j) = true := by decide +kernel
set_option maxRecDepth 100000 in
theorem ckM_21 : ∀ j, j < 10 → ckM (211 + j) = true := by decide +kernel
set_option maxRecDepth 100000 in
theorem ckM_22 : ∀ j, j < 10 → ckM (221 + j) = true := by decide +kernel
set_option maxRecDepth 100000 in
theorem ckM_23 : ∀ j, j < 10 → ckM (231 + j) = true := by decide +kernel
set_option maxRecDepth 100000 in
theorem ckM_24 : ∀ j, j < 10 → ckM (241 + j) = true := by decide +kernel
set_option maxRecDepth 100000 in
theorem ckM_25 : ∀ j, j < 10 → ckM (251 + j) = true := by decide +kernel
set_option maxRecDepth 100000 in
theorem ckM_26 : ∀ j, j < 10 → ckM (261 + j) = true := by decide +kernel
set_option maxRecDepth 100000 in
theorem ckM_27 : ∀ j, j < 10 → ckM (271 + j) = true := by decide +kernel
set_option maxRecDepth 100000 in
theorem ckM_28 : ∀ j, j < 10 → ckM (281 + j) = true := by decide +kernel
set_option maxRecDepth 100000 in
theorem ckM_29 : ∀ j, j < 10 → ckM (291 + j) = true := by decide +kernel
set_option maxRecDepth 100000 in
theorem ckM_30 : ∀ j, j < 10 → ckM (301 + j) = true := by decide +kernel
end
section
/-! what the checks give -/
theorem zg_1 (y : MethodName) (b : ByteArray) (n : Nat) (r : Option FieldType) : goodWord (.code y b n r) = true := rfl
theorem ckM_all {mj : Nat} (h0 : 0 < mj) (h1 : mj < 311) : ckM mj = true := by
  rcases (show (mj - 1) / 10 = 0 ∨ (mj - 1) / 10 = 1 ∨ (mj - 1) / 10 = 2 ∨ (mj - 1) / 10 = 3 ∨ (mj - 1) / 10 = 4 ∨ (mj - 1) / 10 = 5 ∨ (mj - 1) / 10 = 6 ∨ (mj - 1) / 10 = 7 ∨ (mj - 1) / 10 = 8 ∨ (mj - 1) / 10 = 9 ∨ (mj - 1) / 10 = 10 ∨ (mj - 1) / 10 = 11 ∨ (mj - 1) / 10 = 12 ∨ (mj - 1) / 10 = 13 ∨ (mj - 1) / 10 = 14 ∨ (mj - 1) / 10 = 15 ∨ (mj - 1) / 10 = 16 ∨ (mj - 1) / 10 = 17 ∨ (mj - 1) / 10 = 18 ∨ (mj - 1) / 10 = 19 ∨ (mj - 1) / 10 = 20 ∨ (mj - 1) / 10 = 21 ∨ (mj - 1) / 10 = 22 ∨ (mj - 1) / 10 = 23 ∨ (mj - 1) / 10 = 24 ∨ (mj - 1) / 10 = 25 ∨ (mj - 1) / 10 = 26 ∨ (mj - 1) / 10 = 27 ∨ (mj - 1) / 10 = 28 ∨ (mj - 1) / 10 = 29 ∨ (mj - 1) / 10 = 30 by omega) with h | h | h | h | h | h | h | h | h | h | h | h | h | h | h | h | h | h | h | h | h | h | h | h | h | h | h | h | h | h | h
  · have q := ckM_0 (mj - 1) (by omega)
    rwa [show 1 + (mj - 1) = mj by omega] at q
  · have q := ckM_1 (mj - 11) (by omega)
    rwa [show 11 + (mj - 11) = mj by omega] at q
  · have q := ckM_2 (mj - 21) (by omega)
    rwa [show 21 + (mj - 21) = mj by omega] at q
  · have q := ckM_3 (mj - 31) (by omega)
    rwa [show 31 + (mj - 31) = mj by omega] at q
  · have q := ckM_4 (mj - 41) (by omega)
    rwa [show 41 + (mj - 41) = mj by omega] at q
  · have q := ckM_5 (mj - 51) (by omega)
    rwa [show 51 + (mj - 51) = mj by omega] at q
  · have q := ckM_6 (mj - 61) (by omega)
    rwa [show 61 + (mj - 61) = mj by omega] at q
  · have q := ckM_7 (mj - 71) (by omega)
    rwa [show 71 + (mj - 71) = mj by omega] at q
  · have q := ckM_8 (mj - 81) (by omega)
    rwa [show 81 + (mj - 81) = mj by omega] at q
  · have q := ckM_9 (mj - 91) (by omega)
    rwa [show 91 + (mj - 91) = mj by omega] at q
  · have q := ckM_10 (mj - 101) (by omega)
    rwa [show 101 + (mj - 101) = mj by omega] at q
  · have q := ckM_11 (mj - 111) (by omega)
    rwa [show 111 + (mj - 111) = mj by omega] at q
  · have q := ckM_12 (mj - 121) (by omega)
    rwa [show 121 + (mj - 121) = mj by omega] at q
  · have q := ckM_13 (mj - 131) (by omega)
    rwa [show 131 + (mj - 131) = mj by omega] at q
  · have q := ckM_14 (mj - 141) (by omega)
    rwa [show 141 + (mj - 141) = mj by omega] at q
  · have q := ckM_15 (mj - 151) (by omega)
    rwa [show 151 + (mj - 151) = mj by omega] at q
  · have q := ckM_16 (mj - 161) (by omega)
    rwa [show 161 + (mj - 161) = mj by omega] at q
  · have q := ckM_17 (mj - 171) (by omega)
    rwa [show 171 + (mj - 171) = mj by omega] at q
  · have q := ckM_18 (mj - 181) (by omega)
    rwa [show 181 + (mj - 181) = mj by omega] at q
  · have q := ckM_19 (mj - 191) (by omega)
    rwa [show 191 + (mj - 191) = mj by omega] at q
  · have q := ckM_20 (mj - 201) (by omega)
    rwa [show 201 + (mj - 201) = mj by omega] at q
  · have q := ckM_21 (mj - 211) (by omega)
    rwa [show 211 + (mj - 211) = mj by omega] at q
  · have q := ckM_22 (mj - 221) (by omega)
    rwa [show 221 + (mj - 221) = mj by omega] at q
  · have q := ckM_23 (mj - 231) (by omega)
    rwa [show 231 + (mj - 231) = mj by omega] at q
  · have q := ckM_24 (mj - 241) (by omega)
    rwa [show 241 + (mj - 241) = mj by omega] at q
  · have q := ckM_25 (mj - 251) (by omega)
    rwa [show 251 + (mj - 251) = mj by omega] at q
  · have q := ckM_26 (mj - 261) (by omega)
    rwa [show 261 + (mj - 261) = mj by omega] at q
  · have q := ckM_27 (mj - 271) (by omega)
    rwa [show 271 + (mj - 271) = mj by omega] at q
  · have q := ckM_28 (mj - 281) (by omega)
    rwa [show 281 + (mj - 281) = mj by omega] at q
  · have q := ckM_29 (mj - 291) (by omega)
    rwa [show 291 + (mj - 291) = mj by omega] at q
  · have q := ckM_30 (mj - 301) (by omega)
    rwa [show 301 + (mj - 301) = mj by omega] at q
theorem ckR_spec {rk : Nat} {r : Option FieldType} {nm : String} (h : ckR rk r nm = true) : (rk = 0 ∨ rk = 6 → r = none) ∧ (rk = 1 → r = some .int) ∧ (rk = 2 → r = some .boolean) ∧ (rk = 3 → r = some .char) ∧ (rk = 4 → r = some .long) ∧ (rk = 5 → ∃ n, r = some (.object n)) ∧ (rk = 6 → nm = "<init>") := by
  unfold ckR at h
  split at h
  all_goals first | exact absurd h (by decide) | skip
  all_goals refine ⟨?_, ?_, ?_, ?_, ?_, ?_, ?_⟩ <;> intro q <;> first | rfl | (exfalso; omega) | exact ⟨_, rfl⟩ | exact eq_of_beq h
theorem MK_all {mj : Nat} (h0 : 0 < mj) (h1 : mj < 311) : MK mj := by
  have h := ckM_all h0 h1
  unfold ckM at h
  simp only [Bool.and_eq_true] at h
  obtain ⟨⟨⟨⟨⟨⟨⟨a1, a2⟩, a3⟩, a4⟩, a5⟩, a6⟩, a7⟩, -⟩ := h
  obtain ⟨b1, b2, b3, b4, b5, b6, b7⟩ := ckR_spec a7
  exact ⟨wAt_in a1 rfl, wAt_in a2 rfl, ⟨by simpa using a3, by simpa using a4⟩, a5, of_decide_eq_true a6, b1, b2, b3, b4, b5, b6, b7⟩
theorem MS_all {mj : Nat} (h0 : 0 < mj) (h1 : mj < 311) (hs : (plA mj).2.2.2.2 = 1) : Cond.static (mY mj) ∈ mT ∧ (parseMethodDescriptor (mY mj).desc).map (fun d => d.parameters.length) = some (mNa mj) := by
  have h := ckM_all h0 h1
  unfold ckM at h
  simp only [Bool.and_eq_true] at h
  have h := h.2
  rw [hs] at h
  simp only [Bool.and_eq_true] at h
  exact ⟨wAt_in h.1 rfl, of_decide_eq_true h.2⟩
theorem MI_all {mj : Nat} (h0 : 0 < mj) (h1 : mj < 311) (hs : (plA mj).2.2.2.2 = 0) : Cond.instanceMethod (mY mj) ∈ mT ∧ (mRk mj ≠ 6 → Cond.selects (mY mj).cls (mY mj) (mY mj) ∈ mT) ∧ (parseMethodDescriptor (mY mj).desc).map (fun d => d.parameters.length + 1) = some (mNa mj) := by
  have h := ckM_all h0 h1
  unfold ckM at h
  simp only [Bool.and_eq_true] at h
  have h := h.2
  rw [hs] at h
  simp only [Bool.and_eq_true, Bool.or_eq_true, beq_iff_eq] at h
  exact ⟨wAt_in h.1.1 rfl, fun q => wAt_in (h.1.2.resolve_left q) rfl, of_decide_eq_true h.2⟩
theorem par_1 {x : Option MethodDescriptor} {n : Nat} (h : x.map (fun d => d.parameters.length + 1) = some n) : 0 < n ∧ x.map (fun d => d.parameters.length) = some (n - 1) := by
  cases x with
  | none => cases h
  | some d =>
    have h : d.parameters.length + 1 = n := Option.some.inj h
    exact ⟨by omega, congrArg some (by show d.parameters.length = n - 1; omega)⟩
theorem cn_all : ∀ mi, mi < 311 → (mY mi).cls = mNames.getD (mCn mi) "" := by decide +kernel
theorem cn_16 : ∀ mi, mi < 311 → mCn mi < 16 := by decide +kernel
theorem ckL_all {cn : Nat} (hc : cn < 16) : ∀ g ∈ mLk.getD cn [], ∀ q ∈ g, ckL cn q = true := by
  intro g hg q hq
  have key : ∀ {l : List (List mLR)}, l.all (fun g => g.all (ckL cn)) = true → g ∈ l → ckL cn q = true := fun h hm => List.all_eq_true.mp (List.all_eq_true.mp h g hm) q hq
  rcases (show cn = 0 ∨ cn = 1 ∨ cn = 2 ∨ cn = 3 ∨ cn = 4 ∨ cn = 5 ∨ cn = 6 ∨ cn = 7 ∨ cn = 8 ∨ cn = 9 ∨ cn = 10 ∨ cn = 11 ∨ cn = 12 ∨ cn = 13 ∨ cn = 14 ∨ cn = 15 by omega) with rfl | rfl | rfl | rfl | rfl | rfl | rfl | rfl | rfl | rfl | rfl | rfl | rfl | rfl | rfl | rfl

  · exact key ckL_0 hg
  · exact key ckL_1 hg
  · exact key ckL_2 hg
  · exact key ckL_3 hg
  · exact key ckL_4 hg
  · exact key ckL_5 hg
  · exact key ckL_6 hg
  · exact key ckL_7 hg
  · exact key ckL_8 hg
  · exact key ckL_9 hg
  · exact key ckL_10 hg
  · exact key ckL_11 hg
  · exact key ckL_12 hg
  · exact key ckL_13 hg
  · exact key ckL_14 hg
  · exact key ckL_15 hg
theorem look_of {cn k : Nat} (hc : cn < 16) {q : mLR} (h : mLook cn k = some q) : ckL cn q = true ∧ q.1 = k := by
  unfold mLook at h
  have h1 := List.mem_of_find?_eq_some h
  have h2 := List.find?_some h
  refine ⟨?_, by simpa using h2⟩
  rw [List.getD_eq_getElem?_getD] at h1
  cases hg : (mLk.getD cn [])[k / 16]? with
  | none => rw [hg] at h1; exact absurd h1 List.not_mem_nil
  | some g => rw [hg] at h1; exact ckL_all hc g (List.mem_of_getElem? hg) q h1
/-- what a fetched instruction is -/
theorem fetch_of {mi pc : Nat} {op : Instr} {len : Nat} {a b : Int} {c e : Nat} (hm : mi < 311) (h : mFetch mi pc = some (op, len, a, b, c, e)) : decode (mB mi) pc = .ok (op, len) ∧ mOK op len = true ∧
    (∀ k, mIx op = some k → ∃ p t, ckL (mCn mi) (k, a, b, c, e, p, t) = true ∧ mTg op t = true) ∧ (mIx op = none → ∀ o, mJp op = some o → a = (pc : Int) + o ∧ 0 ≤ a) := by
  unfold mFetch at h
  cases hd : decode (mB mi) pc with
  | error _ => rw [hd] at h; cases h
  | ok r =>
    obtain ⟨i, ln⟩ := r
    rw [hd] at h
    dsimp only at h
    cases hk : mOK i ln with
    | false => rw [hk] at h; cases h
    | true =>
      rw [hk] at h
      dsimp only [cond_true] at h
      cases hx : mIx i with
      | some k =>
        rw [hx] at h
        dsimp only at h
        cases hl : mLook (mCn mi) k with
        | none => rw [hl] at h; cases h
        | some q =>
          rw [hl] at h
          dsimp only [Option.bind_some] at h
          cases ht : mTg i q.2.2.2.2.2.2 with
          | false => rw [ht] at h; cases h
          | true =>
            rw [ht] at h
            obtain ⟨q1, q2⟩ := look_of (cn_16 mi hm) hl
            cases h
            refine ⟨rfl, hk, fun k' hk' => ?_, fun hn => by rw [hx] at hn; cases hn⟩
            rw [hx] at hk'
            cases hk'
            refine ⟨q.2.2.2.2.2.1, q.2.2.2.2.2.2, ?_, ht⟩
            rw [← q2]
            exact q1
      | none =>
        rw [hx] at h
        dsimp only at h
        cases hj : mJp i with
        | none =>
          rw [hj] at h
          cases h
          exact ⟨rfl, hk, fun k' hk' => (by rw [hx] at hk'; cases hk'), fun _ o ho => (by rw [hj] at ho; cases ho)⟩
        | some o =>
          rw [hj] at h
          dsimp only at h
          by_cases h0 : 0 ≤ (pc : Int) + o
          · rw [decide_eq_true h0] at h
            cases h
            refine ⟨rfl, hk, fun k' hk' => (by rw [hx] at hk'; cases hk'), fun _ o' ho => ?_⟩
            rw [hj] at ho
            cases ho
            exact ⟨rfl, h0⟩
          · rw [decide_eq_false h0] at h
            cases h
/-- the classes -/
def CLx (ci : Nat) (C : String) (T : u_T) (N : Nat) (Y : Nat → FieldType) : Prop := CLs ci C T N Y ∧ (∀ a, a < N → ∀ b, b < N → a ≠ b → (T a).2.1 ≠ (T b).2.1) ∧ ∀ j, j < N → (T j).1 = C ∧ ((mFKd ci j = 0 ∧ Y j = .int ∧ (T j).2.2.2 = false) ∨ (mFKd ci j = 1 ∧ Y j = .long ∧ (T j).2.2.2 = false) ∨ (mFKd ci j = 3 ∧ Y j = .boolean ∧ (T j).2.2.2 = false) ∨ (mFKd ci j = 2 ∧ (T j).2.2.2 = true ∧ (Y j).isReference = true))
theorem lay_in {C : String} {T : u_T} {N : Nat} {f : Nat → Nat} (h : ∀ j, j < N → wAt (f j) (u_lay C T j) = true) : ∀ w ∈ u_ws C T N, w ∈ mT := by
  intro w hw
  unfold u_ws at hw
  obtain ⟨j, hj, rfl⟩ := List.mem_map.mp hw
  refine wAt_in (h j (List.mem_range.mp hj)) ?_
  unfold u_lay
  split <;> rfl
theorem clx_0 : CLx 0 "ClashDay$Board" kT0 15 kY0 := ⟨⟨rfl, lay_in layk_0, cty_0, by decide, cdf_0, wAt_in cwi_0.1 rfl, wAt_in cwi_0.2 rfl, by decide⟩, cnm_0, cfk_0⟩
theorem clx_1 : CLx 1 "ClashDay$DayReader" kT1 2 kY1 := ⟨⟨rfl, lay_in layk_1, cty_1, by decide, cdf_1, wAt_in cwi_1.1 rfl, wAt_in cwi_1.2 rfl, by decide⟩, cnm_1, cfk_1⟩
theorem clx_2 : CLx 2 "ClashDay$Lines" kT2 4 kY2 := ⟨⟨rfl, lay_in layk_2, cty_2, by decide, cdf_2, wAt_in cwi_2.1 rfl, wAt_in cwi_2.2 rfl, by decide⟩, cnm_2, cfk_2⟩
theorem clx_3 : CLx 3 "ClashDay$Notes" kT3 4 kY3 := ⟨⟨rfl, lay_in layk_3, cty_3, by decide, cdf_3, wAt_in cwi_3.1 rfl, wAt_in cwi_3.2 rfl, by decide⟩, cnm_3, cfk_3⟩
theorem clx_4 : CLx 4 "ClashDay$Planner" kT4 13 kY4 := ⟨⟨rfl, lay_in layk_4, cty_4, by decide, cdf_4, wAt_in cwi_4.1 rfl, wAt_in cwi_4.2 rfl, by decide⟩, cnm_4, cfk_4⟩
theorem clx_5 : CLx 5 "ClashDay$Rule" kT5 5 kY5 := ⟨⟨rfl, lay_in layk_5, cty_5, by decide, cdf_5, wAt_in cwi_5.1 rfl, wAt_in cwi_5.2 rfl, by decide⟩, cnm_5, cfk_5⟩
theorem clx_6 : CLx 6 "ClashDay$RuleReader" kT6 2 kY6 := ⟨⟨rfl, lay_in layk_6, cty_6, by decide, cdf_6, wAt_in cwi_6.1 rfl, wAt_in cwi_6.2 rfl, by decide⟩, cnm_6, cfk_6⟩
theorem clx_7 : CLx 7 "ClashDay$Scene" kT7 6 kY7 := ⟨⟨rfl, lay_in layk_7, cty_7, by decide, cdf_7, wAt_in cwi_7.1 rfl, wAt_in cwi_7.2 rfl, by decide⟩, cnm_7, cfk_7⟩
theorem clx_8 : CLx 8 "ClashDay$Tape" kT8 7 kY8 := ⟨⟨rfl, lay_in layk_8, cty_8, by decide, cdf_8, wAt_in cwi_8.1 rfl, wAt_in cwi_8.2 rfl, by decide⟩, cnm_8, cfk_8⟩
theorem clx_9 : CLx 9 "ClashDay$Trials" kT9 13 kY9 := ⟨⟨rfl, lay_in layk_9, cty_9, by decide, cdf_9, wAt_in cwi_9.1 rfl, wAt_in cwi_9.2 rfl, by decide⟩, cnm_9, cfk_9⟩
theorem clx_10 : CLx 10 "ClashDay$Turns" kT10 3 kY10 := ⟨⟨rfl, lay_in layk_10, cty_10, by decide, cdf_10, wAt_in cwi_10.1 rfl, wAt_in cwi_10.2 rfl, by decide⟩, cnm_10, cfk_10⟩
theorem clx_11 : CLx 11 "ClashDay" kT11 14 kY11 := ⟨⟨rfl, lay_in layk_11, cty_11, by decide, cdf_11, wAt_in cwi_11.1 rfl, wAt_in cwi_11.2 rfl, by decide⟩, cnm_11, cfk_11⟩
theorem clx_12 : CLx 12 "ClashDayModel" kT12 58 kY12 := ⟨⟨rfl, lay_in layk_12, cty_12, by decide, cdf_12, wAt_in cwi_12.1 rfl, wAt_in cwi_12.2 rfl, by decide⟩, cnm_12, cfk_12⟩
theorem clx_all {ci : Nat} {C : String} {T : u_T} {N : Nat} (h : mCl[ci]? = some (C, T, N)) : ∃ Y, CLx ci C T N Y := by
  have hl : ci < 13 := (List.getElem?_eq_some_iff.mp h).1
  rcases (show ci = 0 ∨ ci = 1 ∨ ci = 2 ∨ ci = 3 ∨ ci = 4 ∨ ci = 5 ∨ ci = 6 ∨ ci = 7 ∨ ci = 8 ∨ ci = 9 ∨ ci = 10 ∨ ci = 11 ∨ ci = 12 by omega) with rfl | rfl | rfl | rfl | rfl | rfl | rfl | rfl | rfl | rfl | rfl | rfl | rfl
  · cases h; exact ⟨_, clx_0⟩
  · cases h; exact ⟨_, clx_1⟩
  · cases h; exact ⟨_, clx_2⟩
  · cases h; exact ⟨_, clx_3⟩
  · cases h; exact ⟨_, clx_4⟩
  · cases h; exact ⟨_, clx_5⟩
  · cases h; exact ⟨_, clx_6⟩
  · cases h; exact ⟨_, clx_7⟩
  · cases h; exact ⟨_, clx_8⟩
  · cases h; exact ⟨_, clx_9⟩
  · cases h; exact ⟨_, clx_10⟩
  · cases h; exact ⟨_, clx_11⟩
  · cases h; exact ⟨_, clx_12⟩
theorem ref_ty {t : FieldType} (h : t.isReference = true) : (∃ n, t = .object n) ∨ ∃ u, t = .array u := by
  cases t <;> first | exact Or.inl ⟨_, rfl⟩ | exact Or.inr ⟨_, rfl⟩ | cases h
theorem FL_of {mi k c e p : Nat} {a b : Int} (hm : mi < 311) (h : ckL (mCn mi) (k, a, b, c, e, p, 0) = true) : FL mi k a.toNat b.toNat c ∧ (e = 1 → ∀ C T N, mCl[a.toNat]? = some (C, T, N) → C = (mY mi).cls) := by
  unfold ckL at h
  dsimp only at h
  cases hc : mCl[a.toNat]? with
  | none => rw [hc] at h; cases h
  | some r =>
    obtain ⟨C, T, N⟩ := r
    rw [hc] at h
    simp only [Bool.and_eq_true, Bool.or_eq_true, bne_iff_ne, beq_iff_eq] at h
    obtain ⟨⟨⟨⟨⟨h1, h2⟩, h3⟩, h4⟩, h5⟩, h6⟩ := h
    obtain ⟨Y, ⟨_, x2, x3, x4, -, -, -, -⟩, x5, x6⟩ := clx_all hc
    have hk := of_decide_eq_true h3
    have hw := wAt_in h4 rfl
    rw [← cn_all mi hm] at hw h6
    obtain ⟨y1, y2⟩ := x6 _ hk
    refine ⟨⟨C, T, N, Y, hc, hk, hw, y1, x2, x3, x5, x4, h5, ?_, ?_, ?_, ?_⟩, fun he C' T' N' hC => ?_⟩
    · intro q; rw [← h5] at q; rcases y2 with z | z | z | z
      · exact z.2
      all_goals (exfalso; omega)
    · intro q; rw [← h5] at q; rcases y2 with z | z | z | z
      rotate_left
      · exact z.2
      all_goals (exfalso; omega)
    · intro q; rw [← h5] at q; rcases y2 with z | z | z | z
      rotate_left 3
      · exact ⟨z.2.1, ref_ty z.2.2⟩
      all_goals (exfalso; omega)
    · intro q; rw [← h5] at q; rcases y2 with z | z | z | z
      rotate_left 2
      · exact z.2
      all_goals (exfalso; omega)
    · cases hC
      rcases h6 with z | z
      · exact absurd he z
      · exact z
end
section
/-! THE SMALL MACHINE IS SOUND -/
theorem eI_el {st : List mV} {k : Int → List mV → Prop} (h : eI st k) : ∃ x t, st = mI x :: t ∧ k x t := by
  unfold eI at h; split at h
  · exact ⟨_, _, rfl, h⟩
  · exact False.elim h
theorem eJ_el {st : List mV} {k : Int → List mV → Prop} (h : eJ st k) : ∃ x t, st = mJ x :: t ∧ k x t := by
  unfold eJ at h; split at h
  · exact ⟨_, _, rfl, h⟩
  · exact False.elim h
theorem eR_el {st : List mV} {k : Nat → List mV → Prop} (h : eR st k) : ∃ x t, st = mR x :: t ∧ k x t := by
  unfold eR at h; split at h
  · exact ⟨_, _, rfl, h⟩
  · exact False.elim h
theorem eX_el {st : List mV} {k : Nat → List mV → Prop} (h : eX st k) : ∃ x t, st = mX x :: t ∧ k x t := by
  unfold eX at h; split at h
  · exact ⟨_, _, rfl, h⟩
  · exact False.elim h
theorem eO_el {st : List mV} {k : Option Nat → List mV → Prop} (h : eO st k) : ∃ x t, st = Sum.inr (Sum.inr (Sum.inl x)) :: t ∧ k x t := by
  unfold eO at h; split at h
  · exact ⟨_, _, rfl, h⟩
  · exact False.elim h
theorem gI_el {ls : mLo} {i : Nat} {k : Int → Prop} (h : gI ls i k) : ∃ x, ls[i]? = some (some (mI x)) ∧ k x := by
  unfold gI at h; split at h
  · rename_i e; exact ⟨_, e, h⟩
  · exact False.elim h
theorem gJ_el {ls : mLo} {i : Nat} {k : Int → Prop} (h : gJ ls i k) : ∃ x, ls[i]? = some (some (mJ x)) ∧ k x := by
  unfold gJ at h; split at h
  · rename_i e; exact ⟨_, e, h⟩
  · exact False.elim h
theorem gA_el {ls : mLo} {i : Nat} {k : mV → Prop} (h : gA ls i k) : ∃ r, ls[i]? = some (some (Sum.inr (Sum.inr r))) ∧ k (Sum.inr (Sum.inr r)) := by
  unfold gA at h; split at h
  · rename_i e; exact ⟨_, e, h⟩
  · exact False.elim h
def isRet (rk : Nat) (i : Instr) (r : Option mV) : Prop := (i = .return_ ∧ r = none ∧ (rk = 0 ∨ rk = 6)) ∨ (i = .ireturn ∧ ∃ x, r = some (mI x) ∧ okR rk x) ∨ (i = .lreturn ∧ ∃ x, r = some (mJ x) ∧ rk = 4) ∨ (i = .areturn ∧ ∃ q, r = some (Sum.inr (Sum.inr (Sum.inl q))) ∧ rk = 5)
/-- the rows of the words' String -/
def STR (l : Launch) (base : Nat) (sp : Nat → Nat) (D : va_G) (dA : Nat → ClassId) (SK : State → Prop) : Prop :=
  ∀ (p : Program) (e : Env) (R : Room) (U : State) (m : MethodId) (args : Array Value) (below : List Frame) (meth : Method) (c : Code) (Q : State → Prop) (mi B n0 bud pc : Nat) (ls : mLo) (st : List mV) (S : List mSh) (s : mSt), mi < 311 → (mY mi).cls = "ClashDay$Tape" → FX p U m args meth c D dA mi → EX SK U → U.heap.size = base + n0 → (B ≤ R.cells ∧ 2400 * B ≤ R.slots) →
  (decode (mB mi) pc = .ok (.ldc 37, 2) → WG p l e R U m args below meth c Q base sp D dA (mML mi) B n0 bud (pc + 2) ls (mX 1 :: st) S s → WG p l e R U m args below meth c Q base sp D dA (mML mi) B n0 bud pc ls st S s) ∧
  (∀ idx, (5 ≤ R.frames ∧ 300 ≤ R.locals) → sW st ≤ 8 → Cond.methodLink "ClashDay$Tape" idx sLen ∈ mT → decode (mB mi) pc = .ok (.invokevirtual idx, 3) → WG p l e R U m args below meth c Q base sp D dA (mML mi) B n0 bud (pc + 3) ls (mI 105 :: st) S s → WG p l e R U m args below meth c Q base sp D dA (mML mi) B n0 bud pc ls (mX 1 :: st) S s) ∧
  (∀ idx (j : Int), (5 ≤ R.frames ∧ 300 ≤ R.locals) → sW st ≤ 8 → 0 ≤ j ∧ j < 105 → Cond.methodLink "ClashDay$Tape" idx sChr ∈ mT → decode (mB mi) pc = .ok (.invokevirtual idx, 3) → WG p l e R U m args below meth c Q base sp D dA (mML mi) B n0 bud (pc + 3) ls (mI (mTx.getD j.toNat 0 : Nat) :: st) S s → WG p l e R U m args below meth c Q base sp D dA (mML mi) B n0 bud pc ls (mI j :: mX 1 :: st) S s)
/-- soundness in a frame, for so many steps -/
def SND (X : (Nat → Int) × Nat) (l : Launch) (base : Nat) (sp : Nat → Nat) (D : va_G) (dA : Nat → ClassId) (SK : State → Prop) (n : Nat) : Prop :=
  ∀ (d bud mi pc : Nat) (ls : mLo) (st : List mV) (S : List mSh) (s : mSt) (K : mRt) (p : Program) (e : Env) (R : Room) (U : State) (m : MethodId) (args : Array Value) (below : List Frame) (meth : Method) (c : Code) (Q : State → Prop) (B n0 : Nat), mi < 311 → wp X n d bud mi pc ls st S s K → FX p U m args meth c D dA mi → EX SK U → U.heap.size = base + n0 → (d ≤ R.frames ∧ 60 * d ≤ R.locals) → (B ≤ R.cells ∧ 2400 * B ≤ R.slots) → (mi = 0 → SX X U base sp) →
  (∀ r S s pc ls i, K r S s → isRet (mRk mi) i r → decode (mB mi) pc = .ok (i, 1) → WG p l e R U m args below meth c Q base sp D dA (mML mi) B n0 0 pc ls r.toList S s) → WG p l e R U m args below meth c Q base sp D dA (mML mi) B n0 bud pc ls st S s
theorem mArgs_sl {base : Nat} {sp : Nat → Nat} : ∀ (as : List mV), (lg_sl (as.map (mUp base sp))).length = (mArgs as).length
  | [] => rfl
  | Sum.inl x :: t => by
    show (Slot.val (Value.int _) :: lg_sl (t.map (mUp base sp))).length = (mArgs t).length + 1
    rw [List.length_cons, mArgs_sl t]
  | Sum.inr (Sum.inl x) :: t => by
    show (Slot.val (Value.long _) :: Slot.second :: lg_sl (t.map (mUp base sp))).length = (mArgs t).length + 1 + 1
    rw [List.length_cons, List.length_cons, mArgs_sl t]
  | Sum.inr (Sum.inr (Sum.inl none)) :: t => by
    show (Slot.val (Value.null) :: lg_sl (t.map (mUp base sp))).length = (mArgs t).length + 1
    rw [List.length_cons, mArgs_sl t]
  | Sum.inr (Sum.inr (Sum.inl (some k))) :: t => by
    show (Slot.val (Value.ref _) :: lg_sl (t.map (mUp base sp))).length = (mArgs t).length + 1
    rw [List.length_cons, mArgs_sl t]
  | Sum.inr (Sum.inr (Sum.inr j)) :: t => by
    show (Slot.val (Value.ref _) :: lg_sl (t.map (mUp base sp))).length = (mArgs t).length + 1
    rw [List.length_cons, mArgs_sl t]
theorem mArgs_in {base : Nat} {sp : Nat → Nat} : ∀ (as : List mV) (k i : Nat) (v : mV), nrS as → (mArgs as)[i]? = some (some v) → (k + i, mUp base sp v) ∈ lv_args k (as.map (mUp base sp)) ∧ nrV v := by
  intro as
  induction as with
  | nil => intro k i v _ h; simp [mArgs] at h
  | cons a t ih =>
    intro k i v hn h
    have one : (mUp base sp a).category = 1 → mArgs (a :: t) = some a :: mArgs t → (k + i, mUp base sp v) ∈ lv_args k ((a :: t).map (mUp base sp)) ∧ nrV v := by
      intro hc e
      rw [e] at h
      cases i with
      | zero =>
        have h : a = v := by simpa using h
        subst h
        exact ⟨List.mem_cons_self, hn.1⟩
      | succ i =>
        have := ih (k + 1) i v hn.2 (by simpa using h)
        refine ⟨?_, this.2⟩
        show _ ∈ (k, mUp base sp a) :: lv_args (if (mUp base sp a).category = 2 then k + 2 else k + 1) (t.map (mUp base sp))
        rw [hc, if_neg (by decide), show k + (i + 1) = k + 1 + i by omega]
        exact List.mem_cons_of_mem _ this.1
    rcases a with x | x | (_ | r) | j
    · exact one rfl rfl
    · match i, h with
      | 0, h =>
        have h : (mJ x : mV) = v := by simpa [mArgs] using h
        subst h
        exact ⟨List.mem_cons_self, hn.1⟩
      | 1, h => simp [mArgs] at h
      | i + 2, h =>
        have := ih (k + 2) i v hn.2 (by simpa [mArgs] using h)
        refine ⟨?_, this.2⟩
        show _ ∈ (k, Value.long (Int64.ofInt x)) :: lv_args (k + 2) (t.map (mUp base sp))
        rw [show k + (i + 2) = k + 2 + i by omega]
        exact List.mem_cons_of_mem _ this.1
    · exact one rfl rfl
    · exact one rfl rfl
    · exact one rfl rfl
theorem mHas_entry {base : Nat} {sp : Nat → Nat} {as : List mV} {n : Nat} (hn : nrS as) (hl : (mArgs as).length ≤ n) : mHas base sp ((lg_sl (as.map (mUp base sp)) ++ List.replicate (n - (lg_sl (as.map (mUp base sp))).length) Slot.unset).toArray) n (mLoc as n) := by
  have h := lv_entry (as.map (mUp base sp)) (n := n) (by rw [mArgs_sl]; exact hl)
  refine ⟨by unfold mLoc; rw [List.length_append, List.length_replicate]; omega, h.1, h.2.1, fun i v hi => ?_⟩
  unfold mLoc at hi
  rcases Nat.lt_or_ge i (mArgs as).length with hk | hk
  · rw [List.getElem?_append_left hk] at hi
    have := mArgs_in (base := base) (sp := sp) as 0 i v hn hi
    rw [Nat.zero_add] at this
    exact ⟨h.2.2 _ this.1, this.2⟩
  · rw [List.getElem?_append_right hk, List.getElem?_replicate] at hi
    split at hi <;> cases hi
theorem okR_3 {x : Int} (h : 0 ≤ x ∧ x < 65536) : narrow .char (.int (Int32.ofInt x)) = .int (Int32.ofInt x) := by
  have h1 := nar_c h
  have h2 := pk_nc (Int32.ofInt x)
  have h3 := q_i2c (x := x) (by unfold nr32; omega)
  rw [show x % 65536 = x by omega] at h3
  rw [h3] at h2
  exact h2
/-- a method's contract out of its runs -/
theorem met_of {X : (Nat → Int) × Nat} {l : Launch} {base : Nat} {sp : Nat → Nat} {D : va_G} {dA : Nat → ClassId} {SK : State → Prop} {n : Nat} (hP : SND X l base sp D dA SK n) {d mj : Nat} {as : List mV} {S : List mSh} {s : mSt} {K : mRt} (h0 : 0 < mj) (h1 : mj < 311) (hl : (mArgs as).length ≤ mML mj) (h : wp X n d (mCe mj) mj 0 (mLoc as (mML mj)) [] S s K) : MetW l base sp D dA SK d mj as S s K := by
  have hK := MK_all h0 h1
  refine Met.ofW (cc := mB mj) (maxL := mML mj) (ret := mRet mj) hK.2.2.2.1 rfl ?_
  intro p e U m args below meth c s₁ Bd hml hpre
  obtain ⟨rfl, hp1, hp2, hp3, hp4, hp5, hp6⟩ := hpre
  have hts := atoms_spec (ws := wsM mj) Bd.pre
  have hown : U.vm.findClass (mY mj).cls = some m.cls := findClass_of_methodNamed Bd.named
  have F : FX p U m (as.map (mUp base sp)).toArray meth c D dA mj := ⟨Bd.exec, Bd.bytes, hml, hown, fun w hw => hts w (List.mem_cons_of_mem _ hw), hp5, Bd.returns, Bd.notSynchronized, (name_of_methodNamed Bd.named Bd.method).1⟩
  rw [lg_entry_eq]
  refine hP d (mCe mj) mj 0 (mLoc as (mML mj)) [] S s K p e _ U m _ below meth c _ (mCe mj) S.length h1 h F hp6 hp2 ⟨Nat.le_refl _, Nat.le_refl _⟩ ⟨Nat.le_refl _, Nat.le_refl _⟩ (fun q => by omega) ?_ U.heap [] 0 0 _ ⟨hp1, va_S.rf, hp3⟩ (mHas_entry hp4 hl) trivial ⟨by omega, rfl⟩ (by omega)
  intro r S' s' pc ls i hk hr hd
  intro H locs cells slots rls hv hl2 hn hc hz
  have hlen : S'.length = S.length + mCe mj := by omega
  have hcc : cells = mCe mj := by omega
  refine W.widen (k := mCe mj) (n := 2400 * mCe mj) (by omega) (by rw [← hcc]; exact hz) ?_
  have fin : ∀ t : State, t.heap = H → U.WarmedH t.vm → nrO r → QcW base sp D dA (S.length + mCe mj) K (as.map (mUp base sp)).toArray U (.returned (r.map (mUp base sp))) t := fun t ht _ hno => ⟨⟨r, S', s', rfl, hk, by rw [ht]; exact hv.1, hv.2.2, hno, hlen⟩, va_S.F hv.2.1 ht⟩
  obtain ⟨-, -, -, -, -, k6, k7, k8, k9, k10, k11, -⟩ := hK
  rcases hr with ⟨rfl, rfl, hrk⟩ | ⟨rfl, x, rfl, hx⟩ | ⟨rfl, x, rfl, hx⟩ | ⟨rfl, q, rfl, hx⟩
  · exact W.vret F.1 F.2.1 (F.2.2.2.2.2.2.1.trans (k6 hrk)) (fun t a b => fin t a b trivial) hv.2.1.2.2 hd F.2.2.2.2.2.2.2.1
  · unfold okR at hx
    split at hx
    · rename_i hq
      exact W.iret F.1 F.2.1 (F.2.2.2.2.2.2.1.trans (k7 hq)) (fun t a b => fin t a b hn.1) hv.2.1.2.2 hd F.2.2.2.2.2.2.2.1
    · rename_i hq
      exact W.zret F.1 F.2.1 (F.2.2.2.2.2.2.1.trans (k8 hq)) (by rcases hx with rfl | rfl <;> rfl) (fun t a b => fin t a b hn.1) hv.2.1.2.2 hd F.2.2.2.2.2.2.2.1
    · rename_i hq
      exact W.zret F.1 F.2.1 (F.2.2.2.2.2.2.1.trans (k9 hq)) (okR_3 hx) (fun t a b => fin t a b hn.1) hv.2.1.2.2 hd F.2.2.2.2.2.2.2.1
    · exact False.elim hx
  · exact W.lret F.1 F.2.1 (F.2.2.2.2.2.2.1.trans (k10 hx)) (fun t a b => fin t a b hn.1) hv.2.1.2.2 hd F.2.2.2.2.2.2.2.1
  · obtain ⟨nm, hnm⟩ := k11 hx
    exact W.aret F.1 F.2.1 (F.2.2.2.2.2.2.1.trans hnm) (Or.inl ⟨nm, rfl⟩) (by cases q with | none => exact Or.inl rfl | some k => exact Or.inr ⟨_, rfl⟩) (fun t a b => fin t a b trivial) hv.2.1.2.2 hd F.2.2.2.2.2.2.2.1
end
section
/-- what a class's index means -/
theorem cl_of {cn k c e p ci : Nat} {b : Int} (h : ckL cn (k, .ofNat ci, b, c, e, p, 2) = true) (hn : ci ≠ 28) : ∃ C T N, mCl[ci]? = some (C, T, N) ∧ Cond.classLink (mNames.getD cn "") k C ∈ mT ∧ c = N := by
  simp only [ckL] at h
  split at h
  · rename_i r hr
    simp only [Bool.and_eq_true, beq_iff_eq] at h
    exact ⟨r.1, r.2.1, r.2.2, hr, wAt_in h.1 rfl, h.2⟩
  · cases h
theorem recv_el {S : List mSh} {as : List mV} {e : Nat} (h : match as with | Sum.inr (Sum.inr (Sum.inl (some k))) :: _ => kS S k = e | _ => False) : ∃ k tl, as = mR k :: tl ∧ kS S k = e := by
  split at h
  · exact ⟨_, _, rfl, h⟩
  · exact False.elim h
theorem clIs_of {ci : Nat} {C : String} (h : clIs ci C = true) : ∃ T N, mCl[ci]? = some (C, T, N) ∧ ci < 20 := by
  unfold clIs at h
  cases hc : mCl[ci]? with
  | none => rw [hc] at h; cases h
  | some r =>
    rw [hc] at h
    have hl : ci < 13 := (List.getElem?_eq_some_iff.mp hc).1
    have h : r.1 = C := eq_of_beq h
    subst h
    exact ⟨r.2.1, r.2.2, rfl, by omega⟩
section RX
variable {p : Program} {l : Launch} {e : Env} {R : Room} {U : State} {m : MethodId} {args : Array Value} {below : List Frame} {meth : Method} {c : Code} {Q : State → Prop}
variable {base : Nat} {sp : Nat → Nat} {D : va_G} {dA : Nat → ClassId} {mi nL B n0 bud pc : Nat} {ls : mLo} {st : List mV} {S : List mSh} {s : mSt}
theorem r_mmax (F : FX p U m args meth c D dA mi) {idx : Nat} {x y : Int} (hlk : Cond.methodLink (mY mi).cls idx Lib.Math.max.name ∈ mT) (hst : Cond.static Lib.Math.max.name ∈ mT) (hin : Cond.initialized "java/lang/Math" ∈ mT) (hco : Cond.code Lib.Math.max.name Lib.Math.max.code 2 (some .int) ∈ mT) (hnl : nL = mML mi) (hfr : 1 ≤ R.frames) (hlo : 60 ≤ R.locals) (hB : B ≤ R.cells ∧ 2400 * B ≤ R.slots) (hw : sW st ≤ 8) (hd : decode (mB mi) pc = .ok (.invokestatic idx, 3)) (h : WG p l e R U m args below meth c Q base sp D dA nL B n0 bud (pc + 3) ls (mI (iMax x y) :: st) S s) : WG p l e R U m args below meth c Q base sp D dA nL B n0 bud pc ls (mI y :: mI x :: st) S s := by
  intro H locs cells slots rls hv hl hn hc hz
  refine va_mmax F.1 F.2.1 (by rw [F.2.2.1, hl.2.1, hnl]) F.2.2.2.1 (F.2.2.2.2.1 _ hlk) (F.2.2.2.2.1 _ hst) (F.2.2.2.2.1 _ hin) (F.2.2.2.2.1 _ hco) hfr (by have := sW_eq (base := base) (sp := sp) st; rw [this]; omega) (by omega) (by omega) hd ?_
  have hv1 : (if Int32.ofInt x < Int32.ofInt y then Int32.ofInt y else Int32.ofInt x : Int32) = Int32.ofInt (iMax x y) := by
    unfold iMax
    by_cases hq : x < y
    · rw [if_pos hq, if_pos ((q_lt hn.2.1 hn.1).mpr hq)]
    · rw [if_neg hq, if_neg (fun z => hq ((q_lt hn.2.1 hn.1).mp z))]
  rw [hv1]
  exact h H locs cells slots rls hv hl ⟨(show nr32 _ by unfold iMax; split; exact hn.1; exact hn.2.1), hn.2.2⟩ hc hz
theorem r_mmin (F : FX p U m args meth c D dA mi) {idx : Nat} {x y : Int} (hlk : Cond.methodLink (mY mi).cls idx Lib.Math.min.name ∈ mT) (hst : Cond.static Lib.Math.min.name ∈ mT) (hin : Cond.initialized "java/lang/Math" ∈ mT) (hco : Cond.code Lib.Math.min.name Lib.Math.min.code 2 (some .int) ∈ mT) (hnl : nL = mML mi) (hfr : 1 ≤ R.frames) (hlo : 60 ≤ R.locals) (hB : B ≤ R.cells ∧ 2400 * B ≤ R.slots) (hw : sW st ≤ 8) (hd : decode (mB mi) pc = .ok (.invokestatic idx, 3)) (h : WG p l e R U m args below meth c Q base sp D dA nL B n0 bud (pc + 3) ls (mI (iMin x y) :: st) S s) : WG p l e R U m args below meth c Q base sp D dA nL B n0 bud pc ls (mI y :: mI x :: st) S s := by
  intro H locs cells slots rls hv hl hn hc hz
  refine va_mmin F.1 F.2.1 (by rw [F.2.2.1, hl.2.1, hnl]) F.2.2.2.1 (F.2.2.2.2.1 _ hlk) (F.2.2.2.2.1 _ hst) (F.2.2.2.2.1 _ hin) (F.2.2.2.2.1 _ hco) hfr (by have := sW_eq (base := base) (sp := sp) st; rw [this]; omega) (by omega) (by omega) hd ?_
  have hv1 : (if Int32.ofInt y < Int32.ofInt x then Int32.ofInt y else Int32.ofInt x : Int32) = Int32.ofInt (iMin x y) := by
    unfold iMin
    by_cases hq : y < x
    · rw [if_pos hq, if_pos ((q_lt hn.1 hn.2.1).mpr hq)]
    · rw [if_neg hq, if_neg (fun z => hq ((q_lt hn.1 hn.2.1).mp z))]
  rw [hv1]
  exact h H locs cells slots rls hv hl ⟨(show nr32 _ by unfold iMin; split; exact hn.1; exact hn.2.1), hn.2.2⟩ hc hz
end RX
set_option maxHeartbeats 4000000 in
theorem snd_all {X : (Nat → Int) × Nat} {l : Launch} {base : Nat} {sp : Nat → Nat} {D : va_G} {dA : Nat → ClassId} {SK : State → Prop} (hSK : SKm base SK) (hST : STR l base sp D dA SK) : ∀ n, SND X l base sp D dA SK n := by
  intro n
  induction n with
  | zero => intro d bud mi pc ls st S s K p e R U m args below meth c Q B n0 hm h; exact False.elim h
  | succ n ih =>
    intro d bud mi pc ls st S s K p e R U m args below meth c Q B n0 hm h F hE hU hR hB hX hret
    unfold wp at h
    cases hf : mFetch mi pc with
    | none => rw [hf] at h; exact False.elim h
    | some i =>
      rw [hf] at h
      obtain ⟨op, len, a, b, cc, ee⟩ := i
      obtain ⟨hd, hok, hlk, hjp⟩ := fetch_of hm hf
      have hbU : base ≤ U.heap.size := by omega
      have hown := cn_all mi hm
      have go : ∀ bud pc ls st S s, wp X n d bud mi pc ls st S s K → WG p l e R U m args below meth c Q base sp D dA (mML mi) B n0 bud pc ls st S s := fun bud pc ls st S s z => ih d bud mi pc ls st S s K p e R U m args below meth c Q B n0 hm z F hE hU hR hB hX hret
      clear hf
      dsimp only at h
      cases op
      case iconst v =>
        have h1 : decide (-1 ≤ v ∧ v ≤ 5) = true ∧ (len == 1) = true := by simpa [mOK, Bool.and_eq_true] using hok
        have h2 := of_decide_eq_true h1.1
        have e1 : len = 1 := eq_of_beq h1.2
        subst e1
        exact r_iconst F (by unfold nr32; omega) hd (go _ _ _ _ _ _ h)
      case bipush v =>
        have h1 : decide (-128 ≤ v ∧ v < 128) = true ∧ (len == 2) = true := by simpa [mOK, Bool.and_eq_true] using hok
        have h2 := of_decide_eq_true h1.1
        have e1 : len = 2 := eq_of_beq h1.2
        subst e1
        exact r_bipush F h2 hd (go _ _ _ _ _ _ h)
      case sipush v =>
        have h1 : decide (-32768 ≤ v ∧ v < 32768) = true ∧ (len == 3) = true := by simpa [mOK, Bool.and_eq_true] using hok
        have h2 := of_decide_eq_true h1.1
        have e1 : len = 3 := eq_of_beq h1.2
        subst e1
        exact r_sipush F h2 hd (go _ _ _ _ _ _ h)
      case lconst v =>
        have e1 : len = 1 := eq_of_beq hok
        subst e1
        exact r_lconst F hd (go _ _ _ _ _ _ h)
      case aconst_null =>
        have e1 : len = 1 := eq_of_beq hok
        subst e1
        exact r_null F hd (go _ _ _ _ _ _ h)
      case iload n =>
        have e1 : len = 2 := eq_of_beq hok
        subst e1
        obtain ⟨x, hx, h⟩ := gI_el h
        exact r_iload F hx hd (go _ _ _ _ _ _ h)
      case iload_n n =>
        have e1 : len = 1 := eq_of_beq hok
        subst e1
        obtain ⟨x, hx, h⟩ := gI_el h
        exact r_iload_n F hx hd (go _ _ _ _ _ _ h)
      case lload n =>
        have e1 : len = 2 := eq_of_beq hok
        subst e1
        obtain ⟨x, hx, h⟩ := gJ_el h
        exact r_lload F hx hd (go _ _ _ _ _ _ h)
      case lload_n n =>
        have e1 : len = 1 := eq_of_beq hok
        subst e1
        obtain ⟨x, hx, h⟩ := gJ_el h
        exact r_lload_n F hx hd (go _ _ _ _ _ _ h)
      case aload n =>
        have e1 : len = 2 := eq_of_beq hok
        subst e1
        dsimp only [ex1] at h
        obtain ⟨x, hx, h⟩ := gA_el h
        exact r_aload F hx hd (go _ _ _ _ _ _ h)
      case aload_n n =>
        have e1 : len = 1 := eq_of_beq hok
        subst e1
        dsimp only [ex1] at h
        obtain ⟨x, hx, h⟩ := gA_el h
        exact r_aload_n F hx hd (go _ _ _ _ _ _ h)
      case istore k =>
        have e1 : len = 2 := eq_of_beq hok
        subst e1
        obtain ⟨x, st, rfl, h⟩ := eI_el h
        exact r_istore F hd (sL_mono _ _ _ _ (fun _ z => go _ _ _ _ _ _ z) h)
      case istore_n k =>
        have e1 : len = 1 := eq_of_beq hok
        subst e1
        obtain ⟨x, st, rfl, h⟩ := eI_el h
        exact r_istore_n F hd (sL_mono _ _ _ _ (fun _ z => go _ _ _ _ _ _ z) h)
      case lstore k =>
        have e1 : len = 2 := eq_of_beq hok
        subst e1
        obtain ⟨x, st, rfl, h⟩ := eJ_el h
        exact r_lstore F hd (sJ_mono _ _ _ _ (fun _ z => go _ _ _ _ _ _ z) h)
      case lstore_n k =>
        have e1 : len = 1 := eq_of_beq hok
        subst e1
        obtain ⟨x, st, rfl, h⟩ := eJ_el h
        exact r_lstore_n F hd (sJ_mono _ _ _ _ (fun _ z => go _ _ _ _ _ _ z) h)
      case astore k =>
        have e1 : len = 2 := eq_of_beq hok
        subst e1
        obtain ⟨x, st, rfl, h⟩ := eO_el h
        exact r_astore F hd (sL_mono _ _ _ _ (fun _ z => go _ _ _ _ _ _ z) h)
      case astore_n k =>
        have e1 : len = 1 := eq_of_beq hok
        subst e1
        obtain ⟨x, st, rfl, h⟩ := eO_el h
        exact r_astore_n F hd (sL_mono _ _ _ _ (fun _ z => go _ _ _ _ _ _ z) h)
      case iinc k v =>
        have e1 : len = 3 := eq_of_beq hok
        subst e1
        obtain ⟨x, hx, h⟩ := gI_el h
        exact r_iinc F hx hd (sL_mono _ _ _ _ (fun _ z => go _ _ _ _ _ _ z) h)
      case pop =>
        have e1 : len = 1 := eq_of_beq hok
        subst e1
        dsimp only [ex1] at h
        obtain ⟨v, st, rfl, hv, h⟩ := w_cat (base := base) (sp := sp) (t := []) h
        exact r_pop F hv hd (go _ _ _ _ _ _ h)
      case dup =>
        have e1 : len = 1 := eq_of_beq hok
        subst e1
        dsimp only [ex1] at h
        obtain ⟨v, st, rfl, hv, h⟩ := w_cat (base := base) (sp := sp) (t := []) h
        exact r_dup F hv hd (go _ _ _ _ _ _ h)
      case dup2 =>
        have e1 : len = 1 := eq_of_beq hok
        subst e1
        dsimp only [ex1] at h
        obtain ⟨v, st, rfl, hv, h⟩ := w_cat (base := base) (sp := sp) (t := []) h
        obtain ⟨u, st, rfl, hu, h⟩ := w_cat (base := base) (sp := sp) (t := []) h
        exact r_dup2 F hv hu hd (go _ _ _ _ _ _ h)
      case iadd =>
        have e1 : len = 1 := eq_of_beq hok
        subst e1
        obtain ⟨y, st, rfl, h⟩ := eI_el h
        obtain ⟨x, st, rfl, h⟩ := eI_el h
        exact r_iadd F hd (go _ _ _ _ _ _ h)
      case isub =>
        have e1 : len = 1 := eq_of_beq hok
        subst e1
        obtain ⟨y, st, rfl, h⟩ := eI_el h
        obtain ⟨x, st, rfl, h⟩ := eI_el h
        exact r_isub F hd (go _ _ _ _ _ _ h)
      case imul =>
        have e1 : len = 1 := eq_of_beq hok
        subst e1
        obtain ⟨y, st, rfl, h⟩ := eI_el h
        obtain ⟨x, st, rfl, h⟩ := eI_el h
        exact r_imul F hd (go _ _ _ _ _ _ h)
      case iand =>
        have e1 : len = 1 := eq_of_beq hok
        subst e1
        obtain ⟨y, st, rfl, h⟩ := eI_el h
        obtain ⟨x, st, rfl, h⟩ := eI_el h
        exact r_iand F hd (go _ _ _ _ _ _ h)
      case ior =>
        have e1 : len = 1 := eq_of_beq hok
        subst e1
        obtain ⟨y, st, rfl, h⟩ := eI_el h
        obtain ⟨x, st, rfl, h⟩ := eI_el h
        exact r_ior F hd (go _ _ _ _ _ _ h)
      case ixor =>
        have e1 : len = 1 := eq_of_beq hok
        subst e1
        obtain ⟨y, st, rfl, h⟩ := eI_el h
        obtain ⟨x, st, rfl, h⟩ := eI_el h
        exact r_ixor F hd (go _ _ _ _ _ _ h)
      case ishl =>
        have e1 : len = 1 := eq_of_beq hok
        subst e1
        obtain ⟨y, st, rfl, h⟩ := eI_el h
        obtain ⟨x, st, rfl, h⟩ := eI_el h
        exact r_ishl F hd (go _ _ _ _ _ _ h)
      case ishr =>
        have e1 : len = 1 := eq_of_beq hok
        subst e1
        obtain ⟨y, st, rfl, h⟩ := eI_el h
        obtain ⟨x, st, rfl, h⟩ := eI_el h
        exact r_ishr F hd (go _ _ _ _ _ _ h)
      case iushr =>
        have e1 : len = 1 := eq_of_beq hok
        subst e1
        obtain ⟨y, st, rfl, h⟩ := eI_el h
        obtain ⟨x, st, rfl, h⟩ := eI_el h
        exact r_iushr F hd (go _ _ _ _ _ _ h)
      case ladd =>
        have e1 : len = 1 := eq_of_beq hok
        subst e1
        obtain ⟨y, st, rfl, h⟩ := eJ_el h
        obtain ⟨x, st, rfl, h⟩ := eJ_el h
        exact r_ladd F hd (go _ _ _ _ _ _ h)
      case lsub =>
        have e1 : len = 1 := eq_of_beq hok
        subst e1
        obtain ⟨y, st, rfl, h⟩ := eJ_el h
        obtain ⟨x, st, rfl, h⟩ := eJ_el h
        exact r_lsub F hd (go _ _ _ _ _ _ h)
      case lmul =>
        have e1 : len = 1 := eq_of_beq hok
        subst e1
        obtain ⟨y, st, rfl, h⟩ := eJ_el h
        obtain ⟨x, st, rfl, h⟩ := eJ_el h
        exact r_lmul F hd (go _ _ _ _ _ _ h)
      case land =>
        have e1 : len = 1 := eq_of_beq hok
        subst e1
        obtain ⟨y, st, rfl, h⟩ := eJ_el h
        obtain ⟨x, st, rfl, h⟩ := eJ_el h
        exact r_land F hd (go _ _ _ _ _ _ h)
      case lor =>
        have e1 : len = 1 := eq_of_beq hok
        subst e1
        obtain ⟨y, st, rfl, h⟩ := eJ_el h
        obtain ⟨x, st, rfl, h⟩ := eJ_el h
        exact r_lor F hd (go _ _ _ _ _ _ h)
      case lcmp =>
        have e1 : len = 1 := eq_of_beq hok
        subst e1
        obtain ⟨y, st, rfl, h⟩ := eJ_el h
        obtain ⟨x, st, rfl, h⟩ := eJ_el h
        exact r_lcmp F hd (go _ _ _ _ _ _ h)
      case idiv =>
        have e1 : len = 1 := eq_of_beq hok
        subst e1
        obtain ⟨y, st, rfl, h⟩ := eI_el h
        obtain ⟨x, st, rfl, h⟩ := eI_el h
        exact r_idiv F h.1 hd (go _ _ _ _ _ _ h.2)
      case irem =>
        have e1 : len = 1 := eq_of_beq hok
        subst e1
        obtain ⟨y, st, rfl, h⟩ := eI_el h
        obtain ⟨x, st, rfl, h⟩ := eI_el h
        exact r_irem F h.1 hd (go _ _ _ _ _ _ h.2)
      case ldiv =>
        have e1 : len = 1 := eq_of_beq hok
        subst e1
        obtain ⟨y, st, rfl, h⟩ := eJ_el h
        obtain ⟨x, st, rfl, h⟩ := eJ_el h
        exact r_ldiv F h.1 hd (go _ _ _ _ _ _ h.2)
      case lrem =>
        have e1 : len = 1 := eq_of_beq hok
        subst e1
        obtain ⟨y, st, rfl, h⟩ := eJ_el h
        obtain ⟨x, st, rfl, h⟩ := eJ_el h
        exact r_lrem F h.1 hd (go _ _ _ _ _ _ h.2)
      case lshl =>
        have e1 : len = 1 := eq_of_beq hok
        subst e1
        obtain ⟨y, st, rfl, h⟩ := eI_el h
        obtain ⟨x, st, rfl, h⟩ := eJ_el h
        exact r_lshl F hd (go _ _ _ _ _ _ h)
      case i2l =>
        have e1 : len = 1 := eq_of_beq hok
        subst e1
        obtain ⟨x, st, rfl, h⟩ := eI_el h
        exact r_i2l F hd (go _ _ _ _ _ _ h)
      case i2b =>
        have e1 : len = 1 := eq_of_beq hok
        subst e1
        obtain ⟨x, st, rfl, h⟩ := eI_el h
        exact r_i2b F hd (go _ _ _ _ _ _ h)
      case i2c =>
        have e1 : len = 1 := eq_of_beq hok
        subst e1
        obtain ⟨x, st, rfl, h⟩ := eI_el h
        exact r_i2c F hd (go _ _ _ _ _ _ h)
      case l2i =>
        have e1 : len = 1 := eq_of_beq hok
        subst e1
        obtain ⟨x, st, rfl, h⟩ := eJ_el h
        exact r_l2i F hd (go _ _ _ _ _ _ h)
      case goto off =>
        have e1 : len = 3 := eq_of_beq hok
        subst e1
        obtain ⟨ha, ha0⟩ := hjp rfl _ rfl
        have ht : (pc : Int) + off = (a.toNat : Int) := by omega
        exact r_goto F ht hd (go _ _ _ _ _ _ h)
      case ifCond cd off =>
        have e1 : len = 3 := eq_of_beq hok
        subst e1
        obtain ⟨ha, ha0⟩ := hjp rfl _ rfl
        have ht : (pc : Int) + off = (a.toNat : Int) := by omega
        cases cd with
        | eq =>
          obtain ⟨x, st, rfl, h⟩ := eI_el h
          exact r_if_eq F ht hd (fun z => go _ _ _ _ _ _ (h.1 z)) (fun z => go _ _ _ _ _ _ (h.2 z))
        | ne =>
          obtain ⟨x, st, rfl, h⟩ := eI_el h
          exact r_if_ne F ht hd (fun z => go _ _ _ _ _ _ (h.1 z)) (fun z => go _ _ _ _ _ _ (h.2 z))
        | lt =>
          obtain ⟨x, st, rfl, h⟩ := eI_el h
          exact r_if_lt F ht hd (fun z => go _ _ _ _ _ _ (h.1 z)) (fun z => go _ _ _ _ _ _ (h.2 z))
        | ge =>
          obtain ⟨x, st, rfl, h⟩ := eI_el h
          exact r_if_ge F ht hd (fun z => go _ _ _ _ _ _ (h.1 z)) (fun z => go _ _ _ _ _ _ (h.2 z))
        | gt =>
          obtain ⟨x, st, rfl, h⟩ := eI_el h
          exact r_if_gt F ht hd (fun z => go _ _ _ _ _ _ (h.1 z)) (fun z => go _ _ _ _ _ _ (h.2 z))
        | le =>
          obtain ⟨x, st, rfl, h⟩ := eI_el h
          exact r_if_le F ht hd (fun z => go _ _ _ _ _ _ (h.1 z)) (fun z => go _ _ _ _ _ _ (h.2 z))
      case if_icmp cd off =>
        have e1 : len = 3 := eq_of_beq hok
        subst e1
        obtain ⟨ha, ha0⟩ := hjp rfl _ rfl
        have ht : (pc : Int) + off = (a.toNat : Int) := by omega
        cases cd with
        | eq =>
          obtain ⟨y, st, rfl, h⟩ := eI_el h
          obtain ⟨x, st, rfl, h⟩ := eI_el h
          exact r_icmp_eq F ht hd (fun z => go _ _ _ _ _ _ (h.1 z)) (fun z => go _ _ _ _ _ _ (h.2 z))
        | ne =>
          obtain ⟨y, st, rfl, h⟩ := eI_el h
          obtain ⟨x, st, rfl, h⟩ := eI_el h
          exact r_icmp_ne F ht hd (fun z => go _ _ _ _ _ _ (h.1 z)) (fun z => go _ _ _ _ _ _ (h.2 z))
        | lt =>
          obtain ⟨y, st, rfl, h⟩ := eI_el h
          obtain ⟨x, st, rfl, h⟩ := eI_el h
          exact r_icmp_lt F ht hd (fun z => go _ _ _ _ _ _ (h.1 z)) (fun z => go _ _ _ _ _ _ (h.2 z))
        | ge =>
          obtain ⟨y, st, rfl, h⟩ := eI_el h
          obtain ⟨x, st, rfl, h⟩ := eI_el h
          exact r_icmp_ge F ht hd (fun z => go _ _ _ _ _ _ (h.1 z)) (fun z => go _ _ _ _ _ _ (h.2 z))
        | gt =>
          obtain ⟨y, st, rfl, h⟩ := eI_el h
          obtain ⟨x, st, rfl, h⟩ := eI_el h
          exact r_icmp_gt F ht hd (fun z => go _ _ _ _ _ _ (h.1 z)) (fun z => go _ _ _ _ _ _ (h.2 z))
        | le =>
          obtain ⟨y, st, rfl, h⟩ := eI_el h
          obtain ⟨x, st, rfl, h⟩ := eI_el h
          exact r_icmp_le F ht hd (fun z => go _ _ _ _ _ _ (h.1 z)) (fun z => go _ _ _ _ _ _ (h.2 z))
      case ifnonnull off =>
        have e1 : len = 3 := eq_of_beq hok
        subst e1
        obtain ⟨ha, ha0⟩ := hjp rfl _ rfl
        have ht : (pc : Int) + off = (a.toNat : Int) := by omega
        obtain ⟨r, st, rfl, h⟩ := eO_el h
        exact r_ifnonnull F ht hd (fun z => go _ _ _ _ _ _ (h.1 z)) (fun z => go _ _ _ _ _ _ (h.2 z))
      case tableswitch dflt lo hi offs =>
        have h1 : decide (0 ≤ dflt) = true ∧ (offs.toList.all (fun o => decide (0 ≤ o))) = true ∧ offs.size = (hi - lo + 1).toNat := by simpa [mOK, Bool.and_eq_true, and_assoc] using hok
        obtain ⟨x, st, rfl, h⟩ := eI_el h
        refine r_table F ⟨of_decide_eq_true h1.1, fun o ho => of_decide_eq_true (List.all_eq_true.mp h1.2.1 o ho)⟩ hd (fun q1 q2 => ?_) (go _ _ _ _ _ _ h)
        have q3 := Array.getElem?_eq_none_iff.mp q1
        omega
      case lookupswitch dflt ps =>
        have h1 : decide (0 ≤ dflt) = true ∧ ((ps.toList.zip (ps.toList.drop 1)).all (fun (a, next) => a.1 < next.1)) = true ∧ (ps.toList.all (fun q => decide (0 ≤ q.2))) = true := by
          have hq : ((decide (0 ≤ dflt) && (ps.toList.zip (ps.toList.drop 1)).all (fun (a, next) => a.1 < next.1)) && ps.toList.all (fun q => decide (0 ≤ q.2))) = true := hok
          rw [Bool.and_eq_true, Bool.and_eq_true] at hq
          exact ⟨hq.1.1, hq.1.2, hq.2⟩
        obtain ⟨x, st, rfl, h⟩ := eI_el h
        exact r_lookup F h1.2.1 ⟨of_decide_eq_true h1.1, fun q hq => of_decide_eq_true (List.all_eq_true.mp h1.2.2 q hq)⟩ hd (go _ _ _ _ _ _ h)
      case getfield k =>
        have e1 : len = 3 := eq_of_beq hok
        subst e1
        obtain ⟨lp, lt, hck, htg⟩ := hlk _ rfl
        have e2 : lt = 0 := eq_of_beq htg
        subst e2
        obtain ⟨hF, -⟩ := FL_of hm hck
        obtain ⟨r, st, rfl, h⟩ := eR_el h
        obtain ⟨hk, h⟩ := h
        dsimp only at h
        split at h
        · exact r_getI F hF (by decide) hk hd (go _ _ _ _ _ _ h)
        · exact r_getJ F hF rfl hk hd (go _ _ _ _ _ _ h)
        · obtain ⟨q, hq, h⟩ := h
          exact r_getR F hF hk hq hd (go _ _ _ _ _ _ h)
        · rename_i n0 n1 n2
          exact r_getI F hF ⟨n1, n2⟩ hk hd (go _ _ _ _ _ _ h)
      case putfield k =>
        have e1 : len = 3 := eq_of_beq hok
        subst e1
        obtain ⟨lp, lt, hck, htg⟩ := hlk _ rfl
        have e2 : lt = 0 := eq_of_beq htg
        subst e2
        obtain ⟨hF, hF2⟩ := FL_of hm hck
        dsimp only [ex1] at h
        split at h
        · obtain ⟨x, st, rfl, h⟩ := eI_el h
          obtain ⟨r, st, rfl, h⟩ := eR_el h
          exact r_putI F hF h.1 hd (go _ _ _ _ _ _ h.2)
        · obtain ⟨x, st, rfl, h⟩ := eJ_el h
          obtain ⟨r, st, rfl, h⟩ := eR_el h
          exact r_putJ F hF h.1 hd (go _ _ _ _ _ _ h.2)
        · have h0 := eR_el h
          clear h
          obtain ⟨x, st, rfl, h⟩ := h0
          have h0 := eR_el h
          clear h
          obtain ⟨r, st, rfl, h⟩ := h0
          obtain ⟨⟨h1, h2, h3, h4⟩, h⟩ := h
          have hm0 : 0 < mi := by
            rcases Nat.eq_zero_or_pos mi with q | q
            · rw [q] at h1; exact absurd h1 (by decide +kernel)
            · exact q
          exact r_putR F hF ((MK_all hm0 hm).2.2.2.2.2.2.2.2.2.2.2 h1) (hF2 h2) (fun n rs e => by unfold lS at h4; rw [e] at h4; exact h4) h3 hd (go _ _ _ _ _ _ h)
        · rename_i n0 n1 n2
          have hk3 : cc = 3 := by
            obtain ⟨C, T, N, Y, q1, q2, q3, q4, q5, q6, q7, q8, q9, -⟩ := hF
            obtain ⟨Y', -, -, z⟩ := clx_all q1
            rcases (z _ q2).2 with y | y | y | y
            · exact absurd (q9.symm.trans y.1) n0
            · exact absurd (q9.symm.trans y.1) n1
            · exact q9.symm.trans y.1
            · exact absurd (q9.symm.trans y.1) n2
          subst hk3
          obtain ⟨x, st, rfl, h⟩ := eI_el h
          obtain ⟨r, st, rfl, h⟩ := eR_el h
          exact r_putZ F hF h.1 h.2.1 hd (go _ _ _ _ _ _ h.2.2)
      case iaload =>
        have e1 : len = 1 := eq_of_beq hok
        subst e1
        by_cases hq : mi = 0
        · rw [show (mi == 0) = true by rw [hq]; rfl] at h
          obtain ⟨j, st, rfl, h⟩ := eI_el h
          obtain ⟨q, st, rfl, h⟩ := eX_el h
          obtain ⟨rfl, h1, h2, h⟩ := h
          exact r_sld F (hX hq) ⟨h1, h2⟩ hd (go _ _ _ _ _ _ h)
        · rw [show (mi == 0) = false by simpa using hq] at h
          obtain ⟨j, st, rfl, h⟩ := eI_el h
          obtain ⟨q, st, rfl, h⟩ := eR_el h
          obtain ⟨n1, h1, h2, h⟩ := h
          exact r_iald F h1 h2 hd (go _ _ _ _ _ _ h)
      case arraylength =>
        have e1 : len = 1 := eq_of_beq hok
        subst e1
        by_cases hq : mi = 0
        · rw [show (mi == 0) = true by rw [hq]; rfl] at h
          obtain ⟨q, st, rfl, h⟩ := eX_el h
          obtain ⟨q0, h'⟩ := h
          have q0 : q = 0 := q0
          subst q0
          exact r_slen F (hX hq) hd (go _ _ _ _ _ _ h')
        · rw [show (mi == 0) = false by simpa using hq] at h
          obtain ⟨q, st, rfl, h⟩ := eR_el h
          obtain ⟨kd, n1, h1, h2, h⟩ := h
          exact r_alen F h1 h2 hd (go _ _ _ _ _ _ h)
      case baload =>
        have e1 : len = 1 := eq_of_beq hok
        subst e1
        obtain ⟨j, st, rfl, h⟩ := eI_el h
        obtain ⟨q, st, rfl, h⟩ := eR_el h
        obtain ⟨kd, n1, h1, h2, h3, h⟩ := h
        rcases h2 with rfl | rfl
        · exact r_bald F h1 h3 hd (go _ _ _ _ _ _ h)
        · exact r_zald F h1 h3 hd (go _ _ _ _ _ _ h)
      case caload =>
        have e1 : len = 1 := eq_of_beq hok
        subst e1
        obtain ⟨j, st, rfl, h⟩ := eI_el h
        obtain ⟨q, st, rfl, h⟩ := eR_el h
        obtain ⟨n1, h1, h2, h⟩ := h
        exact r_cald F h1 h2 hd (go _ _ _ _ _ _ h)
      case laload =>
        have e1 : len = 1 := eq_of_beq hok
        subst e1
        obtain ⟨j, st, rfl, h⟩ := eI_el h
        obtain ⟨q, st, rfl, h⟩ := eR_el h
        obtain ⟨n1, h1, h2, h⟩ := h
        exact r_lald F h1 h2 hd (go _ _ _ _ _ _ h)
      case aaload =>
        have e1 : len = 1 := eq_of_beq hok
        subst e1
        obtain ⟨j, st, rfl, h⟩ := eI_el h
        obtain ⟨q, st, rfl, h⟩ := eR_el h
        obtain ⟨kd, n1, h1, h2, h3, r, h4, h⟩ := h
        exact r_aald F h1 h2 h3 h4 hd (go _ _ _ _ _ _ h)
      case iastore =>
        have e1 : len = 1 := eq_of_beq hok
        subst e1
        obtain ⟨x, st, rfl, h⟩ := eI_el h
        obtain ⟨j, st, rfl, h⟩ := eI_el h
        obtain ⟨q, st, rfl, h⟩ := eR_el h
        obtain ⟨n1, h1, h2, h⟩ := h
        exact r_iast F h1 h2 hd (go _ _ _ _ _ _ h)
      case lastore =>
        have e1 : len = 1 := eq_of_beq hok
        subst e1
        obtain ⟨x, st, rfl, h⟩ := eJ_el h
        obtain ⟨j, st, rfl, h⟩ := eI_el h
        obtain ⟨q, st, rfl, h⟩ := eR_el h
        obtain ⟨n1, h1, h2, h⟩ := h
        exact r_last F h1 h2 hd (go _ _ _ _ _ _ h)
      case bastore =>
        have e1 : len = 1 := eq_of_beq hok
        subst e1
        obtain ⟨x, st, rfl, h⟩ := eI_el h
        obtain ⟨j, st, rfl, h⟩ := eI_el h
        obtain ⟨q, st, rfl, h⟩ := eR_el h
        obtain ⟨kd, n1, h1, h2, h3, h⟩ := h
        rcases h2 with ⟨rfl, h2⟩ | ⟨rfl, h2⟩
        · exact r_bast F h1 h2 h3 hd (go _ _ _ _ _ _ h)
        · exact r_zast F h1 h2 h3 hd (go _ _ _ _ _ _ h)
      case castore =>
        have e1 : len = 1 := eq_of_beq hok
        subst e1
        obtain ⟨x, st, rfl, h⟩ := eI_el h
        obtain ⟨j, st, rfl, h⟩ := eI_el h
        obtain ⟨q, st, rfl, h⟩ := eR_el h
        obtain ⟨n1, h1, h2, h3, h⟩ := h
        exact r_cast F h1 h2 h3 hd (go _ _ _ _ _ _ h)
      case aastore =>
        have e1 : len = 1 := eq_of_beq hok
        subst e1
        obtain ⟨r, st, rfl, h⟩ := eR_el h
        obtain ⟨j, st, rfl, h⟩ := eI_el h
        obtain ⟨q, st, rfl, h⟩ := eR_el h
        obtain ⟨kd, n1, h1, h2, h3, h⟩ := h
        exact r_aast F h1 h2 h3 hd (go _ _ _ _ _ _ h)
      case ldc k =>
        have e1 : len = 2 := eq_of_beq hok
        subst e1
        obtain ⟨lp, lt, hck, htg⟩ := hlk _ rfl
        have e2 : lt = 3 ∨ lt = 5 := by
          have : ((lt == 3) || (lt == 5)) = true := htg
          simpa [Bool.or_eq_true] using this
        rcases e2 with rfl | rfl
        · simp only [ckL, Bool.and_eq_true, beq_iff_eq] at hck
          obtain ⟨⟨h1, h2⟩, rfl⟩ := hck
          rw [← hown] at h1
          exact r_ldc F (show nr32 a from of_decide_eq_true (p := -2147483648 ≤ a ∧ a < 2147483648) h2) (wAt_in h1 rfl) hd (go _ _ _ _ _ _ h)
        · simp only [ckL, Bool.and_eq_true, beq_iff_eq] at hck
          obtain ⟨⟨h1, rfl⟩, rfl⟩ := hck
          have hcl : (mY mi).cls = "ClashDay$Tape" := by rw [hown, h1]; rfl
          have hm0 : mi ≠ 0 := fun q => by rw [q] at h1; exact absurd h1 (by decide +kernel)
          exact (hST p e R U m args below meth c Q mi B n0 bud pc ls st S s hm hcl F hE hU hB).1 hd (go _ _ _ _ _ _ h)
      case ldc_w k =>
        have e1 : len = 3 := eq_of_beq hok
        subst e1
        obtain ⟨lp, lt, hck, htg⟩ := hlk _ rfl
        have e2 : lt = 3 := eq_of_beq htg
        subst e2
        simp only [ckL, Bool.and_eq_true, beq_iff_eq] at hck
        obtain ⟨⟨h1, h2⟩, rfl⟩ := hck
        rw [← hown] at h1
        exact r_ldcw F (show nr32 a from of_decide_eq_true (p := -2147483648 ≤ a ∧ a < 2147483648) h2) (wAt_in h1 rfl) hd (go _ _ _ _ _ _ h)
      case ldc2_w k =>
        have e1 : len = 3 := eq_of_beq hok
        subst e1
        obtain ⟨lp, lt, hck, htg⟩ := hlk _ rfl
        have e2 : lt = 4 := eq_of_beq htg
        subst e2
        simp only [ckL, Bool.and_eq_true] at hck
        obtain ⟨h1, h2⟩ := hck
        rw [← hown] at h1
        exact r_ldc2 F (show nr64 a from of_decide_eq_true (p := -9223372036854775808 ≤ a ∧ a < 9223372036854775808) h2) (wAt_in h1 rfl) hd (go _ _ _ _ _ _ h)
      case new k =>
        have e1 : len = 3 := eq_of_beq hok
        subst e1
        obtain ⟨lp, lt, hck, htg⟩ := hlk _ rfl
        have e2 : lt = 2 := eq_of_beq htg
        subst e2
        cases bud with
        | zero => exact False.elim h
        | succ bud =>
          cases a with
          | negSucc q => simp [ckL] at hck
          | ofNat ci =>
            obtain ⟨⟨-, h20⟩, h⟩ := h
            have h20 : (ci : Int) < 20 := h20
            obtain ⟨C, T, N, hcl, hw, hN⟩ := cl_of hck (by omega)
            subst hN
            obtain ⟨Y, hY, -⟩ := clx_all hcl
            rw [← hown] at hw
            exact r_new F hU hB hY hw hd (go _ _ _ _ _ _ h)
      case newarray t =>
        have e1 : len = 2 := eq_of_beq hok
        subst e1
        cases bud with
        | zero => exact False.elim h
        | succ bud =>
          obtain ⟨x, st, rfl, h⟩ := eI_el h
          cases t with
          | boolean => exact r_newa_boolean F hU hB (wAt_in (p := 6197) (by decide +kernel) rfl) ⟨h.1.1, h.1.2.1⟩ hd (go _ _ _ _ _ _ h.2)
          | char => exact r_newa_char F hU hB (wAt_in (p := 1063) (by decide +kernel) rfl) ⟨h.1.1, h.1.2.1⟩ hd (go _ _ _ _ _ _ h.2)
          | byte => exact r_newa_byte F hU hB (wAt_in (p := 3117) (by decide +kernel) rfl) ⟨h.1.1, h.1.2.1⟩ hd (go _ _ _ _ _ _ h.2)
          | int => exact r_newa_int F hU hB (wAt_in (p := 1077) (by decide +kernel) rfl) ⟨h.1.1, h.1.2.1⟩ hd (go _ _ _ _ _ _ h.2)
          | long => exact r_newa_long F hU hB (wAt_in (p := 2072) (by decide +kernel) rfl) ⟨h.1.1, h.1.2.1⟩ hd (go _ _ _ _ _ _ h.2)
          | float => exact absurd rfl h.1.2.2
          | double => exact absurd rfl h.1.2.2
          | short => exact absurd rfl h.1.2.2
      case anewarray k =>
        have e1 : len = 3 := eq_of_beq hok
        subst e1
        obtain ⟨lp, lt, hck, htg⟩ := hlk _ rfl
        have e2 : lt = 2 := eq_of_beq htg
        subst e2
        cases bud with
        | zero => exact False.elim h
        | succ bud =>
          obtain ⟨x, st, rfl, h⟩ := eI_el h
          obtain ⟨⟨h1, h2, h3⟩, h⟩ := h
          rcases h3 with h3 | h3 | h3
          · have h3 : a = Int.ofNat 0 := h3
            subst h3
            obtain ⟨C, T, N, hcl, hw, hN⟩ := cl_of hck (by decide)
            cases hcl
            rw [← hown] at hw
            exact r_anew F hU hB hw (hE.1 _ (Or.inl rfl)) (kd := 25) (by decide) rfl ⟨h1, h2⟩ hd (go _ _ _ _ _ _ h)
          · have h3 : a = Int.ofNat 5 := h3
            subst h3
            obtain ⟨C, T, N, hcl, hw, hN⟩ := cl_of hck (by decide)
            cases hcl
            rw [← hown] at hw
            exact r_anew F hU hB hw (hE.1 _ (Or.inr (Or.inl rfl))) (kd := 26) (by decide) rfl ⟨h1, h2⟩ hd (go _ _ _ _ _ _ h)
          · have h3 : a = Int.ofNat 7 := h3
            subst h3
            obtain ⟨C, T, N, hcl, hw, hN⟩ := cl_of hck (by decide)
            cases hcl
            rw [← hown] at hw
            exact r_anew F hU hB hw (hE.1 _ (Or.inr (Or.inr rfl))) (kd := 27) (by decide) rfl ⟨h1, h2⟩ hd (go _ _ _ _ _ _ h)
      case multianewarray k dims =>
        have h1 : (dims == 2) = true ∧ (len == 4) = true := by simpa [mOK, Bool.and_eq_true] using hok
        have e1 : len = 4 := eq_of_beq h1.2
        have e3 : dims = 2 := eq_of_beq h1.1
        subst e1
        subst e3
        obtain ⟨lp, lt, hck, htg⟩ := hlk _ rfl
        have e2 : lt = 2 := eq_of_beq htg
        subst e2
        obtain ⟨x, st, rfl, h⟩ := eI_el h
        obtain ⟨y, st, rfl, h⟩ := eI_el h
        obtain ⟨⟨h1, h2, h3, h4, h5, h6⟩, h⟩ := h
        have h6 : a = Int.ofNat 28 := h6
        subst h6
        simp only [ckL] at hck
        rw [← hown] at hck
        exact r_mna F hU hB (wAt_in hck rfl) hE.2.1 (wAt_in (p := 1077) (by decide +kernel) rfl) ⟨h1, h2, h3, h4, h5⟩ hd (go _ _ _ _ _ _ h)
      case invokestatic k =>
        have e1 : len = 3 := eq_of_beq hok
        subst e1
        obtain ⟨lp, lt, hck, htg⟩ := hlk _ rfl
        have e2 : lt = 1 := eq_of_beq htg
        subst e2
        cases a with
        | ofNat mj =>
          simp only [ckL, Bool.and_eq_true, beq_iff_eq] at hck
          obtain ⟨⟨⟨⟨c1, c2⟩, c3⟩, rfl⟩, rfl⟩ := hck
          have c1 := of_decide_eq_true c1
          rw [← hown] at c2
          obtain ⟨as, st, rfl, hlen, h⟩ := popA_el h
          rw [List.append_nil] at h
          obtain ⟨⟨hw, hbud⟩, hcall⟩ := h
          cases d with
          | zero => exact False.elim hcall
          | succ d =>
            obtain ⟨hle, hcall⟩ := hcall
            obtain ⟨m1, m2⟩ := MS_all c1.1 c1.2 c3
            refine r_static F hSK hE hbU hU rfl hR hB (MK_all c1.1 c1.2) m1 (wAt_in c2 rfl) m2 hlen hw hbud (fun _ _ => met_of ih c1.1 c1.2 hle hcall) hd (fun r S' s' hk => ?_)
            cases r with
            | none => exact go _ _ _ _ _ _ hk
            | some v => exact go _ _ _ _ _ _ hk
        | negSucc q =>
          match q, hck, h with
          | 1, hck, h =>
            simp only [ckL] at hck
            rw [← hown] at hck
            obtain ⟨n1, st, rfl, h⟩ := eI_el h
            obtain ⟨dp, st, rfl, h⟩ := eI_el h
            obtain ⟨q1, st, rfl, h⟩ := eR_el h
            obtain ⟨sp1, st, rfl, h⟩ := eI_el h
            obtain ⟨q2, st, rfl, h⟩ := eR_el h
            obtain ⟨⟨h1, h2⟩, ⟨l0, h3⟩, ⟨l1, h4⟩, h⟩ := h
            exact r_copy F (wAt_in hck rfl) (wAt_in (p := 3116) (by decide +kernel) rfl) (wAt_in (p := 3115) (by decide +kernel) rfl) (wAt_in (p := 1018) (by decide +kernel) rfl) rfl (by omega) (by omega) h2 h3 h4 hd (go _ _ _ _ _ _ h)
          | 4, hck, h =>
            simp only [ckL] at hck
            rw [← hown] at hck
            obtain ⟨y, st, rfl, h⟩ := eI_el h
            obtain ⟨x, st, rfl, h⟩ := eI_el h
            obtain ⟨⟨h1, h2⟩, h⟩ := h
            exact r_mmax F (wAt_in hck rfl) (wAt_in (p := 4002) (by decide +kernel) rfl) (wAt_in (p := 1019) (by decide +kernel) rfl) (wAt_in (p := 4003) (by decide +kernel) rfl) rfl (by omega) (by omega) hB h2 hd (go _ _ _ _ _ _ h)
          | 5, hck, h =>
            simp only [ckL] at hck
            rw [← hown] at hck
            obtain ⟨y, st, rfl, h⟩ := eI_el h
            obtain ⟨x, st, rfl, h⟩ := eI_el h
            obtain ⟨⟨h1, h2⟩, h⟩ := h
            exact r_mmin F (wAt_in hck rfl) (wAt_in (p := 4057) (by decide +kernel) rfl) (wAt_in (p := 1019) (by decide +kernel) rfl) (wAt_in (p := 4058) (by decide +kernel) rfl) rfl (by omega) (by omega) hB h2 hd (go _ _ _ _ _ _ h)
          | 0, hck, _ => simp [ckL] at hck
          | 2, hck, _ => simp [ckL] at hck
          | 3, hck, _ => simp [ckL] at hck
          | q + 6, hck, _ => simp [ckL] at hck
      case invokevirtual k =>
        have e1 : len = 3 := eq_of_beq hok
        subst e1
        obtain ⟨lp, lt, hck, htg⟩ := hlk _ rfl
        have e2 : lt = 6 := eq_of_beq htg
        subst e2
        cases a with
        | ofNat mj =>
          simp only [ckL, Bool.and_eq_true, beq_iff_eq, bne_iff_ne] at hck
          obtain ⟨⟨⟨⟨⟨⟨c1, c2⟩, c3⟩, c4⟩, rfl⟩, rfl⟩, c5⟩ := hck
          have c1 := of_decide_eq_true c1
          rw [← hown] at c2
          obtain ⟨as, st, rfl, hlen, h⟩ := popA_el h
          rw [List.append_nil] at h
          obtain ⟨⟨hrc, hw⟩, hbud, hcall⟩ := h
          obtain ⟨ko, tl, rfl, hko⟩ := recv_el hrc
          cases d with
          | zero => exact False.elim hcall
          | succ d =>
            obtain ⟨hle, hcall⟩ := hcall
            obtain ⟨m1, m2, m3⟩ := MI_all c1.1 c1.2 c3
            obtain ⟨m4, m5⟩ := par_1 m3
            obtain ⟨cT, cN, hcl, h20⟩ := clIs_of c5
            have hl2 : tl.length = mNa mj - 1 := by
              have q : tl.length + 1 = mNa mj := hlen
              omega
            refine r_virtual F hSK hE hbU hU rfl hR hB (MK_all c1.1 c1.2) m1 (m2 c4) (wAt_in c2 rfl) ⟨cT, cN, hcl⟩ h20 hko m5 hl2 hw hbud (fun _ _ => met_of ih c1.1 c1.2 hle hcall) hd (fun r S' s' hk => ?_)
            cases r with
            | none => exact go _ _ _ _ _ _ hk
            | some v => exact go _ _ _ _ _ _ hk
        | negSucc q =>
          match q, hck, h with
          | 2, hck, h =>
            simp only [ckL, Bool.and_eq_true, beq_iff_eq] at hck
            have hcl : (mY mi).cls = "ClashDay$Tape" := by rw [hown, hck.1]; rfl
            obtain ⟨q1, st, rfl, h⟩ := eX_el h
            obtain ⟨rfl, ⟨h1, h2⟩, h⟩ := h
            have hw := wAt_in hck.2 rfl
            rw [← hown, hcl] at hw
            exact (hST p e R U m args below meth c Q mi B n0 bud pc ls st S s hm hcl F hE hU hB).2.1 k ⟨by omega, by omega⟩ h2 hw hd (go _ _ _ _ _ _ h)
          | 3, hck, h =>
            simp only [ckL, Bool.and_eq_true, beq_iff_eq] at hck
            have hcl : (mY mi).cls = "ClashDay$Tape" := by rw [hown, hck.1]; rfl
            obtain ⟨j, st, rfl, h⟩ := eI_el h
            obtain ⟨q1, st, rfl, h⟩ := eX_el h
            obtain ⟨rfl, ⟨h1, h2⟩, h3, h⟩ := h
            have hw := wAt_in hck.2 rfl
            rw [← hown, hcl] at hw
            exact (hST p e R U m args below meth c Q mi B n0 bud pc ls st S s hm hcl F hE hU hB).2.2 k j ⟨by omega, by omega⟩ h2 h3 hw hd (go _ _ _ _ _ _ h)
          | 0, hck, _ => simp [ckL] at hck
          | 1, hck, _ => simp [ckL] at hck
          | q + 4, hck, _ => simp [ckL] at hck
      case invokespecial k =>
        have e1 : len = 3 := eq_of_beq hok
        subst e1
        obtain ⟨lp, lt, hck, htg⟩ := hlk _ rfl
        have e2 : lt = 7 := eq_of_beq htg
        subst e2
        cases a with
        | ofNat mj =>
          simp only [ckL, Bool.and_eq_true, Bool.or_eq_true, beq_iff_eq] at hck
          obtain ⟨⟨⟨⟨⟨⟨c1, c2⟩, c3⟩, c4⟩, rfl⟩, rfl⟩, c5⟩ := hck
          have c1 := of_decide_eq_true c1
          rw [← hown] at c2
          obtain ⟨as, st, rfl, hlen, h⟩ := popA_el h
          rw [List.append_nil] at h
          obtain ⟨⟨hrc, hw⟩, hbud, hcall⟩ := h
          obtain ⟨ko, tl, rfl, hko⟩ := recv_el hrc
          cases d with
          | zero => exact False.elim hcall
          | succ d =>
            obtain ⟨hle, hcall⟩ := hcall
            obtain ⟨m1, m2, m3⟩ := MI_all c1.1 c1.2 c3
            obtain ⟨m4, m5⟩ := par_1 m3
            obtain ⟨cT, cN, hcl, h20⟩ := clIs_of c5
            have hl2 : tl.length = mNa mj - 1 := by
              have q : tl.length + 1 = mNa mj := hlen
              omega
            have hmk := MK_all c1.1 c1.2
            have hre := hmk.2.2.2.2.2.1 (Or.inr c4)
            have hin := hmk.2.2.2.2.2.2.2.2.2.2.2 c4
            rcases c2 with c2 | c2
            · refine r_special F hSK hE hbU hU rfl hR hB hmk m1 hre hin (wAt_in c2 rfl) ⟨cT, cN, hcl⟩ h20 hko m5 hl2 hw hbud (fun _ _ => met_of ih c1.1 c1.2 hle hcall) hd (fun r S' s' hk => ?_)
              cases r with
              | none => exact go _ _ _ _ _ _ hk
              | some v => exact go _ _ _ _ _ _ hk
            · refine r_nest F hSK hE hbU hU rfl hR hB hmk m1 hre hin (List.mem_filter.mpr ⟨wAt_tbl c2, rfl⟩) ⟨cT, cN, hcl⟩ h20 hko m5 hl2 hw hbud (fun _ _ => met_of ih c1.1 c1.2 hle hcall) hd (fun r S' s' hk => ?_)
              cases r with
              | none => exact go _ _ _ _ _ _ hk
              | some v => exact go _ _ _ _ _ _ hk
        | negSucc q =>
          match q, hck, h with
          | 0, hck, h =>
            simp only [ckL] at hck
            rw [← hown] at hck
            obtain ⟨q1, st, rfl, h⟩ := eR_el h
            obtain ⟨⟨h1, h2⟩, h⟩ := h
            exact r_oinit F (wAt_in hck rfl) (wAt_in (p := 1027) (by decide +kernel) rfl) (wAt_in (p := 1028) (by decide +kernel) rfl) rfl (by omega) (by omega) h2 hd (go _ _ _ _ _ _ h)
          | q + 1, hck, _ => simp [ckL] at hck
      case return_ =>
        have e1 : len = 1 := eq_of_beq hok
        subst e1
        dsimp only [ex1] at h
        split at h
        · obtain ⟨⟨rfl, hr⟩, h⟩ := h
          exact hret _ _ _ _ _ _ h (Or.inl ⟨rfl, rfl, hr⟩) hd
        · exact False.elim h
      case ireturn =>
        have e1 : len = 1 := eq_of_beq hok
        subst e1
        dsimp only [ex1] at h
        split at h
        · obtain ⟨⟨rfl, hr⟩, h⟩ := h
          exact hret _ _ _ _ _ _ h (Or.inr (Or.inl ⟨rfl, _, rfl, hr⟩)) hd
        · exact False.elim h
      case lreturn =>
        have e1 : len = 1 := eq_of_beq hok
        subst e1
        dsimp only [ex1] at h
        split at h
        · obtain ⟨⟨rfl, hr⟩, h⟩ := h
          exact hret _ _ _ _ _ _ h (Or.inr (Or.inr (Or.inl ⟨rfl, _, rfl, hr⟩))) hd
        · exact False.elim h
      case areturn =>
        have e1 : len = 1 := eq_of_beq hok
        subst e1
        dsimp only [ex1] at h
        split at h
        · obtain ⟨⟨rfl, hr⟩, h⟩ := h
          exact hret _ _ _ _ _ _ h (Or.inr (Or.inr (Or.inr ⟨rfl, _, rfl, hr⟩))) hd
        · exact False.elim h
      all_goals exact False.elim h
end
