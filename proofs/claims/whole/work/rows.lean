section
-- ===== PART A: goes FIRST, ahead of the names: the tables' words, and 'selects' of the private methods out of them =====
/-- a private method of a class that the tables say can be made, by its rows of tables_1 -/
def lw_okq (q : MethodName × Nat) : Prop := (q.1.cls ≠ "java/lang/invoke/MethodHandle" ∧ q.1.cls ≠ "java/lang/invoke/VarHandle") ∧ Cond.instantiable q.1.cls q.2 ∈ tables_1 ∧ Cond.privateMethod q.1 ∈ tables_1 ∧ Cond.instanceMethod q.1 ∈ tables_1
theorem lw_p0 : lw_okq (⟨"ElectionTabulator", "counted", "()LElectionTabulator$Counting;"⟩, 14) := ⟨⟨by decide +kernel, by decide +kernel⟩, List.mem_of_getElem? (i := 25) (by decide +kernel), List.mem_of_getElem? (i := 376) (by decide +kernel), List.mem_of_getElem? (i := 377) (by decide +kernel)⟩
theorem lw_p1 : lw_okq (⟨"ElectionTabulator$Counting", "startCandidates", "()V"⟩, 16) := ⟨⟨by decide +kernel, by decide +kernel⟩, List.mem_of_getElem? (i := 91) (by decide +kernel), List.mem_of_getElem? (i := 384) (by decide +kernel), List.mem_of_getElem? (i := 385) (by decide +kernel)⟩
theorem lw_p2 : lw_okq (⟨"ElectionTabulator$Counting", "startPiles", "()V"⟩, 16) := ⟨⟨by decide +kernel, by decide +kernel⟩, List.mem_of_getElem? (i := 91) (by decide +kernel), List.mem_of_getElem? (i := 391) (by decide +kernel), List.mem_of_getElem? (i := 392) (by decide +kernel)⟩
theorem lw_p3 : lw_okq (⟨"ElectionTabulator$Counting", "sendOn", "(II)I"⟩, 16) := ⟨⟨by decide +kernel, by decide +kernel⟩, List.mem_of_getElem? (i := 91) (by decide +kernel), List.mem_of_getElem? (i := 399) (by decide +kernel), List.mem_of_getElem? (i := 400) (by decide +kernel)⟩
theorem lw_p4 : lw_okq (⟨"ElectionTabulator$Counting", "findQuota", "()I"⟩, 16) := ⟨⟨by decide +kernel, by decide +kernel⟩, List.mem_of_getElem? (i := 91) (by decide +kernel), List.mem_of_getElem? (i := 403) (by decide +kernel), List.mem_of_getElem? (i := 404) (by decide +kernel)⟩
theorem lw_p5 : lw_okq (⟨"ElectionTabulator$Counting", "logRound", "(I)V"⟩, 16) := ⟨⟨by decide +kernel, by decide +kernel⟩, List.mem_of_getElem? (i := 91) (by decide +kernel), List.mem_of_getElem? (i := 410) (by decide +kernel), List.mem_of_getElem? (i := 411) (by decide +kernel)⟩
theorem lw_p6 : lw_okq (⟨"ElectionTabulator$Counting", "playRound", "(I)Z"⟩, 16) := ⟨⟨by decide +kernel, by decide +kernel⟩, List.mem_of_getElem? (i := 91) (by decide +kernel), List.mem_of_getElem? (i := 417) (by decide +kernel), List.mem_of_getElem? (i := 418) (by decide +kernel)⟩
theorem lw_p7 : lw_okq (⟨"ElectionTabulator$Counting", "electWithQuota", "(II)V"⟩, 16) := ⟨⟨by decide +kernel, by decide +kernel⟩, List.mem_of_getElem? (i := 91) (by decide +kernel), List.mem_of_getElem? (i := 421) (by decide +kernel), List.mem_of_getElem? (i := 422) (by decide +kernel)⟩
theorem lw_p8 : lw_okq (⟨"ElectionTabulator$Chooser", "keepExtreme", "(IIZ)I"⟩, 4) := ⟨⟨by decide +kernel, by decide +kernel⟩, List.mem_of_getElem? (i := 131) (by decide +kernel), List.mem_of_getElem? (i := 429) (by decide +kernel), List.mem_of_getElem? (i := 430) (by decide +kernel)⟩
theorem lw_p9 : lw_okq (⟨"ElectionTabulator$Chooser", "firstByLot", "(IZ)I"⟩, 4) := ⟨⟨by decide +kernel, by decide +kernel⟩, List.mem_of_getElem? (i := 131) (by decide +kernel), List.mem_of_getElem? (i := 439) (by decide +kernel), List.mem_of_getElem? (i := 440) (by decide +kernel)⟩
theorem lw_p10 : lw_okq (⟨"ElectionTabulator$Counting", "elect", "(III)V"⟩, 16) := ⟨⟨by decide +kernel, by decide +kernel⟩, List.mem_of_getElem? (i := 91) (by decide +kernel), List.mem_of_getElem? (i := 443) (by decide +kernel), List.mem_of_getElem? (i := 444) (by decide +kernel)⟩
theorem lw_p11 : lw_okq (⟨"ElectionTabulator$Counting", "electAllHopeful", "(I)V"⟩, 16) := ⟨⟨by decide +kernel, by decide +kernel⟩, List.mem_of_getElem? (i := 91) (by decide +kernel), List.mem_of_getElem? (i := 448) (by decide +kernel), List.mem_of_getElem? (i := 449) (by decide +kernel)⟩
theorem lw_p12 : lw_okq (⟨"ElectionTabulator$Counting", "withMoreThanQuota", "()I"⟩, 16) := ⟨⟨by decide +kernel, by decide +kernel⟩, List.mem_of_getElem? (i := 91) (by decide +kernel), List.mem_of_getElem? (i := 452) (by decide +kernel), List.mem_of_getElem? (i := 453) (by decide +kernel)⟩
theorem lw_p13 : lw_okq (⟨"ElectionTabulator$Counting", "transferSurplus", "(II)V"⟩, 16) := ⟨⟨by decide +kernel, by decide +kernel⟩, List.mem_of_getElem? (i := 91) (by decide +kernel), List.mem_of_getElem? (i := 456) (by decide +kernel), List.mem_of_getElem? (i := 457) (by decide +kernel)⟩
theorem lw_p14 : lw_okq (⟨"ElectionTabulator$Counting", "lastParcel", "(I)I"⟩, 16) := ⟨⟨by decide +kernel, by decide +kernel⟩, List.mem_of_getElem? (i := 91) (by decide +kernel), List.mem_of_getElem? (i := 460) (by decide +kernel), List.mem_of_getElem? (i := 461) (by decide +kernel)⟩
theorem lw_p15 : lw_okq (⟨"ElectionTabulator$Counting", "worthOfParcel", "(II)I"⟩, 16) := ⟨⟨by decide +kernel, by decide +kernel⟩, List.mem_of_getElem? (i := 91) (by decide +kernel), List.mem_of_getElem? (i := 464) (by decide +kernel), List.mem_of_getElem? (i := 465) (by decide +kernel)⟩
def lw_privs_1 : List (MethodName × Nat) := [(⟨"ElectionTabulator", "counted", "()LElectionTabulator$Counting;"⟩, 14), (⟨"ElectionTabulator$Counting", "startCandidates", "()V"⟩, 16), (⟨"ElectionTabulator$Counting", "startPiles", "()V"⟩, 16), (⟨"ElectionTabulator$Counting", "sendOn", "(II)I"⟩, 16), (⟨"ElectionTabulator$Counting", "findQuota", "()I"⟩, 16), (⟨"ElectionTabulator$Counting", "logRound", "(I)V"⟩, 16), (⟨"ElectionTabulator$Counting", "playRound", "(I)Z"⟩, 16), (⟨"ElectionTabulator$Counting", "electWithQuota", "(II)V"⟩, 16), (⟨"ElectionTabulator$Chooser", "keepExtreme", "(IIZ)I"⟩, 4), (⟨"ElectionTabulator$Chooser", "firstByLot", "(IZ)I"⟩, 4), (⟨"ElectionTabulator$Counting", "elect", "(III)V"⟩, 16), (⟨"ElectionTabulator$Counting", "electAllHopeful", "(I)V"⟩, 16), (⟨"ElectionTabulator$Counting", "withMoreThanQuota", "()I"⟩, 16), (⟨"ElectionTabulator$Counting", "transferSurplus", "(II)V"⟩, 16), (⟨"ElectionTabulator$Counting", "lastParcel", "(I)I"⟩, 16), (⟨"ElectionTabulator$Counting", "worthOfParcel", "(II)I"⟩, 16)]
theorem lw_r1 : ∀ q ∈ lw_privs_1, lw_okq q := List.forall_mem_cons.mpr ⟨lw_p0, List.forall_mem_cons.mpr ⟨lw_p1, List.forall_mem_cons.mpr ⟨lw_p2, List.forall_mem_cons.mpr ⟨lw_p3, List.forall_mem_cons.mpr ⟨lw_p4, List.forall_mem_cons.mpr ⟨lw_p5, List.forall_mem_cons.mpr ⟨lw_p6, List.forall_mem_cons.mpr ⟨lw_p7, List.forall_mem_cons.mpr ⟨lw_p8, List.forall_mem_cons.mpr ⟨lw_p9, List.forall_mem_cons.mpr ⟨lw_p10, List.forall_mem_cons.mpr ⟨lw_p11, List.forall_mem_cons.mpr ⟨lw_p12, List.forall_mem_cons.mpr ⟨lw_p13, List.forall_mem_cons.mpr ⟨lw_p14, List.forall_mem_cons.mpr ⟨lw_p15, fun _ h => absurd h List.not_mem_nil⟩⟩⟩⟩⟩⟩⟩⟩⟩⟩⟩⟩⟩⟩⟩⟩
theorem lw_p16 : lw_okq (⟨"ElectionTabulator$Counting", "isInParcel", "(III)Z"⟩, 16) := ⟨⟨by decide +kernel, by decide +kernel⟩, List.mem_of_getElem? (i := 91) (by decide +kernel), List.mem_of_getElem? (i := 468) (by decide +kernel), List.mem_of_getElem? (i := 469) (by decide +kernel)⟩
theorem lw_p17 : lw_okq (⟨"ElectionTabulator$Counting", "logEvent", "(IIII)V"⟩, 16) := ⟨⟨by decide +kernel, by decide +kernel⟩, List.mem_of_getElem? (i := 91) (by decide +kernel), List.mem_of_getElem? (i := 478) (by decide +kernel), List.mem_of_getElem? (i := 479) (by decide +kernel)⟩
theorem lw_p18 : lw_okq (⟨"ElectionTabulator$Counting", "excludeWeakest", "(I)V"⟩, 16) := ⟨⟨by decide +kernel, by decide +kernel⟩, List.mem_of_getElem? (i := 91) (by decide +kernel), List.mem_of_getElem? (i := 482) (by decide +kernel), List.mem_of_getElem? (i := 483) (by decide +kernel)⟩
theorem lw_p19 : lw_okq (⟨"ElectionTabulator", "beatsEachOther", "(I)Z"⟩, 14) := ⟨⟨by decide +kernel, by decide +kernel⟩, List.mem_of_getElem? (i := 25) (by decide +kernel), List.mem_of_getElem? (i := 491) (by decide +kernel), List.mem_of_getElem? (i := 492) (by decide +kernel)⟩
theorem lw_p20 : lw_okq (⟨"ElectionTabulator$Election", "prefers", "(III)Z"⟩, 8) := ⟨⟨by decide +kernel, by decide +kernel⟩, List.mem_of_getElem? (i := 33) (by decide +kernel), List.mem_of_getElem? (i := 499) (by decide +kernel), List.mem_of_getElem? (i := 500) (by decide +kernel)⟩
theorem lw_p21 : lw_okq (⟨"java/lang/Throwable", "fillInStackTrace", "(I)Ljava/lang/Throwable;"⟩, 6) := ⟨⟨by decide +kernel, by decide +kernel⟩, List.mem_of_getElem? (i := 570) (by decide +kernel), List.mem_of_getElem? (i := 568) (by decide +kernel), List.mem_of_getElem? (i := 569) (by decide +kernel)⟩
theorem lw_p22 : lw_okq (⟨"ElectionTabulator$TextReader", "readCommand", "(LElectionTabulator$Election;)Z"⟩, 6) := ⟨⟨by decide +kernel, by decide +kernel⟩, List.mem_of_getElem? (i := 279) (by decide +kernel), List.mem_of_getElem? (i := 646) (by decide +kernel), List.mem_of_getElem? (i := 647) (by decide +kernel)⟩
theorem lw_p23 : lw_okq (⟨"ElectionTabulator$TextReader", "next", "()I"⟩, 6) := ⟨⟨by decide +kernel, by decide +kernel⟩, List.mem_of_getElem? (i := 279) (by decide +kernel), List.mem_of_getElem? (i := 650) (by decide +kernel), List.mem_of_getElem? (i := 651) (by decide +kernel)⟩
theorem lw_p24 : lw_okq (⟨"ElectionTabulator$TextReader", "readSize", "(LElectionTabulator$Election;)Z"⟩, 6) := ⟨⟨by decide +kernel, by decide +kernel⟩, List.mem_of_getElem? (i := 279) (by decide +kernel), List.mem_of_getElem? (i := 654) (by decide +kernel), List.mem_of_getElem? (i := 655) (by decide +kernel)⟩
theorem lw_p25 : lw_okq (⟨"ElectionTabulator$TextReader", "readPileNumber", "(LElectionTabulator$Election;)I"⟩, 6) := ⟨⟨by decide +kernel, by decide +kernel⟩, List.mem_of_getElem? (i := 279) (by decide +kernel), List.mem_of_getElem? (i := 658) (by decide +kernel), List.mem_of_getElem? (i := 659) (by decide +kernel)⟩
theorem lw_p26 : lw_okq (⟨"ElectionTabulator$TextReader", "readNumber", "()I"⟩, 6) := ⟨⟨by decide +kernel, by decide +kernel⟩, List.mem_of_getElem? (i := 279) (by decide +kernel), List.mem_of_getElem? (i := 662) (by decide +kernel), List.mem_of_getElem? (i := 663) (by decide +kernel)⟩
theorem lw_p27 : lw_okq (⟨"ElectionTabulator$TextReader", "failAt", "(I)Z"⟩, 6) := ⟨⟨by decide +kernel, by decide +kernel⟩, List.mem_of_getElem? (i := 279) (by decide +kernel), List.mem_of_getElem? (i := 666) (by decide +kernel), List.mem_of_getElem? (i := 667) (by decide +kernel)⟩
theorem lw_p28 : lw_okq (⟨"ElectionTabulator$TextReader", "pass", "(I)Z"⟩, 6) := ⟨⟨by decide +kernel, by decide +kernel⟩, List.mem_of_getElem? (i := 279) (by decide +kernel), List.mem_of_getElem? (i := 670) (by decide +kernel), List.mem_of_getElem? (i := 671) (by decide +kernel)⟩
theorem lw_p29 : lw_okq (⟨"ElectionTabulator$TextReader", "readReplacement", "(LElectionTabulator$Election;)Z"⟩, 6) := ⟨⟨by decide +kernel, by decide +kernel⟩, List.mem_of_getElem? (i := 279) (by decide +kernel), List.mem_of_getElem? (i := 678) (by decide +kernel), List.mem_of_getElem? (i := 679) (by decide +kernel)⟩
theorem lw_p30 : lw_okq (⟨"ElectionTabulator$TextReader", "readRanking", "(II)Z"⟩, 6) := ⟨⟨by decide +kernel, by decide +kernel⟩, List.mem_of_getElem? (i := 279) (by decide +kernel), List.mem_of_getElem? (i := 682) (by decide +kernel), List.mem_of_getElem? (i := 683) (by decide +kernel)⟩
theorem lw_p31 : lw_okq (⟨"ElectionTabulator$TextReader", "readLot", "(LElectionTabulator$Election;)Z"⟩, 6) := ⟨⟨by decide +kernel, by decide +kernel⟩, List.mem_of_getElem? (i := 279) (by decide +kernel), List.mem_of_getElem? (i := 691) (by decide +kernel), List.mem_of_getElem? (i := 692) (by decide +kernel)⟩
def lw_privs_2 : List (MethodName × Nat) := [(⟨"ElectionTabulator$Counting", "isInParcel", "(III)Z"⟩, 16), (⟨"ElectionTabulator$Counting", "logEvent", "(IIII)V"⟩, 16), (⟨"ElectionTabulator$Counting", "excludeWeakest", "(I)V"⟩, 16), (⟨"ElectionTabulator", "beatsEachOther", "(I)Z"⟩, 14), (⟨"ElectionTabulator$Election", "prefers", "(III)Z"⟩, 8), (⟨"java/lang/Throwable", "fillInStackTrace", "(I)Ljava/lang/Throwable;"⟩, 6), (⟨"ElectionTabulator$TextReader", "readCommand", "(LElectionTabulator$Election;)Z"⟩, 6), (⟨"ElectionTabulator$TextReader", "next", "()I"⟩, 6), (⟨"ElectionTabulator$TextReader", "readSize", "(LElectionTabulator$Election;)Z"⟩, 6), (⟨"ElectionTabulator$TextReader", "readPileNumber", "(LElectionTabulator$Election;)I"⟩, 6), (⟨"ElectionTabulator$TextReader", "readNumber", "()I"⟩, 6), (⟨"ElectionTabulator$TextReader", "failAt", "(I)Z"⟩, 6), (⟨"ElectionTabulator$TextReader", "pass", "(I)Z"⟩, 6), (⟨"ElectionTabulator$TextReader", "readReplacement", "(LElectionTabulator$Election;)Z"⟩, 6), (⟨"ElectionTabulator$TextReader", "readRanking", "(II)Z"⟩, 6), (⟨"ElectionTabulator$TextReader", "readLot", "(LElectionTabulator$Election;)Z"⟩, 6)]
theorem lw_r2 : ∀ q ∈ lw_privs_2, lw_okq q := List.forall_mem_cons.mpr ⟨lw_p16, List.forall_mem_cons.mpr ⟨lw_p17, List.forall_mem_cons.mpr ⟨lw_p18, List.forall_mem_cons.mpr ⟨lw_p19, List.forall_mem_cons.mpr ⟨lw_p20, List.forall_mem_cons.mpr ⟨lw_p21, List.forall_mem_cons.mpr ⟨lw_p22, List.forall_mem_cons.mpr ⟨lw_p23, List.forall_mem_cons.mpr ⟨lw_p24, List.forall_mem_cons.mpr ⟨lw_p25, List.forall_mem_cons.mpr ⟨lw_p26, List.forall_mem_cons.mpr ⟨lw_p27, List.forall_mem_cons.mpr ⟨lw_p28, List.forall_mem_cons.mpr ⟨lw_p29, List.forall_mem_cons.mpr ⟨lw_p30, List.forall_mem_cons.mpr ⟨lw_p31, fun _ h => absurd h List.not_mem_nil⟩⟩⟩⟩⟩⟩⟩⟩⟩⟩⟩⟩⟩⟩⟩⟩
theorem lw_p32 : lw_okq (⟨"ElectionTabulator$TextReader", "readAddition", "(LElectionTabulator$Election;)Z"⟩, 6) := ⟨⟨by decide +kernel, by decide +kernel⟩, List.mem_of_getElem? (i := 279) (by decide +kernel), List.mem_of_getElem? (i := 699) (by decide +kernel), List.mem_of_getElem? (i := 700) (by decide +kernel)⟩
theorem lw_p33 : lw_okq (⟨"ElectionTabulator", "rememberForUndo", "()V"⟩, 14) := ⟨⟨by decide +kernel, by decide +kernel⟩, List.mem_of_getElem? (i := 25) (by decide +kernel), List.mem_of_getElem? (i := 714) (by decide +kernel), List.mem_of_getElem? (i := 715) (by decide +kernel)⟩
theorem lw_p34 : lw_okq (⟨"ElectionTabulator$History", "forgetOldest", "()V"⟩, 2) := ⟨⟨by decide +kernel, by decide +kernel⟩, List.mem_of_getElem? (i := 306) (by decide +kernel), List.mem_of_getElem? (i := 722) (by decide +kernel), List.mem_of_getElem? (i := 723) (by decide +kernel)⟩
theorem lw_p35 : lw_okq (⟨"ElectionTabulator", "isCandidate", "(I)Z"⟩, 14) := ⟨⟨by decide +kernel, by decide +kernel⟩, List.mem_of_getElem? (i := 25) (by decide +kernel), List.mem_of_getElem? (i := 773) (by decide +kernel), List.mem_of_getElem? (i := 774) (by decide +kernel)⟩
theorem lw_p36 : lw_okq (⟨"ElectionTabulator", "isPile", "(I)Z"⟩, 14) := ⟨⟨by decide +kernel, by decide +kernel⟩, List.mem_of_getElem? (i := 25) (by decide +kernel), List.mem_of_getElem? (i := 797) (by decide +kernel), List.mem_of_getElem? (i := 798) (by decide +kernel)⟩
theorem lw_p37 : lw_okq (⟨"ElectionTabulator", "signOfPile", "(III)I"⟩, 14) := ⟨⟨by decide +kernel, by decide +kernel⟩, List.mem_of_getElem? (i := 25) (by decide +kernel), List.mem_of_getElem? (i := 811) (by decide +kernel), List.mem_of_getElem? (i := 812) (by decide +kernel)⟩
theorem lw_p38 : lw_okq (⟨"ElectionTabulator", "checkedVotes", "(LElectionTabulator$Result;II)I"⟩, 14) := ⟨⟨by decide +kernel, by decide +kernel⟩, List.mem_of_getElem? (i := 25) (by decide +kernel), List.mem_of_getElem? (i := 822) (by decide +kernel), List.mem_of_getElem? (i := 823) (by decide +kernel)⟩
theorem lw_p39 : lw_okq (⟨"ElectionTabulatorModel", "start", "(I)V"⟩, 50) := ⟨⟨by decide +kernel, by decide +kernel⟩, List.mem_of_getElem? (i := 991) (by decide +kernel), List.mem_of_getElem? (i := 997) (by decide +kernel), List.mem_of_getElem? (i := 998) (by decide +kernel)⟩
theorem lw_p40 : lw_okq (⟨"ElectionTabulatorModel", "here", "()I"⟩, 50) := ⟨⟨by decide +kernel, by decide +kernel⟩, List.mem_of_getElem? (i := 991) (by decide +kernel), List.mem_of_getElem? (i := 1173) (by decide +kernel), List.mem_of_getElem? (i := 1174) (by decide +kernel)⟩
theorem lw_p41 : lw_okq (⟨"ElectionTabulatorModel", "readPile", "()V"⟩, 50) := ⟨⟨by decide +kernel, by decide +kernel⟩, List.mem_of_getElem? (i := 991) (by decide +kernel), List.mem_of_getElem? (i := 1177) (by decide +kernel), List.mem_of_getElem? (i := 1178) (by decide +kernel)⟩
theorem lw_p42 : lw_okq (⟨"ElectionTabulatorModel", "wrongAt", "(I)V"⟩, 50) := ⟨⟨by decide +kernel, by decide +kernel⟩, List.mem_of_getElem? (i := 991) (by decide +kernel), List.mem_of_getElem? (i := 1181) (by decide +kernel), List.mem_of_getElem? (i := 1182) (by decide +kernel)⟩
theorem lw_p43 : lw_okq (⟨"ElectionTabulatorModel", "number", "()I"⟩, 50) := ⟨⟨by decide +kernel, by decide +kernel⟩, List.mem_of_getElem? (i := 991) (by decide +kernel), List.mem_of_getElem? (i := 1185) (by decide +kernel), List.mem_of_getElem? (i := 1186) (by decide +kernel)⟩
theorem lw_p44 : lw_okq (⟨"ElectionTabulatorModel", "wants", "(I)V"⟩, 50) := ⟨⟨by decide +kernel, by decide +kernel⟩, List.mem_of_getElem? (i := 991) (by decide +kernel), List.mem_of_getElem? (i := 1189) (by decide +kernel), List.mem_of_getElem? (i := 1190) (by decide +kernel)⟩
theorem lw_p45 : lw_okq (⟨"ElectionTabulatorModel", "readRanking", "()V"⟩, 50) := ⟨⟨by decide +kernel, by decide +kernel⟩, List.mem_of_getElem? (i := 991) (by decide +kernel), List.mem_of_getElem? (i := 1193) (by decide +kernel), List.mem_of_getElem? (i := 1194) (by decide +kernel)⟩
theorem lw_p46 : lw_okq (⟨"ElectionTabulatorModel", "isCandidate", "(I)Z"⟩, 50) := ⟨⟨by decide +kernel, by decide +kernel⟩, List.mem_of_getElem? (i := 991) (by decide +kernel), List.mem_of_getElem? (i := 1197) (by decide +kernel), List.mem_of_getElem? (i := 1198) (by decide +kernel)⟩
theorem lw_p47 : lw_okq (⟨"ElectionTabulatorModel", "setRanking", "(I)V"⟩, 50) := ⟨⟨by decide +kernel, by decide +kernel⟩, List.mem_of_getElem? (i := 991) (by decide +kernel), List.mem_of_getElem? (i := 1204) (by decide +kernel), List.mem_of_getElem? (i := 1205) (by decide +kernel)⟩
def lw_privs_3 : List (MethodName × Nat) := [(⟨"ElectionTabulator$TextReader", "readAddition", "(LElectionTabulator$Election;)Z"⟩, 6), (⟨"ElectionTabulator", "rememberForUndo", "()V"⟩, 14), (⟨"ElectionTabulator$History", "forgetOldest", "()V"⟩, 2), (⟨"ElectionTabulator", "isCandidate", "(I)Z"⟩, 14), (⟨"ElectionTabulator", "isPile", "(I)Z"⟩, 14), (⟨"ElectionTabulator", "signOfPile", "(III)I"⟩, 14), (⟨"ElectionTabulator", "checkedVotes", "(LElectionTabulator$Result;II)I"⟩, 14), (⟨"ElectionTabulatorModel", "start", "(I)V"⟩, 50), (⟨"ElectionTabulatorModel", "here", "()I"⟩, 50), (⟨"ElectionTabulatorModel", "readPile", "()V"⟩, 50), (⟨"ElectionTabulatorModel", "wrongAt", "(I)V"⟩, 50), (⟨"ElectionTabulatorModel", "number", "()I"⟩, 50), (⟨"ElectionTabulatorModel", "wants", "(I)V"⟩, 50), (⟨"ElectionTabulatorModel", "readRanking", "()V"⟩, 50), (⟨"ElectionTabulatorModel", "isCandidate", "(I)Z"⟩, 50), (⟨"ElectionTabulatorModel", "setRanking", "(I)V"⟩, 50)]
theorem lw_r3 : ∀ q ∈ lw_privs_3, lw_okq q := List.forall_mem_cons.mpr ⟨lw_p32, List.forall_mem_cons.mpr ⟨lw_p33, List.forall_mem_cons.mpr ⟨lw_p34, List.forall_mem_cons.mpr ⟨lw_p35, List.forall_mem_cons.mpr ⟨lw_p36, List.forall_mem_cons.mpr ⟨lw_p37, List.forall_mem_cons.mpr ⟨lw_p38, List.forall_mem_cons.mpr ⟨lw_p39, List.forall_mem_cons.mpr ⟨lw_p40, List.forall_mem_cons.mpr ⟨lw_p41, List.forall_mem_cons.mpr ⟨lw_p42, List.forall_mem_cons.mpr ⟨lw_p43, List.forall_mem_cons.mpr ⟨lw_p44, List.forall_mem_cons.mpr ⟨lw_p45, List.forall_mem_cons.mpr ⟨lw_p46, List.forall_mem_cons.mpr ⟨lw_p47, fun _ h => absurd h List.not_mem_nil⟩⟩⟩⟩⟩⟩⟩⟩⟩⟩⟩⟩⟩⟩⟩⟩
theorem lw_p48 : lw_okq (⟨"ElectionTabulatorModel", "readChange", "(I)V"⟩, 50) := ⟨⟨by decide +kernel, by decide +kernel⟩, List.mem_of_getElem? (i := 991) (by decide +kernel), List.mem_of_getElem? (i := 1208) (by decide +kernel), List.mem_of_getElem? (i := 1209) (by decide +kernel)⟩
theorem lw_p49 : lw_okq (⟨"ElectionTabulatorModel", "knownPile", "()I"⟩, 50) := ⟨⟨by decide +kernel, by decide +kernel⟩, List.mem_of_getElem? (i := 991) (by decide +kernel), List.mem_of_getElem? (i := 1212) (by decide +kernel), List.mem_of_getElem? (i := 1213) (by decide +kernel)⟩
theorem lw_p50 : lw_okq (⟨"ElectionTabulatorModel", "isPile", "(I)Z"⟩, 50) := ⟨⟨by decide +kernel, by decide +kernel⟩, List.mem_of_getElem? (i := 991) (by decide +kernel), List.mem_of_getElem? (i := 1216) (by decide +kernel), List.mem_of_getElem? (i := 1217) (by decide +kernel)⟩
theorem lw_p51 : lw_okq (⟨"ElectionTabulatorModel", "readLot", "()V"⟩, 50) := ⟨⟨by decide +kernel, by decide +kernel⟩, List.mem_of_getElem? (i := 991) (by decide +kernel), List.mem_of_getElem? (i := 1220) (by decide +kernel), List.mem_of_getElem? (i := 1221) (by decide +kernel)⟩
theorem lw_p52 : lw_okq (⟨"ElectionTabulatorModel", "push", "([I)V"⟩, 50) := ⟨⟨by decide +kernel, by decide +kernel⟩, List.mem_of_getElem? (i := 991) (by decide +kernel), List.mem_of_getElem? (i := 1224) (by decide +kernel), List.mem_of_getElem? (i := 1225) (by decide +kernel)⟩
theorem lw_p53 : lw_okq (⟨"ElectionTabulatorModel", "isGone", "(I)Z"⟩, 50) := ⟨⟨by decide +kernel, by decide +kernel⟩, List.mem_of_getElem? (i := 991) (by decide +kernel), List.mem_of_getElem? (i := 1240) (by decide +kernel), List.mem_of_getElem? (i := 1241) (by decide +kernel)⟩
theorem lw_p54 : lw_okq (⟨"ElectionTabulatorModel", "lengthOf", "(I)I"⟩, 50) := ⟨⟨by decide +kernel, by decide +kernel⟩, List.mem_of_getElem? (i := 991) (by decide +kernel), List.mem_of_getElem? (i := 1248) (by decide +kernel), List.mem_of_getElem? (i := 1249) (by decide +kernel)⟩
theorem lw_p55 : lw_okq (⟨"ElectionTabulatorModel", "sizeOf", "(I)I"⟩, 50) := ⟨⟨by decide +kernel, by decide +kernel⟩, List.mem_of_getElem? (i := 991) (by decide +kernel), List.mem_of_getElem? (i := 1252) (by decide +kernel), List.mem_of_getElem? (i := 1253) (by decide +kernel)⟩
theorem lw_p56 : lw_okq (⟨"ElectionTabulatorModel", "rankOf", "(II)I"⟩, 50) := ⟨⟨by decide +kernel, by decide +kernel⟩, List.mem_of_getElem? (i := 991) (by decide +kernel), List.mem_of_getElem? (i := 1256) (by decide +kernel), List.mem_of_getElem? (i := 1257) (by decide +kernel)⟩
theorem lw_p57 : lw_okq (⟨"ElectionTabulatorModel", "know", "()V"⟩, 50) := ⟨⟨by decide +kernel, by decide +kernel⟩, List.mem_of_getElem? (i := 991) (by decide +kernel), List.mem_of_getElem? (i := 1268) (by decide +kernel), List.mem_of_getElem? (i := 1269) (by decide +kernel)⟩
theorem lw_p58 : lw_okq (⟨"ElectionTabulatorModel", "count", "()V"⟩, 50) := ⟨⟨by decide +kernel, by decide +kernel⟩, List.mem_of_getElem? (i := 991) (by decide +kernel), List.mem_of_getElem? (i := 1272) (by decide +kernel), List.mem_of_getElem? (i := 1273) (by decide +kernel)⟩
theorem lw_p59 : lw_okq (⟨"ElectionTabulatorModel", "prepare", "()V"⟩, 50) := ⟨⟨by decide +kernel, by decide +kernel⟩, List.mem_of_getElem? (i := 991) (by decide +kernel), List.mem_of_getElem? (i := 1276) (by decide +kernel), List.mem_of_getElem? (i := 1277) (by decide +kernel)⟩
theorem lw_p60 : lw_okq (⟨"ElectionTabulatorModel", "goOn", "(III)V"⟩, 50) := ⟨⟨by decide +kernel, by decide +kernel⟩, List.mem_of_getElem? (i := 991) (by decide +kernel), List.mem_of_getElem? (i := 1280) (by decide +kernel), List.mem_of_getElem? (i := 1281) (by decide +kernel)⟩
theorem lw_p61 : lw_okq (⟨"ElectionTabulatorModel", "note", "()V"⟩, 50) := ⟨⟨by decide +kernel, by decide +kernel⟩, List.mem_of_getElem? (i := 991) (by decide +kernel), List.mem_of_getElem? (i := 1284) (by decide +kernel), List.mem_of_getElem? (i := 1285) (by decide +kernel)⟩
theorem lw_p62 : lw_okq (⟨"ElectionTabulatorModel", "quota", "()I"⟩, 50) := ⟨⟨by decide +kernel, by decide +kernel⟩, List.mem_of_getElem? (i := 991) (by decide +kernel), List.mem_of_getElem? (i := 1288) (by decide +kernel), List.mem_of_getElem? (i := 1289) (by decide +kernel)⟩
theorem lw_p63 : lw_okq (⟨"ElectionTabulatorModel", "papers", "()I"⟩, 50) := ⟨⟨by decide +kernel, by decide +kernel⟩, List.mem_of_getElem? (i := 991) (by decide +kernel), List.mem_of_getElem? (i := 1292) (by decide +kernel), List.mem_of_getElem? (i := 1293) (by decide +kernel)⟩
def lw_privs_4 : List (MethodName × Nat) := [(⟨"ElectionTabulatorModel", "readChange", "(I)V"⟩, 50), (⟨"ElectionTabulatorModel", "knownPile", "()I"⟩, 50), (⟨"ElectionTabulatorModel", "isPile", "(I)Z"⟩, 50), (⟨"ElectionTabulatorModel", "readLot", "()V"⟩, 50), (⟨"ElectionTabulatorModel", "push", "([I)V"⟩, 50), (⟨"ElectionTabulatorModel", "isGone", "(I)Z"⟩, 50), (⟨"ElectionTabulatorModel", "lengthOf", "(I)I"⟩, 50), (⟨"ElectionTabulatorModel", "sizeOf", "(I)I"⟩, 50), (⟨"ElectionTabulatorModel", "rankOf", "(II)I"⟩, 50), (⟨"ElectionTabulatorModel", "know", "()V"⟩, 50), (⟨"ElectionTabulatorModel", "count", "()V"⟩, 50), (⟨"ElectionTabulatorModel", "prepare", "()V"⟩, 50), (⟨"ElectionTabulatorModel", "goOn", "(III)V"⟩, 50), (⟨"ElectionTabulatorModel", "note", "()V"⟩, 50), (⟨"ElectionTabulatorModel", "quota", "()I"⟩, 50), (⟨"ElectionTabulatorModel", "papers", "()I"⟩, 50)]
theorem lw_r4 : ∀ q ∈ lw_privs_4, lw_okq q := List.forall_mem_cons.mpr ⟨lw_p48, List.forall_mem_cons.mpr ⟨lw_p49, List.forall_mem_cons.mpr ⟨lw_p50, List.forall_mem_cons.mpr ⟨lw_p51, List.forall_mem_cons.mpr ⟨lw_p52, List.forall_mem_cons.mpr ⟨lw_p53, List.forall_mem_cons.mpr ⟨lw_p54, List.forall_mem_cons.mpr ⟨lw_p55, List.forall_mem_cons.mpr ⟨lw_p56, List.forall_mem_cons.mpr ⟨lw_p57, List.forall_mem_cons.mpr ⟨lw_p58, List.forall_mem_cons.mpr ⟨lw_p59, List.forall_mem_cons.mpr ⟨lw_p60, List.forall_mem_cons.mpr ⟨lw_p61, List.forall_mem_cons.mpr ⟨lw_p62, List.forall_mem_cons.mpr ⟨lw_p63, fun _ h => absurd h List.not_mem_nil⟩⟩⟩⟩⟩⟩⟩⟩⟩⟩⟩⟩⟩⟩⟩⟩
theorem lw_p64 : lw_okq (⟨"ElectionTabulatorModel", "hopeful", "(I)I"⟩, 50) := ⟨⟨by decide +kernel, by decide +kernel⟩, List.mem_of_getElem? (i := 991) (by decide +kernel), List.mem_of_getElem? (i := 1296) (by decide +kernel), List.mem_of_getElem? (i := 1297) (by decide +kernel)⟩
theorem lw_p65 : lw_okq (⟨"ElectionTabulatorModel", "elect", "(II)V"⟩, 50) := ⟨⟨by decide +kernel, by decide +kernel⟩, List.mem_of_getElem? (i := 991) (by decide +kernel), List.mem_of_getElem? (i := 1300) (by decide +kernel), List.mem_of_getElem? (i := 1301) (by decide +kernel)⟩
theorem lw_p66 : lw_okq (⟨"ElectionTabulatorModel", "look", "(IZ)I"⟩, 50) := ⟨⟨by decide +kernel, by decide +kernel⟩, List.mem_of_getElem? (i := 991) (by decide +kernel), List.mem_of_getElem? (i := 1304) (by decide +kernel), List.mem_of_getElem? (i := 1305) (by decide +kernel)⟩
theorem lw_p67 : lw_okq (⟨"ElectionTabulatorModel", "foremost", "(IIZ)I"⟩, 50) := ⟨⟨by decide +kernel, by decide +kernel⟩, List.mem_of_getElem? (i := 991) (by decide +kernel), List.mem_of_getElem? (i := 1308) (by decide +kernel), List.mem_of_getElem? (i := 1309) (by decide +kernel)⟩
theorem lw_p68 : lw_okq (⟨"ElectionTabulatorModel", "votesIn", "(II)I"⟩, 50) := ⟨⟨by decide +kernel, by decide +kernel⟩, List.mem_of_getElem? (i := 991) (by decide +kernel), List.mem_of_getElem? (i := 1312) (by decide +kernel), List.mem_of_getElem? (i := 1313) (by decide +kernel)⟩
theorem lw_p69 : lw_okq (⟨"ElectionTabulatorModel", "withSurplus", "()I"⟩, 50) := ⟨⟨by decide +kernel, by decide +kernel⟩, List.mem_of_getElem? (i := 991) (by decide +kernel), List.mem_of_getElem? (i := 1322) (by decide +kernel), List.mem_of_getElem? (i := 1323) (by decide +kernel)⟩
theorem lw_p70 : lw_okq (⟨"ElectionTabulatorModel", "transfer", "(I)V"⟩, 50) := ⟨⟨by decide +kernel, by decide +kernel⟩, List.mem_of_getElem? (i := 991) (by decide +kernel), List.mem_of_getElem? (i := 1326) (by decide +kernel), List.mem_of_getElem? (i := 1327) (by decide +kernel)⟩
theorem lw_p71 : lw_okq (⟨"ElectionTabulatorModel", "isOfParcel", "(III)Z"⟩, 50) := ⟨⟨by decide +kernel, by decide +kernel⟩, List.mem_of_getElem? (i := 991) (by decide +kernel), List.mem_of_getElem? (i := 1331) (by decide +kernel), List.mem_of_getElem? (i := 1332) (by decide +kernel)⟩
theorem lw_p72 : lw_okq (⟨"ElectionTabulatorModel", "happened", "(III)V"⟩, 50) := ⟨⟨by decide +kernel, by decide +kernel⟩, List.mem_of_getElem? (i := 991) (by decide +kernel), List.mem_of_getElem? (i := 1336) (by decide +kernel), List.mem_of_getElem? (i := 1337) (by decide +kernel)⟩
theorem lw_p73 : lw_okq (⟨"ElectionTabulatorModel", "exclude", "()V"⟩, 50) := ⟨⟨by decide +kernel, by decide +kernel⟩, List.mem_of_getElem? (i := 991) (by decide +kernel), List.mem_of_getElem? (i := 1340) (by decide +kernel), List.mem_of_getElem? (i := 1341) (by decide +kernel)⟩
theorem lw_p74 : lw_okq (⟨"ElectionTabulatorModel", "isRound", "(I)Z"⟩, 50) := ⟨⟨by decide +kernel, by decide +kernel⟩, List.mem_of_getElem? (i := 991) (by decide +kernel), List.mem_of_getElem? (i := 1348) (by decide +kernel), List.mem_of_getElem? (i := 1349) (by decide +kernel)⟩
theorem lw_p75 : lw_okq (⟨"ElectionTabulatorModel", "prefer", "(II)I"⟩, 50) := ⟨⟨by decide +kernel, by decide +kernel⟩, List.mem_of_getElem? (i := 991) (by decide +kernel), List.mem_of_getElem? (i := 1376) (by decide +kernel), List.mem_of_getElem? (i := 1377) (by decide +kernel)⟩
theorem lw_p76 : lw_okq (⟨"ElectionTabulatorModel", "placeOf", "(II)I"⟩, 50) := ⟨⟨by decide +kernel, by decide +kernel⟩, List.mem_of_getElem? (i := 991) (by decide +kernel), List.mem_of_getElem? (i := 1380) (by decide +kernel), List.mem_of_getElem? (i := 1381) (by decide +kernel)⟩
theorem lw_p77 : lw_okq (⟨"ElectionTabulatorModel", "differentStatus", "()I"⟩, 50) := ⟨⟨by decide +kernel, by decide +kernel⟩, List.mem_of_getElem? (i := 991) (by decide +kernel), List.mem_of_getElem? (i := 1400) (by decide +kernel), List.mem_of_getElem? (i := 1401) (by decide +kernel)⟩
theorem lw_p78 : lw_okq (⟨"ElectionTabulatorModel", "differentWinner", "()I"⟩, 50) := ⟨⟨by decide +kernel, by decide +kernel⟩, List.mem_of_getElem? (i := 991) (by decide +kernel), List.mem_of_getElem? (i := 1404) (by decide +kernel), List.mem_of_getElem? (i := 1405) (by decide +kernel)⟩
theorem lw_p79 : lw_okq (⟨"ElectionTabulatorModel", "differentRound", "()I"⟩, 50) := ⟨⟨by decide +kernel, by decide +kernel⟩, List.mem_of_getElem? (i := 991) (by decide +kernel), List.mem_of_getElem? (i := 1409) (by decide +kernel), List.mem_of_getElem? (i := 1410) (by decide +kernel)⟩
def lw_privs_5 : List (MethodName × Nat) := [(⟨"ElectionTabulatorModel", "hopeful", "(I)I"⟩, 50), (⟨"ElectionTabulatorModel", "elect", "(II)V"⟩, 50), (⟨"ElectionTabulatorModel", "look", "(IZ)I"⟩, 50), (⟨"ElectionTabulatorModel", "foremost", "(IIZ)I"⟩, 50), (⟨"ElectionTabulatorModel", "votesIn", "(II)I"⟩, 50), (⟨"ElectionTabulatorModel", "withSurplus", "()I"⟩, 50), (⟨"ElectionTabulatorModel", "transfer", "(I)V"⟩, 50), (⟨"ElectionTabulatorModel", "isOfParcel", "(III)Z"⟩, 50), (⟨"ElectionTabulatorModel", "happened", "(III)V"⟩, 50), (⟨"ElectionTabulatorModel", "exclude", "()V"⟩, 50), (⟨"ElectionTabulatorModel", "isRound", "(I)Z"⟩, 50), (⟨"ElectionTabulatorModel", "prefer", "(II)I"⟩, 50), (⟨"ElectionTabulatorModel", "placeOf", "(II)I"⟩, 50), (⟨"ElectionTabulatorModel", "differentStatus", "()I"⟩, 50), (⟨"ElectionTabulatorModel", "differentWinner", "()I"⟩, 50), (⟨"ElectionTabulatorModel", "differentRound", "()I"⟩, 50)]
theorem lw_r5 : ∀ q ∈ lw_privs_5, lw_okq q := List.forall_mem_cons.mpr ⟨lw_p64, List.forall_mem_cons.mpr ⟨lw_p65, List.forall_mem_cons.mpr ⟨lw_p66, List.forall_mem_cons.mpr ⟨lw_p67, List.forall_mem_cons.mpr ⟨lw_p68, List.forall_mem_cons.mpr ⟨lw_p69, List.forall_mem_cons.mpr ⟨lw_p70, List.forall_mem_cons.mpr ⟨lw_p71, List.forall_mem_cons.mpr ⟨lw_p72, List.forall_mem_cons.mpr ⟨lw_p73, List.forall_mem_cons.mpr ⟨lw_p74, List.forall_mem_cons.mpr ⟨lw_p75, List.forall_mem_cons.mpr ⟨lw_p76, List.forall_mem_cons.mpr ⟨lw_p77, List.forall_mem_cons.mpr ⟨lw_p78, List.forall_mem_cons.mpr ⟨lw_p79, fun _ h => absurd h List.not_mem_nil⟩⟩⟩⟩⟩⟩⟩⟩⟩⟩⟩⟩⟩⟩⟩⟩
def lw_privs : List (MethodName × Nat) := lw_privs_1 ++ (lw_privs_2 ++ (lw_privs_3 ++ (lw_privs_4 ++ (lw_privs_5))))
def lw_tbl : List Cond := k2_sels lw_privs ++ tables_1
theorem lw_privs_ok : ∀ q ∈ lw_privs, lw_okq q := by
  show ∀ q ∈ lw_privs_1 ++ (lw_privs_2 ++ (lw_privs_3 ++ (lw_privs_4 ++ (lw_privs_5)))), lw_okq q
  exact List.forall_mem_append.mpr ⟨lw_r1, List.forall_mem_append.mpr ⟨lw_r2, List.forall_mem_append.mpr ⟨lw_r3, List.forall_mem_append.mpr ⟨lw_r4, lw_r5⟩⟩⟩⟩
/-- the streams that the claim lets the run draw from -/
abbrev lw_cs : List Choice := [Jvm.Choice.named "NaN.bits"]
theorem lw_bits : nanBits ∈ lw_cs := by first | decide | exact List.mem_cons_self | simp [lw_cs, nanBits]
end
section
/-! ===== BEGIN exceptions that leave a method, and their catching by the caller (launches without stack traces) ===== -/
section VXA
/-! The laws vx_back, vx_callV, vx_callS, vx_callSW, vx_throw0, vx_throwS follow proofs of the library, with one case more: JvmDerived/Free/Laws.lean (Back.of_free), Shelf42/LK1.lean (callV, callS), Shelf/KitTraced.lean (throwNew0V, throwNewS). -/
/-- where a method has thrown q: the class by its name, the cell, what was written, the world -/
def vx_T (XC : String → State → State → Prop) (st : State) (q : Addr) (t : State) (mc ms : Nat) (free : Addr → Prop) : Prop :=
  ∃ (E : String) (ce : Cell) (L : List Loc), XC E st t ∧ t.heap[q]? = some ce ∧ ce.vm = .none ∧ st.vm.findClass E = some ce.cls ∧ st.WarmedH t.vm ∧ st.sameButNew ({ t with vm := st.vm } : State) L mc ms ∧ ∀ z ∈ L, free z.base
def vx_Q (Qc : Array Value → State → Outcome → State → Prop) (XC : String → State → State → Prop) (mc ms : Nat) (free : Addr → Prop) : Array Value → State → Outcome → State → Prop := fun a st o t =>
  (Qc a st o t ∧ ∃ L, FrameEnd st o t L mc ms ∧ ∀ q ∈ L, free q.base) ∨ ∃ q, o = .threw q ∧ vx_T XC st q t mc ms free
/-- a callee that returns or throws -/
def vx_Met (l : Launch) (y : MethodName) (ws : List Cond) (rm : Room) (Pc : Array Value → State → Prop) (Qc : Array Value → State → Outcome → State → Prop) (XC : String → State → State → Prop) (mc ms : Nat) (free : Addr → Prop) : Prop :=
  MetFree l y (headSpec ws rm) Pc (fun _ _ _ _ _ => True) (vx_Q Qc XC mc ms free)
def vx_Post (XC : String → State → State → Prop) (mc ms : Nat) (free : Addr → Prop) : Pt → Array Value → Addr → Pt → Prop := fun A a q B =>
  ∃ (g : JFrame) (mk : MethodId) (t : State) (L : List Loc) (E : String) (ce : Cell), B.U.heap = t.heap ∧ B.U.vm = t.vm ∧ XC E (A.U.calling g mk a) t ∧ t.heap[q]? = some ce ∧ ce.vm = .none ∧ A.U.vm.findClass E = some ce.cls ∧ B.locs = A.locs ++ L ∧ (∀ z ∈ L, free z.base) ∧ B.cells = A.cells + mc ∧ B.slots = A.slots + ms
def vx_Back (l : Launch) (R : Room) (p : Program) (e : Env) (below : List Frame) (s : State) (sargs : Array Value) (y : MethodName) (len W9 : Nat)
    (Pre : Pt → Array Value → Prop) (Post : Pt → Array Value → Option Value → Pt → Prop) (PostX : Pt → Array Value → Addr → Pt → Prop) : Prop :=
  ∀ (m : MethodId) (meth : Method) (c : Code) (A : Pt) (g : JFrame) (ig : Instr) (mk : MethodId) (a : Array Value),
    Stand p l e R s m sargs below meth c A.U A.locs A.cells A.slots → g.method = m → g.locals.size = c.maxLocals → decode c.code g.pc = .ok (ig, len) →
    2 * g.monitorRoom + (g.stack.map fun v => v.category).sum ≤ W9 → A.U.methodNamed? y = some mk → Pre A a →
    (∃ (v : Option Value) (B : Pt), Stand p l e R s m sargs below meth c B.U B.locs B.cells B.slots ∧ Post A a v B ∧
      Steps p.tables e below (doInvoke e (A.U.setTop g) [] mk a).1 (B.U.setTop { g with pc := g.pc + len, stack := v.toList ++ g.stack })) ∨
    (∃ (q : Addr) (B : Pt), Stand p l e R s m sargs below meth c B.U B.locs B.cells B.slots ∧ PostX A a q B ∧
      Steps p.tables e below (doInvoke e (A.U.setTop g) [] mk a).1 ((B.U.setTop g).pushFrame (.throwing q)))
section Payer
variable {l : Launch} {R : Room} {p : Program} {e : Env} {below : List Frame} {s : State} {sargs : Array Value} {y : MethodName} {len W9 : Nat}
theorem vx_back {ws : List Cond} {rm : Room} {Pc : Array Value → State → Prop} {Qc : Array Value → State → Outcome → State → Prop} {XC : String → State → State → Prop} {mc ms : Nat} {free : Addr → Prop} {bytes : ByteArray} {maxL : Nat} {ret : Option FieldType}
    (hM : vx_Met l y ws rm Pc Qc XC mc ms free) (hblind : FrameBlind Pc) (hrc : rm.cells = mc) (hrs : rm.slots = ms)
    (hframes : rm.frames + 1 ≤ R.frames) (hlocals : W9 + (maxL + 11) + rm.locals ≤ R.locals)
    (hws : ∀ w ∈ ws, ∀ a' U, s.WarmedH U.vm → w.before a' U = true) (hcode : Cond.code y bytes maxL ret ∈ ws) (hinit : ∀ a' U, s.WarmedH U.vm → (Cond.initialized y.cls).before a' U = true) :
    vx_Back l R p e below s sargs y len W9 (PreOf R mc ms Pc) (PostOf Qc mc ms free) (vx_Post XC mc ms free) := by
  intro m meth c A g ig mk a X hg hsize hdg hW hn hp
  have h1 : (headSpec ws rm).pre.before a A.U = true := atoms_intro fun w hw => hws w hw _ _ X.warmed
  have h2 : (Cond.code y bytes maxL ret).before a A.U = true := hws _ hcode _ _ X.warmed
  have h3 : (Cond.initialized y.cls).before a A.U = true := hinit _ _ X.warmed
  have h4 : A.cells + (headSpec ws rm).room.cells ≤ R.cells := by rw [show (headSpec ws rm).room.cells = mc from hrc]; exact hp.1
  have h5 : A.slots + (headSpec ws rm).room.slots ≤ R.slots := by rw [show (headSpec ws rm).room.slots = ms from hrs]; exact hp.2.1
  have hPc : Pc a (A.U.calling g mk a) := hblind _ _ _ _ hp.2.2
  obtain ⟨U, Ls, c0, s0⟩ := A
  dsimp only [Pt.U, Pt.locs, Pt.cells, Pt.slots] at h1 h2 h3 h4 h5 X hn hPc ⊢
  obtain ⟨methY, cY, hmY, hcY, -, hlY, -, -, -, -⟩ := Cond.code_spec hn h2
  obtain ⟨kY, hkY, -⟩ := className_of_methodNamed hn
  have hinitY : kY.init = .initialized := Cond.initialized_spec (findClass_of_methodNamed hn) hkY h3
  have h : At U g.method c below := by rw [hg]; exact X.here
  have hlocals9 : W9 + (maxL + 11) + (headSpec ws rm).room.locals ≤ R.locals := hlocals
  have happ : (headSpec ws rm).appliesLoose y e.platform (U.calling g mk a) = true :=
    Spec.appliesLoose_calling (g := g) h hdg hn hkY hinitY
      (X.room_calling (g := g) (R' := (headSpec ws rm).room) hsize hmY hcY hframes (by rw [hlY]; omega) h4 h5) h1
  obtain ⟨mid, hmid⟩ := h.above
  have hfr : (U.setTop g).frames = (.java g :: mid) ++ below := by rw [State.frames_setTop' g h.top, hmid]; rfl
  obtain ⟨o, s₂, hsteps, -, hend, hq⟩ := Steps.callFree hM p X.admits X.cas X.clock (acts := []) hfr happ hPc trivial
  have hq' : vx_Q Qc XC mc ms free a (U.calling g mk a) o s₂ := hq
  rw [State.frames_setTop' g h.top] at hend
  obtain ⟨g₀, hg0⟩ := Option.isSome_iff_exists.mp h.top
  obtain ⟨r, hr⟩ := State.topJava?_eq_some.mp hg0
  have hr' : (({ U with heap := s₂.heap, slotsUsed := s₂.slotsUsed } : State).setVm s₂.vm).frames = .java g₀ :: r := hr
  rcases hq' with ⟨hqc, L, hfe, hL⟩ | ⟨q, rfl, E, ce, L, hx, hce, hcv, hcl, hW₂, hsm, hL⟩
  · obtain ⟨⟨v, rfl⟩, hW₂, e2, q2, q3, q4, q5, q6⟩ := id hfe
    have e3 : s₂ = ({ (U.calling g mk a).setFrames s₂.frames with heap := s₂.heap, slotsUsed := s₂.slotsUsed } : State).setVm s₂.vm := by
      have : s₂ = ({ s₂ with vm := (U.calling g mk a).vm } : State).setVm s₂.vm := rfl
      rw [e2] at this
      exact this
    obtain ⟨c₂, i₂, len₂, hc₂, hd₂, hf₂⟩ := hend
    have hW' : U.WarmedH s₂.vm := hW₂
    have hcc : c₂ = c := by
      have h1 : s₂.code? g.method = U.code? g.method := by
        rw [State.code?_eq, State.code?_eq, hW'.alike.method?]
      exact Option.some.inj (hc₂.symm.trans (h1.trans h.code))
    subst hcc
    have hlen : len₂ = len := by rw [hdg] at hd₂; cases hd₂; rfl
    subst hlen
    have hs₂ : s₂ = (({ U with heap := s₂.heap, slotsUsed := s₂.slotsUsed } : State).setVm s₂.vm).setTop { g with pc := g.pc + len₂, stack := v.toList ++ g.stack } := by
      refine e3.trans ?_
      rw [hf₂, State.calling_eq h.top, State.setFrames_setFrames, State.setTop_of_frames _ hr', hr]
      rfl
    have hsame : U.sameButNew ({ U with heap := s₂.heap, slotsUsed := s₂.slotsUsed } : State) L mc ms := by
      refine ⟨?_, q2, q3, q4, q5, q6⟩
      obtain ⟨t, ht, -⟩ := State.frames_cons hr
      show ({ U with heap := s₂.heap, slotsUsed := s₂.slotsUsed } : State) = { U.setFrames U.frames with heap := s₂.heap, slotsUsed := s₂.slotsUsed }
      rw [State.setFrames_self ht]
    subst hg
    refine Or.inl ⟨v, ⟨(({ U with heap := s₂.heap, slotsUsed := s₂.slotsUsed } : State).setVm s₂.vm), Ls ++ L, c0 + mc, s0 + ms⟩,
      ⟨X.admits, X.cas, X.clock, X.frames, X.room, X.hears, X.method, X.code, (X.here.setHeapUsed s₂.heap s₂.slotsUsed).setVm hW'.alike, X.tail, State.WarmedH.trans X.warmed hW', X.limits, X.bytes, X.same.trans (hsame.setVm s.vm)⟩,
      ⟨g, mk, s₂, L, rfl, rfl, hqc, rfl, hL, rfl, rfl⟩, ?_⟩
    show Steps p.tables e below _ ((({ U with heap := s₂.heap, slotsUsed := s₂.slotsUsed } : State).setVm s₂.vm).setTop { g with pc := g.pc + len₂, stack := v.toList ++ g.stack })
    rw [← hs₂]
    exact hsteps
  · obtain ⟨e2, q2, q3, q4, q5, q6⟩ := id hsm
    have e3 : s₂ = ({ (U.calling g mk a).setFrames s₂.frames with heap := s₂.heap, slotsUsed := s₂.slotsUsed } : State).setVm s₂.vm := by
      have : s₂ = ({ s₂ with vm := (U.calling g mk a).vm } : State).setVm s₂.vm := rfl
      rw [e2] at this
      exact this
    have hf₂ : s₂.frames = .throwing q :: .java g :: U.frames.tail := hend
    have hW' : U.WarmedH s₂.vm := hW₂
    have hs₂ : s₂ = ((({ U with heap := s₂.heap, slotsUsed := s₂.slotsUsed } : State).setVm s₂.vm).setTop g).pushFrame (.throwing q) := by
      refine e3.trans ?_
      rw [hf₂, State.calling_eq h.top, State.setFrames_setFrames, State.pushFrame, State.frames_setTop _ hr', State.setTop_of_frames _ hr', State.setFrames_setFrames, hr]
      rfl
    have hsame : U.sameButNew ({ U with heap := s₂.heap, slotsUsed := s₂.slotsUsed } : State) L mc ms := by
      refine ⟨?_, q2, q3, q4, q5, q6⟩
      obtain ⟨t, ht, -⟩ := State.frames_cons hr
      show ({ U with heap := s₂.heap, slotsUsed := s₂.slotsUsed } : State) = { U.setFrames U.frames with heap := s₂.heap, slotsUsed := s₂.slotsUsed }
      rw [State.setFrames_self ht]
    subst hg
    refine Or.inr ⟨q, ⟨(({ U with heap := s₂.heap, slotsUsed := s₂.slotsUsed } : State).setVm s₂.vm), Ls ++ L, c0 + mc, s0 + ms⟩,
      ⟨X.admits, X.cas, X.clock, X.frames, X.room, X.hears, X.method, X.code, (X.here.setHeapUsed s₂.heap s₂.slotsUsed).setVm hW'.alike, X.tail, State.WarmedH.trans X.warmed hW', X.limits, X.bytes, X.same.trans (hsame.setVm s.vm)⟩,
      ⟨g, mk, s₂, L, E, ce, rfl, rfl, hx, hce, hcv, hcl, rfl, hL, rfl, rfl⟩, ?_⟩
    show Steps p.tables e below _ (((({ U with heap := s₂.heap, slotsUsed := s₂.slotsUsed } : State).setVm s₂.vm).setTop g).pushFrame (.throwing q))
    rw [← hs₂]
    exact hsteps
end Payer
section Calls
variable {p : Program} {l : Launch} {e : Env} {R : Room} {s : State} {m : MethodId} {args : Array Value} {below : List Frame} {meth : Method} {c : Code} {T : State} {locs : List Loc} {cells slots : Nat}
theorem vx_callV (X : Stand p l e R s m args below meth c T locs cells slots) (hexec : p.tables.exec = Jvm.exec) {own C : String} {index : Nat} {y : MethodName} {bytes : ByteArray} {maxL : Nat} {ret : Option FieldType}
    (hown : s.vm.findClass own = some m.cls) (hlink : (Cond.methodLink own index y).before args s = true) (hinst : (Cond.instanceMethod y).before args s = true) (hsel : (Cond.selects C y y).before args s = true)
    (hcode : (Cond.code y bytes maxL ret).before args s = true) (hy : y.cls ≠ "java/lang/invoke/MethodHandle" ∧ y.cls ≠ "java/lang/invoke/VarHandle")
    {W9 : Nat} {Pre : Pt → Array Value → Prop} {Post : Pt → Array Value → Option Value → Pt → Prop} {PostX : Pt → Array Value → Addr → Pt → Prop} (hK : vx_Back l R p e below s args y 3 W9 Pre Post PostX)
    {b : Addr} {cellB : Cell} (hcell : T.heap[b]? = some cellB) (hobj : cellB.vm.isStatics = false) (hcls : s.vm.findClass C = some cellB.cls)
    {g : JFrame} (hg : g.method = m) (hsize : g.locals.size = c.maxLocals) {argsL rest : List Value} (hlen : ∀ sig, parseMethodDescriptor y.desc = some sig → argsL.length = sig.parameters.length)
    (hstack : g.stack = argsL.reverse ++ .ref b :: rest) (hW : 2 * g.monitorRoom + (rest.map fun v => v.category).sum ≤ W9) (hdg : decode c.code g.pc = .ok (.invokevirtual index, 3))
    (hpre : ∀ vm₁, s.WarmedH vm₁ → Pre ⟨T.setVm vm₁, locs, cells, slots⟩ (Value.ref b :: argsL).toArray) :
    (∃ (v : Option Value) (vm₁ : Vm) (B : Pt), s.WarmedH vm₁ ∧ Stand p l e R s m args below meth c B.U B.locs B.cells B.slots ∧ Post ⟨T.setVm vm₁, locs, cells, slots⟩ (Value.ref b :: argsL).toArray v B ∧
      ∀ target, Steps p.tables e below (B.U.setTop { g with pc := g.pc + 3, stack := v.toList ++ rest }) target → Steps p.tables e below (T.setTop g) target) ∨
    (∃ (q : Addr) (vm₁ : Vm) (B : Pt), s.WarmedH vm₁ ∧ Stand p l e R s m args below meth c B.U B.locs B.cells B.slots ∧ PostX ⟨T.setVm vm₁, locs, cells, slots⟩ (Value.ref b :: argsL).toArray q B ∧
      Steps p.tables e below (T.setTop g) ((B.U.setTop { g with stack := rest }).pushFrame (.throwing q))) := by
  obtain ⟨mk, methM, hnamed, hmethM, hstM, habM⟩ := Cond.instanceMethod_spec hinst
  obtain ⟨methM', cM, hmethM', -, -, -, -, -, -, hsigM⟩ := Cond.code_spec hnamed hcode
  cases hmethM.symm.trans hmethM'
  obtain ⟨c2, r2, m2, q1, q2, q3, q4, kP, hkP, hkPi⟩ := Cond.selects_spec hsel
  cases hcls.symm.trans q1
  cases (State.methodFound?_of_named hnamed hy).symm.trans q2
  cases hnamed.symm.trans q3
  have hselP : selectMethod e.platform s.vm cellB.cls mk = .method mk := by rw [Launch.admits_selectMethod X.admits]; exact q4
  obtain ⟨vm₁, X₁, hstep₁⟩ := X.invokevirtual hexec hown hlink hnamed hmethM hstM hkP hkPi hy (a := b) (cell := cellB) hcell
    (fun z h => by rw [h] at hobj; cases hobj) hselP hmethM habM hkP hkPi (g := g) hg (argsL := argsL) (rest := rest) (hlen _ hsigM) hstack hdg
  rcases hK m meth c ⟨T.setVm vm₁, locs, cells, slots⟩ { g with stack := rest } (.invokevirtual index) mk (Value.ref b :: argsL).toArray X₁ hg hsize hdg hW (X₁.named hnamed) (hpre vm₁ X₁.warmed) with ⟨v, B, X', hpost, hsteps⟩ | ⟨q, B, X', hpost, hsteps⟩
  · exact Or.inl ⟨v, vm₁, B, X₁.warmed, X', hpost, fun target h => hstep₁ _ fun acts => by rw [doInvoke_state]; exact hsteps.trans h⟩
  · exact Or.inr ⟨q, vm₁, B, X₁.warmed, X', hpost, hstep₁ _ fun acts => by rw [doInvoke_state]; exact hsteps⟩
theorem vx_callS (X : Stand p l e R s m args below meth c T locs cells slots) (hexec : p.tables.exec = Jvm.exec) {own : String} {index : Nat} {y : MethodName} {bytes : ByteArray} {maxL : Nat} {ret : Option FieldType}
    (hown : s.vm.findClass own = some m.cls) (hlink : (Cond.methodLink own index y).before args s = true) (hstat : (Cond.static y).before args s = true) (hinit : (Cond.initialized y.cls).before args s = true)
    (hcode : (Cond.code y bytes maxL ret).before args s = true) (hy : y.cls ≠ "java/lang/invoke/MethodHandle" ∧ y.cls ≠ "java/lang/invoke/VarHandle")
    {W9 : Nat} {Pre : Pt → Array Value → Prop} {Post : Pt → Array Value → Option Value → Pt → Prop} {PostX : Pt → Array Value → Addr → Pt → Prop} (hK : vx_Back l R p e below s args y 3 W9 Pre Post PostX)
    {g : JFrame} (hg : g.method = m) (hsize : g.locals.size = c.maxLocals) {argsL rest : List Value} (hlen : ∀ sig, parseMethodDescriptor y.desc = some sig → argsL.length = sig.parameters.length)
    (hstack : g.stack = argsL.reverse ++ rest) (hW : 2 * g.monitorRoom + (rest.map fun v => v.category).sum ≤ W9) (hdg : decode c.code g.pc = .ok (.invokestatic index, 3))
    (hpre : ∀ vm₁, s.WarmedH vm₁ → Pre ⟨T.setVm vm₁, locs, cells, slots⟩ argsL.toArray) :
    (∃ (v : Option Value) (vm₁ : Vm) (B : Pt), s.WarmedH vm₁ ∧ Stand p l e R s m args below meth c B.U B.locs B.cells B.slots ∧ Post ⟨T.setVm vm₁, locs, cells, slots⟩ argsL.toArray v B ∧
      ∀ target, Steps p.tables e below (B.U.setTop { g with pc := g.pc + 3, stack := v.toList ++ rest }) target → Steps p.tables e below (T.setTop g) target) ∨
    (∃ (q : Addr) (vm₁ : Vm) (B : Pt), s.WarmedH vm₁ ∧ Stand p l e R s m args below meth c B.U B.locs B.cells B.slots ∧ PostX ⟨T.setVm vm₁, locs, cells, slots⟩ argsL.toArray q B ∧
      Steps p.tables e below (T.setTop g) ((B.U.setTop { g with stack := rest }).pushFrame (.throwing q))) := by
  obtain ⟨mk, hnamed⟩ := Cond.code_named hcode
  obtain ⟨methM, cM, hmethM, -, -, -, -, -, -, hsigM⟩ := Cond.code_spec hnamed hcode
  have hstatic : methM.isStatic = true := Cond.static_spec hnamed hmethM hstat
  obtain ⟨kP, hkP, -⟩ := className_of_methodNamed hnamed
  have hinitP : kP.init = .initialized := Cond.initialized_spec (findClass_of_methodNamed hnamed) hkP hinit
  obtain ⟨vm₁, X₁, hstep₁⟩ := X.invokestatic hexec hown hlink hnamed hmethM hstatic hkP hinitP hy (g := g) hg (argsL := argsL) (rest := rest) (hlen _ hsigM) hstack hdg
  rcases hK m meth c ⟨T.setVm vm₁, locs, cells, slots⟩ { g with stack := rest } (.invokestatic index) mk argsL.toArray X₁ hg hsize hdg hW (X₁.named hnamed) (hpre vm₁ X₁.warmed) with ⟨v, B, X', hpost, hsteps⟩ | ⟨q, B, X', hpost, hsteps⟩
  · exact Or.inl ⟨v, vm₁, B, X₁.warmed, X', hpost, fun target h => hstep₁ _ fun acts => by rw [doInvoke_state]; exact hsteps.trans h⟩
  · exact Or.inr ⟨q, vm₁, B, X₁.warmed, X', hpost, hstep₁ _ fun acts => by rw [doInvoke_state]; exact hsteps⟩
end Calls
theorem vx_cls {s : State} {T : State} {vm₁ : Vm} {E : String} {k : ClassId} (hW : s.WarmedH vm₁) (h : (T.setVm vm₁).vm.findClass E = some k) : s.vm.findClass E = some k := by
  have h1 : vm₁.findClass E = some k := h
  rw [hW.alike.findClass] at h1
  exact h1
/-- the method's frame g, with q thrown over it -/
def vx_W (p : Program) (l : Launch) (e : Env) (R : Room) (s : State) (m : MethodId) (args : Array Value) (below : List Frame) (meth : Method) (c : Code) (H : Heap) (locs : List Loc) (cells slots : Nat) (Q : State → Prop) (g : JFrame) (q : Addr) : Prop :=
  ∀ T : State, T.heap = H → Stand p l e R s m args below meth c T locs cells slots → ∃ t, Steps p.tables e below ((T.setTop g).pushFrame (.throwing q)) t ∧ Q t
def vx_Run (p : Program) (l : Launch) (e : Env) (R : Room) (s : State) (m : MethodId) (args : Array Value) (below : List Frame) (meth : Method) (c : Code) (H : Heap) (locs : List Loc) (cells slots mc ms : Nat) (g : JFrame) (rest : List Value) (Qa : State → Outcome → State → Prop) (XC : String → State → State → Prop) (free : Addr → Prop) : Prop :=
  ∀ T : State, T.heap = H → Stand p l e R s m args below meth c T locs cells slots →
    (∃ (v : Option Value) (st₀ t T' : State) (L : List Loc), st₀.heap = H ∧ Stand p l e R s m args below meth c T' (locs ++ L) (cells + mc) (slots + ms) ∧ (∀ q ∈ L, free q.base) ∧ T'.heap = t.heap ∧ T'.vm = t.vm ∧ Qa st₀ (.returned v) t ∧
      Goes p e below T g T' { g with pc := g.pc + 3, stack := v.toList ++ rest }) ∨
    (∃ (q : Addr) (st₀ t T' : State) (L : List Loc) (E : String) (ce : Cell), st₀.heap = H ∧ Stand p l e R s m args below meth c T' (locs ++ L) (cells + mc) (slots + ms) ∧ (∀ z ∈ L, free z.base) ∧ T'.heap = t.heap ∧ T'.vm = t.vm ∧ XC E st₀ t ∧ t.heap[q]? = some ce ∧ ce.vm = .none ∧ s.vm.findClass E = some ce.cls ∧
      Steps p.tables e below (T.setTop g) ((T'.setTop { g with stack := rest }).pushFrame (.throwing q)))
def vx_X {S : Type} (px : S → Prop) (B : String → S → State → Prop) (A : Nat → Prop) : String → State → State → Prop := fun E st t => ∃ u : S, px u ∧ B E u t ∧ va_F A st t
section Runs
variable {p : Program} {l : Launch} {e : Env} {R : Room} {s : State} {m : MethodId} {args : Array Value} {below : List Frame} {meth : Method} {c : Code} {H : Heap} {locs : List Loc} {cells slots : Nat}
variable {y : MethodName} {bytes cc : ByteArray} {maxL nL mc ms n index : Nat} {ret : Option FieldType} {ws : List Cond} {rm : Room} {Pc : Array Value → State → Prop} {Qc : Array Value → State → Outcome → State → Prop} {XC : String → State → State → Prop} {free : Addr → Prop} {Ts : List Cond} {own C : String} {b : Addr} {As rest : List Value} {g : JFrame}
theorem vx_callBack (cb : CallB R s args own index y bytes maxL ret ws rm mc ms n) (hM : vx_Met l y ws rm Pc Qc XC mc ms free) (hbl : FrameBlind Pc) : vx_Back l R p e below s args y 3 8 (PreOf R mc ms Pc) (PostOf Qc mc ms free) (vx_Post XC mc ms free) := by
  obtain ⟨hrc, hrs, hfr, hlo, hws, hcw, -, hini, -⟩ := cb
  exact vx_back (bytes := bytes) (maxL := maxL) (ret := ret) hM hbl hrc hrs hfr hlo hws hcw (fun a' U hW => word_at hW (Or.inl (by first | rfl | simp [Cond.onTables, Cond.keeps, Cond.steady])) hini)
theorem vx_runV (S : CallFix p m c cc nL s args Ts own) (hM : vx_Met l y ws rm Pc Qc XC mc ms free) (cw : CallW R s args own C index y bytes maxL ret ws rm mc ms n) (hp : PreV s H C b Pc As)
    (hg : g.method = m) (hn : As.length = n) (hsize : g.locals.size = nL) (hstack : g.stack = As.reverse ++ .ref b :: rest) (hW : 2 * g.monitorRoom + (rest.map fun v => v.category).sum ≤ 8) (hdg : decode cc g.pc = .ok (.invokevirtual index, 3)) (hf : cells + mc ≤ R.cells ∧ slots + ms ≤ R.slots) :
    vx_Run p l e R s m args below meth c H locs cells slots mc ms g rest (Qc (Value.ref b :: As).toArray) XC free := by
  have hK : vx_Back l R p e below s args y 3 8 (PreOf R mc ms Pc) (PostOf Qc mc ms free) (vx_Post XC mc ms free) := vx_callBack cw.1 hM hp.1
  obtain ⟨⟨-, -, -, -, -, -, hcode, -, hy, hlen, hl⟩, hin, hse⟩ := cw
  obtain ⟨hx, hb, hml, ho, -⟩ := S
  obtain ⟨-, ⟨cellB, hcB, hoB, hclB⟩, hPc⟩ := hp
  intro T hT X
  rcases vx_callV X hx (C := C) (bytes := bytes) (maxL := maxL) (ret := ret) ho hl hin hse hcode hy hK (by rw [hT]; exact hcB) hoB hclB hg (hsize.trans hml.symm) (argsL := As) (rest := rest) (fun sig h => hn.trans (hlen sig h)) hstack hW (by rw [hb]; exact hdg)
    (fun vm₁ hW₁ => ⟨hf.1, hf.2, hPc (T.setVm vm₁) hT hW₁⟩) with ⟨v, vm₁, ⟨U', l2, c2, s2⟩, hW₁, X', ⟨g', mk, t, L, e1, e2, hq, h1, hL, h2, h3⟩, st⟩ | ⟨q, vm₁, ⟨U', l2, c2, s2⟩, hW₁, X', ⟨g', mk, t, L, E, ce, e1, e2, hq, hce, hcv, hcl, h1, hL, h2, h3⟩, st⟩
  · dsimp only [Pt.U, Pt.locs, Pt.cells, Pt.slots] at X' e1 e2 h1 h2 h3 st
    subst h1; subst h2; subst h3
    exact Or.inl ⟨v, (T.setVm vm₁).calling g' mk (Value.ref b :: As).toArray, t, U', L, hT, X', hL, e1, e2, hq, st⟩
  · dsimp only [Pt.U, Pt.locs, Pt.cells, Pt.slots] at X' e1 e2 h1 h2 h3 st hcl
    subst h1; subst h2; subst h3
    exact Or.inr ⟨q, (T.setVm vm₁).calling g' mk (Value.ref b :: As).toArray, t, U', L, E, ce, hT, X', hL, e1, e2, hq, hce, hcv, vx_cls hW₁ hcl, st⟩
theorem vx_runS (S : CallFix p m c cc nL s args Ts own) (hM : vx_Met l y ws rm Pc Qc XC mc ms free) (cw : CallB R s args own index y bytes maxL ret ws rm mc ms n ∧ (Cond.static y).before args s = true) (hp : PreS s H Pc As)
    (hg : g.method = m) (hn : As.length = n) (hsize : g.locals.size = nL) (hstack : g.stack = As.reverse ++ rest) (hW : 2 * g.monitorRoom + (rest.map fun v => v.category).sum ≤ 8) (hdg : decode cc g.pc = .ok (.invokestatic index, 3)) (hf : cells + mc ≤ R.cells ∧ slots + ms ≤ R.slots) :
    vx_Run p l e R s m args below meth c H locs cells slots mc ms g rest (Qc As.toArray) XC free := by
  have hK : vx_Back l R p e below s args y 3 8 (PreOf R mc ms Pc) (PostOf Qc mc ms free) (vx_Post XC mc ms free) := vx_callBack cw.1 hM hp.1
  obtain ⟨⟨-, -, -, -, -, -, hcode, hini, hy, hlen, hl⟩, hstt⟩ := cw
  obtain ⟨hx, hb, hml, ho, -⟩ := S
  intro T hT X
  rcases vx_callS X hx (bytes := bytes) (maxL := maxL) (ret := ret) ho hl hstt hini hcode hy hK hg (hsize.trans hml.symm) (argsL := As) (rest := rest) (fun sig h => hn.trans (hlen sig h)) hstack hW (by rw [hb]; exact hdg)
    (fun vm₁ hW₁ => ⟨hf.1, hf.2, hp.2 (T.setVm vm₁) hT hW₁⟩) with ⟨v, vm₁, ⟨U', l2, c2, s2⟩, hW₁, X', ⟨g', mk, t, L, e1, e2, hq, h1, hL, h2, h3⟩, st⟩ | ⟨q, vm₁, ⟨U', l2, c2, s2⟩, hW₁, X', ⟨g', mk, t, L, E, ce, e1, e2, hq, hce, hcv, hcl, h1, hL, h2, h3⟩, st⟩
  · dsimp only [Pt.U, Pt.locs, Pt.cells, Pt.slots] at X' e1 e2 h1 h2 h3 st
    subst h1; subst h2; subst h3
    exact Or.inl ⟨v, (T.setVm vm₁).calling g' mk As.toArray, t, U', L, hT, X', hL, e1, e2, hq, st⟩
  · dsimp only [Pt.U, Pt.locs, Pt.cells, Pt.slots] at X' e1 e2 h1 h2 h3 st hcl
    subst h1; subst h2; subst h3
    exact Or.inr ⟨q, (T.setVm vm₁).calling g' mk As.toArray, t, U', L, E, ce, hT, X', hL, e1, e2, hq, hce, hcv, vx_cls hW₁ hcl, st⟩
end Runs
section Rows
variable {p : Program} {l : Launch} {e : Env} {R : Room} {s : State} {m : MethodId} {args : Array Value} {below : List Frame} {meth : Method} {c : Code} {H : Heap} {locs : List Loc} {cells slots : Nat} {Q : State → Prop}
variable {mc ms : Nat} {free : Addr → Prop} {A0 A1 : Nat → Prop} {H0 : Heap} {a : Array Value} {pc : Nat} {ls : Array Slot} {st0 rest : List Value}
theorem vx_keep {st₀ t T' : State} {L : List Loc} (h0 : st₀.heap = H) (e1 : T'.heap = t.heap) (hS : va_S A0 H0 H locs) (hA : ∀ q, q < H.size → A1 q → A0 q) (hf : ∀ q, free q → A0 q) (hL : ∀ q ∈ L, free q.base) (hF : va_F A1 st₀ t) :
    H.size ≤ T'.heap.size ∧ (∀ q : Nat, q < H.size → ¬ A1 q → T'.heap[q]? = H[q]?) ∧ va_S A0 H0 T'.heap (locs ++ L) := by
  obtain ⟨hz, hk⟩ := hF
  rw [h0] at hz hk
  exact ⟨by rw [e1]; exact hz, fun q h1 h2 => by rw [e1]; exact hk q h1 h2,
    ⟨Nat.le_trans hS.1 (by rw [e1]; exact hz), fun q h1 h2 => by rw [e1, hk q (Nat.lt_of_lt_of_le h1 hS.1) (fun z => h2 (hA q (Nat.lt_of_lt_of_le h1 hS.1) z))]; exact hS.2.1 q h1 h2, fun q hq => by
      rcases List.mem_append.mp hq with h | h
      · exact hS.2.2 q h
      · exact hf _ (hL q h)⟩⟩
theorem vx_calli {S SX : Type} {post : Int32 → S → Prop} {px : SX → Prop} {B : S → State → Prop} {BX : String → SX → State → Prop} {AX : Nat → Prop} (hr : vx_Run p l e R s m args below meth c H locs cells slots mc ms (F0 m pc ls st0) rest (va_Qi post B A1 a) (vx_X px BX AX) free) (hS : va_S A0 H0 H locs) (hA : ∀ q, q < H.size → A1 q → A0 q) (hf : ∀ q, free q → A0 q) (hAX : ∀ q, q < H.size → AX q → A0 q)
    (kx : ∀ (E : String) (ce : Cell) (q9 : Addr) (u : SX) (t : State) (H1 : Heap) (locs1 : List Loc), t.heap = H1 → s.vm.Alike t.vm → px u → BX E u t → H.size ≤ H1.size → (∀ q : Nat, q < H.size → ¬ AX q → H1[q]? = H[q]?) → va_S A0 H0 H1 locs1 → H1[q9]? = some ce → ce.vm = .none → s.vm.findClass E = some ce.cls → vx_W p l e R s m args below meth c H1 locs1 (cells + mc) (slots + ms) Q (F0 m pc ls rest) q9)
    (kk : ∀ (r : Int32) (u : S) (t : State) (H1 : Heap) (locs1 : List Loc), t.heap = H1 → s.vm.Alike t.vm → post r u → B u t → H.size ≤ H1.size → (∀ q : Nat, q < H.size → ¬ A1 q → H1[q]? = H[q]?) → va_S A0 H0 H1 locs1 → W p l e R s m args below meth c H1 locs1 (cells + mc) (slots + ms) Q (F0 m (pc + 3) ls (.int r :: rest))) : W p l e R s m args below meth c H locs cells slots Q (F0 m pc ls st0) := by
  intro T hT X
  rcases hr T hT X with ⟨v, st₀, t, T', L, h0, X', hL, e1, e2, ⟨⟨r, u, hv, hp, hb⟩, hF⟩, st⟩ | ⟨q, st₀, t, T', L, E, ce, h0, X', hL, e1, e2, ⟨u, hp, hb, hF⟩, hce, hcv, hcl, st⟩
  · cases hv
    obtain ⟨k1, k2, k3⟩ := vx_keep h0 e1 hS hA hf hL hF
    obtain ⟨t2, a1, b1⟩ := kk r u t T'.heap (locs ++ L) e1.symm (by rw [← e2]; exact X'.warmed.alike) hp hb k1 k2 k3 T' rfl X'
    exact ⟨t2, st t2 a1, b1⟩
  · obtain ⟨k1, k2, k3⟩ := vx_keep h0 e1 hS hAX hf hL hF
    obtain ⟨t2, a1, b1⟩ := kx E ce q u t T'.heap (locs ++ L) e1.symm (by rw [← e2]; exact X'.warmed.alike) hp hb k1 k2 k3 (by rw [e1]; exact hce) hcv hcl T' rfl X'
    exact ⟨t2, st.trans a1, b1⟩
theorem vx_calll {S SX : Type} {post : Int64 → S → Prop} {px : SX → Prop} {B : S → State → Prop} {BX : String → SX → State → Prop} {AX : Nat → Prop} (hr : vx_Run p l e R s m args below meth c H locs cells slots mc ms (F0 m pc ls st0) rest (va_Ql post B A1 a) (vx_X px BX AX) free) (hS : va_S A0 H0 H locs) (hA : ∀ q, q < H.size → A1 q → A0 q) (hf : ∀ q, free q → A0 q) (hAX : ∀ q, q < H.size → AX q → A0 q)
    (kx : ∀ (E : String) (ce : Cell) (q9 : Addr) (u : SX) (t : State) (H1 : Heap) (locs1 : List Loc), t.heap = H1 → s.vm.Alike t.vm → px u → BX E u t → H.size ≤ H1.size → (∀ q : Nat, q < H.size → ¬ AX q → H1[q]? = H[q]?) → va_S A0 H0 H1 locs1 → H1[q9]? = some ce → ce.vm = .none → s.vm.findClass E = some ce.cls → vx_W p l e R s m args below meth c H1 locs1 (cells + mc) (slots + ms) Q (F0 m pc ls rest) q9)
    (kk : ∀ (r : Int64) (u : S) (t : State) (H1 : Heap) (locs1 : List Loc), t.heap = H1 → s.vm.Alike t.vm → post r u → B u t → H.size ≤ H1.size → (∀ q : Nat, q < H.size → ¬ A1 q → H1[q]? = H[q]?) → va_S A0 H0 H1 locs1 → W p l e R s m args below meth c H1 locs1 (cells + mc) (slots + ms) Q (F0 m (pc + 3) ls (.long r :: rest))) : W p l e R s m args below meth c H locs cells slots Q (F0 m pc ls st0) := by
  intro T hT X
  rcases hr T hT X with ⟨v, st₀, t, T', L, h0, X', hL, e1, e2, ⟨⟨r, u, hv, hp, hb⟩, hF⟩, st⟩ | ⟨q, st₀, t, T', L, E, ce, h0, X', hL, e1, e2, ⟨u, hp, hb, hF⟩, hce, hcv, hcl, st⟩
  · cases hv
    obtain ⟨k1, k2, k3⟩ := vx_keep h0 e1 hS hA hf hL hF
    obtain ⟨t2, a1, b1⟩ := kk r u t T'.heap (locs ++ L) e1.symm (by rw [← e2]; exact X'.warmed.alike) hp hb k1 k2 k3 T' rfl X'
    exact ⟨t2, st t2 a1, b1⟩
  · obtain ⟨k1, k2, k3⟩ := vx_keep h0 e1 hS hAX hf hL hF
    obtain ⟨t2, a1, b1⟩ := kx E ce q u t T'.heap (locs ++ L) e1.symm (by rw [← e2]; exact X'.warmed.alike) hp hb k1 k2 k3 (by rw [e1]; exact hce) hcv hcl T' rfl X'
    exact ⟨t2, st.trans a1, b1⟩
theorem vx_callf {S SX : Type} {post : UInt32 → S → Prop} {px : SX → Prop} {B : S → State → Prop} {BX : String → SX → State → Prop} {AX : Nat → Prop} (hr : vx_Run p l e R s m args below meth c H locs cells slots mc ms (F0 m pc ls st0) rest (va_Qf post B A1 a) (vx_X px BX AX) free) (hS : va_S A0 H0 H locs) (hA : ∀ q, q < H.size → A1 q → A0 q) (hf : ∀ q, free q → A0 q) (hAX : ∀ q, q < H.size → AX q → A0 q)
    (kx : ∀ (E : String) (ce : Cell) (q9 : Addr) (u : SX) (t : State) (H1 : Heap) (locs1 : List Loc), t.heap = H1 → s.vm.Alike t.vm → px u → BX E u t → H.size ≤ H1.size → (∀ q : Nat, q < H.size → ¬ AX q → H1[q]? = H[q]?) → va_S A0 H0 H1 locs1 → H1[q9]? = some ce → ce.vm = .none → s.vm.findClass E = some ce.cls → vx_W p l e R s m args below meth c H1 locs1 (cells + mc) (slots + ms) Q (F0 m pc ls rest) q9)
    (kk : ∀ (r : UInt32) (u : S) (t : State) (H1 : Heap) (locs1 : List Loc), t.heap = H1 → s.vm.Alike t.vm → post r u → B u t → H.size ≤ H1.size → (∀ q : Nat, q < H.size → ¬ A1 q → H1[q]? = H[q]?) → va_S A0 H0 H1 locs1 → W p l e R s m args below meth c H1 locs1 (cells + mc) (slots + ms) Q (F0 m (pc + 3) ls (.float r :: rest))) : W p l e R s m args below meth c H locs cells slots Q (F0 m pc ls st0) := by
  intro T hT X
  rcases hr T hT X with ⟨v, st₀, t, T', L, h0, X', hL, e1, e2, ⟨⟨r, u, hv, hp, hb⟩, hF⟩, st⟩ | ⟨q, st₀, t, T', L, E, ce, h0, X', hL, e1, e2, ⟨u, hp, hb, hF⟩, hce, hcv, hcl, st⟩
  · cases hv
    obtain ⟨k1, k2, k3⟩ := vx_keep h0 e1 hS hA hf hL hF
    obtain ⟨t2, a1, b1⟩ := kk r u t T'.heap (locs ++ L) e1.symm (by rw [← e2]; exact X'.warmed.alike) hp hb k1 k2 k3 T' rfl X'
    exact ⟨t2, st t2 a1, b1⟩
  · obtain ⟨k1, k2, k3⟩ := vx_keep h0 e1 hS hAX hf hL hF
    obtain ⟨t2, a1, b1⟩ := kx E ce q u t T'.heap (locs ++ L) e1.symm (by rw [← e2]; exact X'.warmed.alike) hp hb k1 k2 k3 (by rw [e1]; exact hce) hcv hcl T' rfl X'
    exact ⟨t2, st.trans a1, b1⟩
theorem vx_calld {S SX : Type} {post : UInt64 → S → Prop} {px : SX → Prop} {B : S → State → Prop} {BX : String → SX → State → Prop} {AX : Nat → Prop} (hr : vx_Run p l e R s m args below meth c H locs cells slots mc ms (F0 m pc ls st0) rest (va_Qd post B A1 a) (vx_X px BX AX) free) (hS : va_S A0 H0 H locs) (hA : ∀ q, q < H.size → A1 q → A0 q) (hf : ∀ q, free q → A0 q) (hAX : ∀ q, q < H.size → AX q → A0 q)
    (kx : ∀ (E : String) (ce : Cell) (q9 : Addr) (u : SX) (t : State) (H1 : Heap) (locs1 : List Loc), t.heap = H1 → s.vm.Alike t.vm → px u → BX E u t → H.size ≤ H1.size → (∀ q : Nat, q < H.size → ¬ AX q → H1[q]? = H[q]?) → va_S A0 H0 H1 locs1 → H1[q9]? = some ce → ce.vm = .none → s.vm.findClass E = some ce.cls → vx_W p l e R s m args below meth c H1 locs1 (cells + mc) (slots + ms) Q (F0 m pc ls rest) q9)
    (kk : ∀ (r : UInt64) (u : S) (t : State) (H1 : Heap) (locs1 : List Loc), t.heap = H1 → s.vm.Alike t.vm → post r u → B u t → H.size ≤ H1.size → (∀ q : Nat, q < H.size → ¬ A1 q → H1[q]? = H[q]?) → va_S A0 H0 H1 locs1 → W p l e R s m args below meth c H1 locs1 (cells + mc) (slots + ms) Q (F0 m (pc + 3) ls (.double r :: rest))) : W p l e R s m args below meth c H locs cells slots Q (F0 m pc ls st0) := by
  intro T hT X
  rcases hr T hT X with ⟨v, st₀, t, T', L, h0, X', hL, e1, e2, ⟨⟨r, u, hv, hp, hb⟩, hF⟩, st⟩ | ⟨q, st₀, t, T', L, E, ce, h0, X', hL, e1, e2, ⟨u, hp, hb, hF⟩, hce, hcv, hcl, st⟩
  · cases hv
    obtain ⟨k1, k2, k3⟩ := vx_keep h0 e1 hS hA hf hL hF
    obtain ⟨t2, a1, b1⟩ := kk r u t T'.heap (locs ++ L) e1.symm (by rw [← e2]; exact X'.warmed.alike) hp hb k1 k2 k3 T' rfl X'
    exact ⟨t2, st t2 a1, b1⟩
  · obtain ⟨k1, k2, k3⟩ := vx_keep h0 e1 hS hAX hf hL hF
    obtain ⟨t2, a1, b1⟩ := kx E ce q u t T'.heap (locs ++ L) e1.symm (by rw [← e2]; exact X'.warmed.alike) hp hb k1 k2 k3 (by rw [e1]; exact hce) hcv hcl T' rfl X'
    exact ⟨t2, st.trans a1, b1⟩
theorem vx_callv {S SX : Type} {post : S → Prop} {px : SX → Prop} {B : S → State → Prop} {BX : String → SX → State → Prop} {AX : Nat → Prop} (hr : vx_Run p l e R s m args below meth c H locs cells slots mc ms (F0 m pc ls st0) rest (va_Qv post B A1 a) (vx_X px BX AX) free) (hS : va_S A0 H0 H locs) (hA : ∀ q, q < H.size → A1 q → A0 q) (hf : ∀ q, free q → A0 q) (hAX : ∀ q, q < H.size → AX q → A0 q)
    (kx : ∀ (E : String) (ce : Cell) (q9 : Addr) (u : SX) (t : State) (H1 : Heap) (locs1 : List Loc), t.heap = H1 → s.vm.Alike t.vm → px u → BX E u t → H.size ≤ H1.size → (∀ q : Nat, q < H.size → ¬ AX q → H1[q]? = H[q]?) → va_S A0 H0 H1 locs1 → H1[q9]? = some ce → ce.vm = .none → s.vm.findClass E = some ce.cls → vx_W p l e R s m args below meth c H1 locs1 (cells + mc) (slots + ms) Q (F0 m pc ls rest) q9)
    (kk : ∀ (u : S) (t : State) (H1 : Heap) (locs1 : List Loc), t.heap = H1 → s.vm.Alike t.vm → post u → B u t → H.size ≤ H1.size → (∀ q : Nat, q < H.size → ¬ A1 q → H1[q]? = H[q]?) → va_S A0 H0 H1 locs1 → W p l e R s m args below meth c H1 locs1 (cells + mc) (slots + ms) Q (F0 m (pc + 3) ls (rest))) : W p l e R s m args below meth c H locs cells slots Q (F0 m pc ls st0) := by
  intro T hT X
  rcases hr T hT X with ⟨v, st₀, t, T', L, h0, X', hL, e1, e2, ⟨⟨u, hv, hp, hb⟩, hF⟩, st⟩ | ⟨q, st₀, t, T', L, E, ce, h0, X', hL, e1, e2, ⟨u, hp, hb, hF⟩, hce, hcv, hcl, st⟩
  · cases hv
    obtain ⟨k1, k2, k3⟩ := vx_keep h0 e1 hS hA hf hL hF
    obtain ⟨t2, a1, b1⟩ := kk u t T'.heap (locs ++ L) e1.symm (by rw [← e2]; exact X'.warmed.alike) hp hb k1 k2 k3 T' rfl X'
    exact ⟨t2, st t2 a1, b1⟩
  · obtain ⟨k1, k2, k3⟩ := vx_keep h0 e1 hS hAX hf hL hF
    obtain ⟨t2, a1, b1⟩ := kx E ce q u t T'.heap (locs ++ L) e1.symm (by rw [← e2]; exact X'.warmed.alike) hp hb k1 k2 k3 (by rw [e1]; exact hce) hcv hcl T' rfl X'
    exact ⟨t2, st.trans a1, b1⟩
/-- caught by the row x of this method's table; the rows ahead don't take it -/
theorem vx_catch {own name : String} {E : String} {ce : Cell} {q : Addr} (hown : s.vm.findClass own = some m.cls) (pre : List ExceptionTableEntry) (x : ExceptionTableEntry) (suf : List ExceptionTableEntry) (hsplit : c.exceptionTable.toList = pre ++ x :: suf)
    (hpass : ∀ z ∈ pre, covers z pc = false ∨ (z.catchType ≠ 0 ∧ ∃ nm : String, (Cond.classLink own z.catchType nm).before args s = true ∧ va_Nc E nm s)) (hx : covers x pc = true) (h0 : x.catchType ≠ 0)
    (hlink : (Cond.classLink own x.catchType name).before args s = true) (hcast : (Cond.castable E name).before args s = true) (hcell : H[q]? = some ce) (hv : ce.vm = .none) (hcl : s.vm.findClass E = some ce.cls)
    (kk : W p l e R s m args below meth c H locs cells slots Q (F0 m x.handlerPc ls [.ref q])) : vx_W p l e R s m args below meth c H locs cells slots Q (F0 m pc ls rest) q := by
  intro T hT X
  have hpl : e.platform.magicAccessors = ({} : Platform).magicAccessors := by rw [X.admits.platform]
  obtain ⟨c3, c4, hc3, hc4, hasg⟩ := Cond.castable_spec hcast
  cases Option.some.inj (hc3.symm.trans hcl)
  obtain ⟨c5, hc5, hcl5⟩ := Cond.classLink_spec hown hlink e.platform hpl
  cases Option.some.inj (hc4.symm.trans hc5)
  obtain ⟨vm', X', st⟩ := X.thenCaughtThrough q (g := F0 m pc ls rest) rfl (Steps.refl _) (by rw [hT]; exact hcell) (by rw [hv]; rfl) (by obtain ⟨k9, h9, -⟩ := Vm.findClass_spec hcl; exact ⟨k9, h9⟩) pre x suf hsplit
    (fun z hz => by
      rcases hpass z hz with h | ⟨hz0, nm, hl1, hn1⟩
      · exact Or.inl h
      · obtain ⟨c6, hc6, hcl6⟩ := Cond.classLink_spec hown hl1 e.platform hpl
        obtain ⟨a8, b8, h1, h2, h3⟩ := hn1
        cases Option.some.inj (h1.symm.trans hcl)
        cases Option.some.inj (h2.symm.trans hc6)
        exact Or.inr ⟨hz0, _, hcl6, h3⟩) hx (Or.inr ⟨h0, c4, hcl5, hasg⟩)
  obtain ⟨t, a1, b1⟩ := kk (T.setVm vm') hT X'
  exact ⟨t, st.trans a1, b1⟩
end Rows
section Ends
variable {p : Program} {l : Launch} {e : Env} {R : Room} {s : State} {m : MethodId} {args : Array Value} {below : List Frame} {meth : Method} {c : Code} {H : Heap} {locs : List Loc} {cells slots : Nat} {Q : State → Prop}
variable {mc ms : Nat} {free : Addr → Prop} {A0 A1 : Nat → Prop} {H0 : Heap} {a : Array Value} {ls : Array Slot} {st0 rest : List Value}
variable {Qc : Array Value → State → Outcome → State → Prop} {XC : String → State → State → Prop}
/-- what a body that may throw owes at its end -/
def vx_MQ (below : List Frame) (Qc : Array Value → State → Outcome → State → Prop) (XC : String → State → State → Prop) (a : Array Value) (s : State) (mc ms : Nat) (free : Addr → Prop) : State → Prop := fun t =>
  ∃ o, t.status = .running ∧ Ended t below o ∧ vx_Q Qc XC mc ms free a s o t
theorem vx_ret {g : JFrame} {mc ms : Nat} (k : W p l e R s m args below meth c H locs cells slots (MQ below Qc args s mc ms free) g) : W p l e R s m args below meth c H locs cells slots (vx_MQ below Qc XC args s mc ms free) g := by
  intro T hT X
  obtain ⟨t, a1, o, b1, b2, b3, b4⟩ := k T hT X
  exact ⟨t, a1, o, b1, b2, Or.inl ⟨b3, b4⟩⟩
/-- not caught here: it goes on to the caller -/
theorem vx_widen {g : JFrame} {q : Addr} {k n : Nat} (h1 : cells ≤ k) (h2 : slots ≤ n) (kk : vx_W p l e R s m args below meth c H locs k n Q g q) : vx_W p l e R s m args below meth c H locs cells slots Q g q := fun T hT X => kk T hT (stand_widen X h1 h2)
theorem vx_out {pc : Nat} {E : String} {ce : Cell} {q : Addr} {mc ms : Nat} (hout : ∀ x ∈ c.exceptionTable.toList, covers x pc = false) (hlocks : meth.locks = false) (hcell : H[q]? = some ce) (hv : ce.vm = .none) (hcl : s.vm.findClass E = some ce.cls)
    (hx : ∀ t : State, t.heap = H → s.vm.Alike t.vm → XC E s t) (hf : ∀ z ∈ locs, free z.base) (hc : cells ≤ mc) (hs : slots ≤ ms) :
    vx_W p l e R s m args below meth c H locs cells slots (vx_MQ below Qc XC args s mc ms free) (F0 m pc ls rest) q := by
  intro T hT X
  obtain ⟨st1, hrun, hend, hW, hsm⟩ := X.leaveThrown q (g := F0 m pc ls rest) rfl rfl rfl hout hlocks
  have hcell9 : (T.setFrames (.throwing q :: below)).heap[q]? = some ce := by
    show T.heap[q]? = some ce
    rw [hT]; exact hcell
  exact ⟨_, st1, .threw q, hrun, hend, Or.inr ⟨q, rfl, E, ce, locs, hx _ hT hW.alike, hcell9, hv, hcl, hW, hsm.mono hc hs, hf⟩⟩
theorem vx_frame {U : State} {k n : Nat} (h : s.sameButNew ({ U with vm := s.vm } : State) locs k n) : s.heap.size ≤ U.heap.size ∧ ∀ q : Nat, q < s.heap.size → (∀ z ∈ locs, z.base ≠ q) → U.heap[q]? = s.heap[q]? := by
  obtain ⟨-, h2, -, -, -, h6⟩ := h
  refine ⟨h2, fun q hq hz => ?_⟩
  obtain ⟨c9, e1, e2, e3, e4⟩ := h6 q _ (Array.getElem?_eq_getElem hq)
  have hs : c9.slots = (s.heap[q]).slots := Array.ext_getElem? fun i => e4 i fun hm => hz _ hm rfl
  have h9 : c9 = s.heap[q] := by
    rw [hs] at e2
    exact e2
  have e5 : U.heap[q]? = some c9 := e1
  rw [e5, h9, Array.getElem?_eq_getElem hq]
/-- the words of a throw but the four that speak of the heap -/
def vx_no (w : Cond) : Bool := decide (w ≠ .isRef (.static Bundle.tN "UNASSIGNED_STACK" Bundle.steD)) && decide (w ≠ .isRef (.static Bundle.tN "SUPPRESSED_SENTINEL" Bundle.listD)) && decide (w ≠ .laysStatic Bundle.tN "UNASSIGNED_STACK" Bundle.steD) && decide (w ≠ .laysStatic Bundle.tN "SUPPRESSED_SENTINEL" Bundle.listD)
def vx_at0 (own : String) (ic : Nat) (X : String) (names : List String) : List Cond := (Bundle.ownAtoms0 own ic X names).filter vx_no
def vx_atS (own : String) (ic : Nat) (X : String) (names : List String) : List Cond := (Bundle.ownAtoms own ic X names).filter vx_no
/-- a word that the tables alone decide, or a good one -/
def vx_ot (w : Cond) : Bool := w.onTables || goodWord w
theorem vx_ot_at {args a' : Array Value} {s U : State} {w : Cond} (hW : s.WarmedH U.vm) (hvm : s.vm = U.vm) (hg : vx_ot w = true) (h : w.before args s = true) : w.before a' U = true := by
  simp only [vx_ot, Bool.or_eq_true] at hg
  rcases hg with hg | hg
  · exact va_tabs hg hvm h
  · exact word_at hW (good_of_word hg) h
/-- a list's words: the good ones out of the method's own list, the others by premises of their own -/
theorem vx_hat {args : Array Value} {s : State} {L B : List Cond} (h1 : ∀ w ∈ L.filter goodWord, w.before args s = true) (h2 : ∀ w ∈ L.filter (fun w => !goodWord w), w ∈ B) (h3 : ∀ w ∈ B, w.before args s = true) : ∀ w ∈ L, w.before args s = true := by
  intro w hw
  by_cases g : goodWord w = true
  · exact h1 w (List.mem_filter.mpr ⟨hw, g⟩)
  · refine h3 w (h2 w (List.mem_filter.mpr ⟨hw, ?_⟩))
    show (!goodWord w) = true
    cases hgw : goodWord w
    · rfl
    · exact absurd hgw g
theorem vx_c {args : Array Value} {s : State} {w : Cond} {B : List Cond} (h : w.before args s = true) (t : ∀ w ∈ B, w.before args s = true) : ∀ w' ∈ w :: B, w'.before args s = true := fun w' h' => (List.mem_cons.mp h').elim (fun e => by rw [e]; exact h) (t w')
theorem vx_n {args : Array Value} {s : State} : ∀ w ∈ ([] : List Cond), w.before args s = true := fun _ h => nomatch h
theorem vx_own {args : Array Value} {s : State} {L : List Cond} (h1 : ∀ w ∈ L.filter vx_no, w.before args s = true)
    (hU : (Cond.isRef (.static Bundle.tN "UNASSIGNED_STACK" Bundle.steD)).before args s = true) (hN : (Cond.isRef (.static Bundle.tN "SUPPRESSED_SENTINEL" Bundle.listD)).before args s = true)
    (lU : (Cond.laysStatic Bundle.tN "UNASSIGNED_STACK" Bundle.steD).before args s = true) (lN : (Cond.laysStatic Bundle.tN "SUPPRESSED_SENTINEL" Bundle.listD).before args s = true) : ∀ w ∈ L, w.before args s = true := by
  intro w hw
  by_cases e1 : w = .isRef (.static Bundle.tN "UNASSIGNED_STACK" Bundle.steD)
  · rw [e1]; exact hU
  · by_cases e2 : w = .isRef (.static Bundle.tN "SUPPRESSED_SENTINEL" Bundle.listD)
    · rw [e2]; exact hN
    · by_cases e3 : w = .laysStatic Bundle.tN "UNASSIGNED_STACK" Bundle.steD
      · rw [e3]; exact lU
      · by_cases e4 : w = .laysStatic Bundle.tN "SUPPRESSED_SENTINEL" Bundle.listD
        · rw [e4]; exact lN
        · exact h1 w (List.mem_filter.mpr ⟨hw, by unfold vx_no; rw [decide_eq_true e1, decide_eq_true e2, decide_eq_true e3, decide_eq_true e4]; rfl⟩)
/-- where a static field lies, its class's statics cell in H -/
def vx_L (C n d : String) (A : Nat → Prop) (U : State) (H : Heap) : Prop := ∃ (c : ClassId) (k : Class) (i : Nat) (f : Field) (a : Nat) (cell : Cell), U.vm.findClass C = some c ∧ U.fieldFound? C n d = some (c, k, i, f) ∧ f.isStatic = true ∧ k.statics = some a ∧ H[a]? = some cell ∧ cell.vm.isStatics = true ∧ cell.cls = c ∧ f.slot < cell.slots.size ∧ k.staticTypes[f.slot]? = some f.type ∧ ¬ A a
theorem vx_L.moved {C n d : String} {A : Nat → Prop} {u U : State} {H : Heap} (hvm : u.vm.Alike U.vm) (h : vx_L C n d A u H) : vx_L C n d A U H := by
  obtain ⟨c, k, i, f, a, cell, h1, h2, h3, h4, h5, h6, h7, h8, h9, h10⟩ := h
  obtain ⟨k', hi', he⟩ := State.fieldFound?_setVm hvm h2
  exact ⟨c, k', i, f, a, cell, by rw [hvm.findClass]; exact h1, hi', h3, by rw [he]; exact h4, h5, h6, h7, h8, by rw [he]; exact h9, h10⟩
theorem vx_L.kept {C n d : String} {A : Nat → Prop} {U : State} {H H1 : Heap} (h : vx_L C n d A U H) (hq : ∀ a : Nat, a < H.size → ¬ A a → H1[a]? = H[a]?) : vx_L C n d A U H1 := by
  obtain ⟨c, k, i, f, a, cell, h1, h2, h3, h4, h5, h6, h7, h8, h9, h10⟩ := h
  exact ⟨c, k, i, f, a, cell, h1, h2, h3, h4, by rw [hq a (Array.getElem?_eq_some_iff.mp h5).1 h10]; exact h5, h6, h7, h8, h9, h10⟩
theorem vx_L.narrow {C n d : String} {A B : Nat → Prop} {U : State} {H : Heap} (h : vx_L C n d A U H) (hAB : ∀ q, B q → A q) : vx_L C n d B U H := by
  obtain ⟨c, k, i, f, a, cell, h1, h2, h3, h4, h5, h6, h7, h8, h9, h10⟩ := h
  exact ⟨c, k, i, f, a, cell, h1, h2, h3, h4, h5, h6, h7, h8, h9, fun z => h10 (hAB _ z)⟩
theorem vx_L.word {C n d : String} {A : Nat → Prop} {s : State} {args : Array Value} (h : vx_L C n d A s s.heap) : (Cond.laysStatic C n d).before args s = true := by
  obtain ⟨c, k, i, f, a, cell, h1, h2, h3, h4, h5, h6, h7, h8, h9, -⟩ := h
  show (Cond.laysStatic C n d).holds args s none s [] = true
  exact Cond.laysStatic_of h1 h2 h3 h4 h5 h6 h7 h8 h9
/-- .. and what it holds: null or some reference -/
def vx_Zq (C n d : String) (A : Nat → Prop) (U : State) (H : Heap) : Prop := va_Zq C n d A U H ∧ vx_L C n d A U H
theorem vx_Zq.moved {C n d : String} {A : Nat → Prop} {u U : State} {H : Heap} (hvm : u.vm.Alike U.vm) (h : vx_Zq C n d A u H) : vx_Zq C n d A U H := ⟨va_Zq.moved hvm h.1, vx_L.moved hvm h.2⟩
theorem vx_Zq.kept {C n d : String} {A : Nat → Prop} {U : State} {H H1 : Heap} (h : vx_Zq C n d A U H) (hq : ∀ a : Nat, a < H.size → ¬ A a → H1[a]? = H[a]?) : vx_Zq C n d A U H1 := ⟨va_Zq.kept h.1 hq, vx_L.kept h.2 hq⟩
theorem vx_Zq.narrow {C n d : String} {A B : Nat → Prop} {U : State} {H : Heap} (h : vx_Zq C n d A U H) (hAB : ∀ q, B q → A q) : vx_Zq C n d B U H := ⟨va_Zq.narrow h.1 hAB, vx_L.narrow h.2 hAB⟩
theorem vx_Zqof {args : Array Value} {s : State} {C n d : String} {A : Nat → Prop} (hl : (Cond.laysStatic C n d).before args s = true) (hini : (Cond.initialized C).before args s = true) (h : (Cond.isRef (.static C n d)).before args s = true) (hA : ∀ a : Nat, a < s.heap.size → ¬ A a) : vx_Zq C n d A s s.heap := by
  refine ⟨va_Zqof hl hini h hA, ?_⟩
  obtain ⟨c, k, i, f, a, cell, h1, h2, h3, h4, h5, h6, h7, h8, h9⟩ := Cond.laysStatic_spec hl
  exact ⟨c, k, i, f, a, cell, h1, h2, h3, h4, h5, h6, h7, h8, h9, hA a (Array.getElem?_eq_some_iff.mp h5).1⟩
theorem vx_isRef {C n d : String} {v : Value} {A : Nat → Prop} {s : State} {args : Array Value} (h : va_Z C n d v A s s.heap) (hv : v.isRef = true) : (Cond.isRef (.static C n d)).before args s = true := by
  obtain ⟨cf, kf, fi, f, a, cell, h1, h2, h3, h4, h5, h6, h7, -⟩ := h
  have he : (Term.static C n d).eval args s none [] s = some v := by
    simp [Term.eval, State.fieldNamed?, h1, h2, h4, h5, h6, h7]
  simp only [Cond.before, Cond.holds, Cond.value, he]
  cases v <;> simp_all [Value.isRef]
theorem vx_isRefq {C n d : String} {A : Nat → Prop} {s : State} {args : Array Value} (h : va_Zq C n d A s s.heap) : (Cond.isRef (.static C n d)).before args s = true := by
  rcases h with h | ⟨t, h⟩
  · exact vx_isRef h rfl
  · exact vx_isRef h rfl
/-- the same frame, seen from here: as if the method were called anew in this heap -/
theorem vx_rebase {T : State} (X : Stand p l e R s m args below meth c T locs cells slots) {R' : Room} (hf : R'.frames ≤ R.frames) (hl : R'.locals ≤ R.locals) (hc : cells + R'.cells ≤ R.cells) (hs : slots + R'.slots ≤ R.slots) :
    Stand p l e R' ((T.setVm s.vm).setFrames (.invoking m args :: below)) m args below meth c T [] 0 0 := by
  have htop : (T.setVm s.vm).topJava?.isSome := X.here.top
  have hF : ((T.setVm s.vm).setFrames (.invoking m args :: below)).frames = .invoking m args :: below := State.frames_setFrames _ (State.cur_lt_of_top htop)
  obtain ⟨g₀, hg0⟩ := Option.isSome_iff_exists.mp htop
  obtain ⟨r, hr⟩ := State.topJava?_eq_some.mp hg0
  have hl9 : e.platform.stackLimits (T.setVm s.vm).me = e.platform.stackLimits s.me := X.limits
  have hb9 : (T.setVm s.vm).me.stackBytes = s.me.stackBytes := X.bytes
  refine ⟨X.admits, X.cas, X.clock, hF, ?_, X.hears, X.method, X.code, X.here, X.tail, X.warmed, ?_, ?_, ?_⟩
  · have h := X.room
    have hU : ((T.setVm s.vm).setFrames (.invoking m args :: below)).localsInUse = s.localsInUse := by
      rw [State.localsInUse_invoking hF (meth := meth) (c := c) X.method X.code, State.localsInUse_invoking X.frames X.method X.code]
    simp only [State.hasRoom, Bool.and_eq_true, decide_eq_true_eq] at h ⊢
    obtain ⟨⟨⟨⟨h1, h2, h3, h4, h5, h6⟩, h7⟩, h8⟩, h9⟩ := h
    rw [X.frames, List.length_cons] at h2 h3
    have q1 := X.heapSize
    have q2 := X.used
    simp only [hF, hU, List.length_cons, State.stackLimits_setFrames, State.stackBytes_setFrames, hl9, hb9]
    refine ⟨⟨⟨⟨by omega, by omega, by omega, by omega, by omega, h6⟩, ?_⟩, ?_⟩, X.book⟩
    · show T.heap.size + R'.cells ≤ e.platform.maxCells
      omega
    · show T.slotsUsed + R'.slots ≤ e.platform.maxSlots
      omega
  · rw [State.stackLimits_setFrames]; rfl
  · rw [State.stackBytes_setFrames]; rfl
  · refine ⟨?_, Nat.le_refl _, Nat.le_refl _, ?_, ?_, fun a c9 h9 => ⟨c9, h9, rfl, rfl, fun _ _ => rfl⟩⟩
    · obtain ⟨t, ht, -⟩ := State.frames_cons hr
      show T.setVm s.vm = { ((T.setVm s.vm).setFrames (.invoking m args :: below)).setFrames (T.setVm s.vm).frames with heap := T.heap, slotsUsed := T.slotsUsed }
      rw [State.setFrames_setFrames, State.setFrames_self ht]
      rfl
    · show T.slotsUsed = T.slotsUsed + ((T.heap.toList.drop T.heap.size).map (·.slots.size)).sum
      rw [List.drop_eq_nil_of_le (Nat.le_of_eq Array.length_toList)]
      rfl
    · show ((T.heap.toList.drop T.heap.size).map (·.slots.size)).sum ≤ 0
      rw [List.drop_eq_nil_of_le (Nat.le_of_eq Array.length_toList)]
      exact Nat.le_refl _
/-- 'throw new E()': new; dup; invokespecial; athrow -/
theorem vx_throw0 {cc : ByteArray} {pc : Nat} (hexec : p.tables.exec = Jvm.exec) (hb : c.code = cc) (hl : l.stackTraces = false) {own cls : String} {names : List String} {ik ic mc ms : Nat} {A : Nat → Prop}
    (hown : s.vm.findClass own = some m.cls) (hcls : Bundle.fit cls = true) (hnames : ∀ n ∈ names, Bundle.fit n = true)
    (hk : (Cond.classLink own ik cls).before args s = true) (hini : (Cond.initialized cls).before args s = true) (hat : ∀ w ∈ vx_at0 own ic cls names, w.before args s = true)
    (hgood : ∀ w ∈ Cond.classLink own ik cls :: Cond.initialized cls :: vx_at0 own ic cls names, vx_ot w = true)
    (hU : vx_Zq Bundle.tN "UNASSIGNED_STACK" Bundle.steD A s s.heap) (hN : vx_Zq Bundle.tN "SUPPRESSED_SENTINEL" Bundle.listD A s s.heap) (hS : va_S A s.heap H locs) (hsize : ls.size = c.maxLocals)
    (d0 : decode cc pc = .ok (.new ik, 3)) (d3 : decode cc (pc + 3) = .ok (.dup, 1)) (d4 : decode cc (pc + 4) = .ok (.invokespecial ic, 3)) (d7 : decode cc (pc + 7) = .ok (.athrow, 1))
    (hout : ∀ x ∈ c.exceptionTable.toList, covers x (pc + 7) = false)
    (hRframes : names.length + 3 < R.frames) (hRlocals : (rest.map fun v => v.category).sum + (13 * (names.length + 1) + 42) ≤ R.locals) (hRcells : cells + 1 ≤ R.cells) (hRslots : slots + 6 ≤ R.slots) (hlocks : meth.locks = false)
    (hx : ∀ t : State, s.vm.Alike t.vm → H.size ≤ t.heap.size → (∀ q : Nat, q < H.size → t.heap[q]? = H[q]?) → XC cls s t)
    (hf : ∀ z ∈ locs, free z.base) (hc : cells + 1 ≤ mc) (hs : slots + 6 ≤ ms) :
    W p l e R s m args below meth c H locs cells slots (vx_MQ below Qc XC args s mc ms free) (F0 m pc ls rest) := by
  intro T hT X
  have htr : e.platform.stackTraces = false := (show e.platform.stackTraces = l.stackTraces by rw [X.admits.platform]).trans hl
  have Y := vx_rebase X (R' := { frames := R.frames, locals := R.locals, cells := 1, slots := 6 }) (Nat.le_refl _) (Nat.le_refl _) hRcells hRslots
  obtain ⟨s', hA⟩ : ∃ z, z = (T.setVm s.vm).setFrames (.invoking m args :: below) := ⟨_, rfl⟩
  rw [← hA] at Y
  have hvm : s'.vm = s.vm := by rw [hA]; rfl
  have hhp : s'.heap = H := by rw [hA]; exact hT
  have hW0 : s.WarmedH s'.vm := by rw [hvm]; exact State.WarmedH.refl s
  have hat' : ∀ w ∈ vx_at0 own ic cls names, w.before args s' = true := fun w hw => vx_ot_at hW0 hvm.symm (hgood w (List.mem_cons_of_mem _ (List.mem_cons_of_mem _ hw))) (hat w hw)
  have hk' : (Cond.classLink own ik cls).before args s' = true := vx_ot_at hW0 hvm.symm (hgood _ List.mem_cons_self) hk
  have hini' : (Cond.initialized cls).before args s' = true := vx_ot_at hW0 hvm.symm (hgood _ (List.mem_cons_of_mem _ List.mem_cons_self)) hini
  have hU' : vx_Zq Bundle.tN "UNASSIGNED_STACK" Bundle.steD A s' s'.heap := by rw [hhp]; exact vx_Zq.moved hW0.alike (hU.kept hS.2.1)
  have hN' : vx_Zq Bundle.tN "SUPPRESSED_SENTINEL" Bundle.listD A s' s'.heap := by rw [hhp]; exact vx_Zq.moved hW0.alike (hN.kept hS.2.1)
  have h : ∀ w ∈ Bundle.ownAtoms0 own ic cls names, w.before args s' = true := vx_own hat' (vx_isRefq hU'.1) (vx_isRefq hN'.1) hU'.2.word hN'.2.word
  have hown' : s'.vm.findClass own = some m.cls := by rw [hvm]; exact hown
  have hins : (Cond.instantiable cls 6).before args s' = true := h _ (by simp [Bundle.ownAtoms0])
  obtain ⟨vm₁, cX, kX, hfX, hkX, -, -, X₁, st1⟩ := Y.newCold hexec (own := own) (C := cls) (index := ik) (n := 6) hown' hk' hins hini'
    (g := F0 m pc ls rest) rfl (by rw [hb]; exact d0) (Nat.le_refl _) (Nat.le_refl _)
  generalize hT1 : (T.setVm vm₁).pushCell { cls := cX, slots := kX.instanceTypes.map defaultValue, vm := .none } = T1 at X₁ st1
  have hcat : (Value.ref T.heap.size).category = 1 := rfl
  have hcellA : T1.heap[T.heap.size]? = some (freshCell cX kX) := by rw [← hT1]; exact State.heap_pushCell_size _ _
  have d3' : decode c.code (pc + 3) = .ok (.dup, 1) := by rw [hb]; exact d3
  obtain ⟨U, hsteps, hrun, hend, hW, hsame, ce, hce, hO⟩ := X₁.ctorThrow0 hexec htr (own := own) (cls := cls) (names := names) (ic := ic) hown' hcls hnames h (fun x hx => nomatch hx) hfX hkX hcellA (by rw [hhp, hT]; exact Nat.le_refl _)
    (g := { method := m, pc := pc + 4, locals := ls, stack := .ref T.heap.size :: .ref T.heap.size :: rest, locked := none }) rfl hsize rfl rfl (rest := rest) rfl
    (by rw [hb]; exact d4) (by rw [hb]; exact d7) hout hRframes (by simp only [List.map_cons, List.sum_cons, hcat]; omega) hlocks
  obtain ⟨f1, f2⟩ := vx_frame hsame
  rw [hhp] at f1 f2
  have hWs : s.WarmedH U.vm := State.WarmedH.trans hW0 hW
  have hcl : s.vm.findClass cls = some ce.cls := by
    have h9 := hO.cls
    rw [hvm] at h9
    exact h9
  have hall : s.sameButNew ({ U with vm := s.vm } : State) locs mc ms := by
    subst hA
    obtain ⟨e1, e2⟩ := hsame
    rw [State.setFrames_setFrames] at e1
    have h2 : (T.setVm s.vm).sameButNew ({ U with vm := s.vm } : State) [] (0 + 1) (0 + 6) := ⟨e1, e2⟩
    have h3 := X.same.trans h2
    rw [List.append_nil] at h3
    exact h3.mono hc hs
  refine ⟨U, ?_, .threw T.heap.size, hrun, hend, Or.inr ⟨T.heap.size, rfl, cls, ce, locs, hx U hWs.alike f1 (fun q hq => f2 q hq (fun z hz => nomatch hz)), hce, hO.vm, hcl, hWs, hall, hf⟩⟩
  refine st1 _ ?_
  show Steps p.tables e below (T1.setTop { method := m, pc := pc + 3, locals := ls, stack := .ref T.heap.size :: rest, locked := none }) _
  jvm_step X₁.here [X₁.here.top, hexec, d3', Value.category]
  exact hsteps
/-- 'throw new E("text")': new; dup; ldc; invokespecial; athrow -/
theorem vx_throwS {cc : ByteArray} {pc : Nat} (hexec : p.tables.exec = Jvm.exec) (hb : c.code = cc) (hl : l.stackTraces = false) {own cls text : String} {names : List String} {ik is ic mc ms sa : Nat} {A : Nat → Prop}
    (hown : s.vm.findClass own = some m.cls) (hcls : Bundle.fit cls = true) (hnames : ∀ n ∈ names, Bundle.fit n = true)
    (hk : (Cond.classLink own ik cls).before args s = true) (hini : (Cond.initialized cls).before args s = true) (hstr : vk_R own is text sa s) (hat : ∀ w ∈ vx_atS own ic cls names, w.before args s = true)
    (hgood : ∀ w ∈ Cond.classLink own ik cls :: Cond.initialized cls :: vx_atS own ic cls names, vx_ot w = true)
    (hU : vx_Zq Bundle.tN "UNASSIGNED_STACK" Bundle.steD A s s.heap) (hN : vx_Zq Bundle.tN "SUPPRESSED_SENTINEL" Bundle.listD A s s.heap) (hS : va_S A s.heap H locs) (hsize : ls.size = c.maxLocals)
    (d0 : decode cc pc = .ok (.new ik, 3)) (d3 : decode cc (pc + 3) = .ok (.dup, 1)) (d4 : decode cc (pc + 4) = .ok (.ldc is, 2)) (d6 : decode cc (pc + 6) = .ok (.invokespecial ic, 3)) (d9 : decode cc (pc + 9) = .ok (.athrow, 1))
    (hout : ∀ x ∈ c.exceptionTable.toList, covers x (pc + 9) = false)
    (hRframes : names.length + 3 < R.frames) (hRlocals : (rest.map fun v => v.category).sum + (13 * (names.length + 1) + 43) ≤ R.locals) (hRcells : cells + 1 ≤ R.cells) (hRslots : slots + 6 ≤ R.slots) (hlocks : meth.locks = false)
    (hx : ∀ t : State, s.vm.Alike t.vm → H.size ≤ t.heap.size → (∀ q : Nat, q < H.size → t.heap[q]? = H[q]?) → XC cls s t)
    (hf : ∀ z ∈ locs, free z.base) (hc : cells + 1 ≤ mc) (hs : slots + 6 ≤ ms) :
    W p l e R s m args below meth c H locs cells slots (vx_MQ below Qc XC args s mc ms free) (F0 m pc ls rest) := by
  intro T hT X
  have htr : e.platform.stackTraces = false := (show e.platform.stackTraces = l.stackTraces by rw [X.admits.platform]).trans hl
  have Y := vx_rebase X (R' := { frames := R.frames, locals := R.locals, cells := 1, slots := 6 }) (Nat.le_refl _) (Nat.le_refl _) hRcells hRslots
  obtain ⟨s', hA⟩ : ∃ z, z = (T.setVm s.vm).setFrames (.invoking m args :: below) := ⟨_, rfl⟩
  rw [← hA] at Y
  have hvm : s'.vm = s.vm := by rw [hA]; rfl
  have hhp : s'.heap = H := by rw [hA]; exact hT
  have hW0 : s.WarmedH s'.vm := by rw [hvm]; exact State.WarmedH.refl s
  have hat' : ∀ w ∈ vx_atS own ic cls names, w.before args s' = true := fun w hw => vx_ot_at hW0 hvm.symm (hgood w (List.mem_cons_of_mem _ (List.mem_cons_of_mem _ hw))) (hat w hw)
  have hk' : (Cond.classLink own ik cls).before args s' = true := vx_ot_at hW0 hvm.symm (hgood _ List.mem_cons_self) hk
  have hini' : (Cond.initialized cls).before args s' = true := vx_ot_at hW0 hvm.symm (hgood _ (List.mem_cons_of_mem _ List.mem_cons_self)) hini
  have hU' : vx_Zq Bundle.tN "UNASSIGNED_STACK" Bundle.steD A s' s'.heap := by rw [hhp]; exact vx_Zq.moved hW0.alike (hU.kept hS.2.1)
  have hN' : vx_Zq Bundle.tN "SUPPRESSED_SENTINEL" Bundle.listD A s' s'.heap := by rw [hhp]; exact vx_Zq.moved hW0.alike (hN.kept hS.2.1)
  have h : ∀ w ∈ Bundle.ownAtoms own ic cls names, w.before args s' = true := vx_own hat' (vx_isRefq hU'.1) (vx_isRefq hN'.1) hU'.2.word hN'.2.word
  have hown' : s'.vm.findClass own = some m.cls := by rw [hvm]; exact hown
  have hins : (Cond.instantiable cls 6).before args s' = true := h _ (by simp [Bundle.ownAtoms])
  obtain ⟨vm₁, cX, kX, hfX, hkX, -, -, X₁, st1⟩ := Y.newCold hexec (own := own) (C := cls) (index := ik) (n := 6) hown' hk' hins hini'
    (g := F0 m pc ls rest) rfl (by rw [hb]; exact d0) (Nat.le_refl _) (Nat.le_refl _)
  generalize hT1 : (T.setVm vm₁).pushCell { cls := cX, slots := kX.instanceTypes.map defaultValue, vm := .none } = T1 at X₁ st1
  have hcat : (Value.ref T.heap.size).category = 1 := rfl
  have hcellA : T1.heap[T.heap.size]? = some (freshCell cX kX) := by rw [← hT1]; exact State.heap_pushCell_size _ _
  have d3' : decode c.code (pc + 3) = .ok (.dup, 1) := by rw [hb]; exact d3
  have d4' : decode c.code (pc + 4) = .ok (.ldc is, 2) := by rw [hb]; exact d4
  have hstr' : vk_R own is text sa s' := vk_R.warm hW0 hstr
  obtain ⟨U, hsteps, hrun, hend, hW, hsame, ce, hce, hO⟩ := X₁.ctorThrowS hexec htr (own := own) (cls := cls) (names := names) (ic := ic) hown' hcls hnames h (fun x hx => nomatch hx) hfX hkX hcellA (by rw [hhp, hT]; exact Nat.le_refl _) (msg := .ref sa) rfl
    (g := { method := m, pc := pc + 6, locals := ls, stack := .ref sa :: .ref T.heap.size :: .ref T.heap.size :: rest, locked := none }) rfl hsize rfl rfl (rest := rest) rfl
    (by rw [hb]; exact d6) (by rw [hb]; exact d9) hout hRframes (by simp only [List.map_cons, List.sum_cons, hcat]; omega) hlocks
  obtain ⟨f1, f2⟩ := vx_frame hsame
  rw [hhp] at f1 f2
  have hWs : s.WarmedH U.vm := State.WarmedH.trans hW0 hW
  have hcl : s.vm.findClass cls = some ce.cls := by
    have h9 := hO.cls
    rw [hvm] at h9
    exact h9
  have hall : s.sameButNew ({ U with vm := s.vm } : State) locs mc ms := by
    subst hA
    obtain ⟨e1, e2⟩ := hsame
    rw [State.setFrames_setFrames] at e1
    have h2 : (T.setVm s.vm).sameButNew ({ U with vm := s.vm } : State) [] (0 + 1) (0 + 6) := ⟨e1, e2⟩
    have h3 := X.same.trans h2
    rw [List.append_nil] at h3
    exact h3.mono hc hs
  refine ⟨U, ?_, .threw T.heap.size, hrun, hend, Or.inr ⟨T.heap.size, rfl, cls, ce, locs, hx U hWs.alike f1 (fun q hq => f2 q hq (fun z hz => nomatch hz)), hce, hO.vm, hcl, hWs, hall, hf⟩⟩
  refine st1 _ ?_
  show Steps p.tables e below (T1.setTop { method := m, pc := pc + 3, locals := ls, stack := .ref T.heap.size :: rest, locked := none }) _
  jvm_step X₁.here [X₁.here.top, hexec, d3', Value.category]
  exact X₁.ldcString hexec (own := own) (text := text) (index := is) (a := sa) hown' hstr'.1 hstr'.2
    (g := { method := m, pc := pc + 4, locals := ls, stack := .ref T.heap.size :: .ref T.heap.size :: rest, locked := none }) rfl d4' _ hsteps
/-- 'throw new E("text")', the text by a wide index -/
theorem vx_throwSW {cc : ByteArray} {pc : Nat} (hexec : p.tables.exec = Jvm.exec) (hb : c.code = cc) (hl : l.stackTraces = false) {own cls text : String} {names : List String} {ik is ic mc ms sa : Nat} {A : Nat → Prop}
    (hown : s.vm.findClass own = some m.cls) (hcls : Bundle.fit cls = true) (hnames : ∀ n ∈ names, Bundle.fit n = true)
    (hk : (Cond.classLink own ik cls).before args s = true) (hini : (Cond.initialized cls).before args s = true) (hstr : vk_R own is text sa s) (hat : ∀ w ∈ vx_atS own ic cls names, w.before args s = true)
    (hgood : ∀ w ∈ Cond.classLink own ik cls :: Cond.initialized cls :: vx_atS own ic cls names, vx_ot w = true)
    (hU : vx_Zq Bundle.tN "UNASSIGNED_STACK" Bundle.steD A s s.heap) (hN : vx_Zq Bundle.tN "SUPPRESSED_SENTINEL" Bundle.listD A s s.heap) (hS : va_S A s.heap H locs) (hsize : ls.size = c.maxLocals)
    (d0 : decode cc pc = .ok (.new ik, 3)) (d3 : decode cc (pc + 3) = .ok (.dup, 1)) (d4 : decode cc (pc + 4) = .ok (.ldc_w is, 3)) (d7 : decode cc (pc + 7) = .ok (.invokespecial ic, 3)) (d10 : decode cc (pc + 10) = .ok (.athrow, 1))
    (hout : ∀ x ∈ c.exceptionTable.toList, covers x (pc + 10) = false)
    (hRframes : names.length + 3 < R.frames) (hRlocals : (rest.map fun v => v.category).sum + (13 * (names.length + 1) + 43) ≤ R.locals) (hRcells : cells + 1 ≤ R.cells) (hRslots : slots + 6 ≤ R.slots) (hlocks : meth.locks = false)
    (hx : ∀ t : State, s.vm.Alike t.vm → H.size ≤ t.heap.size → (∀ q : Nat, q < H.size → t.heap[q]? = H[q]?) → XC cls s t)
    (hf : ∀ z ∈ locs, free z.base) (hc : cells + 1 ≤ mc) (hs : slots + 6 ≤ ms) :
    W p l e R s m args below meth c H locs cells slots (vx_MQ below Qc XC args s mc ms free) (F0 m pc ls rest) := by
  intro T hT X
  have htr : e.platform.stackTraces = false := (show e.platform.stackTraces = l.stackTraces by rw [X.admits.platform]).trans hl
  have Y := vx_rebase X (R' := { frames := R.frames, locals := R.locals, cells := 1, slots := 6 }) (Nat.le_refl _) (Nat.le_refl _) hRcells hRslots
  obtain ⟨s', hA⟩ : ∃ z, z = (T.setVm s.vm).setFrames (.invoking m args :: below) := ⟨_, rfl⟩
  rw [← hA] at Y
  have hvm : s'.vm = s.vm := by rw [hA]; rfl
  have hhp : s'.heap = H := by rw [hA]; exact hT
  have hW0 : s.WarmedH s'.vm := by rw [hvm]; exact State.WarmedH.refl s
  have hat' : ∀ w ∈ vx_atS own ic cls names, w.before args s' = true := fun w hw => vx_ot_at hW0 hvm.symm (hgood w (List.mem_cons_of_mem _ (List.mem_cons_of_mem _ hw))) (hat w hw)
  have hk' : (Cond.classLink own ik cls).before args s' = true := vx_ot_at hW0 hvm.symm (hgood _ List.mem_cons_self) hk
  have hini' : (Cond.initialized cls).before args s' = true := vx_ot_at hW0 hvm.symm (hgood _ (List.mem_cons_of_mem _ List.mem_cons_self)) hini
  have hU' : vx_Zq Bundle.tN "UNASSIGNED_STACK" Bundle.steD A s' s'.heap := by rw [hhp]; exact vx_Zq.moved hW0.alike (hU.kept hS.2.1)
  have hN' : vx_Zq Bundle.tN "SUPPRESSED_SENTINEL" Bundle.listD A s' s'.heap := by rw [hhp]; exact vx_Zq.moved hW0.alike (hN.kept hS.2.1)
  have h : ∀ w ∈ Bundle.ownAtoms own ic cls names, w.before args s' = true := vx_own hat' (vx_isRefq hU'.1) (vx_isRefq hN'.1) hU'.2.word hN'.2.word
  have hown' : s'.vm.findClass own = some m.cls := by rw [hvm]; exact hown
  have hins : (Cond.instantiable cls 6).before args s' = true := h _ (by simp [Bundle.ownAtoms])
  obtain ⟨vm₁, cX, kX, hfX, hkX, -, -, X₁, st1⟩ := Y.newCold hexec (own := own) (C := cls) (index := ik) (n := 6) hown' hk' hins hini'
    (g := F0 m pc ls rest) rfl (by rw [hb]; exact d0) (Nat.le_refl _) (Nat.le_refl _)
  generalize hT1 : (T.setVm vm₁).pushCell { cls := cX, slots := kX.instanceTypes.map defaultValue, vm := .none } = T1 at X₁ st1
  have hcat : (Value.ref T.heap.size).category = 1 := rfl
  have hcellA : T1.heap[T.heap.size]? = some (freshCell cX kX) := by rw [← hT1]; exact State.heap_pushCell_size _ _
  have d3' : decode c.code (pc + 3) = .ok (.dup, 1) := by rw [hb]; exact d3
  have d4' : decode c.code (pc + 4) = .ok (.ldc_w is, 3) := by rw [hb]; exact d4
  have hstr' : vk_R own is text sa s' := vk_R.warm hW0 hstr
  obtain ⟨U, hsteps, hrun, hend, hW, hsame, ce, hce, hO⟩ := X₁.ctorThrowS hexec htr (own := own) (cls := cls) (names := names) (ic := ic) hown' hcls hnames h (fun x hx => nomatch hx) hfX hkX hcellA (by rw [hhp, hT]; exact Nat.le_refl _) (msg := .ref sa) rfl
    (g := { method := m, pc := pc + 7, locals := ls, stack := .ref sa :: .ref T.heap.size :: .ref T.heap.size :: rest, locked := none }) rfl hsize rfl rfl (rest := rest) rfl
    (by rw [hb]; exact d7) (by rw [hb]; exact d10) hout hRframes (by simp only [List.map_cons, List.sum_cons, hcat]; omega) hlocks
  obtain ⟨f1, f2⟩ := vx_frame hsame
  rw [hhp] at f1 f2
  have hWs : s.WarmedH U.vm := State.WarmedH.trans hW0 hW
  have hcl : s.vm.findClass cls = some ce.cls := by
    have h9 := hO.cls
    rw [hvm] at h9
    exact h9
  have hall : s.sameButNew ({ U with vm := s.vm } : State) locs mc ms := by
    subst hA
    obtain ⟨e1, e2⟩ := hsame
    rw [State.setFrames_setFrames] at e1
    have h2 : (T.setVm s.vm).sameButNew ({ U with vm := s.vm } : State) [] (0 + 1) (0 + 6) := ⟨e1, e2⟩
    have h3 := X.same.trans h2
    rw [List.append_nil] at h3
    exact h3.mono hc hs
  refine ⟨U, ?_, .threw T.heap.size, hrun, hend, Or.inr ⟨T.heap.size, rfl, cls, ce, locs, hx U hWs.alike f1 (fun q hq => f2 q hq (fun z hz => nomatch hz)), hce, hO.vm, hcl, hWs, hall, hf⟩⟩
  refine st1 _ ?_
  show Steps p.tables e below (T1.setTop { method := m, pc := pc + 3, locals := ls, stack := .ref T.heap.size :: rest, locked := none }) _
  jvm_step X₁.here [X₁.here.top, hexec, d3', Value.category]
  exact X₁.ldcStringW hexec (own := own) (text := text) (index := is) (a := sa) hown' hstr'.1 hstr'.2
    (g := { method := m, pc := pc + 4, locals := ls, stack := .ref T.heap.size :: .ref T.heap.size :: rest, locked := none }) rfl d4' _ hsteps
end Ends
section Bodies
variable {l : Launch}
theorem vx_ofW {y : MethodName} {ws ws' : List Cond} {rm : Room} {Pc : Array Value → State → Prop} {Qc : Array Value → State → Outcome → State → Prop} {XC : String → State → State → Prop} {mc ms : Nat} {free : Addr → Prop} {cc : ByteArray} {maxL : Nat} {ret : Option FieldType}
    (hy : plainName y.cls = true) (hw : ws = Cond.code y cc maxL ret :: ws')
    (body : ∀ p e s m args below meth c s₁, BodyLoose p l y (headSpec ws rm) cc maxL ret e s m args below meth c s₁ → c.maxLocals = maxL → (∀ x ∈ c.exceptionTable.toList, False) → Pc args s →
      W p l e (headSpec ws rm).room s m args below meth c s.heap [] 0 0 (vx_MQ below Qc XC args s mc ms free) (entryFrame m args maxL)) : vx_Met l y ws rm Pc Qc XC mc ms free := by
  refine MetFree.of_bodyS (code := cc) (maxLocals := maxL) (ret := ret) hy ?_ ?_
  · intro args s m h hn
    obtain ⟨meth, c, h1, h2, h3, h4, h5, h6, -, -⟩ := Cond.code_spec hn (atoms_spec (ws := ws) h _ (by rw [hw]; exact List.mem_cons_self))
    exact ⟨meth, c, h1, h2, h3, h4, h5, h6⟩
  · intro p e s m args below meth c s₁ B hml hP _
    have hh0 : s₁.heap = s.heap := by rw [B.state]; rfl
    have ht : ∀ x ∈ c.exceptionTable.toList, False := by
      obtain ⟨meth9, c9, h1, h2, -, -, -, -, h7, -⟩ := Cond.code_spec B.named (atoms_spec (ws := ws) B.pre _ (by rw [hw]; exact List.mem_cons_self))
      cases Option.some.inj (h1.symm.trans B.method)
      cases Option.some.inj (h2.symm.trans (Stand.of_body B).code)
      intro x hx
      rw [Array.isEmpty_iff.mp h7] at hx
      cases hx
    obtain ⟨t, a1, o, b1, b2, b3⟩ := body p e s m args below meth c s₁ B hml ht hP s₁ hh0 (Stand.of_body B)
    exact ⟨t, o, a1, b1, b2, b3⟩
/-- the table of a body with handlers -/
theorem vx_table {p : Program} {x y : MethodName} {S : Spec} {cc bytes : ByteArray} {maxL maxL' : Nat} {ret ret' : Option FieldType} {e : Env} {s s₁ : State} {m : MethodId} {args : Array Value} {below : List Frame} {meth : Method} {c : Code} {hh : List (Nat × Nat × Nat × Nat)}
    (B : BodyLoose p l y S cc maxL ret e s m args below meth c s₁) (h : (Cond.codeWith y bytes maxL' ret' hh).before args s = true) : c.exceptionTable.toList = tableOf hh := by
  obtain ⟨m9, meth9, c9, hn9, h1, h2, -, -, h6, -⟩ := Cond.codeWith_spec h
  cases Option.some.inj (hn9.symm.trans B.named)
  cases Option.some.inj (h1.symm.trans B.method)
  cases Option.some.inj (h2.symm.trans (Stand.of_body B).code)
  rw [← h6, table_eq]
end Bodies
end VXA
/-! ===== END ===== -/
/-! ===== BEGIN a static call of a method with an exception table ===== -/
section VXS
variable {p : Program} {l : Launch} {e : Env} {R : Room} {s : State} {m : MethodId} {args : Array Value} {below : List Frame} {meth : Method} {c : Code} {T : State} {H : Heap} {locs : List Loc} {cells slots : Nat}
abbrev vx_CSW (R : Room) (s : State) (args : Array Value) (own : String) (index : Nat) (y : MethodName) (bytes : ByteArray) (maxL : Nat) (ret : Option FieldType) (hh : List (Nat × Nat × Nat × Nat)) (ws : List Cond) (rm : Room) (mc ms n : Nat) : Prop :=
  (rm.cells = mc ∧ rm.slots = ms ∧ rm.frames + 1 ≤ R.frames ∧ 8 + (maxL + 11) + rm.locals ≤ R.locals ∧ (∀ w ∈ ws, ∀ (a' : Array Value) (U : State), s.WarmedH U.vm → w.before a' U = true) ∧ Cond.codeWith y bytes maxL ret hh ∈ ws) ∧
  (Cond.codeWith y bytes maxL ret hh).before args s = true ∧ (Cond.initialized y.cls).before args s = true ∧ (y.cls ≠ "java/lang/invoke/MethodHandle" ∧ y.cls ≠ "java/lang/invoke/VarHandle") ∧
  (∀ sig, parseMethodDescriptor y.desc = some sig → n = sig.parameters.length) ∧ (Cond.methodLink own index y).before args s = true ∧ (Cond.static y).before args s = true
theorem vx_cwSW {own : String} {index maxL mc ms : Nat} {y : MethodName} {bytes : ByteArray} {ret : Option FieldType} {hh : List (Nat × Nat × Nat × Nat)} {Ts ws ws' : List Cond} {rm : Room} (n : Nat) (ht : ∀ w ∈ Ts, w.before args s = true) (hT : GoodIn Ts (va_wsS own index y ws)) (hw : ws = Cond.codeWith y bytes maxL ret hh :: ws') (hrc : rm.cells = mc) (hrs : rm.slots = ms)
    (hd : y.cls ≠ "java/lang/invoke/MethodHandle" ∧ y.cls ≠ "java/lang/invoke/VarHandle" ∧ (parseMethodDescriptor y.desc).map (fun d => d.parameters.length) = some n) (hR : rm.frames + 1 ≤ R.frames ∧ 8 + (maxL + 11) + rm.locals ≤ R.locals) :
    vx_CSW R s args own index y bytes maxL ret hh ws rm mc ms n := by
  have ok : ∀ w ∈ va_wsS own index y ws, w.before args s = true := fun w h => ht w (hT w h).1
  have hG : GoodIn Ts ws := fun w h => hT w (by unfold va_wsS; exact List.mem_append_right _ h)
  have hc : Cond.codeWith y bytes maxL ret hh ∈ ws := by rw [hw]; exact List.mem_cons_self
  refine ⟨⟨hrc, hrs, hR.1, hR.2, pay_in ht hG, hc⟩, ht _ (hG _ hc).1, ok _ (by simp [va_wsS]), ⟨hd.1, hd.2.1⟩, fun sig h => ?_, ok _ (by simp [va_wsS]), ok _ (by simp [va_wsS])⟩
  have h2 := hd.2.2
  rw [h] at h2
  exact (Option.some.inj h2).symm
theorem vx_callSW (X : Stand p l e R s m args below meth c T locs cells slots) (hexec : p.tables.exec = Jvm.exec) {own : String} {index : Nat} {y : MethodName} {bytes : ByteArray} {maxL : Nat} {ret : Option FieldType} {hh : List (Nat × Nat × Nat × Nat)}
    (hown : s.vm.findClass own = some m.cls) (hlink : (Cond.methodLink own index y).before args s = true) (hstat : (Cond.static y).before args s = true) (hinit : (Cond.initialized y.cls).before args s = true)
    (hcode : (Cond.codeWith y bytes maxL ret hh).before args s = true) (hy : y.cls ≠ "java/lang/invoke/MethodHandle" ∧ y.cls ≠ "java/lang/invoke/VarHandle")
    {W9 : Nat} {Pre : Pt → Array Value → Prop} {Post : Pt → Array Value → Option Value → Pt → Prop} (hK : Back l R p e below s args y 3 W9 Pre Post)
    {g : JFrame} (hg : g.method = m) (hsize : g.locals.size = c.maxLocals) {argsL rest : List Value} (hlen : ∀ sig, parseMethodDescriptor y.desc = some sig → argsL.length = sig.parameters.length)
    (hstack : g.stack = argsL.reverse ++ rest) (hW : 2 * g.monitorRoom + (rest.map fun v => v.category).sum ≤ W9) (hdg : decode c.code g.pc = .ok (.invokestatic index, 3))
    (hpre : ∀ vm₁, s.WarmedH vm₁ → Pre ⟨T.setVm vm₁, locs, cells, slots⟩ argsL.toArray) :
    ∃ (v : Option Value) (vm₁ : Vm) (B : Pt), s.WarmedH vm₁ ∧ Stand p l e R s m args below meth c B.U B.locs B.cells B.slots ∧ Post ⟨T.setVm vm₁, locs, cells, slots⟩ argsL.toArray v B ∧
      ∀ target, Steps p.tables e below (B.U.setTop { g with pc := g.pc + 3, stack := v.toList ++ rest }) target → Steps p.tables e below (T.setTop g) target := by
  obtain ⟨mk, methM, cM, hnamed, hmethM, -, -, -, -, -, -, hsigM⟩ := Cond.codeWith_spec hcode
  have hstatic : methM.isStatic = true := Cond.static_spec hnamed hmethM hstat
  obtain ⟨kP, hkP, -⟩ := className_of_methodNamed hnamed
  have hinitP : kP.init = .initialized := Cond.initialized_spec (findClass_of_methodNamed hnamed) hkP hinit
  obtain ⟨vm₁, X₁, hstep₁⟩ := X.invokestatic hexec hown hlink hnamed hmethM hstatic hkP hinitP hy (g := g) hg (argsL := argsL) (rest := rest) (hlen _ hsigM) hstack hdg
  obtain ⟨v, B, X', hpost, hsteps⟩ := hK m meth c ⟨T.setVm vm₁, locs, cells, slots⟩ { g with stack := rest } (.invokestatic index) mk argsL.toArray X₁ hg hsize hdg hW (X₁.named hnamed) (hpre vm₁ X₁.warmed)
  exact ⟨v, vm₁, B, X₁.warmed, X', hpost, fun target h => hstep₁ _ fun acts => by rw [doInvoke_state]; exact hsteps.trans h⟩
theorem vx_runSW {y : MethodName} {bytes cc : ByteArray} {maxL nL mc ms n index : Nat} {ret : Option FieldType} {hh : List (Nat × Nat × Nat × Nat)} {ws : List Cond} {rm : Room} {Pc : Array Value → State → Prop} {Qc : Array Value → State → Outcome → State → Prop} {free : Addr → Prop} {Ts : List Cond} {own : String} {As rest : List Value} {g : JFrame}
    (S : CallFix p m c cc nL s args Ts own) (hM : Met l y ws rm Pc Qc mc ms free) (cw : vx_CSW R s args own index y bytes maxL ret hh ws rm mc ms n) (hp : PreS s H Pc As)
    (hg : g.method = m) (hn : As.length = n) (hsize : g.locals.size = nL) (hstack : g.stack = As.reverse ++ rest) (hW : 2 * g.monitorRoom + (rest.map fun v => v.category).sum ≤ 8) (hdg : decode cc g.pc = .ok (.invokestatic index, 3)) (hf : cells + mc ≤ R.cells ∧ slots + ms ≤ R.slots) :
    va_Run p l e R s m args below meth c H locs cells slots mc ms g rest (Qc As.toArray) (free) := by
  obtain ⟨⟨hrc, hrs, hfr, hlo, hws, hcw⟩, hcode, hini, hy, hlen, hl, hstt⟩ := cw
  have hK : Back l R p e below s args y 3 8 (PreOf R mc ms Pc) (PostOf Qc mc ms free) := va_backW (hh := hh) (bytes := bytes) (maxL := maxL) (ret := ret) hM hp.1 hrc hrs hfr hlo hws hcw (fun a' U hW => word_at hW (Or.inl (by first | rfl | simp [Cond.onTables, Cond.keeps, Cond.steady])) hini)
  obtain ⟨hx, hb, hml, ho, -⟩ := S
  intro T hT X
  obtain ⟨v, vm₁, ⟨U', l2, c2, s2⟩, hW₁, X', ⟨g', mk, t, L, e1, e2, hq, h1, hL, h2, h3⟩, st⟩ := vx_callSW X hx (hh := hh) (bytes := bytes) (maxL := maxL) (ret := ret) ho hl hstt hini hcode hy hK hg (hsize.trans hml.symm) (argsL := As) (rest := rest) (fun sig h => hn.trans (hlen sig h)) hstack hW (by rw [hb]; exact hdg)
    (fun vm₁ hW₁ => ⟨hf.1, hf.2, hp.2 (T.setVm vm₁) hT hW₁⟩)
  dsimp only [Pt.U, Pt.locs, Pt.cells, Pt.slots] at X' e1 e2 h1 h2 h3 st
  subst h1; subst h2; subst h3
  exact ⟨v, (T.setVm vm₁).calling g' mk As.toArray, t, U', L, hT, X', hL, e1, e2, hq, st⟩
/-- not caught here, past rows that name other classes: it goes on to the caller -/
theorem vx_outP {p : Program} {l : Launch} {e : Env} {R : Room} {s : State} {m : MethodId} {args : Array Value} {below : List Frame} {meth : Method} {c : Code} {H : Heap} {locs : List Loc} {cells slots : Nat} {free : Addr → Prop} {ls : Array Slot} {rest : List Value} {Qc : Array Value → State → Outcome → State → Prop} {XC : String → State → State → Prop}
    {pc : Nat} {own E : String} {ce : Cell} {q : Addr} {mc ms : Nat} (hown : s.vm.findClass own = some m.cls) (hlocks : meth.locks = false)
    (hpass : ∀ z ∈ c.exceptionTable.toList, covers z pc = false ∨ (z.catchType ≠ 0 ∧ ∃ nm : String, (Cond.classLink own z.catchType nm).before args s = true ∧ va_Nc E nm s)) (hcell : H[q]? = some ce) (hv : ce.vm = .none) (hcl : s.vm.findClass E = some ce.cls)
    (hx : ∀ t : State, t.heap = H → s.vm.Alike t.vm → XC E s t) (hf : ∀ z ∈ locs, free z.base) (hc : cells ≤ mc) (hs : slots ≤ ms) :
    vx_W p l e R s m args below meth c H locs cells slots (vx_MQ below Qc XC args s mc ms free) (F0 m pc ls rest) q := by
  intro T hT X
  have hpl : e.platform.magicAccessors = ({} : Platform).magicAccessors := by rw [X.admits.platform]
  obtain ⟨vm', hW', X', st⟩ := X.outThrough hlocks q (g := F0 m pc ls rest) rfl rfl rfl (cell := ce) (by rw [hT]; exact hcell) (by rw [hv]; rfl)
    (by obtain ⟨k9, h9, -⟩ := Vm.findClass_spec hcl; exact ⟨k9, h9⟩) (fun z hz => by
      rcases hpass z hz with h | ⟨hz0, nm, hl1, hn1⟩
      · exact Or.inl h
      · obtain ⟨c6, hc6, hcl6⟩ := Cond.classLink_spec hown hl1 e.platform hpl
        obtain ⟨a8, b8, h1, h2, h3⟩ := hn1
        cases Option.some.inj (h1.symm.trans hcl)
        cases Option.some.inj (h2.symm.trans hc6)
        exact Or.inr ⟨hz0, _, hcl6, h3⟩)
  obtain ⟨g₀, hfr⟩ := X'.frames_eq
  have hcell9 : ((T.setVm vm').setFrames (.throwing q :: below)).heap[q]? = some ce := by
    show T.heap[q]? = some ce
    rw [hT]; exact hcell
  have hend : Ended ((T.setVm vm').setFrames (.throwing q :: below)) below (.threw q) := State.frames_setFrames _ (State.cur_lt_of_frames hfr)
  refine ⟨(T.setVm vm').setFrames (.throwing q :: below), ?_, .threw q, X'.here.running, hend, Or.inr ⟨q, rfl, E, ce, locs, hx _ hT (X'.ends _).1.alike, hcell9, hv, hcl, (X'.ends _).1, (X'.ends _).2.mono hc hs, hf⟩⟩
  rw [X.pushThrowing_eq]
  exact st
/-- a thing of a world lies in the heap -/
theorem vx_lt {D : va_G} {cl : List vw_C} {ws : va_W} {H1 : Heap} (h : va_P D cl ws H1) {k : Nat} {q : Nat × va_E} (hk : ws[k]? = some q) : q.1 < H1.size := (h k q hk).lt
end VXS
/-! ===== END ===== -/
/-! ===== BEGIN methods with a table of their own: called by a name, returning or throwing ===== -/
section VXH
/-! vx_backW, vx_callVX, vx_callSX, vx_callVW, vx_runVW, vx_runVX, vx_runSX, vx_ofWH follow the same proofs as their sisters above (Free/Laws.lean, Shelf42/LK1.lean); vx_outP calls Shelf42/NT130.lean (outThrough). -/
section
variable {l : Launch} {R : Room} {p : Program} {e : Env} {below : List Frame} {s : State} {sargs : Array Value} {y : MethodName} {len W9 : Nat}
theorem vx_backW {ws : List Cond} {rm : Room} {Pc : Array Value → State → Prop} {Qc : Array Value → State → Outcome → State → Prop} {XC : String → State → State → Prop} {mc ms : Nat} {free : Addr → Prop} {bytes : ByteArray} {maxL : Nat} {ret : Option FieldType} {hh : List (Nat × Nat × Nat × Nat)}
    (hM : vx_Met l y ws rm Pc Qc XC mc ms free) (hblind : FrameBlind Pc) (hrc : rm.cells = mc) (hrs : rm.slots = ms)
    (hframes : rm.frames + 1 ≤ R.frames) (hlocals : W9 + (maxL + 11) + rm.locals ≤ R.locals)
    (hws : ∀ w ∈ ws, ∀ a' U, s.WarmedH U.vm → w.before a' U = true) (hcode : Cond.codeWith y bytes maxL ret hh ∈ ws) (hinit : ∀ a' U, s.WarmedH U.vm → (Cond.initialized y.cls).before a' U = true) :
    vx_Back l R p e below s sargs y len W9 (PreOf R mc ms Pc) (PostOf Qc mc ms free) (vx_Post XC mc ms free) := by
  intro m meth c A g ig mk a X hg hsize hdg hW hn hp
  have h1 : (headSpec ws rm).pre.before a A.U = true := atoms_intro fun w hw => hws w hw _ _ X.warmed
  have h2 : (Cond.codeWith y bytes maxL ret hh).before a A.U = true := hws _ hcode _ _ X.warmed
  have h3 : (Cond.initialized y.cls).before a A.U = true := hinit _ _ X.warmed
  have h4 : A.cells + (headSpec ws rm).room.cells ≤ R.cells := by rw [show (headSpec ws rm).room.cells = mc from hrc]; exact hp.1
  have h5 : A.slots + (headSpec ws rm).room.slots ≤ R.slots := by rw [show (headSpec ws rm).room.slots = ms from hrs]; exact hp.2.1
  have hPc : Pc a (A.U.calling g mk a) := hblind _ _ _ _ hp.2.2
  obtain ⟨U, Ls, c0, s0⟩ := A
  dsimp only [Pt.U, Pt.locs, Pt.cells, Pt.slots] at h1 h2 h3 h4 h5 X hn hPc ⊢
  obtain ⟨m9, methY, cY, hn9, hmY, hcY, -, hlY, -⟩ := Cond.codeWith_spec h2
  cases Option.some.inj (hn9.symm.trans hn)
  obtain ⟨kY, hkY, -⟩ := className_of_methodNamed hn
  have hinitY : kY.init = .initialized := Cond.initialized_spec (findClass_of_methodNamed hn) hkY h3
  have h : At U g.method c below := by rw [hg]; exact X.here
  have hlocals9 : W9 + (maxL + 11) + (headSpec ws rm).room.locals ≤ R.locals := hlocals
  have happ : (headSpec ws rm).appliesLoose y e.platform (U.calling g mk a) = true :=
    Spec.appliesLoose_calling (g := g) h hdg hn hkY hinitY
      (X.room_calling (g := g) (R' := (headSpec ws rm).room) hsize hmY hcY hframes (by rw [hlY]; omega) h4 h5) h1
  obtain ⟨mid, hmid⟩ := h.above
  have hfr : (U.setTop g).frames = (.java g :: mid) ++ below := by rw [State.frames_setTop' g h.top, hmid]; rfl
  obtain ⟨o, s₂, hsteps, -, hend, hq⟩ := Steps.callFree hM p X.admits X.cas X.clock (acts := []) hfr happ hPc trivial
  have hq' : vx_Q Qc XC mc ms free a (U.calling g mk a) o s₂ := hq
  rw [State.frames_setTop' g h.top] at hend
  obtain ⟨g₀, hg0⟩ := Option.isSome_iff_exists.mp h.top
  obtain ⟨r, hr⟩ := State.topJava?_eq_some.mp hg0
  have hr' : (({ U with heap := s₂.heap, slotsUsed := s₂.slotsUsed } : State).setVm s₂.vm).frames = .java g₀ :: r := hr
  rcases hq' with ⟨hqc, L, hfe, hL⟩ | ⟨q, rfl, E, ce, L, hx, hce, hcv, hcl, hW₂, hsm, hL⟩
  · obtain ⟨⟨v, rfl⟩, hW₂, e2, q2, q3, q4, q5, q6⟩ := id hfe
    have e3 : s₂ = ({ (U.calling g mk a).setFrames s₂.frames with heap := s₂.heap, slotsUsed := s₂.slotsUsed } : State).setVm s₂.vm := by
      have : s₂ = ({ s₂ with vm := (U.calling g mk a).vm } : State).setVm s₂.vm := rfl
      rw [e2] at this
      exact this
    obtain ⟨c₂, i₂, len₂, hc₂, hd₂, hf₂⟩ := hend
    have hW' : U.WarmedH s₂.vm := hW₂
    have hcc : c₂ = c := by
      have h1 : s₂.code? g.method = U.code? g.method := by
        rw [State.code?_eq, State.code?_eq, hW'.alike.method?]
      exact Option.some.inj (hc₂.symm.trans (h1.trans h.code))
    subst hcc
    have hlen : len₂ = len := by rw [hdg] at hd₂; cases hd₂; rfl
    subst hlen
    have hs₂ : s₂ = (({ U with heap := s₂.heap, slotsUsed := s₂.slotsUsed } : State).setVm s₂.vm).setTop { g with pc := g.pc + len₂, stack := v.toList ++ g.stack } := by
      refine e3.trans ?_
      rw [hf₂, State.calling_eq h.top, State.setFrames_setFrames, State.setTop_of_frames _ hr', hr]
      rfl
    have hsame : U.sameButNew ({ U with heap := s₂.heap, slotsUsed := s₂.slotsUsed } : State) L mc ms := by
      refine ⟨?_, q2, q3, q4, q5, q6⟩
      obtain ⟨t, ht, -⟩ := State.frames_cons hr
      show ({ U with heap := s₂.heap, slotsUsed := s₂.slotsUsed } : State) = { U.setFrames U.frames with heap := s₂.heap, slotsUsed := s₂.slotsUsed }
      rw [State.setFrames_self ht]
    subst hg
    refine Or.inl ⟨v, ⟨(({ U with heap := s₂.heap, slotsUsed := s₂.slotsUsed } : State).setVm s₂.vm), Ls ++ L, c0 + mc, s0 + ms⟩,
      ⟨X.admits, X.cas, X.clock, X.frames, X.room, X.hears, X.method, X.code, (X.here.setHeapUsed s₂.heap s₂.slotsUsed).setVm hW'.alike, X.tail, State.WarmedH.trans X.warmed hW', X.limits, X.bytes, X.same.trans (hsame.setVm s.vm)⟩,
      ⟨g, mk, s₂, L, rfl, rfl, hqc, rfl, hL, rfl, rfl⟩, ?_⟩
    show Steps p.tables e below _ ((({ U with heap := s₂.heap, slotsUsed := s₂.slotsUsed } : State).setVm s₂.vm).setTop { g with pc := g.pc + len₂, stack := v.toList ++ g.stack })
    rw [← hs₂]
    exact hsteps
  · obtain ⟨e2, q2, q3, q4, q5, q6⟩ := id hsm
    have e3 : s₂ = ({ (U.calling g mk a).setFrames s₂.frames with heap := s₂.heap, slotsUsed := s₂.slotsUsed } : State).setVm s₂.vm := by
      have : s₂ = ({ s₂ with vm := (U.calling g mk a).vm } : State).setVm s₂.vm := rfl
      rw [e2] at this
      exact this
    have hf₂ : s₂.frames = .throwing q :: .java g :: U.frames.tail := hend
    have hW' : U.WarmedH s₂.vm := hW₂
    have hs₂ : s₂ = ((({ U with heap := s₂.heap, slotsUsed := s₂.slotsUsed } : State).setVm s₂.vm).setTop g).pushFrame (.throwing q) := by
      refine e3.trans ?_
      rw [hf₂, State.calling_eq h.top, State.setFrames_setFrames, State.pushFrame, State.frames_setTop _ hr', State.setTop_of_frames _ hr', State.setFrames_setFrames, hr]
      rfl
    have hsame : U.sameButNew ({ U with heap := s₂.heap, slotsUsed := s₂.slotsUsed } : State) L mc ms := by
      refine ⟨?_, q2, q3, q4, q5, q6⟩
      obtain ⟨t, ht, -⟩ := State.frames_cons hr
      show ({ U with heap := s₂.heap, slotsUsed := s₂.slotsUsed } : State) = { U.setFrames U.frames with heap := s₂.heap, slotsUsed := s₂.slotsUsed }
      rw [State.setFrames_self ht]
    subst hg
    refine Or.inr ⟨q, ⟨(({ U with heap := s₂.heap, slotsUsed := s₂.slotsUsed } : State).setVm s₂.vm), Ls ++ L, c0 + mc, s0 + ms⟩,
      ⟨X.admits, X.cas, X.clock, X.frames, X.room, X.hears, X.method, X.code, (X.here.setHeapUsed s₂.heap s₂.slotsUsed).setVm hW'.alike, X.tail, State.WarmedH.trans X.warmed hW', X.limits, X.bytes, X.same.trans (hsame.setVm s.vm)⟩,
      ⟨g, mk, s₂, L, E, ce, rfl, rfl, hx, hce, hcv, hcl, rfl, hL, rfl, rfl⟩, ?_⟩
    show Steps p.tables e below _ (((({ U with heap := s₂.heap, slotsUsed := s₂.slotsUsed } : State).setVm s₂.vm).setTop g).pushFrame (.throwing q))
    rw [← hs₂]
    exact hsteps
end
variable {p : Program} {l : Launch} {e : Env} {R : Room} {s : State} {m : MethodId} {args : Array Value} {below : List Frame} {meth : Method} {c : Code} {T : State} {H : Heap} {locs : List Loc} {cells slots : Nat}
theorem vx_callVX (X : Stand p l e R s m args below meth c T locs cells slots) (hexec : p.tables.exec = Jvm.exec) {own C : String} {index : Nat} {y : MethodName} {bytes : ByteArray} {maxL : Nat} {ret : Option FieldType} {hh : List (Nat × Nat × Nat × Nat)}
    (hown : s.vm.findClass own = some m.cls) (hlink : (Cond.methodLink own index y).before args s = true) (hinst : (Cond.instanceMethod y).before args s = true) (hsel : (Cond.selects C y y).before args s = true)
    (hcode : (Cond.codeWith y bytes maxL ret hh).before args s = true) (hy : y.cls ≠ "java/lang/invoke/MethodHandle" ∧ y.cls ≠ "java/lang/invoke/VarHandle")
    {W9 : Nat} {Pre : Pt → Array Value → Prop} {Post : Pt → Array Value → Option Value → Pt → Prop} {PostX : Pt → Array Value → Addr → Pt → Prop} (hK : vx_Back l R p e below s args y 3 W9 Pre Post PostX)
    {b : Addr} {cellB : Cell} (hcell : T.heap[b]? = some cellB) (hobj : cellB.vm.isStatics = false) (hcls : s.vm.findClass C = some cellB.cls)
    {g : JFrame} (hg : g.method = m) (hsize : g.locals.size = c.maxLocals) {argsL rest : List Value} (hlen : ∀ sig, parseMethodDescriptor y.desc = some sig → argsL.length = sig.parameters.length)
    (hstack : g.stack = argsL.reverse ++ .ref b :: rest) (hW : 2 * g.monitorRoom + (rest.map fun v => v.category).sum ≤ W9) (hdg : decode c.code g.pc = .ok (.invokevirtual index, 3))
    (hpre : ∀ vm₁, s.WarmedH vm₁ → Pre ⟨T.setVm vm₁, locs, cells, slots⟩ (Value.ref b :: argsL).toArray) :
    (∃ (v : Option Value) (vm₁ : Vm) (B : Pt), s.WarmedH vm₁ ∧ Stand p l e R s m args below meth c B.U B.locs B.cells B.slots ∧ Post ⟨T.setVm vm₁, locs, cells, slots⟩ (Value.ref b :: argsL).toArray v B ∧
      ∀ target, Steps p.tables e below (B.U.setTop { g with pc := g.pc + 3, stack := v.toList ++ rest }) target → Steps p.tables e below (T.setTop g) target) ∨
    (∃ (q : Addr) (vm₁ : Vm) (B : Pt), s.WarmedH vm₁ ∧ Stand p l e R s m args below meth c B.U B.locs B.cells B.slots ∧ PostX ⟨T.setVm vm₁, locs, cells, slots⟩ (Value.ref b :: argsL).toArray q B ∧
      Steps p.tables e below (T.setTop g) ((B.U.setTop { g with stack := rest }).pushFrame (.throwing q))) := by
  obtain ⟨mk, methM, hnamed, hmethM, hstM, habM⟩ := Cond.instanceMethod_spec hinst
  obtain ⟨m8, methM', cM, hn8, hmethM', -, -, -, -, -, -, hsigM⟩ := Cond.codeWith_spec hcode
  cases Option.some.inj (hn8.symm.trans hnamed)
  cases hmethM.symm.trans hmethM'
  obtain ⟨c2, r2, m2, q1, q2, q3, q4, kP, hkP, hkPi⟩ := Cond.selects_spec hsel
  cases hcls.symm.trans q1
  cases (State.methodFound?_of_named hnamed hy).symm.trans q2
  cases hnamed.symm.trans q3
  have hselP : selectMethod e.platform s.vm cellB.cls mk = .method mk := by rw [Launch.admits_selectMethod X.admits]; exact q4
  obtain ⟨vm₁, X₁, hstep₁⟩ := X.invokevirtual hexec hown hlink hnamed hmethM hstM hkP hkPi hy (a := b) (cell := cellB) hcell
    (fun z h => by rw [h] at hobj; cases hobj) hselP hmethM habM hkP hkPi (g := g) hg (argsL := argsL) (rest := rest) (hlen _ hsigM) hstack hdg
  rcases hK m meth c ⟨T.setVm vm₁, locs, cells, slots⟩ { g with stack := rest } (.invokevirtual index) mk (Value.ref b :: argsL).toArray X₁ hg hsize hdg hW (X₁.named hnamed) (hpre vm₁ X₁.warmed) with ⟨v, B, X', hpost, hsteps⟩ | ⟨q, B, X', hpost, hsteps⟩
  · exact Or.inl ⟨v, vm₁, B, X₁.warmed, X', hpost, fun target h => hstep₁ _ fun acts => by rw [doInvoke_state]; exact hsteps.trans h⟩
  · exact Or.inr ⟨q, vm₁, B, X₁.warmed, X', hpost, hstep₁ _ fun acts => by rw [doInvoke_state]; exact hsteps⟩
theorem vx_callSX (X : Stand p l e R s m args below meth c T locs cells slots) (hexec : p.tables.exec = Jvm.exec) {own : String} {index : Nat} {y : MethodName} {bytes : ByteArray} {maxL : Nat} {ret : Option FieldType} {hh : List (Nat × Nat × Nat × Nat)}
    (hown : s.vm.findClass own = some m.cls) (hlink : (Cond.methodLink own index y).before args s = true) (hstat : (Cond.static y).before args s = true) (hinit : (Cond.initialized y.cls).before args s = true)
    (hcode : (Cond.codeWith y bytes maxL ret hh).before args s = true) (hy : y.cls ≠ "java/lang/invoke/MethodHandle" ∧ y.cls ≠ "java/lang/invoke/VarHandle")
    {W9 : Nat} {Pre : Pt → Array Value → Prop} {Post : Pt → Array Value → Option Value → Pt → Prop} {PostX : Pt → Array Value → Addr → Pt → Prop} (hK : vx_Back l R p e below s args y 3 W9 Pre Post PostX)
    {g : JFrame} (hg : g.method = m) (hsize : g.locals.size = c.maxLocals) {argsL rest : List Value} (hlen : ∀ sig, parseMethodDescriptor y.desc = some sig → argsL.length = sig.parameters.length)
    (hstack : g.stack = argsL.reverse ++ rest) (hW : 2 * g.monitorRoom + (rest.map fun v => v.category).sum ≤ W9) (hdg : decode c.code g.pc = .ok (.invokestatic index, 3))
    (hpre : ∀ vm₁, s.WarmedH vm₁ → Pre ⟨T.setVm vm₁, locs, cells, slots⟩ argsL.toArray) :
    (∃ (v : Option Value) (vm₁ : Vm) (B : Pt), s.WarmedH vm₁ ∧ Stand p l e R s m args below meth c B.U B.locs B.cells B.slots ∧ Post ⟨T.setVm vm₁, locs, cells, slots⟩ argsL.toArray v B ∧
      ∀ target, Steps p.tables e below (B.U.setTop { g with pc := g.pc + 3, stack := v.toList ++ rest }) target → Steps p.tables e below (T.setTop g) target) ∨
    (∃ (q : Addr) (vm₁ : Vm) (B : Pt), s.WarmedH vm₁ ∧ Stand p l e R s m args below meth c B.U B.locs B.cells B.slots ∧ PostX ⟨T.setVm vm₁, locs, cells, slots⟩ argsL.toArray q B ∧
      Steps p.tables e below (T.setTop g) ((B.U.setTop { g with stack := rest }).pushFrame (.throwing q))) := by
  obtain ⟨mk, methM, cM, hnamed, hmethM, -, -, -, -, -, -, hsigM⟩ := Cond.codeWith_spec hcode
  have hstatic : methM.isStatic = true := Cond.static_spec hnamed hmethM hstat
  obtain ⟨kP, hkP, -⟩ := className_of_methodNamed hnamed
  have hinitP : kP.init = .initialized := Cond.initialized_spec (findClass_of_methodNamed hnamed) hkP hinit
  obtain ⟨vm₁, X₁, hstep₁⟩ := X.invokestatic hexec hown hlink hnamed hmethM hstatic hkP hinitP hy (g := g) hg (argsL := argsL) (rest := rest) (hlen _ hsigM) hstack hdg
  rcases hK m meth c ⟨T.setVm vm₁, locs, cells, slots⟩ { g with stack := rest } (.invokestatic index) mk argsL.toArray X₁ hg hsize hdg hW (X₁.named hnamed) (hpre vm₁ X₁.warmed) with ⟨v, B, X', hpost, hsteps⟩ | ⟨q, B, X', hpost, hsteps⟩
  · exact Or.inl ⟨v, vm₁, B, X₁.warmed, X', hpost, fun target h => hstep₁ _ fun acts => by rw [doInvoke_state]; exact hsteps.trans h⟩
  · exact Or.inr ⟨q, vm₁, B, X₁.warmed, X', hpost, hstep₁ _ fun acts => by rw [doInvoke_state]; exact hsteps⟩
theorem vx_callVW (X : Stand p l e R s m args below meth c T locs cells slots) (hexec : p.tables.exec = Jvm.exec) {own C : String} {index : Nat} {y : MethodName} {bytes : ByteArray} {maxL : Nat} {ret : Option FieldType} {hh : List (Nat × Nat × Nat × Nat)}
    (hown : s.vm.findClass own = some m.cls) (hlink : (Cond.methodLink own index y).before args s = true) (hinst : (Cond.instanceMethod y).before args s = true) (hsel : (Cond.selects C y y).before args s = true)
    (hcode : (Cond.codeWith y bytes maxL ret hh).before args s = true) (hy : y.cls ≠ "java/lang/invoke/MethodHandle" ∧ y.cls ≠ "java/lang/invoke/VarHandle")
    {W9 : Nat} {Pre : Pt → Array Value → Prop} {Post : Pt → Array Value → Option Value → Pt → Prop} (hK : Back l R p e below s args y 3 W9 Pre Post)
    {b : Addr} {cellB : Cell} (hcell : T.heap[b]? = some cellB) (hobj : cellB.vm.isStatics = false) (hcls : s.vm.findClass C = some cellB.cls)
    {g : JFrame} (hg : g.method = m) (hsize : g.locals.size = c.maxLocals) {argsL rest : List Value} (hlen : ∀ sig, parseMethodDescriptor y.desc = some sig → argsL.length = sig.parameters.length)
    (hstack : g.stack = argsL.reverse ++ .ref b :: rest) (hW : 2 * g.monitorRoom + (rest.map fun v => v.category).sum ≤ W9) (hdg : decode c.code g.pc = .ok (.invokevirtual index, 3))
    (hpre : ∀ vm₁, s.WarmedH vm₁ → Pre ⟨T.setVm vm₁, locs, cells, slots⟩ (Value.ref b :: argsL).toArray) :
    ∃ (v : Option Value) (vm₁ : Vm) (B : Pt), s.WarmedH vm₁ ∧ Stand p l e R s m args below meth c B.U B.locs B.cells B.slots ∧ Post ⟨T.setVm vm₁, locs, cells, slots⟩ (Value.ref b :: argsL).toArray v B ∧
      ∀ target, Steps p.tables e below (B.U.setTop { g with pc := g.pc + 3, stack := v.toList ++ rest }) target → Steps p.tables e below (T.setTop g) target := by
  obtain ⟨mk, methM, hnamed, hmethM, hstM, habM⟩ := Cond.instanceMethod_spec hinst
  obtain ⟨m8, methM', cM, hn8, hmethM', -, -, -, -, -, -, hsigM⟩ := Cond.codeWith_spec hcode
  cases Option.some.inj (hn8.symm.trans hnamed)
  cases hmethM.symm.trans hmethM'
  obtain ⟨c2, r2, m2, q1, q2, q3, q4, kP, hkP, hkPi⟩ := Cond.selects_spec hsel
  cases hcls.symm.trans q1
  cases (State.methodFound?_of_named hnamed hy).symm.trans q2
  cases hnamed.symm.trans q3
  have hselP : selectMethod e.platform s.vm cellB.cls mk = .method mk := by rw [Launch.admits_selectMethod X.admits]; exact q4
  obtain ⟨vm₁, X₁, hstep₁⟩ := X.invokevirtual hexec hown hlink hnamed hmethM hstM hkP hkPi hy (a := b) (cell := cellB) hcell
    (fun z h => by rw [h] at hobj; cases hobj) hselP hmethM habM hkP hkPi (g := g) hg (argsL := argsL) (rest := rest) (hlen _ hsigM) hstack hdg
  obtain ⟨v, B, X', hpost, hsteps⟩ := hK m meth c ⟨T.setVm vm₁, locs, cells, slots⟩ { g with stack := rest } (.invokevirtual index) mk (Value.ref b :: argsL).toArray X₁ hg hsize hdg hW (X₁.named hnamed) (hpre vm₁ X₁.warmed)
  exact ⟨v, vm₁, B, X₁.warmed, X', hpost, fun target h => hstep₁ _ fun acts => by rw [doInvoke_state]; exact hsteps.trans h⟩
abbrev vx_CVW (R : Room) (s : State) (args : Array Value) (own C : String) (index : Nat) (y : MethodName) (bytes : ByteArray) (maxL : Nat) (ret : Option FieldType) (hh : List (Nat × Nat × Nat × Nat)) (ws : List Cond) (rm : Room) (mc ms n : Nat) : Prop :=
  (rm.cells = mc ∧ rm.slots = ms ∧ rm.frames + 1 ≤ R.frames ∧ 8 + (maxL + 11) + rm.locals ≤ R.locals ∧ (∀ w ∈ ws, ∀ (a' : Array Value) (U : State), s.WarmedH U.vm → w.before a' U = true) ∧ Cond.codeWith y bytes maxL ret hh ∈ ws) ∧
  (Cond.codeWith y bytes maxL ret hh).before args s = true ∧ (Cond.initialized y.cls).before args s = true ∧ (y.cls ≠ "java/lang/invoke/MethodHandle" ∧ y.cls ≠ "java/lang/invoke/VarHandle") ∧
  (∀ sig, parseMethodDescriptor y.desc = some sig → n = sig.parameters.length) ∧ (Cond.methodLink own index y).before args s = true ∧ (Cond.instanceMethod y).before args s = true ∧ (Cond.selects C y y).before args s = true
theorem vx_cwVW {own C : String} {index maxL mc ms : Nat} {y : MethodName} {bytes : ByteArray} {ret : Option FieldType} {hh : List (Nat × Nat × Nat × Nat)} {Ts ws ws' : List Cond} {rm : Room} (n : Nat) (ht : ∀ w ∈ Ts, w.before args s = true) (hT : GoodIn Ts (wsV own index C y ws)) (hw : ws = Cond.codeWith y bytes maxL ret hh :: ws') (hrc : rm.cells = mc) (hrs : rm.slots = ms)
    (hd : y.cls = C ∧ y.cls ≠ "java/lang/invoke/MethodHandle" ∧ y.cls ≠ "java/lang/invoke/VarHandle" ∧ (parseMethodDescriptor y.desc).map (fun d => d.parameters.length) = some n) (hR : rm.frames + 1 ≤ R.frames ∧ 8 + (maxL + 11) + rm.locals ≤ R.locals) :
    vx_CVW R s args own C index y bytes maxL ret hh ws rm mc ms n := by
  obtain ⟨hC, hd⟩ := hd
  subst hC
  have ok : ∀ w ∈ wsV own index y.cls y ws, w.before args s = true := fun w h => ht w (hT w h).1
  have hG : GoodIn Ts ws := fun w h => hT w (by unfold wsV; exact List.mem_append_right _ h)
  have hc : Cond.codeWith y bytes maxL ret hh ∈ ws := by rw [hw]; exact List.mem_cons_self
  refine ⟨⟨hrc, hrs, hR.1, hR.2, pay_in ht hG, hc⟩, ht _ (hG _ hc).1, ok _ (by simp [wsV]), ⟨hd.1, hd.2.1⟩, fun sig h => ?_, ok _ (by simp [wsV]), ok _ (by simp [wsV]), ok _ (by simp [wsV])⟩
  have h2 := hd.2.2
  rw [h] at h2
  exact (Option.some.inj h2).symm
theorem vx_runVW {y : MethodName} {bytes cc : ByteArray} {maxL nL mc ms n index : Nat} {ret : Option FieldType} {hh : List (Nat × Nat × Nat × Nat)} {ws : List Cond} {rm : Room} {Pc : Array Value → State → Prop} {Qc : Array Value → State → Outcome → State → Prop} {free : Addr → Prop} {Ts : List Cond} {own C : String} {b : Addr} {As rest : List Value} {g : JFrame}
    (S : CallFix p m c cc nL s args Ts own) (hM : Met l y ws rm Pc Qc mc ms free) (cw : vx_CVW R s args own C index y bytes maxL ret hh ws rm mc ms n) (hp : PreV s H C b Pc As)
    (hg : g.method = m) (hn : As.length = n) (hsize : g.locals.size = nL) (hstack : g.stack = As.reverse ++ .ref b :: rest) (hW : 2 * g.monitorRoom + (rest.map fun v => v.category).sum ≤ 8) (hdg : decode cc g.pc = .ok (.invokevirtual index, 3)) (hf : cells + mc ≤ R.cells ∧ slots + ms ≤ R.slots) :
    va_Run p l e R s m args below meth c H locs cells slots mc ms g rest (Qc (Value.ref b :: As).toArray) free := by
  obtain ⟨⟨hrc, hrs, hfr, hlo, hws, hcw⟩, hcode, hini, hy, hlen, hl, hin, hse⟩ := cw
  have hK : Back l R p e below s args y 3 8 (PreOf R mc ms Pc) (PostOf Qc mc ms free) := va_backW (hh := hh) (bytes := bytes) (maxL := maxL) (ret := ret) hM hp.1 hrc hrs hfr hlo hws hcw (fun a' U hW => word_at hW (Or.inl (by first | rfl | simp [Cond.onTables, Cond.keeps, Cond.steady])) hini)
  obtain ⟨hx, hb, hml, ho, -⟩ := S
  obtain ⟨-, ⟨cellB, hcB, hoB, hclB⟩, hPc⟩ := hp
  intro T hT X
  obtain ⟨v, vm₁, ⟨U', l2, c2, s2⟩, hW₁, X', ⟨g', mk, t, L, e1, e2, hq, h1, hL, h2, h3⟩, st⟩ := vx_callVW X hx (C := C) (hh := hh) (bytes := bytes) (maxL := maxL) (ret := ret) ho hl hin hse hcode hy hK (by rw [hT]; exact hcB) hoB hclB hg (hsize.trans hml.symm) (argsL := As) (rest := rest) (fun sig h => hn.trans (hlen sig h)) hstack hW (by rw [hb]; exact hdg)
    (fun vm₁ hW₁ => ⟨hf.1, hf.2, hPc (T.setVm vm₁) hT hW₁⟩)
  dsimp only [Pt.U, Pt.locs, Pt.cells, Pt.slots] at X' e1 e2 h1 h2 h3 st
  subst h1; subst h2; subst h3
  exact ⟨v, (T.setVm vm₁).calling g' mk (Value.ref b :: As).toArray, t, U', L, hT, X', hL, e1, e2, hq, st⟩
section
variable {y : MethodName} {bytes cc : ByteArray} {maxL nL mc ms n index : Nat} {ret : Option FieldType} {ws : List Cond} {rm : Room} {Pc : Array Value → State → Prop} {Qc : Array Value → State → Outcome → State → Prop} {XC : String → State → State → Prop} {free : Addr → Prop} {Ts : List Cond} {own C : String} {b : Addr} {As rest : List Value} {g : JFrame}
theorem vx_runVX {hh : List (Nat × Nat × Nat × Nat)} (S : CallFix p m c cc nL s args Ts own) (hM : vx_Met l y ws rm Pc Qc XC mc ms free) (cw : vx_CVW R s args own C index y bytes maxL ret hh ws rm mc ms n) (hp : PreV s H C b Pc As)
    (hg : g.method = m) (hn : As.length = n) (hsize : g.locals.size = nL) (hstack : g.stack = As.reverse ++ .ref b :: rest) (hW : 2 * g.monitorRoom + (rest.map fun v => v.category).sum ≤ 8) (hdg : decode cc g.pc = .ok (.invokevirtual index, 3)) (hf : cells + mc ≤ R.cells ∧ slots + ms ≤ R.slots) :
    vx_Run p l e R s m args below meth c H locs cells slots mc ms g rest (Qc (Value.ref b :: As).toArray) XC free := by
  obtain ⟨⟨hrc, hrs, hfr, hlo, hws, hcw⟩, hcode, hini, hy, hlen, hl, hin, hse⟩ := cw
  have hK : vx_Back l R p e below s args y 3 8 (PreOf R mc ms Pc) (PostOf Qc mc ms free) (vx_Post XC mc ms free) := vx_backW (hh := hh) (bytes := bytes) (maxL := maxL) (ret := ret) hM hp.1 hrc hrs hfr hlo hws hcw (fun a' U hW => word_at hW (Or.inl (by first | rfl | simp [Cond.onTables, Cond.keeps, Cond.steady])) hini)
  obtain ⟨hx, hb, hml, ho, -⟩ := S
  obtain ⟨-, ⟨cellB, hcB, hoB, hclB⟩, hPc⟩ := hp
  intro T hT X
  rcases vx_callVX X hx (C := C) (hh := hh) (bytes := bytes) (maxL := maxL) (ret := ret) ho hl hin hse hcode hy hK (by rw [hT]; exact hcB) hoB hclB hg (hsize.trans hml.symm) (argsL := As) (rest := rest) (fun sig h => hn.trans (hlen sig h)) hstack hW (by rw [hb]; exact hdg)
    (fun vm₁ hW₁ => ⟨hf.1, hf.2, hPc (T.setVm vm₁) hT hW₁⟩) with ⟨v, vm₁, ⟨U', l2, c2, s2⟩, hW₁, X', ⟨g', mk, t, L, e1, e2, hq, h1, hL, h2, h3⟩, st⟩ | ⟨q, vm₁, ⟨U', l2, c2, s2⟩, hW₁, X', ⟨g', mk, t, L, E, ce, e1, e2, hq, hce, hcv, hcl, h1, hL, h2, h3⟩, st⟩
  · dsimp only [Pt.U, Pt.locs, Pt.cells, Pt.slots] at X' e1 e2 h1 h2 h3 st
    subst h1; subst h2; subst h3
    exact Or.inl ⟨v, (T.setVm vm₁).calling g' mk (Value.ref b :: As).toArray, t, U', L, hT, X', hL, e1, e2, hq, st⟩
  · dsimp only [Pt.U, Pt.locs, Pt.cells, Pt.slots] at X' e1 e2 h1 h2 h3 st hcl
    subst h1; subst h2; subst h3
    exact Or.inr ⟨q, (T.setVm vm₁).calling g' mk (Value.ref b :: As).toArray, t, U', L, E, ce, hT, X', hL, e1, e2, hq, hce, hcv, vx_cls hW₁ hcl, st⟩
theorem vx_runSX {hh : List (Nat × Nat × Nat × Nat)} (S : CallFix p m c cc nL s args Ts own) (hM : vx_Met l y ws rm Pc Qc XC mc ms free) (cw : vx_CSW R s args own index y bytes maxL ret hh ws rm mc ms n) (hp : PreS s H Pc As)
    (hg : g.method = m) (hn : As.length = n) (hsize : g.locals.size = nL) (hstack : g.stack = As.reverse ++ rest) (hW : 2 * g.monitorRoom + (rest.map fun v => v.category).sum ≤ 8) (hdg : decode cc g.pc = .ok (.invokestatic index, 3)) (hf : cells + mc ≤ R.cells ∧ slots + ms ≤ R.slots) :
    vx_Run p l e R s m args below meth c H locs cells slots mc ms g rest (Qc As.toArray) XC free := by
  obtain ⟨⟨hrc, hrs, hfr, hlo, hws, hcw⟩, hcode, hini, hy, hlen, hl, hstt⟩ := cw
  have hK : vx_Back l R p e below s args y 3 8 (PreOf R mc ms Pc) (PostOf Qc mc ms free) (vx_Post XC mc ms free) := vx_backW (hh := hh) (bytes := bytes) (maxL := maxL) (ret := ret) hM hp.1 hrc hrs hfr hlo hws hcw (fun a' U hW => word_at hW (Or.inl (by first | rfl | simp [Cond.onTables, Cond.keeps, Cond.steady])) hini)
  obtain ⟨hx, hb, hml, ho, -⟩ := S
  intro T hT X
  rcases vx_callSX X hx (hh := hh) (bytes := bytes) (maxL := maxL) (ret := ret) ho hl hstt hini hcode hy hK hg (hsize.trans hml.symm) (argsL := As) (rest := rest) (fun sig h => hn.trans (hlen sig h)) hstack hW (by rw [hb]; exact hdg)
    (fun vm₁ hW₁ => ⟨hf.1, hf.2, hp.2 (T.setVm vm₁) hT hW₁⟩) with ⟨v, vm₁, ⟨U', l2, c2, s2⟩, hW₁, X', ⟨g', mk, t, L, e1, e2, hq, h1, hL, h2, h3⟩, st⟩ | ⟨q, vm₁, ⟨U', l2, c2, s2⟩, hW₁, X', ⟨g', mk, t, L, E, ce, e1, e2, hq, hce, hcv, hcl, h1, hL, h2, h3⟩, st⟩
  · dsimp only [Pt.U, Pt.locs, Pt.cells, Pt.slots] at X' e1 e2 h1 h2 h3 st
    subst h1; subst h2; subst h3
    exact Or.inl ⟨v, (T.setVm vm₁).calling g' mk As.toArray, t, U', L, hT, X', hL, e1, e2, hq, st⟩
  · dsimp only [Pt.U, Pt.locs, Pt.cells, Pt.slots] at X' e1 e2 h1 h2 h3 st hcl
    subst h1; subst h2; subst h3
    exact Or.inr ⟨q, (T.setVm vm₁).calling g' mk As.toArray, t, U', L, E, ce, hT, X', hL, e1, e2, hq, hce, hcv, vx_cls hW₁ hcl, st⟩
end
end VXH
theorem vx_ofWH {l : Launch} {y : MethodName} {ws ws' : List Cond} {rm : Room} {Pc : Array Value → State → Prop} {Qc : Array Value → State → Outcome → State → Prop} {XC : String → State → State → Prop} {mc ms : Nat} {free : Addr → Prop} {cc : ByteArray} {maxL : Nat} {ret : Option FieldType} {hh : List (Nat × Nat × Nat × Nat)}
    (hy : plainName y.cls = true) (hw : ws = Cond.codeWith y cc maxL ret hh :: ws')
    (body : ∀ p e s m args below meth c s₁, BodyLoose p l y (headSpec ws rm) cc maxL ret e s m args below meth c s₁ → c.maxLocals = maxL → Pc args s →
      W p l e (headSpec ws rm).room s m args below meth c s.heap [] 0 0 (vx_MQ below Qc XC args s mc ms free) (entryFrame m args maxL)) : vx_Met l y ws rm Pc Qc XC mc ms free := by
  refine MetFree.of_bodyS (code := cc) (maxLocals := maxL) (ret := ret) hy ?_ ?_
  · intro args s m h hn
    obtain ⟨m9, meth, c, hn9, h1, h2, h3, h4, -, h5, h6, -⟩ := Cond.codeWith_spec (atoms_spec (ws := ws) h _ (by rw [hw]; exact List.mem_cons_self))
    cases hn.symm.trans hn9
    exact ⟨meth, c, h1, h2, h3, h4, h5, h6⟩
  · intro p e s m args below meth c s₁ B hml hP _
    have hh0 : s₁.heap = s.heap := by rw [B.state]; rfl
    obtain ⟨t, a1, o, b1, b2, b3⟩ := body p e s m args below meth c s₁ B hml hP s₁ hh0 (Stand.of_body B)
    exact ⟨t, o, a1, b1, b2, b3⟩
/-! ===== END ===== -/
end
section
def RX0 : String := "ElectionTabulator$Chooser"
def TX0 : u_T := fun k => match k with
  | 0 => ("ElectionTabulator$Chooser", "election", "LElectionTabulator$Election;", true)
  | 1 => ("ElectionTabulator$Chooser", "result", "LElectionTabulator$Result;", true)
  | 2 => ("ElectionTabulator$Chooser", "reason", "I", false)
  | _ => ("ElectionTabulator$Chooser", "tieRound", "I", false)
def tyX0 : Nat → FieldType := fun k => match k with
  | 0 => .object "ElectionTabulator$Election"
  | 1 => .object "ElectionTabulator$Result"
  | 2 => .int
  | _ => .int
theorem nmX0 : ∀ a, a < 4 → ∀ b, b < 4 → a ≠ b → (TX0 a).2.1 ≠ (TX0 b).2.1 := by decide +kernel
theorem tyX0_ok : ∀ k, k < 4 → parseFieldDescriptor (TX0 k).2.2.1 = some (tyX0 k) := by decide +kernel
abbrev cX0_init : ByteArray := prog_2_method_1_code
def yX0_init : MethodName := ⟨RX0, "<init>", "(LElectionTabulator$Election;LElectionTabulator$Result;)V"⟩
abbrev cX0_choose : ByteArray := prog_2_method_2_code
def yX0_choose : MethodName := ⟨RX0, "choose", "(IIZ)I"⟩
abbrev cX0_keepExtreme : ByteArray := prog_2_method_3_code
def yX0_keepExtreme : MethodName := ⟨RX0, "keepExtreme", "(IIZ)I"⟩
abbrev cX0_firstByLot : ByteArray := prog_2_method_4_code
def yX0_firstByLot : MethodName := ⟨RX0, "firstByLot", "(IZ)I"⟩
def RX1 : String := "ElectionTabulator$Counting"
def TX1 : u_T := fun k => match k with
  | 0 => ("ElectionTabulator$Counting", "election", "LElectionTabulator$Election;", true)
  | 1 => ("ElectionTabulator$Counting", "chooser", "LElectionTabulator$Chooser;", true)
  | 2 => ("ElectionTabulator$Counting", "result", "LElectionTabulator$Result;", true)
  | 3 => ("ElectionTabulator$Counting", "fates", "LElectionTabulator$Fates;", true)
  | 4 => ("ElectionTabulator$Counting", "log", "LElectionTabulator$RoundLog;", true)
  | 5 => ("ElectionTabulator$Counting", "votes", "[I", true)
  | 6 => ("ElectionTabulator$Counting", "holder", "[I", true)
  | 7 => ("ElectionTabulator$Counting", "place", "[I", true)
  | 8 => ("ElectionTabulator$Counting", "came", "[I", true)
  | 9 => ("ElectionTabulator$Counting", "worth", "[I", true)
  | 10 => ("ElectionTabulator$Counting", "hopeful", "I", false)
  | 11 => ("ElectionTabulator$Counting", "untransferred", "I", false)
  | 12 => ("ElectionTabulator$Counting", "papers", "I", false)
  | 13 => ("ElectionTabulator$Counting", "quota", "I", false)
  | 14 => ("ElectionTabulator$Counting", "exhausted", "I", false)
  | _ => ("ElectionTabulator$Counting", "lost", "I", false)
def tyX1 : Nat → FieldType := fun k => match k with
  | 0 => .object "ElectionTabulator$Election"
  | 1 => .object "ElectionTabulator$Chooser"
  | 2 => .object "ElectionTabulator$Result"
  | 3 => .object "ElectionTabulator$Fates"
  | 4 => .object "ElectionTabulator$RoundLog"
  | 5 => .array .int
  | 6 => .array .int
  | 7 => .array .int
  | 8 => .array .int
  | 9 => .array .int
  | 10 => .int
  | 11 => .int
  | 12 => .int
  | 13 => .int
  | 14 => .int
  | _ => .int
theorem nmX1 : ∀ a, a < 16 → ∀ b, b < 16 → a ≠ b → (TX1 a).2.1 ≠ (TX1 b).2.1 := by decide +kernel
theorem tyX1_ok : ∀ k, k < 16 → parseFieldDescriptor (TX1 k).2.2.1 = some (tyX1 k) := by decide +kernel
abbrev cX1_init : ByteArray := prog_3_method_1_code
def yX1_init : MethodName := ⟨RX1, "<init>", "(LElectionTabulator$Election;)V"⟩
abbrev cX1_run : ByteArray := prog_3_method_2_code
def yX1_run : MethodName := ⟨RX1, "run", "()V"⟩
abbrev cX1_startCandidates : ByteArray := prog_3_method_3_code
def yX1_startCandidates : MethodName := ⟨RX1, "startCandidates", "()V"⟩
abbrev cX1_startPiles : ByteArray := prog_3_method_4_code
def yX1_startPiles : MethodName := ⟨RX1, "startPiles", "()V"⟩
abbrev cX1_findQuota : ByteArray := prog_3_method_5_code
def yX1_findQuota : MethodName := ⟨RX1, "findQuota", "()I"⟩
abbrev cX1_logRound : ByteArray := prog_3_method_6_code
def yX1_logRound : MethodName := ⟨RX1, "logRound", "(I)V"⟩
abbrev cX1_playRound : ByteArray := prog_3_method_7_code
def yX1_playRound : MethodName := ⟨RX1, "playRound", "(I)Z"⟩
abbrev cX1_electWithQuota : ByteArray := prog_3_method_8_code
def yX1_electWithQuota : MethodName := ⟨RX1, "electWithQuota", "(II)V"⟩
abbrev cX1_electAllHopeful : ByteArray := prog_3_method_9_code
def yX1_electAllHopeful : MethodName := ⟨RX1, "electAllHopeful", "(I)V"⟩
abbrev cX1_elect : ByteArray := prog_3_method_10_code
def yX1_elect : MethodName := ⟨RX1, "elect", "(III)V"⟩
abbrev cX1_withMoreThanQuota : ByteArray := prog_3_method_11_code
def yX1_withMoreThanQuota : MethodName := ⟨RX1, "withMoreThanQuota", "()I"⟩
abbrev cX1_transferSurplus : ByteArray := prog_3_method_12_code
def yX1_transferSurplus : MethodName := ⟨RX1, "transferSurplus", "(II)V"⟩
abbrev cX1_lastParcel : ByteArray := prog_3_method_13_code
def yX1_lastParcel : MethodName := ⟨RX1, "lastParcel", "(I)I"⟩
abbrev cX1_isInParcel : ByteArray := prog_3_method_14_code
def yX1_isInParcel : MethodName := ⟨RX1, "isInParcel", "(III)Z"⟩
abbrev cX1_worthOfParcel : ByteArray := prog_3_method_15_code
def yX1_worthOfParcel : MethodName := ⟨RX1, "worthOfParcel", "(II)I"⟩
abbrev cX1_reducedWorth : ByteArray := prog_3_method_16_code
def yX1_reducedWorth : MethodName := ⟨RX1, "reducedWorth", "(III)I"⟩
abbrev cX1_excludeWeakest : ByteArray := prog_3_method_17_code
def yX1_excludeWeakest : MethodName := ⟨RX1, "excludeWeakest", "(I)V"⟩
abbrev cX1_logEvent : ByteArray := prog_3_method_18_code
def yX1_logEvent : MethodName := ⟨RX1, "logEvent", "(IIII)V"⟩
abbrev cX1_sendOn : ByteArray := prog_3_method_19_code
def yX1_sendOn : MethodName := ⟨RX1, "sendOn", "(II)I"⟩
def RX2 : String := "ElectionTabulator$Election"
def TX2 : u_T := fun k => match k with
  | 0 => ("ElectionTabulator$Election", "candidates", "I", false)
  | 1 => ("ElectionTabulator$Election", "settings", "[I", true)
  | 2 => ("ElectionTabulator$Election", "withdrawn", "I", false)
  | 3 => ("ElectionTabulator$Election", "lot", "[I", true)
  | 4 => ("ElectionTabulator$Election", "piles", "I", false)
  | 5 => ("ElectionTabulator$Election", "sizes", "[I", true)
  | 6 => ("ElectionTabulator$Election", "lengths", "[I", true)
  | _ => ("ElectionTabulator$Election", "rankings", "[[I", true)
def tyX2 : Nat → FieldType := fun k => match k with
  | 0 => .int
  | 1 => .array .int
  | 2 => .int
  | 3 => .array .int
  | 4 => .int
  | 5 => .array .int
  | 6 => .array .int
  | _ => .array (.array .int)
theorem nmX2 : ∀ a, a < 8 → ∀ b, b < 8 → a ≠ b → (TX2 a).2.1 ≠ (TX2 b).2.1 := by decide +kernel
theorem tyX2_ok : ∀ k, k < 8 → parseFieldDescriptor (TX2 k).2.2.1 = some (tyX2 k) := by decide +kernel
abbrev cX2_init : ByteArray := prog_4_method_1_code
def yX2_init : MethodName := ⟨RX2, "<init>", "()V"⟩
abbrev cX2_startAgain : ByteArray := prog_4_method_2_code
def yX2_startAgain : MethodName := ⟨RX2, "startAgain", "(II)V"⟩
abbrev cX2_copyFrom : ByteArray := prog_4_method_3_code
def yX2_copyFrom : MethodName := ⟨RX2, "copyFrom", "(LElectionTabulator$Election;)V"⟩
abbrev cX2_addPile : ByteArray := prog_4_method_4_code
def yX2_addPile : MethodName := ⟨RX2, "addPile", "(I[II)V"⟩
abbrev cX2_addPileFor : ByteArray := prog_4_method_5_code
def yX2_addPileFor : MethodName := ⟨RX2, "addPileFor", "(I)I"⟩
abbrev cX2_resize : ByteArray := prog_4_method_6_code
def yX2_resize : MethodName := ⟨RX2, "resize", "(II)V"⟩
abbrev cX2_rank : ByteArray := prog_4_method_7_code
def yX2_rank : MethodName := ⟨RX2, "rank", "(I[II)V"⟩
abbrev cX2_drawLot : ByteArray := prog_4_method_8_code
def yX2_drawLot : MethodName := ⟨RX2, "drawLot", "([I)V"⟩
abbrev cX2_papers : ByteArray := prog_4_method_9_code
def yX2_papers : MethodName := ⟨RX2, "papers", "()I"⟩
abbrev cX2_papersPreferring : ByteArray := prog_4_method_10_code
def yX2_papersPreferring : MethodName := ⟨RX2, "papersPreferring", "(II)I"⟩
abbrev cX2_prefers : ByteArray := prog_4_method_11_code
def yX2_prefers : MethodName := ⟨RX2, "prefers", "(III)Z"⟩
def RX3 : String := "ElectionTabulator$Fates"
def TX3 : u_T := fun k => match k with
  | 0 => ("ElectionTabulator$Fates", "round", "[I", true)
  | 1 => ("ElectionTabulator$Fates", "reason", "[I", true)
  | _ => ("ElectionTabulator$Fates", "tieRound", "[I", true)
def tyX3 : Nat → FieldType := fun k => match k with
  | 0 => .array .int
  | 1 => .array .int
  | _ => .array .int
theorem nmX3 : ∀ a, a < 3 → ∀ b, b < 3 → a ≠ b → (TX3 a).2.1 ≠ (TX3 b).2.1 := by decide +kernel
theorem tyX3_ok : ∀ k, k < 3 → parseFieldDescriptor (TX3 k).2.2.1 = some (tyX3 k) := by decide +kernel
abbrev cX3_init : ByteArray := prog_5_method_1_code
def yX3_init : MethodName := ⟨RX3, "<init>", "()V"⟩
def RX4 : String := "ElectionTabulator$History"
def TX4 : u_T := fun k => match k with
  | 0 => ("ElectionTabulator$History", "states", "[LElectionTabulator$Election;", true)
  | _ => ("ElectionTabulator$History", "size", "I", false)
def tyX4 : Nat → FieldType := fun k => match k with
  | 0 => .array (.object "ElectionTabulator$Election")
  | _ => .int
theorem nmX4 : ∀ a, a < 2 → ∀ b, b < 2 → a ≠ b → (TX4 a).2.1 ≠ (TX4 b).2.1 := by decide +kernel
theorem tyX4_ok : ∀ k, k < 2 → parseFieldDescriptor (TX4 k).2.2.1 = some (tyX4 k) := by decide +kernel
abbrev cX4_init : ByteArray := prog_6_method_1_code
def yX4_init : MethodName := ⟨RX4, "<init>", "()V"⟩
abbrev cX4_forgetAll : ByteArray := prog_6_method_2_code
def yX4_forgetAll : MethodName := ⟨RX4, "forgetAll", "()V"⟩
abbrev cX4_remember : ByteArray := prog_6_method_3_code
def yX4_remember : MethodName := ⟨RX4, "remember", "(LElectionTabulator$Election;)V"⟩
abbrev cX4_takeBack : ByteArray := prog_6_method_4_code
def yX4_takeBack : MethodName := ⟨RX4, "takeBack", "(LElectionTabulator$Election;)V"⟩
abbrev cX4_forgetOldest : ByteArray := prog_6_method_5_code
def yX4_forgetOldest : MethodName := ⟨RX4, "forgetOldest", "()V"⟩
def RX5 : String := "ElectionTabulator$Result"
def TX5 : u_T := fun k => match k with
  | 0 => ("ElectionTabulator$Result", "rounds", "I", false)
  | 1 => ("ElectionTabulator$Result", "electedCount", "I", false)
  | 2 => ("ElectionTabulator$Result", "order", "[I", true)
  | 3 => ("ElectionTabulator$Result", "status", "[I", true)
  | _ => ("ElectionTabulator$Result", "votes", "[[I", true)
def tyX5 : Nat → FieldType := fun k => match k with
  | 0 => .int
  | 1 => .int
  | 2 => .array .int
  | 3 => .array .int
  | _ => .array (.array .int)
theorem nmX5 : ∀ a, a < 5 → ∀ b, b < 5 → a ≠ b → (TX5 a).2.1 ≠ (TX5 b).2.1 := by decide +kernel
theorem tyX5_ok : ∀ k, k < 5 → parseFieldDescriptor (TX5 k).2.2.1 = some (tyX5 k) := by decide +kernel
abbrev cX5_init : ByteArray := prog_7_method_1_code
def yX5_init : MethodName := ⟨RX5, "<init>", "()V"⟩
abbrev cX5_copyFrom : ByteArray := prog_7_method_2_code
def yX5_copyFrom : MethodName := ⟨RX5, "copyFrom", "(LElectionTabulator$Result;)V"⟩
abbrev cX5_hasRound : ByteArray := prog_7_method_3_code
def yX5_hasRound : MethodName := ⟨RX5, "hasRound", "(I)Z"⟩
abbrev cX5_placeOf : ByteArray := prog_7_method_4_code
def yX5_placeOf : MethodName := ⟨RX5, "placeOf", "(I)I"⟩
abbrev cX5_lastVotes : ByteArray := prog_7_method_5_code
def yX5_lastVotes : MethodName := ⟨RX5, "lastVotes", "(I)I"⟩
abbrev cX5_otherStatuses : ByteArray := prog_7_method_6_code
def yX5_otherStatuses : MethodName := ⟨RX5, "otherStatuses", "(LElectionTabulator$Result;I)I"⟩
abbrev cX5_firstOtherPlace : ByteArray := prog_7_method_7_code
def yX5_firstOtherPlace : MethodName := ⟨RX5, "firstOtherPlace", "(LElectionTabulator$Result;)I"⟩
abbrev cX5_firstOtherRound : ByteArray := prog_7_method_8_code
def yX5_firstOtherRound : MethodName := ⟨RX5, "firstOtherRound", "(LElectionTabulator$Result;I)I"⟩
def RX6 : String := "ElectionTabulator$RoundLog"
def TX6 : u_T := fun k => match k with
  | 0 => ("ElectionTabulator$RoundLog", "quota", "[I", true)
  | 1 => ("ElectionTabulator$RoundLog", "exhausted", "[I", true)
  | 2 => ("ElectionTabulator$RoundLog", "lost", "[I", true)
  | 3 => ("ElectionTabulator$RoundLog", "event", "[I", true)
  | 4 => ("ElectionTabulator$RoundLog", "subject", "[I", true)
  | 5 => ("ElectionTabulator$RoundLog", "moved", "[I", true)
  | 6 => ("ElectionTabulator$RoundLog", "newlyElected", "[I", true)
  | 7 => ("ElectionTabulator$RoundLog", "holder", "[[I", true)
  | _ => ("ElectionTabulator$RoundLog", "worth", "[[I", true)
def tyX6 : Nat → FieldType := fun k => match k with
  | 0 => .array .int
  | 1 => .array .int
  | 2 => .array .int
  | 3 => .array .int
  | 4 => .array .int
  | 5 => .array .int
  | 6 => .array .int
  | 7 => .array (.array .int)
  | _ => .array (.array .int)
theorem nmX6 : ∀ a, a < 9 → ∀ b, b < 9 → a ≠ b → (TX6 a).2.1 ≠ (TX6 b).2.1 := by decide +kernel
theorem tyX6_ok : ∀ k, k < 9 → parseFieldDescriptor (TX6 k).2.2.1 = some (tyX6 k) := by decide +kernel
abbrev cX6_init : ByteArray := prog_8_method_1_code
def yX6_init : MethodName := ⟨RX6, "<init>", "()V"⟩
def RX7 : String := "ElectionTabulator$TextReader"
def TX7 : u_T := fun k => match k with
  | 0 => ("ElectionTabulator$TextReader", "text", "[I", true)
  | 1 => ("ElectionTabulator$TextReader", "ranking", "[I", true)
  | 2 => ("ElectionTabulator$TextReader", "rankingLength", "I", false)
  | 3 => ("ElectionTabulator$TextReader", "position", "I", false)
  | 4 => ("ElectionTabulator$TextReader", "length", "I", false)
  | _ => ("ElectionTabulator$TextReader", "error", "I", false)
def tyX7 : Nat → FieldType := fun k => match k with
  | 0 => .array .int
  | 1 => .array .int
  | 2 => .int
  | 3 => .int
  | 4 => .int
  | _ => .int
theorem nmX7 : ∀ a, a < 6 → ∀ b, b < 6 → a ≠ b → (TX7 a).2.1 ≠ (TX7 b).2.1 := by decide +kernel
theorem tyX7_ok : ∀ k, k < 6 → parseFieldDescriptor (TX7 k).2.2.1 = some (tyX7 k) := by decide +kernel
abbrev cX7_init : ByteArray := prog_9_method_1_code
def yX7_init : MethodName := ⟨RX7, "<init>", "()V"⟩
abbrev cX7_addSign : ByteArray := prog_9_method_2_code
def yX7_addSign : MethodName := ⟨RX7, "addSign", "(I)V"⟩
abbrev cX7_clear : ByteArray := prog_9_method_3_code
def yX7_clear : MethodName := ⟨RX7, "clear", "()V"⟩
abbrev cX7_readInto : ByteArray := prog_9_method_4_code
def yX7_readInto : MethodName := ⟨RX7, "readInto", "(LElectionTabulator$Election;)I"⟩
abbrev cX7_readCommand : ByteArray := prog_9_method_5_code
def yX7_readCommand : MethodName := ⟨RX7, "readCommand", "(LElectionTabulator$Election;)Z"⟩
abbrev cX7_readAddition : ByteArray := prog_9_method_6_code
def yX7_readAddition : MethodName := ⟨RX7, "readAddition", "(LElectionTabulator$Election;)Z"⟩
abbrev cX7_readSize : ByteArray := prog_9_method_7_code
def yX7_readSize : MethodName := ⟨RX7, "readSize", "(LElectionTabulator$Election;)Z"⟩
abbrev cX7_readReplacement : ByteArray := prog_9_method_8_code
def yX7_readReplacement : MethodName := ⟨RX7, "readReplacement", "(LElectionTabulator$Election;)Z"⟩
abbrev cX7_readLot : ByteArray := prog_9_method_9_code
def yX7_readLot : MethodName := ⟨RX7, "readLot", "(LElectionTabulator$Election;)Z"⟩
abbrev cX7_readRanking : ByteArray := prog_9_method_10_code
def yX7_readRanking : MethodName := ⟨RX7, "readRanking", "(II)Z"⟩
abbrev cX7_readPileNumber : ByteArray := prog_9_method_11_code
def yX7_readPileNumber : MethodName := ⟨RX7, "readPileNumber", "(LElectionTabulator$Election;)I"⟩
abbrev cX7_readNumber : ByteArray := prog_9_method_12_code
def yX7_readNumber : MethodName := ⟨RX7, "readNumber", "()I"⟩
abbrev cX7_pass : ByteArray := prog_9_method_13_code
def yX7_pass : MethodName := ⟨RX7, "pass", "(I)Z"⟩
abbrev cX7_next : ByteArray := prog_9_method_14_code
def yX7_next : MethodName := ⟨RX7, "next", "()I"⟩
abbrev cX7_failAt : ByteArray := prog_9_method_15_code
def yX7_failAt : MethodName := ⟨RX7, "failAt", "(I)Z"⟩
def RX8 : String := "ElectionTabulator"
def TX8 : u_T := fun k => match k with
  | 0 => ("ElectionTabulator", "election", "LElectionTabulator$Election;", true)
  | 1 => ("ElectionTabulator", "draft", "LElectionTabulator$Election;", true)
  | 2 => ("ElectionTabulator", "trialElection", "LElectionTabulator$Election;", true)
  | 3 => ("ElectionTabulator", "present", "LElectionTabulator$Counting;", true)
  | 4 => ("ElectionTabulator", "trial", "LElectionTabulator$Counting;", true)
  | 5 => ("ElectionTabulator", "reader", "LElectionTabulator$TextReader;", true)
  | 6 => ("ElectionTabulator", "history", "LElectionTabulator$History;", true)
  | 7 => ("ElectionTabulator", "declared", "LElectionTabulator$Result;", true)
  | 8 => ("ElectionTabulator", "savedElection", "LElectionTabulator$Election;", true)
  | 9 => ("ElectionTabulator", "savedDeclared", "LElectionTabulator$Result;", true)
  | 10 => ("ElectionTabulator", "isCounted", "Z", false)
  | 11 => ("ElectionTabulator", "isDeclared", "Z", false)
  | 12 => ("ElectionTabulator", "isSaved", "Z", false)
  | _ => ("ElectionTabulator", "isSavedDeclared", "Z", false)
def tyX8 : Nat → FieldType := fun k => match k with
  | 0 => .object "ElectionTabulator$Election"
  | 1 => .object "ElectionTabulator$Election"
  | 2 => .object "ElectionTabulator$Election"
  | 3 => .object "ElectionTabulator$Counting"
  | 4 => .object "ElectionTabulator$Counting"
  | 5 => .object "ElectionTabulator$TextReader"
  | 6 => .object "ElectionTabulator$History"
  | 7 => .object "ElectionTabulator$Result"
  | 8 => .object "ElectionTabulator$Election"
  | 9 => .object "ElectionTabulator$Result"
  | 10 => .boolean
  | 11 => .boolean
  | 12 => .boolean
  | _ => .boolean
theorem nmX8 : ∀ a, a < 14 → ∀ b, b < 14 → a ≠ b → (TX8 a).2.1 ≠ (TX8 b).2.1 := by decide +kernel
theorem tyX8_ok : ∀ k, k < 14 → parseFieldDescriptor (TX8 k).2.2.1 = some (tyX8 k) := by decide +kernel
abbrev cX8_init : ByteArray := prog_1_method_1_code
def yX8_init : MethodName := ⟨RX8, "<init>", "()V"⟩
abbrev cX8_begin : ByteArray := prog_1_method_2_code
def yX8_begin : MethodName := ⟨RX8, "begin", "(II)I"⟩
abbrev cX8_append : ByteArray := prog_1_method_3_code
def yX8_append : MethodName := ⟨RX8, "append", "(I)I"⟩
abbrev cX8_execute : ByteArray := prog_1_method_4_code
def yX8_execute : MethodName := ⟨RX8, "execute", "()I"⟩
abbrev cX8_errorPosition : ByteArray := prog_1_method_5_code
def yX8_errorPosition : MethodName := ⟨RX8, "errorPosition", "()I"⟩
abbrev cX8_set : ByteArray := prog_1_method_6_code
def yX8_set : MethodName := ⟨RX8, "set", "(II)I"⟩
abbrev cX8_withdraw : ByteArray := prog_1_method_7_code
def yX8_withdraw : MethodName := ⟨RX8, "withdraw", "(I)Z"⟩
abbrev cX8_pile : ByteArray := prog_1_method_8_code
def yX8_pile : MethodName := ⟨RX8, "pile", "(II)I"⟩
abbrev cX8_character : ByteArray := prog_1_method_9_code
def yX8_character : MethodName := ⟨RX8, "character", "(II)I"⟩
abbrev cX8_rounds : ByteArray := prog_1_method_10_code
def yX8_rounds : MethodName := ⟨RX8, "rounds", "()I"⟩
abbrev cX8_votes : ByteArray := prog_1_method_11_code
def yX8_votes : MethodName := ⟨RX8, "votes", "(II)I"⟩
abbrev cX8_round : ByteArray := prog_1_method_12_code
def yX8_round : MethodName := ⟨RX8, "round", "(II)I"⟩
abbrev cX8_candidate : ByteArray := prog_1_method_13_code
def yX8_candidate : MethodName := ⟨RX8, "candidate", "(II)I"⟩
abbrev cX8_elected : ByteArray := prog_1_method_14_code
def yX8_elected : MethodName := ⟨RX8, "elected", "(I)I"⟩
abbrev cX8_where : ByteArray := prog_1_method_15_code
def yX8_where : MethodName := ⟨RX8, "where", "(III)I"⟩
abbrev cX8_share : ByteArray := prog_1_method_16_code
def yX8_share : MethodName := ⟨RX8, "share", "(II)F"⟩
abbrev cX8_preferring : ByteArray := prog_1_method_17_code
def yX8_preferring : MethodName := ⟨RX8, "preferring", "(II)I"⟩
abbrev cX8_beatsAll : ByteArray := prog_1_method_18_code
def yX8_beatsAll : MethodName := ⟨RX8, "beatsAll", "()I"⟩
abbrev cX8_points : ByteArray := prog_1_method_19_code
def yX8_points : MethodName := ⟨RX8, "points", "(I)I"⟩
abbrev cX8_declare : ByteArray := prog_1_method_20_code
def yX8_declare : MethodName := ⟨RX8, "declare", "()I"⟩
abbrev cX8_recount : ByteArray := prog_1_method_21_code
def yX8_recount : MethodName := ⟨RX8, "recount", "(I)I"⟩
abbrev cX8_needed : ByteArray := prog_1_method_22_code
def yX8_needed : MethodName := ⟨RX8, "needed", "(I)I"⟩
abbrev cX8_undo : ByteArray := prog_1_method_23_code
def yX8_undo : MethodName := ⟨RX8, "undo", "()I"⟩
abbrev cX8_save : ByteArray := prog_1_method_24_code
def yX8_save : MethodName := ⟨RX8, "save", "()I"⟩
abbrev cX8_restore : ByteArray := prog_1_method_25_code
def yX8_restore : MethodName := ⟨RX8, "restore", "()I"⟩
abbrev cX8_count : ByteArray := prog_1_method_26_code
def yX8_count : MethodName := ⟨RX8, "count", "(I)I"⟩
abbrev cX8_contains : ByteArray := prog_1_method_27_code
def yX8_contains : MethodName := ⟨RX8, "contains", "(II)Z"⟩
abbrev cX8_leastSetting : ByteArray := prog_1_method_28_code
def yX8_leastSetting : MethodName := ⟨RX8, "leastSetting", "(I)I"⟩
abbrev cX8_greatestSetting : ByteArray := prog_1_method_29_code
def yX8_greatestSetting : MethodName := ⟨RX8, "greatestSetting", "(I)I"⟩
abbrev cX8_isCandidate : ByteArray := prog_1_method_30_code
def yX8_isCandidate : MethodName := ⟨RX8, "isCandidate", "(I)Z"⟩
abbrev cX8_isPile : ByteArray := prog_1_method_31_code
def yX8_isPile : MethodName := ⟨RX8, "isPile", "(I)Z"⟩
abbrev cX8_rememberForUndo : ByteArray := prog_1_method_32_code
def yX8_rememberForUndo : MethodName := ⟨RX8, "rememberForUndo", "()V"⟩
abbrev cX8_counted : ByteArray := prog_1_method_33_code
def yX8_counted : MethodName := ⟨RX8, "counted", "()LElectionTabulator$Counting;"⟩
abbrev cX8_checkedVotes : ByteArray := prog_1_method_34_code
def yX8_checkedVotes : MethodName := ⟨RX8, "checkedVotes", "(LElectionTabulator$Result;II)I"⟩
abbrev cX8_signOfPile : ByteArray := prog_1_method_35_code
def yX8_signOfPile : MethodName := ⟨RX8, "signOfPile", "(III)I"⟩
abbrev cX8_beatsEachOther : ByteArray := prog_1_method_36_code
def yX8_beatsEachOther : MethodName := ⟨RX8, "beatsEachOther", "(I)Z"⟩
def RX9 : String := "ElectionTabulatorModel"
def TX9 : u_T := fun k => match k with
  | 0 => ("ElectionTabulatorModel", "s", "[I", true)
  | 1 => ("ElectionTabulatorModel", "before", "[I", true)
  | 2 => ("ElectionTabulatorModel", "past", "[I", true)
  | 3 => ("ElectionTabulatorModel", "pastMany", "I", false)
  | 4 => ("ElectionTabulatorModel", "saved", "[I", true)
  | 5 => ("ElectionTabulatorModel", "isSaved", "Z", false)
  | 6 => ("ElectionTabulatorModel", "thrown", "I", false)
  | 7 => ("ElectionTabulatorModel", "text", "[I", true)
  | 8 => ("ElectionTabulatorModel", "length", "I", false)
  | 9 => ("ElectionTabulatorModel", "place", "I", false)
  | 10 => ("ElectionTabulatorModel", "isWrong", "Z", false)
  | 11 => ("ElectionTabulatorModel", "errorPosition", "I", false)
  | 12 => ("ElectionTabulatorModel", "ranking", "[I", true)
  | 13 => ("ElectionTabulatorModel", "ranked", "I", false)
  | 14 => ("ElectionTabulatorModel", "isCounted", "Z", false)
  | 15 => ("ElectionTabulatorModel", "rounds", "I", false)
  | 16 => ("ElectionTabulatorModel", "votes", "[I", true)
  | 17 => ("ElectionTabulatorModel", "quotas", "[I", true)
  | 18 => ("ElectionTabulatorModel", "exhausted", "[I", true)
  | 19 => ("ElectionTabulatorModel", "lost", "[I", true)
  | 20 => ("ElectionTabulatorModel", "events", "[I", true)
  | 21 => ("ElectionTabulatorModel", "subjects", "[I", true)
  | 22 => ("ElectionTabulatorModel", "moved", "[I", true)
  | 23 => ("ElectionTabulatorModel", "chosen", "[I", true)
  | 24 => ("ElectionTabulatorModel", "places", "[I", true)
  | 25 => ("ElectionTabulatorModel", "worths", "[I", true)
  | 26 => ("ElectionTabulatorModel", "status", "[I", true)
  | 27 => ("ElectionTabulatorModel", "since", "[I", true)
  | 28 => ("ElectionTabulatorModel", "rank", "[I", true)
  | 29 => ("ElectionTabulatorModel", "reasons", "[I", true)
  | 30 => ("ElectionTabulatorModel", "breakers", "[I", true)
  | 31 => ("ElectionTabulatorModel", "winners", "[I", true)
  | 32 => ("ElectionTabulatorModel", "winnerMany", "I", false)
  | 33 => ("ElectionTabulatorModel", "now", "[I", true)
  | 34 => ("ElectionTabulatorModel", "isDone", "[Z", true)
  | 35 => ("ElectionTabulatorModel", "with", "[I", true)
  | 36 => ("ElectionTabulatorModel", "at", "[I", true)
  | 37 => ("ElectionTabulatorModel", "worth", "[I", true)
  | 38 => ("ElectionTabulatorModel", "came", "[I", true)
  | 39 => ("ElectionTabulatorModel", "exhaustedNow", "I", false)
  | 40 => ("ElectionTabulatorModel", "lostNow", "I", false)
  | 41 => ("ElectionTabulatorModel", "breaker", "I", false)
  | 42 => ("ElectionTabulatorModel", "isByLot", "Z", false)
  | 43 => ("ElectionTabulatorModel", "isDeclared", "Z", false)
  | 44 => ("ElectionTabulatorModel", "declaredRounds", "I", false)
  | 45 => ("ElectionTabulatorModel", "declaredMany", "I", false)
  | 46 => ("ElectionTabulatorModel", "declaredVotes", "[I", true)
  | 47 => ("ElectionTabulatorModel", "declaredStatus", "[I", true)
  | 48 => ("ElectionTabulatorModel", "declaredWinners", "[I", true)
  | _ => ("ElectionTabulatorModel", "savedResult", "[I", true)
def tyX9 : Nat → FieldType := fun k => match k with
  | 0 => .array .int
  | 1 => .array .int
  | 2 => .array .int
  | 3 => .int
  | 4 => .array .int
  | 5 => .boolean
  | 6 => .int
  | 7 => .array .int
  | 8 => .int
  | 9 => .int
  | 10 => .boolean
  | 11 => .int
  | 12 => .array .int
  | 13 => .int
  | 14 => .boolean
  | 15 => .int
  | 16 => .array .int
  | 17 => .array .int
  | 18 => .array .int
  | 19 => .array .int
  | 20 => .array .int
  | 21 => .array .int
  | 22 => .array .int
  | 23 => .array .int
  | 24 => .array .int
  | 25 => .array .int
  | 26 => .array .int
  | 27 => .array .int
  | 28 => .array .int
  | 29 => .array .int
  | 30 => .array .int
  | 31 => .array .int
  | 32 => .int
  | 33 => .array .int
  | 34 => .array .boolean
  | 35 => .array .int
  | 36 => .array .int
  | 37 => .array .int
  | 38 => .array .int
  | 39 => .int
  | 40 => .int
  | 41 => .int
  | 42 => .boolean
  | 43 => .boolean
  | 44 => .int
  | 45 => .int
  | 46 => .array .int
  | 47 => .array .int
  | 48 => .array .int
  | _ => .array .int
theorem nmX9 : ∀ a, a < 50 → ∀ b, b < 50 → a ≠ b → (TX9 a).2.1 ≠ (TX9 b).2.1 := by decide +kernel
theorem tyX9_ok : ∀ k, k < 50 → parseFieldDescriptor (TX9 k).2.2.1 = some (tyX9 k) := by decide +kernel
abbrev cX9_init : ByteArray := prog_11_method_1_code
def yX9_init : MethodName := ⟨RX9, "<init>", "()V"⟩
abbrev cX9_thrown : ByteArray := prog_11_method_2_code
def yX9_thrown : MethodName := ⟨RX9, "thrown", "()I"⟩
abbrev cX9_in : ByteArray := prog_11_method_3_code
def yX9_in : MethodName := ⟨RX9, "in", "(III)Z"⟩
abbrev cX9_isCandidate : ByteArray := prog_11_method_4_code
def yX9_isCandidate : MethodName := ⟨RX9, "isCandidate", "(I)Z"⟩
abbrev cX9_isPile : ByteArray := prog_11_method_5_code
def yX9_isPile : MethodName := ⟨RX9, "isPile", "(I)Z"⟩
abbrev cX9_pileAt : ByteArray := prog_11_method_6_code
def yX9_pileAt : MethodName := ⟨RX9, "pileAt", "(II)I"⟩
abbrev cX9_sizeOf : ByteArray := prog_11_method_7_code
def yX9_sizeOf : MethodName := ⟨RX9, "sizeOf", "(I)I"⟩
abbrev cX9_lengthOf : ByteArray := prog_11_method_8_code
def yX9_lengthOf : MethodName := ⟨RX9, "lengthOf", "(I)I"⟩
abbrev cX9_rankOf : ByteArray := prog_11_method_9_code
def yX9_rankOf : MethodName := ⟨RX9, "rankOf", "(II)I"⟩
abbrev cX9_isGone : ByteArray := prog_11_method_10_code
def yX9_isGone : MethodName := ⟨RX9, "isGone", "(I)Z"⟩
abbrev cX9_start : ByteArray := prog_11_method_11_code
def yX9_start : MethodName := ⟨RX9, "start", "(I)V"⟩
abbrev cX9_push : ByteArray := prog_11_method_12_code
def yX9_push : MethodName := ⟨RX9, "push", "([I)V"⟩
abbrev cX9_begin : ByteArray := prog_11_method_13_code
def yX9_begin : MethodName := ⟨RX9, "begin", "(II)I"⟩
abbrev cX9_append : ByteArray := prog_11_method_14_code
def yX9_append : MethodName := ⟨RX9, "append", "(I)I"⟩
abbrev cX9_here : ByteArray := prog_11_method_15_code
def yX9_here : MethodName := ⟨RX9, "here", "()I"⟩
abbrev cX9_wrongAt : ByteArray := prog_11_method_16_code
def yX9_wrongAt : MethodName := ⟨RX9, "wrongAt", "(I)V"⟩
abbrev cX9_wants : ByteArray := prog_11_method_17_code
def yX9_wants : MethodName := ⟨RX9, "wants", "(I)V"⟩
abbrev cX9_number : ByteArray := prog_11_method_18_code
def yX9_number : MethodName := ⟨RX9, "number", "()I"⟩
abbrev cX9_knownPile : ByteArray := prog_11_method_19_code
def yX9_knownPile : MethodName := ⟨RX9, "knownPile", "()I"⟩
abbrev cX9_readRanking : ByteArray := prog_11_method_20_code
def yX9_readRanking : MethodName := ⟨RX9, "readRanking", "()V"⟩
abbrev cX9_setRanking : ByteArray := prog_11_method_21_code
def yX9_setRanking : MethodName := ⟨RX9, "setRanking", "(I)V"⟩
abbrev cX9_readPile : ByteArray := prog_11_method_22_code
def yX9_readPile : MethodName := ⟨RX9, "readPile", "()V"⟩
abbrev cX9_readChange : ByteArray := prog_11_method_23_code
def yX9_readChange : MethodName := ⟨RX9, "readChange", "(I)V"⟩
abbrev cX9_readLot : ByteArray := prog_11_method_24_code
def yX9_readLot : MethodName := ⟨RX9, "readLot", "()V"⟩
abbrev cX9_execute : ByteArray := prog_11_method_25_code
def yX9_execute : MethodName := ⟨RX9, "execute", "()I"⟩
abbrev cX9_errorPosition : ByteArray := prog_11_method_26_code
def yX9_errorPosition : MethodName := ⟨RX9, "errorPosition", "()I"⟩
abbrev cX9_set : ByteArray := prog_11_method_27_code
def yX9_set : MethodName := ⟨RX9, "set", "(II)I"⟩
abbrev cX9_withdraw : ByteArray := prog_11_method_28_code
def yX9_withdraw : MethodName := ⟨RX9, "withdraw", "(I)Z"⟩
abbrev cX9_pile : ByteArray := prog_11_method_29_code
def yX9_pile : MethodName := ⟨RX9, "pile", "(II)I"⟩
abbrev cX9_character : ByteArray := prog_11_method_30_code
def yX9_character : MethodName := ⟨RX9, "character", "(II)I"⟩
abbrev cX9_papers : ByteArray := prog_11_method_31_code
def yX9_papers : MethodName := ⟨RX9, "papers", "()I"⟩
abbrev cX9_goOn : ByteArray := prog_11_method_32_code
def yX9_goOn : MethodName := ⟨RX9, "goOn", "(III)V"⟩
abbrev cX9_prepare : ByteArray := prog_11_method_33_code
def yX9_prepare : MethodName := ⟨RX9, "prepare", "()V"⟩
abbrev cX9_quota : ByteArray := prog_11_method_34_code
def yX9_quota : MethodName := ⟨RX9, "quota", "()I"⟩
abbrev cX9_note : ByteArray := prog_11_method_35_code
def yX9_note : MethodName := ⟨RX9, "note", "()V"⟩
abbrev cX9_votesIn : ByteArray := prog_11_method_36_code
def yX9_votesIn : MethodName := ⟨RX9, "votesIn", "(II)I"⟩
abbrev cX9_foremost : ByteArray := prog_11_method_37_code
def yX9_foremost : MethodName := ⟨RX9, "foremost", "(IIZ)I"⟩
abbrev cX9_isOne : ByteArray := prog_11_method_38_code
def yX9_isOne : MethodName := ⟨RX9, "isOne", "(I)Z"⟩
abbrev cX9_look : ByteArray := prog_11_method_39_code
def yX9_look : MethodName := ⟨RX9, "look", "(IZ)I"⟩
abbrev cX9_hopeful : ByteArray := prog_11_method_40_code
def yX9_hopeful : MethodName := ⟨RX9, "hopeful", "(I)I"⟩
abbrev cX9_bits : ByteArray := prog_11_method_41_code
def yX9_bits : MethodName := ⟨RX9, "bits", "(I)I"⟩
abbrev cX9_elect : ByteArray := prog_11_method_42_code
def yX9_elect : MethodName := ⟨RX9, "elect", "(II)V"⟩
abbrev cX9_withSurplus : ByteArray := prog_11_method_43_code
def yX9_withSurplus : MethodName := ⟨RX9, "withSurplus", "()I"⟩
abbrev cX9_isOfParcel : ByteArray := prog_11_method_44_code
def yX9_isOfParcel : MethodName := ⟨RX9, "isOfParcel", "(III)Z"⟩
abbrev cX9_transfer : ByteArray := prog_11_method_45_code
def yX9_transfer : MethodName := ⟨RX9, "transfer", "(I)V"⟩
abbrev cX9_exclude : ByteArray := prog_11_method_46_code
def yX9_exclude : MethodName := ⟨RX9, "exclude", "()V"⟩
abbrev cX9_happened : ByteArray := prog_11_method_47_code
def yX9_happened : MethodName := ⟨RX9, "happened", "(III)V"⟩
abbrev cX9_count : ByteArray := prog_11_method_48_code
def yX9_count : MethodName := ⟨RX9, "count", "()V"⟩
abbrev cX9_know : ByteArray := prog_11_method_49_code
def yX9_know : MethodName := ⟨RX9, "know", "()V"⟩
abbrev cX9_rounds : ByteArray := prog_11_method_50_code
def yX9_rounds : MethodName := ⟨RX9, "rounds", "()I"⟩
abbrev cX9_isRound : ByteArray := prog_11_method_51_code
def yX9_isRound : MethodName := ⟨RX9, "isRound", "(I)Z"⟩
abbrev cX9_votes : ByteArray := prog_11_method_52_code
def yX9_votes : MethodName := ⟨RX9, "votes", "(II)I"⟩
abbrev cX9_round : ByteArray := prog_11_method_53_code
def yX9_round : MethodName := ⟨RX9, "round", "(II)I"⟩
abbrev cX9_candidate : ByteArray := prog_11_method_54_code
def yX9_candidate : MethodName := ⟨RX9, "candidate", "(II)I"⟩
abbrev cX9_elected : ByteArray := prog_11_method_55_code
def yX9_elected : MethodName := ⟨RX9, "elected", "(I)I"⟩
abbrev cX9_where : ByteArray := prog_11_method_56_code
def yX9_where : MethodName := ⟨RX9, "where", "(III)I"⟩
abbrev cX9_share : ByteArray := prog_11_method_57_code
def yX9_share : MethodName := ⟨RX9, "share", "(II)F"⟩
abbrev cX9_placeOf : ByteArray := prog_11_method_58_code
def yX9_placeOf : MethodName := ⟨RX9, "placeOf", "(II)I"⟩
abbrev cX9_prefer : ByteArray := prog_11_method_59_code
def yX9_prefer : MethodName := ⟨RX9, "prefer", "(II)I"⟩
abbrev cX9_preferring : ByteArray := prog_11_method_60_code
def yX9_preferring : MethodName := ⟨RX9, "preferring", "(II)I"⟩
abbrev cX9_beatsAll : ByteArray := prog_11_method_61_code
def yX9_beatsAll : MethodName := ⟨RX9, "beatsAll", "()I"⟩
abbrev cX9_points : ByteArray := prog_11_method_62_code
def yX9_points : MethodName := ⟨RX9, "points", "(I)I"⟩
abbrev cX9_declare : ByteArray := prog_11_method_63_code
def yX9_declare : MethodName := ⟨RX9, "declare", "()I"⟩
abbrev cX9_differentStatus : ByteArray := prog_11_method_64_code
def yX9_differentStatus : MethodName := ⟨RX9, "differentStatus", "()I"⟩
abbrev cX9_differentWinner : ByteArray := prog_11_method_65_code
def yX9_differentWinner : MethodName := ⟨RX9, "differentWinner", "()I"⟩
abbrev cX9_differentRound : ByteArray := prog_11_method_66_code
def yX9_differentRound : MethodName := ⟨RX9, "differentRound", "()I"⟩
abbrev cX9_recount : ByteArray := prog_11_method_67_code
def yX9_recount : MethodName := ⟨RX9, "recount", "(I)I"⟩
abbrev cX9_needed : ByteArray := prog_11_method_68_code
def yX9_needed : MethodName := ⟨RX9, "needed", "(I)I"⟩
abbrev cX9_undo : ByteArray := prog_11_method_69_code
def yX9_undo : MethodName := ⟨RX9, "undo", "()I"⟩
abbrev cX9_save : ByteArray := prog_11_method_70_code
def yX9_save : MethodName := ⟨RX9, "save", "()I"⟩
abbrev cX9_restore : ByteArray := prog_11_method_71_code
def yX9_restore : MethodName := ⟨RX9, "restore", "()I"⟩
abbrev cX9_count_ : ByteArray := prog_11_method_72_code
def yX9_count_ : MethodName := ⟨RX9, "count", "(I)I"⟩
def RJx145de : String := "java/io/Serializable"
def RJx00060 : String := "java/lang/ArrayIndexOutOfBoundsException"
abbrev cJx00060_init_a7421 : ByteArray := prog_14_method_2_code
def yJx00060_init_a7421 : MethodName := ⟨RJx00060, "<init>", "(Ljava/lang/String;)V"⟩
def RJ6 : String := "java/lang/Integer"
abbrev cJ6_bitCount_0f7a4 : ByteArray := prog_19_method_49_code
def yJ6_bitCount_0f7a4 : MethodName := ⟨RJ6, "bitCount", "(I)I"⟩
def RJ9 : String := "java/lang/Math"
abbrev cJ9_max_7cf53 : ByteArray := prog_20_method_65_code
def yJ9_max_7cf53 : MethodName := ⟨RJ9, "max", "(II)I"⟩
abbrev cJ9_min_7cf53 : ByteArray := prog_20_method_69_code
def yJ9_min_7cf53 : MethodName := ⟨RJ9, "min", "(II)I"⟩
abbrev cJ9_min_f86c9 : ByteArray := prog_20_method_70_code
def yJ9_min_f86c9 : MethodName := ⟨RJ9, "min", "(JJ)J"⟩
def RJ0 : String := "java/lang/String"
def RJ10 : String := "java/lang/System"
def RL : String := "ElectionTabulatorLaw"
abbrev cL_begin : ByteArray := method_3_code
def yL_begin : MethodName := ⟨RL, "begin", "(LElectionTabulator;II[J)I"⟩
abbrev cL_append : ByteArray := method_4_code
def yL_append : MethodName := ⟨RL, "append", "(LElectionTabulator;I[J)I"⟩
abbrev cL_execute : ByteArray := method_5_code
def yL_execute : MethodName := ⟨RL, "execute", "(LElectionTabulator;[J)I"⟩
abbrev cL_set : ByteArray := method_6_code
def yL_set : MethodName := ⟨RL, "set", "(LElectionTabulator;II[J)I"⟩
abbrev cL_withdraw : ByteArray := method_7_code
def yL_withdraw : MethodName := ⟨RL, "withdraw", "(LElectionTabulator;I[J)I"⟩
abbrev cL_pile : ByteArray := method_8_code
def yL_pile : MethodName := ⟨RL, "pile", "(LElectionTabulator;II[J)I"⟩
abbrev cL_character : ByteArray := method_9_code
def yL_character : MethodName := ⟨RL, "character", "(LElectionTabulator;II[J)I"⟩
abbrev cL_votes : ByteArray := method_10_code
def yL_votes : MethodName := ⟨RL, "votes", "(LElectionTabulator;II[J)I"⟩
abbrev cL_round : ByteArray := method_11_code
def yL_round : MethodName := ⟨RL, "round", "(LElectionTabulator;II[J)I"⟩
abbrev cL_candidate : ByteArray := method_12_code
def yL_candidate : MethodName := ⟨RL, "candidate", "(LElectionTabulator;II[J)I"⟩
abbrev cL_elected : ByteArray := method_13_code
def yL_elected : MethodName := ⟨RL, "elected", "(LElectionTabulator;I[J)I"⟩
abbrev cL_where : ByteArray := method_14_code
def yL_where : MethodName := ⟨RL, "where", "(LElectionTabulator;III[J)I"⟩
abbrev cL_share : ByteArray := method_15_code
def yL_share : MethodName := ⟨RL, "share", "(LElectionTabulator;II[D)I"⟩
abbrev cL_preferring : ByteArray := method_16_code
def yL_preferring : MethodName := ⟨RL, "preferring", "(LElectionTabulator;II[J)I"⟩
abbrev cL_points : ByteArray := method_17_code
def yL_points : MethodName := ⟨RL, "points", "(LElectionTabulator;I[J)I"⟩
abbrev cL_recount : ByteArray := method_18_code
def yL_recount : MethodName := ⟨RL, "recount", "(LElectionTabulator;I[J)I"⟩
abbrev cL_needed : ByteArray := method_19_code
def yL_needed : MethodName := ⟨RL, "needed", "(LElectionTabulator;I[J)I"⟩
abbrev cL_undo : ByteArray := method_20_code
def yL_undo : MethodName := ⟨RL, "undo", "(LElectionTabulator;[J)I"⟩
abbrev cL_restore : ByteArray := method_21_code
def yL_restore : MethodName := ⟨RL, "restore", "(LElectionTabulator;[J)I"⟩
abbrev cL_count : ByteArray := method_22_code
def yL_count : MethodName := ⟨RL, "count", "(LElectionTabulator;I[J)I"⟩
abbrev cL_law : ByteArray := code
def yL_law : MethodName := ⟨RL, "law", "([I)Z"⟩

/-- the classes of the system: an object names its class by its place here -/
abbrev gCl : List vw_C := [(RX0, TX0, 4), (RX1, TX1, 16), (RX2, TX2, 8), (RX3, TX3, 3), (RX4, TX4, 2), (RX5, TX5, 5), (RX6, TX6, 9), (RX7, TX7, 6), (RX8, TX8, 14), (RX9, TX9, 50)]
/-- the instruction at pc, its length, what follows -/
def DC (cc : ByteArray) (pc : Nat) (i : Instr) (n pc2 : Nat) : Prop := decode cc pc = .ok (i, n) ∧ pc + n = pc2
end
section
theorem dX0_init_0 : DC cX0_init 0 (.aload_n 0) 1 1 := ⟨by decide +kernel, rfl⟩
theorem dX0_init_1 : DC cX0_init 1 (.invokespecial 3) 3 4 := ⟨by decide +kernel, rfl⟩
theorem dX0_init_4 : DC cX0_init 4 (.aload_n 0) 1 5 := ⟨by decide +kernel, rfl⟩
theorem dX0_init_5 : DC cX0_init 5 (.aload_n 1) 1 6 := ⟨by decide +kernel, rfl⟩
theorem dX0_init_6 : DC cX0_init 6 (.putfield 9) 3 9 := ⟨by decide +kernel, rfl⟩
theorem dX0_init_9 : DC cX0_init 9 (.aload_n 0) 1 10 := ⟨by decide +kernel, rfl⟩
theorem dX0_init_10 : DC cX0_init 10 (.aload_n 2) 1 11 := ⟨by decide +kernel, rfl⟩
theorem dX0_init_11 : DC cX0_init 11 (.putfield 15) 3 14 := ⟨by decide +kernel, rfl⟩
theorem dX0_init_14 : DC cX0_init 14 (.return_) 1 15 := ⟨by decide +kernel, rfl⟩
theorem dX0_choose_0 : DC cX0_choose 0 (.aload_n 0) 1 1 := ⟨by decide +kernel, rfl⟩
theorem dX0_choose_1 : DC cX0_choose 1 (.iload_n 1) 1 2 := ⟨by decide +kernel, rfl⟩
theorem dX0_choose_2 : DC cX0_choose 2 (.iload_n 2) 1 3 := ⟨by decide +kernel, rfl⟩
theorem dX0_choose_3 : DC cX0_choose 3 (.iload_n 3) 1 4 := ⟨by decide +kernel, rfl⟩
theorem dX0_choose_4 : DC cX0_choose 4 (.invokevirtual 19) 3 7 := ⟨by decide +kernel, rfl⟩
theorem dX0_choose_7 : DC cX0_choose 7 (.istore 4) 2 9 := ⟨by decide +kernel, rfl⟩
theorem dX0_choose_9 : DC cX0_choose 9 (.aload_n 0) 1 10 := ⟨by decide +kernel, rfl⟩
theorem dX0_choose_10 : DC cX0_choose 10 (.iconst 3) 1 11 := ⟨by decide +kernel, rfl⟩
theorem dX0_choose_11 : DC cX0_choose 11 (.putfield 23) 3 14 := ⟨by decide +kernel, rfl⟩
theorem dX0_choose_14 : DC cX0_choose 14 (.aload_n 0) 1 15 := ⟨by decide +kernel, rfl⟩
theorem dX0_choose_15 : DC cX0_choose 15 (.iconst (-1)) 1 16 := ⟨by decide +kernel, rfl⟩
theorem dX0_choose_16 : DC cX0_choose 16 (.putfield 27) 3 19 := ⟨by decide +kernel, rfl⟩
theorem dX0_choose_19 : DC cX0_choose 19 (.aload_n 0) 1 20 := ⟨by decide +kernel, rfl⟩
theorem dX0_choose_20 : DC cX0_choose 20 (.getfield 9) 3 23 := ⟨by decide +kernel, rfl⟩
theorem dX0_choose_23 : DC cX0_choose 23 (.getfield 30) 3 26 := ⟨by decide +kernel, rfl⟩
theorem dX0_choose_26 : DC cX0_choose 26 (.iconst 2) 1 27 := ⟨by decide +kernel, rfl⟩
theorem dX0_choose_27 : DC cX0_choose 27 (.iaload) 1 28 := ⟨by decide +kernel, rfl⟩
theorem dX0_choose_28 : DC cX0_choose 28 (.ifCond .ne 7) 3 31 := ⟨by decide +kernel, rfl⟩
theorem dX0_choose_31 : DC cX0_choose 31 (.iconst 1) 1 32 := ⟨by decide +kernel, rfl⟩
theorem dX0_choose_32 : DC cX0_choose 32 (.goto 4) 3 35 := ⟨by decide +kernel, rfl⟩
theorem dX0_choose_35 : DC cX0_choose 35 (.iconst 0) 1 36 := ⟨by decide +kernel, rfl⟩
theorem dX0_choose_36 : DC cX0_choose 36 (.istore 5) 2 38 := ⟨by decide +kernel, rfl⟩
theorem dX0_choose_38 : DC cX0_choose 38 (.iconst 0) 1 39 := ⟨by decide +kernel, rfl⟩
theorem dX0_choose_39 : DC cX0_choose 39 (.istore 6) 2 41 := ⟨by decide +kernel, rfl⟩
theorem dX0_choose_41 : DC cX0_choose 41 (.iload 6) 2 43 := ⟨by decide +kernel, rfl⟩
theorem dX0_choose_43 : DC cX0_choose 43 (.iload_n 2) 1 44 := ⟨by decide +kernel, rfl⟩
theorem dX0_choose_44 : DC cX0_choose 44 (.if_icmp .ge 69) 3 47 := ⟨by decide +kernel, rfl⟩
theorem dX0_choose_47 : DC cX0_choose 47 (.iload 4) 2 49 := ⟨by decide +kernel, rfl⟩
theorem dX0_choose_49 : DC cX0_choose 49 (.invokestatic 36) 3 52 := ⟨by decide +kernel, rfl⟩
theorem dX0_choose_52 : DC cX0_choose 52 (.iconst 1) 1 53 := ⟨by decide +kernel, rfl⟩
theorem dX0_choose_53 : DC cX0_choose 53 (.if_icmp .le 60) 3 56 := ⟨by decide +kernel, rfl⟩
theorem dX0_choose_56 : DC cX0_choose 56 (.iload 5) 2 58 := ⟨by decide +kernel, rfl⟩
theorem dX0_choose_58 : DC cX0_choose 58 (.ifCond .eq 12) 3 61 := ⟨by decide +kernel, rfl⟩
theorem dX0_choose_61 : DC cX0_choose 61 (.iload_n 2) 1 62 := ⟨by decide +kernel, rfl⟩
theorem dX0_choose_62 : DC cX0_choose 62 (.iconst 1) 1 63 := ⟨by decide +kernel, rfl⟩
theorem dX0_choose_63 : DC cX0_choose 63 (.isub) 1 64 := ⟨by decide +kernel, rfl⟩
theorem dX0_choose_64 : DC cX0_choose 64 (.iload 6) 2 66 := ⟨by decide +kernel, rfl⟩
theorem dX0_choose_66 : DC cX0_choose 66 (.isub) 1 67 := ⟨by decide +kernel, rfl⟩
theorem dX0_choose_67 : DC cX0_choose 67 (.goto 5) 3 70 := ⟨by decide +kernel, rfl⟩
theorem dX0_choose_70 : DC cX0_choose 70 (.iload 6) 2 72 := ⟨by decide +kernel, rfl⟩
theorem dX0_choose_72 : DC cX0_choose 72 (.istore 7) 2 74 := ⟨by decide +kernel, rfl⟩
theorem dX0_choose_74 : DC cX0_choose 74 (.aload_n 0) 1 75 := ⟨by decide +kernel, rfl⟩
theorem dX0_choose_75 : DC cX0_choose 75 (.iload 4) 2 77 := ⟨by decide +kernel, rfl⟩
theorem dX0_choose_77 : DC cX0_choose 77 (.iload 7) 2 79 := ⟨by decide +kernel, rfl⟩
theorem dX0_choose_79 : DC cX0_choose 79 (.iload_n 3) 1 80 := ⟨by decide +kernel, rfl⟩
theorem dX0_choose_80 : DC cX0_choose 80 (.invokevirtual 19) 3 83 := ⟨by decide +kernel, rfl⟩
theorem dX0_choose_83 : DC cX0_choose 83 (.istore 8) 2 85 := ⟨by decide +kernel, rfl⟩
theorem dX0_choose_85 : DC cX0_choose 85 (.iload 8) 2 87 := ⟨by decide +kernel, rfl⟩
theorem dX0_choose_87 : DC cX0_choose 87 (.iload 4) 2 89 := ⟨by decide +kernel, rfl⟩
theorem dX0_choose_89 : DC cX0_choose 89 (.if_icmp .eq 18) 3 92 := ⟨by decide +kernel, rfl⟩
theorem dX0_choose_92 : DC cX0_choose 92 (.iload 8) 2 94 := ⟨by decide +kernel, rfl⟩
theorem dX0_choose_94 : DC cX0_choose 94 (.istore 4) 2 96 := ⟨by decide +kernel, rfl⟩
theorem dX0_choose_96 : DC cX0_choose 96 (.aload_n 0) 1 97 := ⟨by decide +kernel, rfl⟩
theorem dX0_choose_97 : DC cX0_choose 97 (.iconst 4) 1 98 := ⟨by decide +kernel, rfl⟩
theorem dX0_choose_98 : DC cX0_choose 98 (.putfield 23) 3 101 := ⟨by decide +kernel, rfl⟩
theorem dX0_choose_101 : DC cX0_choose 101 (.aload_n 0) 1 102 := ⟨by decide +kernel, rfl⟩
theorem dX0_choose_102 : DC cX0_choose 102 (.iload 7) 2 104 := ⟨by decide +kernel, rfl⟩
theorem dX0_choose_104 : DC cX0_choose 104 (.putfield 27) 3 107 := ⟨by decide +kernel, rfl⟩
theorem dX0_choose_107 : DC cX0_choose 107 (.iinc 6 1) 3 110 := ⟨by decide +kernel, rfl⟩
theorem dX0_choose_110 : DC cX0_choose 110 (.goto (-69)) 3 113 := ⟨by decide +kernel, rfl⟩
theorem dX0_choose_113 : DC cX0_choose 113 (.iload 4) 2 115 := ⟨by decide +kernel, rfl⟩
theorem dX0_choose_115 : DC cX0_choose 115 (.invokestatic 36) 3 118 := ⟨by decide +kernel, rfl⟩
theorem dX0_choose_118 : DC cX0_choose 118 (.iconst 1) 1 119 := ⟨by decide +kernel, rfl⟩
theorem dX0_choose_119 : DC cX0_choose 119 (.if_icmp .le 13) 3 122 := ⟨by decide +kernel, rfl⟩
theorem dX0_choose_122 : DC cX0_choose 122 (.aload_n 0) 1 123 := ⟨by decide +kernel, rfl⟩
theorem dX0_choose_123 : DC cX0_choose 123 (.iconst 5) 1 124 := ⟨by decide +kernel, rfl⟩
theorem dX0_choose_124 : DC cX0_choose 124 (.putfield 23) 3 127 := ⟨by decide +kernel, rfl⟩
theorem dX0_choose_127 : DC cX0_choose 127 (.aload_n 0) 1 128 := ⟨by decide +kernel, rfl⟩
theorem dX0_choose_128 : DC cX0_choose 128 (.iconst (-1)) 1 129 := ⟨by decide +kernel, rfl⟩
theorem dX0_choose_129 : DC cX0_choose 129 (.putfield 27) 3 132 := ⟨by decide +kernel, rfl⟩
theorem dX0_choose_132 : DC cX0_choose 132 (.aload_n 0) 1 133 := ⟨by decide +kernel, rfl⟩
theorem dX0_choose_133 : DC cX0_choose 133 (.iload 4) 2 135 := ⟨by decide +kernel, rfl⟩
theorem dX0_choose_135 : DC cX0_choose 135 (.iload_n 3) 1 136 := ⟨by decide +kernel, rfl⟩
theorem dX0_choose_136 : DC cX0_choose 136 (.invokevirtual 42) 3 139 := ⟨by decide +kernel, rfl⟩
theorem dX0_choose_139 : DC cX0_choose 139 (.ireturn) 1 140 := ⟨by decide +kernel, rfl⟩
theorem dX0_keepExtreme_0 : DC cX0_keepExtreme 0 (.iconst 0) 1 1 := ⟨by decide +kernel, rfl⟩
theorem dX0_keepExtreme_1 : DC cX0_keepExtreme 1 (.istore 4) 2 3 := ⟨by decide +kernel, rfl⟩
theorem dX0_keepExtreme_3 : DC cX0_keepExtreme 3 (.iconst 0) 1 4 := ⟨by decide +kernel, rfl⟩
theorem dX0_keepExtreme_4 : DC cX0_keepExtreme 4 (.istore 5) 2 6 := ⟨by decide +kernel, rfl⟩
theorem dX0_keepExtreme_6 : DC cX0_keepExtreme 6 (.iconst 0) 1 7 := ⟨by decide +kernel, rfl⟩
theorem dX0_keepExtreme_7 : DC cX0_keepExtreme 7 (.istore 6) 2 9 := ⟨by decide +kernel, rfl⟩
theorem dX0_keepExtreme_9 : DC cX0_keepExtreme 9 (.iload 6) 2 11 := ⟨by decide +kernel, rfl⟩
theorem dX0_keepExtreme_11 : DC cX0_keepExtreme 11 (.aload_n 0) 1 12 := ⟨by decide +kernel, rfl⟩
theorem dX0_keepExtreme_12 : DC cX0_keepExtreme 12 (.getfield 9) 3 15 := ⟨by decide +kernel, rfl⟩
theorem dX0_keepExtreme_15 : DC cX0_keepExtreme 15 (.getfield 46) 3 18 := ⟨by decide +kernel, rfl⟩
theorem dX0_keepExtreme_18 : DC cX0_keepExtreme 18 (.if_icmp .ge 87) 3 21 := ⟨by decide +kernel, rfl⟩
theorem dX0_keepExtreme_21 : DC cX0_keepExtreme 21 (.iconst 1) 1 22 := ⟨by decide +kernel, rfl⟩
theorem dX0_keepExtreme_22 : DC cX0_keepExtreme 22 (.iload 6) 2 24 := ⟨by decide +kernel, rfl⟩
theorem dX0_keepExtreme_24 : DC cX0_keepExtreme 24 (.ishl) 1 25 := ⟨by decide +kernel, rfl⟩
theorem dX0_keepExtreme_25 : DC cX0_keepExtreme 25 (.istore 7) 2 27 := ⟨by decide +kernel, rfl⟩
theorem dX0_keepExtreme_27 : DC cX0_keepExtreme 27 (.aload_n 0) 1 28 := ⟨by decide +kernel, rfl⟩
theorem dX0_keepExtreme_28 : DC cX0_keepExtreme 28 (.getfield 15) 3 31 := ⟨by decide +kernel, rfl⟩
theorem dX0_keepExtreme_31 : DC cX0_keepExtreme 31 (.getfield 49) 3 34 := ⟨by decide +kernel, rfl⟩
theorem dX0_keepExtreme_34 : DC cX0_keepExtreme 34 (.iload_n 2) 1 35 := ⟨by decide +kernel, rfl⟩
theorem dX0_keepExtreme_35 : DC cX0_keepExtreme 35 (.aaload) 1 36 := ⟨by decide +kernel, rfl⟩
theorem dX0_keepExtreme_36 : DC cX0_keepExtreme 36 (.iload 6) 2 38 := ⟨by decide +kernel, rfl⟩
theorem dX0_keepExtreme_38 : DC cX0_keepExtreme 38 (.iaload) 1 39 := ⟨by decide +kernel, rfl⟩
theorem dX0_keepExtreme_39 : DC cX0_keepExtreme 39 (.istore 8) 2 41 := ⟨by decide +kernel, rfl⟩
theorem dX0_keepExtreme_41 : DC cX0_keepExtreme 41 (.iload_n 1) 1 42 := ⟨by decide +kernel, rfl⟩
theorem dX0_keepExtreme_42 : DC cX0_keepExtreme 42 (.iload 7) 2 44 := ⟨by decide +kernel, rfl⟩
theorem dX0_keepExtreme_44 : DC cX0_keepExtreme 44 (.iand) 1 45 := ⟨by decide +kernel, rfl⟩
theorem dX0_keepExtreme_45 : DC cX0_keepExtreme 45 (.ifCond .eq 54) 3 48 := ⟨by decide +kernel, rfl⟩
theorem dX0_keepExtreme_48 : DC cX0_keepExtreme 48 (.iload 4) 2 50 := ⟨by decide +kernel, rfl⟩
theorem dX0_keepExtreme_50 : DC cX0_keepExtreme 50 (.ifCond .eq 24) 3 53 := ⟨by decide +kernel, rfl⟩
theorem dX0_keepExtreme_53 : DC cX0_keepExtreme 53 (.iload_n 3) 1 54 := ⟨by decide +kernel, rfl⟩
theorem dX0_keepExtreme_54 : DC cX0_keepExtreme 54 (.ifCond .eq 13) 3 57 := ⟨by decide +kernel, rfl⟩
theorem dX0_keepExtreme_57 : DC cX0_keepExtreme 57 (.iload 8) 2 59 := ⟨by decide +kernel, rfl⟩
theorem dX0_keepExtreme_59 : DC cX0_keepExtreme 59 (.iload 5) 2 61 := ⟨by decide +kernel, rfl⟩
theorem dX0_keepExtreme_61 : DC cX0_keepExtreme 61 (.if_icmp .le 24) 3 64 := ⟨by decide +kernel, rfl⟩
theorem dX0_keepExtreme_64 : DC cX0_keepExtreme 64 (.goto 10) 3 67 := ⟨by decide +kernel, rfl⟩
theorem dX0_keepExtreme_67 : DC cX0_keepExtreme 67 (.iload 8) 2 69 := ⟨by decide +kernel, rfl⟩
theorem dX0_keepExtreme_69 : DC cX0_keepExtreme 69 (.iload 5) 2 71 := ⟨by decide +kernel, rfl⟩
theorem dX0_keepExtreme_71 : DC cX0_keepExtreme 71 (.if_icmp .ge 14) 3 74 := ⟨by decide +kernel, rfl⟩
theorem dX0_keepExtreme_74 : DC cX0_keepExtreme 74 (.iload 7) 2 76 := ⟨by decide +kernel, rfl⟩
theorem dX0_keepExtreme_76 : DC cX0_keepExtreme 76 (.istore 4) 2 78 := ⟨by decide +kernel, rfl⟩
theorem dX0_keepExtreme_78 : DC cX0_keepExtreme 78 (.iload 8) 2 80 := ⟨by decide +kernel, rfl⟩
theorem dX0_keepExtreme_80 : DC cX0_keepExtreme 80 (.istore 5) 2 82 := ⟨by decide +kernel, rfl⟩
theorem dX0_keepExtreme_82 : DC cX0_keepExtreme 82 (.goto 17) 3 85 := ⟨by decide +kernel, rfl⟩
theorem dX0_keepExtreme_85 : DC cX0_keepExtreme 85 (.iload 8) 2 87 := ⟨by decide +kernel, rfl⟩
theorem dX0_keepExtreme_87 : DC cX0_keepExtreme 87 (.iload 5) 2 89 := ⟨by decide +kernel, rfl⟩
theorem dX0_keepExtreme_89 : DC cX0_keepExtreme 89 (.if_icmp .ne 10) 3 92 := ⟨by decide +kernel, rfl⟩
theorem dX0_keepExtreme_92 : DC cX0_keepExtreme 92 (.iload 4) 2 94 := ⟨by decide +kernel, rfl⟩
theorem dX0_keepExtreme_94 : DC cX0_keepExtreme 94 (.iload 7) 2 96 := ⟨by decide +kernel, rfl⟩
theorem dX0_keepExtreme_96 : DC cX0_keepExtreme 96 (.ior) 1 97 := ⟨by decide +kernel, rfl⟩
theorem dX0_keepExtreme_97 : DC cX0_keepExtreme 97 (.istore 4) 2 99 := ⟨by decide +kernel, rfl⟩
theorem dX0_keepExtreme_99 : DC cX0_keepExtreme 99 (.iinc 6 1) 3 102 := ⟨by decide +kernel, rfl⟩
theorem dX0_keepExtreme_102 : DC cX0_keepExtreme 102 (.goto (-93)) 3 105 := ⟨by decide +kernel, rfl⟩
theorem dX0_keepExtreme_105 : DC cX0_keepExtreme 105 (.iload 4) 2 107 := ⟨by decide +kernel, rfl⟩
theorem dX0_keepExtreme_107 : DC cX0_keepExtreme 107 (.ireturn) 1 108 := ⟨by decide +kernel, rfl⟩
theorem dX0_firstByLot_0 : DC cX0_firstByLot 0 (.iconst 0) 1 1 := ⟨by decide +kernel, rfl⟩
theorem dX0_firstByLot_1 : DC cX0_firstByLot 1 (.istore_n 3) 1 2 := ⟨by decide +kernel, rfl⟩
theorem dX0_firstByLot_2 : DC cX0_firstByLot 2 (.iload_n 3) 1 3 := ⟨by decide +kernel, rfl⟩
theorem dX0_firstByLot_3 : DC cX0_firstByLot 3 (.aload_n 0) 1 4 := ⟨by decide +kernel, rfl⟩
theorem dX0_firstByLot_4 : DC cX0_firstByLot 4 (.getfield 9) 3 7 := ⟨by decide +kernel, rfl⟩
theorem dX0_firstByLot_7 : DC cX0_firstByLot 7 (.getfield 46) 3 10 := ⟨by decide +kernel, rfl⟩
theorem dX0_firstByLot_10 : DC cX0_firstByLot 10 (.if_icmp .ge 54) 3 13 := ⟨by decide +kernel, rfl⟩
theorem dX0_firstByLot_13 : DC cX0_firstByLot 13 (.iload_n 2) 1 14 := ⟨by decide +kernel, rfl⟩
theorem dX0_firstByLot_14 : DC cX0_firstByLot 14 (.ifCond .eq 7) 3 17 := ⟨by decide +kernel, rfl⟩
theorem dX0_firstByLot_17 : DC cX0_firstByLot 17 (.iload_n 3) 1 18 := ⟨by decide +kernel, rfl⟩
theorem dX0_firstByLot_18 : DC cX0_firstByLot 18 (.goto 14) 3 21 := ⟨by decide +kernel, rfl⟩
theorem dX0_firstByLot_21 : DC cX0_firstByLot 21 (.aload_n 0) 1 22 := ⟨by decide +kernel, rfl⟩
theorem dX0_firstByLot_22 : DC cX0_firstByLot 22 (.getfield 9) 3 25 := ⟨by decide +kernel, rfl⟩
theorem dX0_firstByLot_25 : DC cX0_firstByLot 25 (.getfield 46) 3 28 := ⟨by decide +kernel, rfl⟩
theorem dX0_firstByLot_28 : DC cX0_firstByLot 28 (.iconst 1) 1 29 := ⟨by decide +kernel, rfl⟩
theorem dX0_firstByLot_29 : DC cX0_firstByLot 29 (.isub) 1 30 := ⟨by decide +kernel, rfl⟩
theorem dX0_firstByLot_30 : DC cX0_firstByLot 30 (.iload_n 3) 1 31 := ⟨by decide +kernel, rfl⟩
theorem dX0_firstByLot_31 : DC cX0_firstByLot 31 (.isub) 1 32 := ⟨by decide +kernel, rfl⟩
theorem dX0_firstByLot_32 : DC cX0_firstByLot 32 (.istore 4) 2 34 := ⟨by decide +kernel, rfl⟩
theorem dX0_firstByLot_34 : DC cX0_firstByLot 34 (.aload_n 0) 1 35 := ⟨by decide +kernel, rfl⟩
theorem dX0_firstByLot_35 : DC cX0_firstByLot 35 (.getfield 9) 3 38 := ⟨by decide +kernel, rfl⟩
theorem dX0_firstByLot_38 : DC cX0_firstByLot 38 (.getfield 55) 3 41 := ⟨by decide +kernel, rfl⟩
theorem dX0_firstByLot_41 : DC cX0_firstByLot 41 (.iload 4) 2 43 := ⟨by decide +kernel, rfl⟩
theorem dX0_firstByLot_43 : DC cX0_firstByLot 43 (.iaload) 1 44 := ⟨by decide +kernel, rfl⟩
theorem dX0_firstByLot_44 : DC cX0_firstByLot 44 (.istore 5) 2 46 := ⟨by decide +kernel, rfl⟩
theorem dX0_firstByLot_46 : DC cX0_firstByLot 46 (.iload_n 1) 1 47 := ⟨by decide +kernel, rfl⟩
theorem dX0_firstByLot_47 : DC cX0_firstByLot 47 (.iconst 1) 1 48 := ⟨by decide +kernel, rfl⟩
theorem dX0_firstByLot_48 : DC cX0_firstByLot 48 (.iload 5) 2 50 := ⟨by decide +kernel, rfl⟩
theorem dX0_firstByLot_50 : DC cX0_firstByLot 50 (.ishl) 1 51 := ⟨by decide +kernel, rfl⟩
theorem dX0_firstByLot_51 : DC cX0_firstByLot 51 (.iand) 1 52 := ⟨by decide +kernel, rfl⟩
theorem dX0_firstByLot_52 : DC cX0_firstByLot 52 (.ifCond .eq 6) 3 55 := ⟨by decide +kernel, rfl⟩
theorem dX0_firstByLot_55 : DC cX0_firstByLot 55 (.iload 5) 2 57 := ⟨by decide +kernel, rfl⟩
theorem dX0_firstByLot_57 : DC cX0_firstByLot 57 (.ireturn) 1 58 := ⟨by decide +kernel, rfl⟩
theorem dX0_firstByLot_58 : DC cX0_firstByLot 58 (.iinc 3 1) 3 61 := ⟨by decide +kernel, rfl⟩
theorem dX0_firstByLot_61 : DC cX0_firstByLot 61 (.goto (-59)) 3 64 := ⟨by decide +kernel, rfl⟩
theorem dX0_firstByLot_64 : DC cX0_firstByLot 64 (.iconst (-1)) 1 65 := ⟨by decide +kernel, rfl⟩
theorem dX0_firstByLot_65 : DC cX0_firstByLot 65 (.ireturn) 1 66 := ⟨by decide +kernel, rfl⟩
theorem dX1_init_0 : DC cX1_init 0 (.aload_n 0) 1 1 := ⟨by decide +kernel, rfl⟩
theorem dX1_init_1 : DC cX1_init 1 (.invokespecial 3) 3 4 := ⟨by decide +kernel, rfl⟩
theorem dX1_init_4 : DC cX1_init 4 (.aload_n 0) 1 5 := ⟨by decide +kernel, rfl⟩
theorem dX1_init_5 : DC cX1_init 5 (.aload_n 1) 1 6 := ⟨by decide +kernel, rfl⟩
theorem dX1_init_6 : DC cX1_init 6 (.putfield 9) 3 9 := ⟨by decide +kernel, rfl⟩
theorem dX1_init_9 : DC cX1_init 9 (.aload_n 0) 1 10 := ⟨by decide +kernel, rfl⟩
theorem dX1_init_10 : DC cX1_init 10 (.new 15) 3 13 := ⟨by decide +kernel, rfl⟩
theorem dX1_init_13 : DC cX1_init 13 (.dup) 1 14 := ⟨by decide +kernel, rfl⟩
theorem dX1_init_14 : DC cX1_init 14 (.invokespecial 17) 3 17 := ⟨by decide +kernel, rfl⟩
theorem dX1_init_17 : DC cX1_init 17 (.putfield 18) 3 20 := ⟨by decide +kernel, rfl⟩
theorem dX1_init_20 : DC cX1_init 20 (.aload_n 0) 1 21 := ⟨by decide +kernel, rfl⟩
theorem dX1_init_21 : DC cX1_init 21 (.new 22) 3 24 := ⟨by decide +kernel, rfl⟩
theorem dX1_init_24 : DC cX1_init 24 (.dup) 1 25 := ⟨by decide +kernel, rfl⟩
theorem dX1_init_25 : DC cX1_init 25 (.aload_n 1) 1 26 := ⟨by decide +kernel, rfl⟩
theorem dX1_init_26 : DC cX1_init 26 (.aload_n 0) 1 27 := ⟨by decide +kernel, rfl⟩
theorem dX1_init_27 : DC cX1_init 27 (.getfield 18) 3 30 := ⟨by decide +kernel, rfl⟩
theorem dX1_init_30 : DC cX1_init 30 (.invokespecial 24) 3 33 := ⟨by decide +kernel, rfl⟩
theorem dX1_init_33 : DC cX1_init 33 (.putfield 27) 3 36 := ⟨by decide +kernel, rfl⟩
theorem dX1_init_36 : DC cX1_init 36 (.aload_n 0) 1 37 := ⟨by decide +kernel, rfl⟩
theorem dX1_init_37 : DC cX1_init 37 (.new 31) 3 40 := ⟨by decide +kernel, rfl⟩
theorem dX1_init_40 : DC cX1_init 40 (.dup) 1 41 := ⟨by decide +kernel, rfl⟩
theorem dX1_init_41 : DC cX1_init 41 (.invokespecial 33) 3 44 := ⟨by decide +kernel, rfl⟩
theorem dX1_init_44 : DC cX1_init 44 (.putfield 34) 3 47 := ⟨by decide +kernel, rfl⟩
theorem dX1_init_47 : DC cX1_init 47 (.aload_n 0) 1 48 := ⟨by decide +kernel, rfl⟩
theorem dX1_init_48 : DC cX1_init 48 (.new 38) 3 51 := ⟨by decide +kernel, rfl⟩
theorem dX1_init_51 : DC cX1_init 51 (.dup) 1 52 := ⟨by decide +kernel, rfl⟩
theorem dX1_init_52 : DC cX1_init 52 (.invokespecial 40) 3 55 := ⟨by decide +kernel, rfl⟩
theorem dX1_init_55 : DC cX1_init 55 (.putfield 41) 3 58 := ⟨by decide +kernel, rfl⟩
theorem dX1_init_58 : DC cX1_init 58 (.aload_n 0) 1 59 := ⟨by decide +kernel, rfl⟩
theorem dX1_init_59 : DC cX1_init 59 (.bipush 8) 2 61 := ⟨by decide +kernel, rfl⟩
theorem dX1_init_61 : DC cX1_init 61 (.newarray .int) 2 63 := ⟨by decide +kernel, rfl⟩
theorem dX1_init_63 : DC cX1_init 63 (.putfield 45) 3 66 := ⟨by decide +kernel, rfl⟩
theorem dX1_init_66 : DC cX1_init 66 (.aload_n 0) 1 67 := ⟨by decide +kernel, rfl⟩
theorem dX1_init_67 : DC cX1_init 67 (.bipush 25) 2 69 := ⟨by decide +kernel, rfl⟩
theorem dX1_init_69 : DC cX1_init 69 (.newarray .int) 2 71 := ⟨by decide +kernel, rfl⟩
theorem dX1_init_71 : DC cX1_init 71 (.putfield 49) 3 74 := ⟨by decide +kernel, rfl⟩
theorem dX1_init_74 : DC cX1_init 74 (.aload_n 0) 1 75 := ⟨by decide +kernel, rfl⟩
theorem dX1_init_75 : DC cX1_init 75 (.bipush 25) 2 77 := ⟨by decide +kernel, rfl⟩
theorem dX1_init_77 : DC cX1_init 77 (.newarray .int) 2 79 := ⟨by decide +kernel, rfl⟩
theorem dX1_init_79 : DC cX1_init 79 (.putfield 52) 3 82 := ⟨by decide +kernel, rfl⟩
theorem dX1_init_82 : DC cX1_init 82 (.aload_n 0) 1 83 := ⟨by decide +kernel, rfl⟩
theorem dX1_init_83 : DC cX1_init 83 (.bipush 25) 2 85 := ⟨by decide +kernel, rfl⟩
theorem dX1_init_85 : DC cX1_init 85 (.newarray .int) 2 87 := ⟨by decide +kernel, rfl⟩
theorem dX1_init_87 : DC cX1_init 87 (.putfield 55) 3 90 := ⟨by decide +kernel, rfl⟩
theorem dX1_init_90 : DC cX1_init 90 (.aload_n 0) 1 91 := ⟨by decide +kernel, rfl⟩
theorem dX1_init_91 : DC cX1_init 91 (.bipush 25) 2 93 := ⟨by decide +kernel, rfl⟩
theorem dX1_init_93 : DC cX1_init 93 (.newarray .int) 2 95 := ⟨by decide +kernel, rfl⟩
theorem dX1_init_95 : DC cX1_init 95 (.putfield 58) 3 98 := ⟨by decide +kernel, rfl⟩
theorem dX1_init_98 : DC cX1_init 98 (.return_) 1 99 := ⟨by decide +kernel, rfl⟩
theorem dX1_run_0 : DC cX1_run 0 (.aload_n 0) 1 1 := ⟨by decide +kernel, rfl⟩
theorem dX1_run_1 : DC cX1_run 1 (.invokevirtual 61) 3 4 := ⟨by decide +kernel, rfl⟩
theorem dX1_run_4 : DC cX1_run 4 (.aload_n 0) 1 5 := ⟨by decide +kernel, rfl⟩
theorem dX1_run_5 : DC cX1_run 5 (.invokevirtual 64) 3 8 := ⟨by decide +kernel, rfl⟩
theorem dX1_run_8 : DC cX1_run 8 (.iconst 1) 1 9 := ⟨by decide +kernel, rfl⟩
theorem dX1_run_9 : DC cX1_run 9 (.istore_n 1) 1 10 := ⟨by decide +kernel, rfl⟩
theorem dX1_run_10 : DC cX1_run 10 (.iconst 0) 1 11 := ⟨by decide +kernel, rfl⟩
theorem dX1_run_11 : DC cX1_run 11 (.istore_n 2) 1 12 := ⟨by decide +kernel, rfl⟩
theorem dX1_run_12 : DC cX1_run 12 (.iload_n 1) 1 13 := ⟨by decide +kernel, rfl⟩
theorem dX1_run_13 : DC cX1_run 13 (.ifCond .eq 44) 3 16 := ⟨by decide +kernel, rfl⟩
theorem dX1_run_16 : DC cX1_run 16 (.iload_n 2) 1 17 := ⟨by decide +kernel, rfl⟩
theorem dX1_run_17 : DC cX1_run 17 (.bipush 9) 2 19 := ⟨by decide +kernel, rfl⟩
theorem dX1_run_19 : DC cX1_run 19 (.if_icmp .ge 38) 3 22 := ⟨by decide +kernel, rfl⟩
theorem dX1_run_22 : DC cX1_run 22 (.aload_n 0) 1 23 := ⟨by decide +kernel, rfl⟩
theorem dX1_run_23 : DC cX1_run 23 (.getfield 18) 3 26 := ⟨by decide +kernel, rfl⟩
theorem dX1_run_26 : DC cX1_run 26 (.iload_n 2) 1 27 := ⟨by decide +kernel, rfl⟩
theorem dX1_run_27 : DC cX1_run 27 (.iconst 1) 1 28 := ⟨by decide +kernel, rfl⟩
theorem dX1_run_28 : DC cX1_run 28 (.iadd) 1 29 := ⟨by decide +kernel, rfl⟩
theorem dX1_run_29 : DC cX1_run 29 (.putfield 67) 3 32 := ⟨by decide +kernel, rfl⟩
theorem dX1_run_32 : DC cX1_run 32 (.aload_n 0) 1 33 := ⟨by decide +kernel, rfl⟩
theorem dX1_run_33 : DC cX1_run 33 (.aload_n 0) 1 34 := ⟨by decide +kernel, rfl⟩
theorem dX1_run_34 : DC cX1_run 34 (.invokevirtual 71) 3 37 := ⟨by decide +kernel, rfl⟩
theorem dX1_run_37 : DC cX1_run 37 (.putfield 75) 3 40 := ⟨by decide +kernel, rfl⟩
theorem dX1_run_40 : DC cX1_run 40 (.aload_n 0) 1 41 := ⟨by decide +kernel, rfl⟩
theorem dX1_run_41 : DC cX1_run 41 (.iload_n 2) 1 42 := ⟨by decide +kernel, rfl⟩
theorem dX1_run_42 : DC cX1_run 42 (.invokevirtual 78) 3 45 := ⟨by decide +kernel, rfl⟩
theorem dX1_run_45 : DC cX1_run 45 (.aload_n 0) 1 46 := ⟨by decide +kernel, rfl⟩
theorem dX1_run_46 : DC cX1_run 46 (.iload_n 2) 1 47 := ⟨by decide +kernel, rfl⟩
theorem dX1_run_47 : DC cX1_run 47 (.invokevirtual 82) 3 50 := ⟨by decide +kernel, rfl⟩
theorem dX1_run_50 : DC cX1_run 50 (.istore_n 1) 1 51 := ⟨by decide +kernel, rfl⟩
theorem dX1_run_51 : DC cX1_run 51 (.iinc 2 1) 3 54 := ⟨by decide +kernel, rfl⟩
theorem dX1_run_54 : DC cX1_run 54 (.goto (-42)) 3 57 := ⟨by decide +kernel, rfl⟩
theorem dX1_run_57 : DC cX1_run 57 (.return_) 1 58 := ⟨by decide +kernel, rfl⟩
theorem dX1_startCandidates_0 : DC cX1_startCandidates 0 (.aload_n 0) 1 1 := ⟨by decide +kernel, rfl⟩
theorem dX1_startCandidates_1 : DC cX1_startCandidates 1 (.iconst 0) 1 2 := ⟨by decide +kernel, rfl⟩
theorem dX1_startCandidates_2 : DC cX1_startCandidates 2 (.putfield 86) 3 5 := ⟨by decide +kernel, rfl⟩
theorem dX1_startCandidates_5 : DC cX1_startCandidates 5 (.aload_n 0) 1 6 := ⟨by decide +kernel, rfl⟩
theorem dX1_startCandidates_6 : DC cX1_startCandidates 6 (.iconst 0) 1 7 := ⟨by decide +kernel, rfl⟩
theorem dX1_startCandidates_7 : DC cX1_startCandidates 7 (.putfield 89) 3 10 := ⟨by decide +kernel, rfl⟩
theorem dX1_startCandidates_10 : DC cX1_startCandidates 10 (.aload_n 0) 1 11 := ⟨by decide +kernel, rfl⟩
theorem dX1_startCandidates_11 : DC cX1_startCandidates 11 (.getfield 18) 3 14 := ⟨by decide +kernel, rfl⟩
theorem dX1_startCandidates_14 : DC cX1_startCandidates 14 (.iconst 0) 1 15 := ⟨by decide +kernel, rfl⟩
theorem dX1_startCandidates_15 : DC cX1_startCandidates 15 (.putfield 92) 3 18 := ⟨by decide +kernel, rfl⟩
theorem dX1_startCandidates_18 : DC cX1_startCandidates 18 (.iconst 0) 1 19 := ⟨by decide +kernel, rfl⟩
theorem dX1_startCandidates_19 : DC cX1_startCandidates 19 (.istore_n 1) 1 20 := ⟨by decide +kernel, rfl⟩
theorem dX1_startCandidates_20 : DC cX1_startCandidates 20 (.iload_n 1) 1 21 := ⟨by decide +kernel, rfl⟩
theorem dX1_startCandidates_21 : DC cX1_startCandidates 21 (.bipush 8) 2 23 := ⟨by decide +kernel, rfl⟩
theorem dX1_startCandidates_23 : DC cX1_startCandidates 23 (.if_icmp .ge 115) 3 26 := ⟨by decide +kernel, rfl⟩
theorem dX1_startCandidates_26 : DC cX1_startCandidates 26 (.iload_n 1) 1 27 := ⟨by decide +kernel, rfl⟩
theorem dX1_startCandidates_27 : DC cX1_startCandidates 27 (.aload_n 0) 1 28 := ⟨by decide +kernel, rfl⟩
theorem dX1_startCandidates_28 : DC cX1_startCandidates 28 (.getfield 9) 3 31 := ⟨by decide +kernel, rfl⟩
theorem dX1_startCandidates_31 : DC cX1_startCandidates 31 (.getfield 95) 3 34 := ⟨by decide +kernel, rfl⟩
theorem dX1_startCandidates_34 : DC cX1_startCandidates 34 (.if_icmp .ge 21) 3 37 := ⟨by decide +kernel, rfl⟩
theorem dX1_startCandidates_37 : DC cX1_startCandidates 37 (.aload_n 0) 1 38 := ⟨by decide +kernel, rfl⟩
theorem dX1_startCandidates_38 : DC cX1_startCandidates 38 (.getfield 9) 3 41 := ⟨by decide +kernel, rfl⟩
theorem dX1_startCandidates_41 : DC cX1_startCandidates 41 (.getfield 100) 3 44 := ⟨by decide +kernel, rfl⟩
theorem dX1_startCandidates_44 : DC cX1_startCandidates 44 (.iload_n 1) 1 45 := ⟨by decide +kernel, rfl⟩
theorem dX1_startCandidates_45 : DC cX1_startCandidates 45 (.invokestatic 103) 3 48 := ⟨by decide +kernel, rfl⟩
theorem dX1_startCandidates_48 : DC cX1_startCandidates 48 (.ifCond .ne 7) 3 51 := ⟨by decide +kernel, rfl⟩
theorem dX1_startCandidates_51 : DC cX1_startCandidates 51 (.iconst 1) 1 52 := ⟨by decide +kernel, rfl⟩
theorem dX1_startCandidates_52 : DC cX1_startCandidates 52 (.goto 4) 3 55 := ⟨by decide +kernel, rfl⟩
theorem dX1_startCandidates_55 : DC cX1_startCandidates 55 (.iconst 0) 1 56 := ⟨by decide +kernel, rfl⟩
theorem dX1_startCandidates_56 : DC cX1_startCandidates 56 (.istore_n 2) 1 57 := ⟨by decide +kernel, rfl⟩
theorem dX1_startCandidates_57 : DC cX1_startCandidates 57 (.aload_n 0) 1 58 := ⟨by decide +kernel, rfl⟩
theorem dX1_startCandidates_58 : DC cX1_startCandidates 58 (.dup) 1 59 := ⟨by decide +kernel, rfl⟩
theorem dX1_startCandidates_59 : DC cX1_startCandidates 59 (.getfield 86) 3 62 := ⟨by decide +kernel, rfl⟩
theorem dX1_startCandidates_62 : DC cX1_startCandidates 62 (.iload_n 2) 1 63 := ⟨by decide +kernel, rfl⟩
theorem dX1_startCandidates_63 : DC cX1_startCandidates 63 (.ifCond .eq 9) 3 66 := ⟨by decide +kernel, rfl⟩
theorem dX1_startCandidates_66 : DC cX1_startCandidates 66 (.iconst 1) 1 67 := ⟨by decide +kernel, rfl⟩
theorem dX1_startCandidates_67 : DC cX1_startCandidates 67 (.iload_n 1) 1 68 := ⟨by decide +kernel, rfl⟩
theorem dX1_startCandidates_68 : DC cX1_startCandidates 68 (.ishl) 1 69 := ⟨by decide +kernel, rfl⟩
theorem dX1_startCandidates_69 : DC cX1_startCandidates 69 (.goto 4) 3 72 := ⟨by decide +kernel, rfl⟩
theorem dX1_startCandidates_72 : DC cX1_startCandidates 72 (.iconst 0) 1 73 := ⟨by decide +kernel, rfl⟩
theorem dX1_startCandidates_73 : DC cX1_startCandidates 73 (.ior) 1 74 := ⟨by decide +kernel, rfl⟩
theorem dX1_startCandidates_74 : DC cX1_startCandidates 74 (.putfield 86) 3 77 := ⟨by decide +kernel, rfl⟩
theorem dX1_startCandidates_77 : DC cX1_startCandidates 77 (.aload_n 0) 1 78 := ⟨by decide +kernel, rfl⟩
theorem dX1_startCandidates_78 : DC cX1_startCandidates 78 (.getfield 18) 3 81 := ⟨by decide +kernel, rfl⟩
theorem dX1_startCandidates_81 : DC cX1_startCandidates 81 (.getfield 107) 3 84 := ⟨by decide +kernel, rfl⟩
theorem dX1_startCandidates_84 : DC cX1_startCandidates 84 (.iload_n 1) 1 85 := ⟨by decide +kernel, rfl⟩
theorem dX1_startCandidates_85 : DC cX1_startCandidates 85 (.iload_n 2) 1 86 := ⟨by decide +kernel, rfl⟩
theorem dX1_startCandidates_86 : DC cX1_startCandidates 86 (.ifCond .eq 7) 3 89 := ⟨by decide +kernel, rfl⟩
theorem dX1_startCandidates_89 : DC cX1_startCandidates 89 (.iconst 0) 1 90 := ⟨by decide +kernel, rfl⟩
theorem dX1_startCandidates_90 : DC cX1_startCandidates 90 (.goto 4) 3 93 := ⟨by decide +kernel, rfl⟩
theorem dX1_startCandidates_93 : DC cX1_startCandidates 93 (.iconst 3) 1 94 := ⟨by decide +kernel, rfl⟩
theorem dX1_startCandidates_94 : DC cX1_startCandidates 94 (.iastore) 1 95 := ⟨by decide +kernel, rfl⟩
theorem dX1_startCandidates_95 : DC cX1_startCandidates 95 (.aload_n 0) 1 96 := ⟨by decide +kernel, rfl⟩
theorem dX1_startCandidates_96 : DC cX1_startCandidates 96 (.getfield 45) 3 99 := ⟨by decide +kernel, rfl⟩
theorem dX1_startCandidates_99 : DC cX1_startCandidates 99 (.iload_n 1) 1 100 := ⟨by decide +kernel, rfl⟩
theorem dX1_startCandidates_100 : DC cX1_startCandidates 100 (.iconst 0) 1 101 := ⟨by decide +kernel, rfl⟩
theorem dX1_startCandidates_101 : DC cX1_startCandidates 101 (.iastore) 1 102 := ⟨by decide +kernel, rfl⟩
theorem dX1_startCandidates_102 : DC cX1_startCandidates 102 (.aload_n 0) 1 103 := ⟨by decide +kernel, rfl⟩
theorem dX1_startCandidates_103 : DC cX1_startCandidates 103 (.getfield 34) 3 106 := ⟨by decide +kernel, rfl⟩
theorem dX1_startCandidates_106 : DC cX1_startCandidates 106 (.getfield 110) 3 109 := ⟨by decide +kernel, rfl⟩
theorem dX1_startCandidates_109 : DC cX1_startCandidates 109 (.iload_n 1) 1 110 := ⟨by decide +kernel, rfl⟩
theorem dX1_startCandidates_110 : DC cX1_startCandidates 110 (.iconst (-1)) 1 111 := ⟨by decide +kernel, rfl⟩
theorem dX1_startCandidates_111 : DC cX1_startCandidates 111 (.iastore) 1 112 := ⟨by decide +kernel, rfl⟩
theorem dX1_startCandidates_112 : DC cX1_startCandidates 112 (.aload_n 0) 1 113 := ⟨by decide +kernel, rfl⟩
theorem dX1_startCandidates_113 : DC cX1_startCandidates 113 (.getfield 34) 3 116 := ⟨by decide +kernel, rfl⟩
theorem dX1_startCandidates_116 : DC cX1_startCandidates 116 (.getfield 113) 3 119 := ⟨by decide +kernel, rfl⟩
theorem dX1_startCandidates_119 : DC cX1_startCandidates 119 (.iload_n 1) 1 120 := ⟨by decide +kernel, rfl⟩
theorem dX1_startCandidates_120 : DC cX1_startCandidates 120 (.iconst 0) 1 121 := ⟨by decide +kernel, rfl⟩
theorem dX1_startCandidates_121 : DC cX1_startCandidates 121 (.iastore) 1 122 := ⟨by decide +kernel, rfl⟩
theorem dX1_startCandidates_122 : DC cX1_startCandidates 122 (.aload_n 0) 1 123 := ⟨by decide +kernel, rfl⟩
theorem dX1_startCandidates_123 : DC cX1_startCandidates 123 (.getfield 34) 3 126 := ⟨by decide +kernel, rfl⟩
theorem dX1_startCandidates_126 : DC cX1_startCandidates 126 (.getfield 116) 3 129 := ⟨by decide +kernel, rfl⟩
theorem dX1_startCandidates_129 : DC cX1_startCandidates 129 (.iload_n 1) 1 130 := ⟨by decide +kernel, rfl⟩
theorem dX1_startCandidates_130 : DC cX1_startCandidates 130 (.iconst (-1)) 1 131 := ⟨by decide +kernel, rfl⟩
theorem dX1_startCandidates_131 : DC cX1_startCandidates 131 (.iastore) 1 132 := ⟨by decide +kernel, rfl⟩
theorem dX1_startCandidates_132 : DC cX1_startCandidates 132 (.iinc 1 1) 3 135 := ⟨by decide +kernel, rfl⟩
theorem dX1_startCandidates_135 : DC cX1_startCandidates 135 (.goto (-115)) 3 138 := ⟨by decide +kernel, rfl⟩
theorem dX1_startCandidates_138 : DC cX1_startCandidates 138 (.return_) 1 139 := ⟨by decide +kernel, rfl⟩
theorem dX1_startPiles_0 : DC cX1_startPiles 0 (.aload_n 0) 1 1 := ⟨by decide +kernel, rfl⟩
theorem dX1_startPiles_1 : DC cX1_startPiles 1 (.aload_n 0) 1 2 := ⟨by decide +kernel, rfl⟩
theorem dX1_startPiles_2 : DC cX1_startPiles 2 (.getfield 9) 3 5 := ⟨by decide +kernel, rfl⟩
theorem dX1_startPiles_5 : DC cX1_startPiles 5 (.invokevirtual 119) 3 8 := ⟨by decide +kernel, rfl⟩
theorem dX1_startPiles_8 : DC cX1_startPiles 8 (.putfield 122) 3 11 := ⟨by decide +kernel, rfl⟩
theorem dX1_startPiles_11 : DC cX1_startPiles 11 (.aload_n 0) 1 12 := ⟨by decide +kernel, rfl⟩
theorem dX1_startPiles_12 : DC cX1_startPiles 12 (.iconst 0) 1 13 := ⟨by decide +kernel, rfl⟩
theorem dX1_startPiles_13 : DC cX1_startPiles 13 (.putfield 124) 3 16 := ⟨by decide +kernel, rfl⟩
theorem dX1_startPiles_16 : DC cX1_startPiles 16 (.aload_n 0) 1 17 := ⟨by decide +kernel, rfl⟩
theorem dX1_startPiles_17 : DC cX1_startPiles 17 (.iconst 0) 1 18 := ⟨by decide +kernel, rfl⟩
theorem dX1_startPiles_18 : DC cX1_startPiles 18 (.putfield 127) 3 21 := ⟨by decide +kernel, rfl⟩
theorem dX1_startPiles_21 : DC cX1_startPiles 21 (.iconst 0) 1 22 := ⟨by decide +kernel, rfl⟩
theorem dX1_startPiles_22 : DC cX1_startPiles 22 (.istore_n 1) 1 23 := ⟨by decide +kernel, rfl⟩
theorem dX1_startPiles_23 : DC cX1_startPiles 23 (.iload_n 1) 1 24 := ⟨by decide +kernel, rfl⟩
theorem dX1_startPiles_24 : DC cX1_startPiles 24 (.aload_n 0) 1 25 := ⟨by decide +kernel, rfl⟩
theorem dX1_startPiles_25 : DC cX1_startPiles 25 (.getfield 9) 3 28 := ⟨by decide +kernel, rfl⟩
theorem dX1_startPiles_28 : DC cX1_startPiles 28 (.getfield 130) 3 31 := ⟨by decide +kernel, rfl⟩
theorem dX1_startPiles_31 : DC cX1_startPiles 31 (.if_icmp .ge 32) 3 34 := ⟨by decide +kernel, rfl⟩
theorem dX1_startPiles_34 : DC cX1_startPiles 34 (.aload_n 0) 1 35 := ⟨by decide +kernel, rfl⟩
theorem dX1_startPiles_35 : DC cX1_startPiles 35 (.getfield 52) 3 38 := ⟨by decide +kernel, rfl⟩
theorem dX1_startPiles_38 : DC cX1_startPiles 38 (.iload_n 1) 1 39 := ⟨by decide +kernel, rfl⟩
theorem dX1_startPiles_39 : DC cX1_startPiles 39 (.iconst (-1)) 1 40 := ⟨by decide +kernel, rfl⟩
theorem dX1_startPiles_40 : DC cX1_startPiles 40 (.iastore) 1 41 := ⟨by decide +kernel, rfl⟩
theorem dX1_startPiles_41 : DC cX1_startPiles 41 (.aload_n 0) 1 42 := ⟨by decide +kernel, rfl⟩
theorem dX1_startPiles_42 : DC cX1_startPiles 42 (.getfield 58) 3 45 := ⟨by decide +kernel, rfl⟩
theorem dX1_startPiles_45 : DC cX1_startPiles 45 (.iload_n 1) 1 46 := ⟨by decide +kernel, rfl⟩
theorem dX1_startPiles_46 : DC cX1_startPiles 46 (.sipush 10000) 3 49 := ⟨by decide +kernel, rfl⟩
theorem dX1_startPiles_49 : DC cX1_startPiles 49 (.iastore) 1 50 := ⟨by decide +kernel, rfl⟩
theorem dX1_startPiles_50 : DC cX1_startPiles 50 (.aload_n 0) 1 51 := ⟨by decide +kernel, rfl⟩
theorem dX1_startPiles_51 : DC cX1_startPiles 51 (.iload_n 1) 1 52 := ⟨by decide +kernel, rfl⟩
theorem dX1_startPiles_52 : DC cX1_startPiles 52 (.iconst (-1)) 1 53 := ⟨by decide +kernel, rfl⟩
theorem dX1_startPiles_53 : DC cX1_startPiles 53 (.invokevirtual 133) 3 56 := ⟨by decide +kernel, rfl⟩
theorem dX1_startPiles_56 : DC cX1_startPiles 56 (.pop) 1 57 := ⟨by decide +kernel, rfl⟩
theorem dX1_startPiles_57 : DC cX1_startPiles 57 (.iinc 1 1) 3 60 := ⟨by decide +kernel, rfl⟩
theorem dX1_startPiles_60 : DC cX1_startPiles 60 (.goto (-37)) 3 63 := ⟨by decide +kernel, rfl⟩
theorem dX1_startPiles_63 : DC cX1_startPiles 63 (.return_) 1 64 := ⟨by decide +kernel, rfl⟩
theorem dX1_findQuota_0 : DC cX1_findQuota 0 (.iconst 1) 1 1 := ⟨by decide +kernel, rfl⟩
theorem dX1_findQuota_1 : DC cX1_findQuota 1 (.aload_n 0) 1 2 := ⟨by decide +kernel, rfl⟩
theorem dX1_findQuota_2 : DC cX1_findQuota 2 (.getfield 9) 3 5 := ⟨by decide +kernel, rfl⟩
theorem dX1_findQuota_5 : DC cX1_findQuota 5 (.getfield 137) 3 8 := ⟨by decide +kernel, rfl⟩
theorem dX1_findQuota_8 : DC cX1_findQuota 8 (.iconst 3) 1 9 := ⟨by decide +kernel, rfl⟩
theorem dX1_findQuota_9 : DC cX1_findQuota 9 (.iaload) 1 10 := ⟨by decide +kernel, rfl⟩
theorem dX1_findQuota_10 : DC cX1_findQuota 10 (.invokestatic 140) 3 13 := ⟨by decide +kernel, rfl⟩
theorem dX1_findQuota_13 : DC cX1_findQuota 13 (.istore_n 1) 1 14 := ⟨by decide +kernel, rfl⟩
theorem dX1_findQuota_14 : DC cX1_findQuota 14 (.aload_n 0) 1 15 := ⟨by decide +kernel, rfl⟩
theorem dX1_findQuota_15 : DC cX1_findQuota 15 (.getfield 122) 3 18 := ⟨by decide +kernel, rfl⟩
theorem dX1_findQuota_18 : DC cX1_findQuota 18 (.sipush 10000) 3 21 := ⟨by decide +kernel, rfl⟩
theorem dX1_findQuota_21 : DC cX1_findQuota 21 (.imul) 1 22 := ⟨by decide +kernel, rfl⟩
theorem dX1_findQuota_22 : DC cX1_findQuota 22 (.istore_n 2) 1 23 := ⟨by decide +kernel, rfl⟩
theorem dX1_findQuota_23 : DC cX1_findQuota 23 (.aload_n 0) 1 24 := ⟨by decide +kernel, rfl⟩
theorem dX1_findQuota_24 : DC cX1_findQuota 24 (.getfield 9) 3 27 := ⟨by decide +kernel, rfl⟩
theorem dX1_findQuota_27 : DC cX1_findQuota 27 (.getfield 137) 3 30 := ⟨by decide +kernel, rfl⟩
theorem dX1_findQuota_30 : DC cX1_findQuota 30 (.iconst 0) 1 31 := ⟨by decide +kernel, rfl⟩
theorem dX1_findQuota_31 : DC cX1_findQuota 31 (.iaload) 1 32 := ⟨by decide +kernel, rfl⟩
theorem dX1_findQuota_32 : DC cX1_findQuota 32 (.tableswitch 66 0 2 #[28, 43, 58]) 28 60 := ⟨by decide +kernel, rfl⟩
theorem dX1_findQuota_60 : DC cX1_findQuota 60 (.aload_n 0) 1 61 := ⟨by decide +kernel, rfl⟩
theorem dX1_findQuota_61 : DC cX1_findQuota 61 (.getfield 122) 3 64 := ⟨by decide +kernel, rfl⟩
theorem dX1_findQuota_64 : DC cX1_findQuota 64 (.iload_n 1) 1 65 := ⟨by decide +kernel, rfl⟩
theorem dX1_findQuota_65 : DC cX1_findQuota 65 (.iconst 1) 1 66 := ⟨by decide +kernel, rfl⟩
theorem dX1_findQuota_66 : DC cX1_findQuota 66 (.iadd) 1 67 := ⟨by decide +kernel, rfl⟩
theorem dX1_findQuota_67 : DC cX1_findQuota 67 (.idiv) 1 68 := ⟨by decide +kernel, rfl⟩
theorem dX1_findQuota_68 : DC cX1_findQuota 68 (.iconst 1) 1 69 := ⟨by decide +kernel, rfl⟩
theorem dX1_findQuota_69 : DC cX1_findQuota 69 (.iadd) 1 70 := ⟨by decide +kernel, rfl⟩
theorem dX1_findQuota_70 : DC cX1_findQuota 70 (.sipush 10000) 3 73 := ⟨by decide +kernel, rfl⟩
theorem dX1_findQuota_73 : DC cX1_findQuota 73 (.imul) 1 74 := ⟨by decide +kernel, rfl⟩
theorem dX1_findQuota_74 : DC cX1_findQuota 74 (.ireturn) 1 75 := ⟨by decide +kernel, rfl⟩
theorem dX1_findQuota_75 : DC cX1_findQuota 75 (.aload_n 0) 1 76 := ⟨by decide +kernel, rfl⟩
theorem dX1_findQuota_76 : DC cX1_findQuota 76 (.getfield 122) 3 79 := ⟨by decide +kernel, rfl⟩
theorem dX1_findQuota_79 : DC cX1_findQuota 79 (.iload_n 1) 1 80 := ⟨by decide +kernel, rfl⟩
theorem dX1_findQuota_80 : DC cX1_findQuota 80 (.iadd) 1 81 := ⟨by decide +kernel, rfl⟩
theorem dX1_findQuota_81 : DC cX1_findQuota 81 (.iconst 1) 1 82 := ⟨by decide +kernel, rfl⟩
theorem dX1_findQuota_82 : DC cX1_findQuota 82 (.isub) 1 83 := ⟨by decide +kernel, rfl⟩
theorem dX1_findQuota_83 : DC cX1_findQuota 83 (.iload_n 1) 1 84 := ⟨by decide +kernel, rfl⟩
theorem dX1_findQuota_84 : DC cX1_findQuota 84 (.idiv) 1 85 := ⟨by decide +kernel, rfl⟩
theorem dX1_findQuota_85 : DC cX1_findQuota 85 (.sipush 10000) 3 88 := ⟨by decide +kernel, rfl⟩
theorem dX1_findQuota_88 : DC cX1_findQuota 88 (.imul) 1 89 := ⟨by decide +kernel, rfl⟩
theorem dX1_findQuota_89 : DC cX1_findQuota 89 (.ireturn) 1 90 := ⟨by decide +kernel, rfl⟩
theorem dX1_findQuota_90 : DC cX1_findQuota 90 (.iload_n 2) 1 91 := ⟨by decide +kernel, rfl⟩
theorem dX1_findQuota_91 : DC cX1_findQuota 91 (.iload_n 1) 1 92 := ⟨by decide +kernel, rfl⟩
theorem dX1_findQuota_92 : DC cX1_findQuota 92 (.iconst 1) 1 93 := ⟨by decide +kernel, rfl⟩
theorem dX1_findQuota_93 : DC cX1_findQuota 93 (.iadd) 1 94 := ⟨by decide +kernel, rfl⟩
theorem dX1_findQuota_94 : DC cX1_findQuota 94 (.idiv) 1 95 := ⟨by decide +kernel, rfl⟩
theorem dX1_findQuota_95 : DC cX1_findQuota 95 (.iconst 1) 1 96 := ⟨by decide +kernel, rfl⟩
theorem dX1_findQuota_96 : DC cX1_findQuota 96 (.iadd) 1 97 := ⟨by decide +kernel, rfl⟩
theorem dX1_findQuota_97 : DC cX1_findQuota 97 (.ireturn) 1 98 := ⟨by decide +kernel, rfl⟩
theorem dX1_findQuota_98 : DC cX1_findQuota 98 (.iload_n 2) 1 99 := ⟨by decide +kernel, rfl⟩
theorem dX1_findQuota_99 : DC cX1_findQuota 99 (.aload_n 0) 1 100 := ⟨by decide +kernel, rfl⟩
theorem dX1_findQuota_100 : DC cX1_findQuota 100 (.getfield 124) 3 103 := ⟨by decide +kernel, rfl⟩
theorem dX1_findQuota_103 : DC cX1_findQuota 103 (.isub) 1 104 := ⟨by decide +kernel, rfl⟩
theorem dX1_findQuota_104 : DC cX1_findQuota 104 (.aload_n 0) 1 105 := ⟨by decide +kernel, rfl⟩
theorem dX1_findQuota_105 : DC cX1_findQuota 105 (.getfield 127) 3 108 := ⟨by decide +kernel, rfl⟩
theorem dX1_findQuota_108 : DC cX1_findQuota 108 (.isub) 1 109 := ⟨by decide +kernel, rfl⟩
theorem dX1_findQuota_109 : DC cX1_findQuota 109 (.iload_n 1) 1 110 := ⟨by decide +kernel, rfl⟩
theorem dX1_findQuota_110 : DC cX1_findQuota 110 (.iconst 1) 1 111 := ⟨by decide +kernel, rfl⟩
theorem dX1_findQuota_111 : DC cX1_findQuota 111 (.iadd) 1 112 := ⟨by decide +kernel, rfl⟩
theorem dX1_findQuota_112 : DC cX1_findQuota 112 (.idiv) 1 113 := ⟨by decide +kernel, rfl⟩
theorem dX1_findQuota_113 : DC cX1_findQuota 113 (.iconst 1) 1 114 := ⟨by decide +kernel, rfl⟩
theorem dX1_findQuota_114 : DC cX1_findQuota 114 (.iadd) 1 115 := ⟨by decide +kernel, rfl⟩
theorem dX1_findQuota_115 : DC cX1_findQuota 115 (.ireturn) 1 116 := ⟨by decide +kernel, rfl⟩
theorem dX1_logRound_0 : DC cX1_logRound 0 (.aload_n 0) 1 1 := ⟨by decide +kernel, rfl⟩
theorem dX1_logRound_1 : DC cX1_logRound 1 (.getfield 41) 3 4 := ⟨by decide +kernel, rfl⟩
theorem dX1_logRound_4 : DC cX1_logRound 4 (.getfield 145) 3 7 := ⟨by decide +kernel, rfl⟩
theorem dX1_logRound_7 : DC cX1_logRound 7 (.iload_n 1) 1 8 := ⟨by decide +kernel, rfl⟩
theorem dX1_logRound_8 : DC cX1_logRound 8 (.aload_n 0) 1 9 := ⟨by decide +kernel, rfl⟩
theorem dX1_logRound_9 : DC cX1_logRound 9 (.getfield 75) 3 12 := ⟨by decide +kernel, rfl⟩
theorem dX1_logRound_12 : DC cX1_logRound 12 (.iastore) 1 13 := ⟨by decide +kernel, rfl⟩
theorem dX1_logRound_13 : DC cX1_logRound 13 (.aload_n 0) 1 14 := ⟨by decide +kernel, rfl⟩
theorem dX1_logRound_14 : DC cX1_logRound 14 (.getfield 41) 3 17 := ⟨by decide +kernel, rfl⟩
theorem dX1_logRound_17 : DC cX1_logRound 17 (.getfield 147) 3 20 := ⟨by decide +kernel, rfl⟩
theorem dX1_logRound_20 : DC cX1_logRound 20 (.iload_n 1) 1 21 := ⟨by decide +kernel, rfl⟩
theorem dX1_logRound_21 : DC cX1_logRound 21 (.aload_n 0) 1 22 := ⟨by decide +kernel, rfl⟩
theorem dX1_logRound_22 : DC cX1_logRound 22 (.getfield 124) 3 25 := ⟨by decide +kernel, rfl⟩
theorem dX1_logRound_25 : DC cX1_logRound 25 (.iastore) 1 26 := ⟨by decide +kernel, rfl⟩
theorem dX1_logRound_26 : DC cX1_logRound 26 (.aload_n 0) 1 27 := ⟨by decide +kernel, rfl⟩
theorem dX1_logRound_27 : DC cX1_logRound 27 (.getfield 41) 3 30 := ⟨by decide +kernel, rfl⟩
theorem dX1_logRound_30 : DC cX1_logRound 30 (.getfield 149) 3 33 := ⟨by decide +kernel, rfl⟩
theorem dX1_logRound_33 : DC cX1_logRound 33 (.iload_n 1) 1 34 := ⟨by decide +kernel, rfl⟩
theorem dX1_logRound_34 : DC cX1_logRound 34 (.aload_n 0) 1 35 := ⟨by decide +kernel, rfl⟩
theorem dX1_logRound_35 : DC cX1_logRound 35 (.getfield 127) 3 38 := ⟨by decide +kernel, rfl⟩
theorem dX1_logRound_38 : DC cX1_logRound 38 (.iastore) 1 39 := ⟨by decide +kernel, rfl⟩
theorem dX1_logRound_39 : DC cX1_logRound 39 (.aload_n 0) 1 40 := ⟨by decide +kernel, rfl⟩
theorem dX1_logRound_40 : DC cX1_logRound 40 (.getfield 41) 3 43 := ⟨by decide +kernel, rfl⟩
theorem dX1_logRound_43 : DC cX1_logRound 43 (.getfield 151) 3 46 := ⟨by decide +kernel, rfl⟩
theorem dX1_logRound_46 : DC cX1_logRound 46 (.iload_n 1) 1 47 := ⟨by decide +kernel, rfl⟩
theorem dX1_logRound_47 : DC cX1_logRound 47 (.iconst 0) 1 48 := ⟨by decide +kernel, rfl⟩
theorem dX1_logRound_48 : DC cX1_logRound 48 (.iastore) 1 49 := ⟨by decide +kernel, rfl⟩
theorem dX1_logRound_49 : DC cX1_logRound 49 (.aload_n 0) 1 50 := ⟨by decide +kernel, rfl⟩
theorem dX1_logRound_50 : DC cX1_logRound 50 (.getfield 41) 3 53 := ⟨by decide +kernel, rfl⟩
theorem dX1_logRound_53 : DC cX1_logRound 53 (.getfield 154) 3 56 := ⟨by decide +kernel, rfl⟩
theorem dX1_logRound_56 : DC cX1_logRound 56 (.iload_n 1) 1 57 := ⟨by decide +kernel, rfl⟩
theorem dX1_logRound_57 : DC cX1_logRound 57 (.iconst (-1)) 1 58 := ⟨by decide +kernel, rfl⟩
theorem dX1_logRound_58 : DC cX1_logRound 58 (.iastore) 1 59 := ⟨by decide +kernel, rfl⟩
theorem dX1_logRound_59 : DC cX1_logRound 59 (.aload_n 0) 1 60 := ⟨by decide +kernel, rfl⟩
theorem dX1_logRound_60 : DC cX1_logRound 60 (.getfield 41) 3 63 := ⟨by decide +kernel, rfl⟩
theorem dX1_logRound_63 : DC cX1_logRound 63 (.getfield 157) 3 66 := ⟨by decide +kernel, rfl⟩
theorem dX1_logRound_66 : DC cX1_logRound 66 (.iload_n 1) 1 67 := ⟨by decide +kernel, rfl⟩
theorem dX1_logRound_67 : DC cX1_logRound 67 (.iconst 0) 1 68 := ⟨by decide +kernel, rfl⟩
theorem dX1_logRound_68 : DC cX1_logRound 68 (.iastore) 1 69 := ⟨by decide +kernel, rfl⟩
theorem dX1_logRound_69 : DC cX1_logRound 69 (.aload_n 0) 1 70 := ⟨by decide +kernel, rfl⟩
theorem dX1_logRound_70 : DC cX1_logRound 70 (.getfield 41) 3 73 := ⟨by decide +kernel, rfl⟩
theorem dX1_logRound_73 : DC cX1_logRound 73 (.getfield 160) 3 76 := ⟨by decide +kernel, rfl⟩
theorem dX1_logRound_76 : DC cX1_logRound 76 (.iload_n 1) 1 77 := ⟨by decide +kernel, rfl⟩
theorem dX1_logRound_77 : DC cX1_logRound 77 (.iconst 0) 1 78 := ⟨by decide +kernel, rfl⟩
theorem dX1_logRound_78 : DC cX1_logRound 78 (.iastore) 1 79 := ⟨by decide +kernel, rfl⟩
theorem dX1_logRound_79 : DC cX1_logRound 79 (.aload_n 0) 1 80 := ⟨by decide +kernel, rfl⟩
theorem dX1_logRound_80 : DC cX1_logRound 80 (.getfield 45) 3 83 := ⟨by decide +kernel, rfl⟩
theorem dX1_logRound_83 : DC cX1_logRound 83 (.iconst 0) 1 84 := ⟨by decide +kernel, rfl⟩
theorem dX1_logRound_84 : DC cX1_logRound 84 (.aload_n 0) 1 85 := ⟨by decide +kernel, rfl⟩
theorem dX1_logRound_85 : DC cX1_logRound 85 (.getfield 18) 3 88 := ⟨by decide +kernel, rfl⟩
theorem dX1_logRound_88 : DC cX1_logRound 88 (.getfield 163) 3 91 := ⟨by decide +kernel, rfl⟩
theorem dX1_logRound_91 : DC cX1_logRound 91 (.iload_n 1) 1 92 := ⟨by decide +kernel, rfl⟩
theorem dX1_logRound_92 : DC cX1_logRound 92 (.aaload) 1 93 := ⟨by decide +kernel, rfl⟩
theorem dX1_logRound_93 : DC cX1_logRound 93 (.iconst 0) 1 94 := ⟨by decide +kernel, rfl⟩
theorem dX1_logRound_94 : DC cX1_logRound 94 (.bipush 8) 2 96 := ⟨by decide +kernel, rfl⟩
theorem dX1_logRound_96 : DC cX1_logRound 96 (.invokestatic 166) 3 99 := ⟨by decide +kernel, rfl⟩
theorem dX1_logRound_99 : DC cX1_logRound 99 (.aload_n 0) 1 100 := ⟨by decide +kernel, rfl⟩
theorem dX1_logRound_100 : DC cX1_logRound 100 (.getfield 49) 3 103 := ⟨by decide +kernel, rfl⟩
theorem dX1_logRound_103 : DC cX1_logRound 103 (.iconst 0) 1 104 := ⟨by decide +kernel, rfl⟩
theorem dX1_logRound_104 : DC cX1_logRound 104 (.aload_n 0) 1 105 := ⟨by decide +kernel, rfl⟩
theorem dX1_logRound_105 : DC cX1_logRound 105 (.getfield 41) 3 108 := ⟨by decide +kernel, rfl⟩
theorem dX1_logRound_108 : DC cX1_logRound 108 (.getfield 172) 3 111 := ⟨by decide +kernel, rfl⟩
theorem dX1_logRound_111 : DC cX1_logRound 111 (.iload_n 1) 1 112 := ⟨by decide +kernel, rfl⟩
theorem dX1_logRound_112 : DC cX1_logRound 112 (.aaload) 1 113 := ⟨by decide +kernel, rfl⟩
theorem dX1_logRound_113 : DC cX1_logRound 113 (.iconst 0) 1 114 := ⟨by decide +kernel, rfl⟩
theorem dX1_logRound_114 : DC cX1_logRound 114 (.bipush 25) 2 116 := ⟨by decide +kernel, rfl⟩
theorem dX1_logRound_116 : DC cX1_logRound 116 (.invokestatic 166) 3 119 := ⟨by decide +kernel, rfl⟩
theorem dX1_logRound_119 : DC cX1_logRound 119 (.aload_n 0) 1 120 := ⟨by decide +kernel, rfl⟩
theorem dX1_logRound_120 : DC cX1_logRound 120 (.getfield 58) 3 123 := ⟨by decide +kernel, rfl⟩
theorem dX1_logRound_123 : DC cX1_logRound 123 (.iconst 0) 1 124 := ⟨by decide +kernel, rfl⟩
theorem dX1_logRound_124 : DC cX1_logRound 124 (.aload_n 0) 1 125 := ⟨by decide +kernel, rfl⟩
theorem dX1_logRound_125 : DC cX1_logRound 125 (.getfield 41) 3 128 := ⟨by decide +kernel, rfl⟩
theorem dX1_logRound_128 : DC cX1_logRound 128 (.getfield 174) 3 131 := ⟨by decide +kernel, rfl⟩
theorem dX1_logRound_131 : DC cX1_logRound 131 (.iload_n 1) 1 132 := ⟨by decide +kernel, rfl⟩
theorem dX1_logRound_132 : DC cX1_logRound 132 (.aaload) 1 133 := ⟨by decide +kernel, rfl⟩
theorem dX1_logRound_133 : DC cX1_logRound 133 (.iconst 0) 1 134 := ⟨by decide +kernel, rfl⟩
theorem dX1_logRound_134 : DC cX1_logRound 134 (.bipush 25) 2 136 := ⟨by decide +kernel, rfl⟩
theorem dX1_logRound_136 : DC cX1_logRound 136 (.invokestatic 166) 3 139 := ⟨by decide +kernel, rfl⟩
theorem dX1_logRound_139 : DC cX1_logRound 139 (.return_) 1 140 := ⟨by decide +kernel, rfl⟩
theorem dX1_playRound_0 : DC cX1_playRound 0 (.aload_n 0) 1 1 := ⟨by decide +kernel, rfl⟩
theorem dX1_playRound_1 : DC cX1_playRound 1 (.getfield 9) 3 4 := ⟨by decide +kernel, rfl⟩
theorem dX1_playRound_4 : DC cX1_playRound 4 (.getfield 137) 3 7 := ⟨by decide +kernel, rfl⟩
theorem dX1_playRound_7 : DC cX1_playRound 7 (.iconst 3) 1 8 := ⟨by decide +kernel, rfl⟩
theorem dX1_playRound_8 : DC cX1_playRound 8 (.iaload) 1 9 := ⟨by decide +kernel, rfl⟩
theorem dX1_playRound_9 : DC cX1_playRound 9 (.istore_n 2) 1 10 := ⟨by decide +kernel, rfl⟩
theorem dX1_playRound_10 : DC cX1_playRound 10 (.aload_n 0) 1 11 := ⟨by decide +kernel, rfl⟩
theorem dX1_playRound_11 : DC cX1_playRound 11 (.iload_n 1) 1 12 := ⟨by decide +kernel, rfl⟩
theorem dX1_playRound_12 : DC cX1_playRound 12 (.iload_n 2) 1 13 := ⟨by decide +kernel, rfl⟩
theorem dX1_playRound_13 : DC cX1_playRound 13 (.aload_n 0) 1 14 := ⟨by decide +kernel, rfl⟩
theorem dX1_playRound_14 : DC cX1_playRound 14 (.getfield 18) 3 17 := ⟨by decide +kernel, rfl⟩
theorem dX1_playRound_17 : DC cX1_playRound 17 (.getfield 92) 3 20 := ⟨by decide +kernel, rfl⟩
theorem dX1_playRound_20 : DC cX1_playRound 20 (.isub) 1 21 := ⟨by decide +kernel, rfl⟩
theorem dX1_playRound_21 : DC cX1_playRound 21 (.invokevirtual 176) 3 24 := ⟨by decide +kernel, rfl⟩
theorem dX1_playRound_24 : DC cX1_playRound 24 (.iload_n 2) 1 25 := ⟨by decide +kernel, rfl⟩
theorem dX1_playRound_25 : DC cX1_playRound 25 (.aload_n 0) 1 26 := ⟨by decide +kernel, rfl⟩
theorem dX1_playRound_26 : DC cX1_playRound 26 (.getfield 18) 3 29 := ⟨by decide +kernel, rfl⟩
theorem dX1_playRound_29 : DC cX1_playRound 29 (.getfield 92) 3 32 := ⟨by decide +kernel, rfl⟩
theorem dX1_playRound_32 : DC cX1_playRound 32 (.isub) 1 33 := ⟨by decide +kernel, rfl⟩
theorem dX1_playRound_33 : DC cX1_playRound 33 (.istore_n 3) 1 34 := ⟨by decide +kernel, rfl⟩
theorem dX1_playRound_34 : DC cX1_playRound 34 (.iload_n 3) 1 35 := ⟨by decide +kernel, rfl⟩
theorem dX1_playRound_35 : DC cX1_playRound 35 (.ifCond .gt 5) 3 38 := ⟨by decide +kernel, rfl⟩
theorem dX1_playRound_38 : DC cX1_playRound 38 (.iconst 0) 1 39 := ⟨by decide +kernel, rfl⟩
theorem dX1_playRound_39 : DC cX1_playRound 39 (.ireturn) 1 40 := ⟨by decide +kernel, rfl⟩
theorem dX1_playRound_40 : DC cX1_playRound 40 (.aload_n 0) 1 41 := ⟨by decide +kernel, rfl⟩
theorem dX1_playRound_41 : DC cX1_playRound 41 (.getfield 86) 3 44 := ⟨by decide +kernel, rfl⟩
theorem dX1_playRound_44 : DC cX1_playRound 44 (.invokestatic 180) 3 47 := ⟨by decide +kernel, rfl⟩
theorem dX1_playRound_47 : DC cX1_playRound 47 (.iload_n 3) 1 48 := ⟨by decide +kernel, rfl⟩
theorem dX1_playRound_48 : DC cX1_playRound 48 (.if_icmp .gt 10) 3 51 := ⟨by decide +kernel, rfl⟩
theorem dX1_playRound_51 : DC cX1_playRound 51 (.aload_n 0) 1 52 := ⟨by decide +kernel, rfl⟩
theorem dX1_playRound_52 : DC cX1_playRound 52 (.iload_n 1) 1 53 := ⟨by decide +kernel, rfl⟩
theorem dX1_playRound_53 : DC cX1_playRound 53 (.invokevirtual 186) 3 56 := ⟨by decide +kernel, rfl⟩
theorem dX1_playRound_56 : DC cX1_playRound 56 (.iconst 0) 1 57 := ⟨by decide +kernel, rfl⟩
theorem dX1_playRound_57 : DC cX1_playRound 57 (.ireturn) 1 58 := ⟨by decide +kernel, rfl⟩
theorem dX1_playRound_58 : DC cX1_playRound 58 (.aload_n 0) 1 59 := ⟨by decide +kernel, rfl⟩
theorem dX1_playRound_59 : DC cX1_playRound 59 (.getfield 27) 3 62 := ⟨by decide +kernel, rfl⟩
theorem dX1_playRound_62 : DC cX1_playRound 62 (.aload_n 0) 1 63 := ⟨by decide +kernel, rfl⟩
theorem dX1_playRound_63 : DC cX1_playRound 63 (.invokevirtual 189) 3 66 := ⟨by decide +kernel, rfl⟩
theorem dX1_playRound_66 : DC cX1_playRound 66 (.iload_n 1) 1 67 := ⟨by decide +kernel, rfl⟩
theorem dX1_playRound_67 : DC cX1_playRound 67 (.iconst 1) 1 68 := ⟨by decide +kernel, rfl⟩
theorem dX1_playRound_68 : DC cX1_playRound 68 (.invokevirtual 192) 3 71 := ⟨by decide +kernel, rfl⟩
theorem dX1_playRound_71 : DC cX1_playRound 71 (.istore 4) 2 73 := ⟨by decide +kernel, rfl⟩
theorem dX1_playRound_73 : DC cX1_playRound 73 (.iload 4) 2 75 := ⟨by decide +kernel, rfl⟩
theorem dX1_playRound_75 : DC cX1_playRound 75 (.iconst (-1)) 1 76 := ⟨by decide +kernel, rfl⟩
theorem dX1_playRound_76 : DC cX1_playRound 76 (.if_icmp .eq 13) 3 79 := ⟨by decide +kernel, rfl⟩
theorem dX1_playRound_79 : DC cX1_playRound 79 (.aload_n 0) 1 80 := ⟨by decide +kernel, rfl⟩
theorem dX1_playRound_80 : DC cX1_playRound 80 (.iload 4) 2 82 := ⟨by decide +kernel, rfl⟩
theorem dX1_playRound_82 : DC cX1_playRound 82 (.iload_n 1) 1 83 := ⟨by decide +kernel, rfl⟩
theorem dX1_playRound_83 : DC cX1_playRound 83 (.invokevirtual 196) 3 86 := ⟨by decide +kernel, rfl⟩
theorem dX1_playRound_86 : DC cX1_playRound 86 (.goto 8) 3 89 := ⟨by decide +kernel, rfl⟩
theorem dX1_playRound_89 : DC cX1_playRound 89 (.aload_n 0) 1 90 := ⟨by decide +kernel, rfl⟩
theorem dX1_playRound_90 : DC cX1_playRound 90 (.iload_n 1) 1 91 := ⟨by decide +kernel, rfl⟩
theorem dX1_playRound_91 : DC cX1_playRound 91 (.invokevirtual 199) 3 94 := ⟨by decide +kernel, rfl⟩
theorem dX1_playRound_94 : DC cX1_playRound 94 (.iconst 1) 1 95 := ⟨by decide +kernel, rfl⟩
theorem dX1_playRound_95 : DC cX1_playRound 95 (.ireturn) 1 96 := ⟨by decide +kernel, rfl⟩
theorem dX1_electWithQuota_0 : DC cX1_electWithQuota 0 (.iconst 0) 1 1 := ⟨by decide +kernel, rfl⟩
theorem dX1_electWithQuota_1 : DC cX1_electWithQuota 1 (.istore_n 3) 1 2 := ⟨by decide +kernel, rfl⟩
theorem dX1_electWithQuota_2 : DC cX1_electWithQuota 2 (.iload_n 3) 1 3 := ⟨by decide +kernel, rfl⟩
theorem dX1_electWithQuota_3 : DC cX1_electWithQuota 3 (.iload_n 2) 1 4 := ⟨by decide +kernel, rfl⟩
theorem dX1_electWithQuota_4 : DC cX1_electWithQuota 4 (.if_icmp .ge 53) 3 7 := ⟨by decide +kernel, rfl⟩
theorem dX1_electWithQuota_7 : DC cX1_electWithQuota 7 (.aload_n 0) 1 8 := ⟨by decide +kernel, rfl⟩
theorem dX1_electWithQuota_8 : DC cX1_electWithQuota 8 (.getfield 27) 3 11 := ⟨by decide +kernel, rfl⟩
theorem dX1_electWithQuota_11 : DC cX1_electWithQuota 11 (.aload_n 0) 1 12 := ⟨by decide +kernel, rfl⟩
theorem dX1_electWithQuota_12 : DC cX1_electWithQuota 12 (.getfield 86) 3 15 := ⟨by decide +kernel, rfl⟩
theorem dX1_electWithQuota_15 : DC cX1_electWithQuota 15 (.iload_n 1) 1 16 := ⟨by decide +kernel, rfl⟩
theorem dX1_electWithQuota_16 : DC cX1_electWithQuota 16 (.iconst 1) 1 17 := ⟨by decide +kernel, rfl⟩
theorem dX1_electWithQuota_17 : DC cX1_electWithQuota 17 (.invokevirtual 192) 3 20 := ⟨by decide +kernel, rfl⟩
theorem dX1_electWithQuota_20 : DC cX1_electWithQuota 20 (.istore 4) 2 22 := ⟨by decide +kernel, rfl⟩
theorem dX1_electWithQuota_22 : DC cX1_electWithQuota 22 (.iload 4) 2 24 := ⟨by decide +kernel, rfl⟩
theorem dX1_electWithQuota_24 : DC cX1_electWithQuota 24 (.iconst (-1)) 1 25 := ⟨by decide +kernel, rfl⟩
theorem dX1_electWithQuota_25 : DC cX1_electWithQuota 25 (.if_icmp .eq 17) 3 28 := ⟨by decide +kernel, rfl⟩
theorem dX1_electWithQuota_28 : DC cX1_electWithQuota 28 (.aload_n 0) 1 29 := ⟨by decide +kernel, rfl⟩
theorem dX1_electWithQuota_29 : DC cX1_electWithQuota 29 (.getfield 45) 3 32 := ⟨by decide +kernel, rfl⟩
theorem dX1_electWithQuota_32 : DC cX1_electWithQuota 32 (.iload 4) 2 34 := ⟨by decide +kernel, rfl⟩
theorem dX1_electWithQuota_34 : DC cX1_electWithQuota 34 (.iaload) 1 35 := ⟨by decide +kernel, rfl⟩
theorem dX1_electWithQuota_35 : DC cX1_electWithQuota 35 (.aload_n 0) 1 36 := ⟨by decide +kernel, rfl⟩
theorem dX1_electWithQuota_36 : DC cX1_electWithQuota 36 (.getfield 75) 3 39 := ⟨by decide +kernel, rfl⟩
theorem dX1_electWithQuota_39 : DC cX1_electWithQuota 39 (.if_icmp .ge 4) 3 42 := ⟨by decide +kernel, rfl⟩
theorem dX1_electWithQuota_42 : DC cX1_electWithQuota 42 (.return_) 1 43 := ⟨by decide +kernel, rfl⟩
theorem dX1_electWithQuota_43 : DC cX1_electWithQuota 43 (.aload_n 0) 1 44 := ⟨by decide +kernel, rfl⟩
theorem dX1_electWithQuota_44 : DC cX1_electWithQuota 44 (.iload 4) 2 46 := ⟨by decide +kernel, rfl⟩
theorem dX1_electWithQuota_46 : DC cX1_electWithQuota 46 (.iload_n 1) 1 47 := ⟨by decide +kernel, rfl⟩
theorem dX1_electWithQuota_47 : DC cX1_electWithQuota 47 (.iconst 1) 1 48 := ⟨by decide +kernel, rfl⟩
theorem dX1_electWithQuota_48 : DC cX1_electWithQuota 48 (.invokevirtual 202) 3 51 := ⟨by decide +kernel, rfl⟩
theorem dX1_electWithQuota_51 : DC cX1_electWithQuota 51 (.iinc 3 1) 3 54 := ⟨by decide +kernel, rfl⟩
theorem dX1_electWithQuota_54 : DC cX1_electWithQuota 54 (.goto (-52)) 3 57 := ⟨by decide +kernel, rfl⟩
theorem dX1_electWithQuota_57 : DC cX1_electWithQuota 57 (.return_) 1 58 := ⟨by decide +kernel, rfl⟩
theorem dX1_electAllHopeful_0 : DC cX1_electAllHopeful 0 (.iconst 0) 1 1 := ⟨by decide +kernel, rfl⟩
theorem dX1_electAllHopeful_1 : DC cX1_electAllHopeful 1 (.istore_n 2) 1 2 := ⟨by decide +kernel, rfl⟩
theorem dX1_electAllHopeful_2 : DC cX1_electAllHopeful 2 (.iload_n 2) 1 3 := ⟨by decide +kernel, rfl⟩
theorem dX1_electAllHopeful_3 : DC cX1_electAllHopeful 3 (.bipush 8) 2 5 := ⟨by decide +kernel, rfl⟩
theorem dX1_electAllHopeful_5 : DC cX1_electAllHopeful 5 (.if_icmp .ge 42) 3 8 := ⟨by decide +kernel, rfl⟩
theorem dX1_electAllHopeful_8 : DC cX1_electAllHopeful 8 (.aload_n 0) 1 9 := ⟨by decide +kernel, rfl⟩
theorem dX1_electAllHopeful_9 : DC cX1_electAllHopeful 9 (.getfield 86) 3 12 := ⟨by decide +kernel, rfl⟩
theorem dX1_electAllHopeful_12 : DC cX1_electAllHopeful 12 (.ifCond .eq 35) 3 15 := ⟨by decide +kernel, rfl⟩
theorem dX1_electAllHopeful_15 : DC cX1_electAllHopeful 15 (.aload_n 0) 1 16 := ⟨by decide +kernel, rfl⟩
theorem dX1_electAllHopeful_16 : DC cX1_electAllHopeful 16 (.getfield 27) 3 19 := ⟨by decide +kernel, rfl⟩
theorem dX1_electAllHopeful_19 : DC cX1_electAllHopeful 19 (.aload_n 0) 1 20 := ⟨by decide +kernel, rfl⟩
theorem dX1_electAllHopeful_20 : DC cX1_electAllHopeful 20 (.getfield 86) 3 23 := ⟨by decide +kernel, rfl⟩
theorem dX1_electAllHopeful_23 : DC cX1_electAllHopeful 23 (.iload_n 1) 1 24 := ⟨by decide +kernel, rfl⟩
theorem dX1_electAllHopeful_24 : DC cX1_electAllHopeful 24 (.iconst 1) 1 25 := ⟨by decide +kernel, rfl⟩
theorem dX1_electAllHopeful_25 : DC cX1_electAllHopeful 25 (.invokevirtual 192) 3 28 := ⟨by decide +kernel, rfl⟩
theorem dX1_electAllHopeful_28 : DC cX1_electAllHopeful 28 (.istore_n 3) 1 29 := ⟨by decide +kernel, rfl⟩
theorem dX1_electAllHopeful_29 : DC cX1_electAllHopeful 29 (.iload_n 3) 1 30 := ⟨by decide +kernel, rfl⟩
theorem dX1_electAllHopeful_30 : DC cX1_electAllHopeful 30 (.iconst (-1)) 1 31 := ⟨by decide +kernel, rfl⟩
theorem dX1_electAllHopeful_31 : DC cX1_electAllHopeful 31 (.if_icmp .eq 10) 3 34 := ⟨by decide +kernel, rfl⟩
theorem dX1_electAllHopeful_34 : DC cX1_electAllHopeful 34 (.aload_n 0) 1 35 := ⟨by decide +kernel, rfl⟩
theorem dX1_electAllHopeful_35 : DC cX1_electAllHopeful 35 (.iload_n 3) 1 36 := ⟨by decide +kernel, rfl⟩
theorem dX1_electAllHopeful_36 : DC cX1_electAllHopeful 36 (.iload_n 1) 1 37 := ⟨by decide +kernel, rfl⟩
theorem dX1_electAllHopeful_37 : DC cX1_electAllHopeful 37 (.iconst 2) 1 38 := ⟨by decide +kernel, rfl⟩
theorem dX1_electAllHopeful_38 : DC cX1_electAllHopeful 38 (.invokevirtual 202) 3 41 := ⟨by decide +kernel, rfl⟩
theorem dX1_electAllHopeful_41 : DC cX1_electAllHopeful 41 (.iinc 2 1) 3 44 := ⟨by decide +kernel, rfl⟩
theorem dX1_electAllHopeful_44 : DC cX1_electAllHopeful 44 (.goto (-42)) 3 47 := ⟨by decide +kernel, rfl⟩
theorem dX1_electAllHopeful_47 : DC cX1_electAllHopeful 47 (.return_) 1 48 := ⟨by decide +kernel, rfl⟩
theorem dX1_elect_0 : DC cX1_elect 0 (.aload_n 0) 1 1 := ⟨by decide +kernel, rfl⟩
theorem dX1_elect_1 : DC cX1_elect 1 (.getfield 18) 3 4 := ⟨by decide +kernel, rfl⟩
theorem dX1_elect_4 : DC cX1_elect 4 (.getfield 92) 3 7 := ⟨by decide +kernel, rfl⟩
theorem dX1_elect_7 : DC cX1_elect 7 (.bipush 8) 2 9 := ⟨by decide +kernel, rfl⟩
theorem dX1_elect_9 : DC cX1_elect 9 (.if_icmp .ge 32) 3 12 := ⟨by decide +kernel, rfl⟩
theorem dX1_elect_12 : DC cX1_elect 12 (.aload_n 0) 1 13 := ⟨by decide +kernel, rfl⟩
theorem dX1_elect_13 : DC cX1_elect 13 (.getfield 18) 3 16 := ⟨by decide +kernel, rfl⟩
theorem dX1_elect_16 : DC cX1_elect 16 (.getfield 206) 3 19 := ⟨by decide +kernel, rfl⟩
theorem dX1_elect_19 : DC cX1_elect 19 (.aload_n 0) 1 20 := ⟨by decide +kernel, rfl⟩
theorem dX1_elect_20 : DC cX1_elect 20 (.getfield 18) 3 23 := ⟨by decide +kernel, rfl⟩
theorem dX1_elect_23 : DC cX1_elect 23 (.getfield 92) 3 26 := ⟨by decide +kernel, rfl⟩
theorem dX1_elect_26 : DC cX1_elect 26 (.iload_n 1) 1 27 := ⟨by decide +kernel, rfl⟩
theorem dX1_elect_27 : DC cX1_elect 27 (.iastore) 1 28 := ⟨by decide +kernel, rfl⟩
theorem dX1_elect_28 : DC cX1_elect 28 (.aload_n 0) 1 29 := ⟨by decide +kernel, rfl⟩
theorem dX1_elect_29 : DC cX1_elect 29 (.getfield 18) 3 32 := ⟨by decide +kernel, rfl⟩
theorem dX1_elect_32 : DC cX1_elect 32 (.dup) 1 33 := ⟨by decide +kernel, rfl⟩
theorem dX1_elect_33 : DC cX1_elect 33 (.getfield 92) 3 36 := ⟨by decide +kernel, rfl⟩
theorem dX1_elect_36 : DC cX1_elect 36 (.iconst 1) 1 37 := ⟨by decide +kernel, rfl⟩
theorem dX1_elect_37 : DC cX1_elect 37 (.iadd) 1 38 := ⟨by decide +kernel, rfl⟩
theorem dX1_elect_38 : DC cX1_elect 38 (.putfield 92) 3 41 := ⟨by decide +kernel, rfl⟩
theorem dX1_elect_41 : DC cX1_elect 41 (.aload_n 0) 1 42 := ⟨by decide +kernel, rfl⟩
theorem dX1_elect_42 : DC cX1_elect 42 (.getfield 18) 3 45 := ⟨by decide +kernel, rfl⟩
theorem dX1_elect_45 : DC cX1_elect 45 (.getfield 107) 3 48 := ⟨by decide +kernel, rfl⟩
theorem dX1_elect_48 : DC cX1_elect 48 (.iload_n 1) 1 49 := ⟨by decide +kernel, rfl⟩
theorem dX1_elect_49 : DC cX1_elect 49 (.iconst 1) 1 50 := ⟨by decide +kernel, rfl⟩
theorem dX1_elect_50 : DC cX1_elect 50 (.iastore) 1 51 := ⟨by decide +kernel, rfl⟩
theorem dX1_elect_51 : DC cX1_elect 51 (.aload_n 0) 1 52 := ⟨by decide +kernel, rfl⟩
theorem dX1_elect_52 : DC cX1_elect 52 (.getfield 34) 3 55 := ⟨by decide +kernel, rfl⟩
theorem dX1_elect_55 : DC cX1_elect 55 (.getfield 110) 3 58 := ⟨by decide +kernel, rfl⟩
theorem dX1_elect_58 : DC cX1_elect 58 (.iload_n 1) 1 59 := ⟨by decide +kernel, rfl⟩
theorem dX1_elect_59 : DC cX1_elect 59 (.iload_n 2) 1 60 := ⟨by decide +kernel, rfl⟩
theorem dX1_elect_60 : DC cX1_elect 60 (.iastore) 1 61 := ⟨by decide +kernel, rfl⟩
theorem dX1_elect_61 : DC cX1_elect 61 (.aload_n 0) 1 62 := ⟨by decide +kernel, rfl⟩
theorem dX1_elect_62 : DC cX1_elect 62 (.getfield 34) 3 65 := ⟨by decide +kernel, rfl⟩
theorem dX1_elect_65 : DC cX1_elect 65 (.getfield 113) 3 68 := ⟨by decide +kernel, rfl⟩
theorem dX1_elect_68 : DC cX1_elect 68 (.iload_n 1) 1 69 := ⟨by decide +kernel, rfl⟩
theorem dX1_elect_69 : DC cX1_elect 69 (.iload_n 3) 1 70 := ⟨by decide +kernel, rfl⟩
theorem dX1_elect_70 : DC cX1_elect 70 (.iastore) 1 71 := ⟨by decide +kernel, rfl⟩
theorem dX1_elect_71 : DC cX1_elect 71 (.aload_n 0) 1 72 := ⟨by decide +kernel, rfl⟩
theorem dX1_elect_72 : DC cX1_elect 72 (.getfield 41) 3 75 := ⟨by decide +kernel, rfl⟩
theorem dX1_elect_75 : DC cX1_elect 75 (.getfield 160) 3 78 := ⟨by decide +kernel, rfl⟩
theorem dX1_elect_78 : DC cX1_elect 78 (.iload_n 2) 1 79 := ⟨by decide +kernel, rfl⟩
theorem dX1_elect_79 : DC cX1_elect 79 (.dup2) 1 80 := ⟨by decide +kernel, rfl⟩
theorem dX1_elect_80 : DC cX1_elect 80 (.iaload) 1 81 := ⟨by decide +kernel, rfl⟩
theorem dX1_elect_81 : DC cX1_elect 81 (.iconst 1) 1 82 := ⟨by decide +kernel, rfl⟩
theorem dX1_elect_82 : DC cX1_elect 82 (.iload_n 1) 1 83 := ⟨by decide +kernel, rfl⟩
theorem dX1_elect_83 : DC cX1_elect 83 (.ishl) 1 84 := ⟨by decide +kernel, rfl⟩
theorem dX1_elect_84 : DC cX1_elect 84 (.ior) 1 85 := ⟨by decide +kernel, rfl⟩
theorem dX1_elect_85 : DC cX1_elect 85 (.iastore) 1 86 := ⟨by decide +kernel, rfl⟩
theorem dX1_elect_86 : DC cX1_elect 86 (.aload_n 0) 1 87 := ⟨by decide +kernel, rfl⟩
theorem dX1_elect_87 : DC cX1_elect 87 (.dup) 1 88 := ⟨by decide +kernel, rfl⟩
theorem dX1_elect_88 : DC cX1_elect 88 (.getfield 86) 3 91 := ⟨by decide +kernel, rfl⟩
theorem dX1_elect_91 : DC cX1_elect 91 (.iconst 1) 1 92 := ⟨by decide +kernel, rfl⟩
theorem dX1_elect_92 : DC cX1_elect 92 (.iload_n 1) 1 93 := ⟨by decide +kernel, rfl⟩
theorem dX1_elect_93 : DC cX1_elect 93 (.ishl) 1 94 := ⟨by decide +kernel, rfl⟩
theorem dX1_elect_94 : DC cX1_elect 94 (.iconst (-1)) 1 95 := ⟨by decide +kernel, rfl⟩
theorem dX1_elect_95 : DC cX1_elect 95 (.ixor) 1 96 := ⟨by decide +kernel, rfl⟩
theorem dX1_elect_96 : DC cX1_elect 96 (.iand) 1 97 := ⟨by decide +kernel, rfl⟩
theorem dX1_elect_97 : DC cX1_elect 97 (.putfield 86) 3 100 := ⟨by decide +kernel, rfl⟩
theorem dX1_elect_100 : DC cX1_elect 100 (.aload_n 0) 1 101 := ⟨by decide +kernel, rfl⟩
theorem dX1_elect_101 : DC cX1_elect 101 (.dup) 1 102 := ⟨by decide +kernel, rfl⟩
theorem dX1_elect_102 : DC cX1_elect 102 (.getfield 89) 3 105 := ⟨by decide +kernel, rfl⟩
theorem dX1_elect_105 : DC cX1_elect 105 (.iconst 1) 1 106 := ⟨by decide +kernel, rfl⟩
theorem dX1_elect_106 : DC cX1_elect 106 (.iload_n 1) 1 107 := ⟨by decide +kernel, rfl⟩
theorem dX1_elect_107 : DC cX1_elect 107 (.ishl) 1 108 := ⟨by decide +kernel, rfl⟩
theorem dX1_elect_108 : DC cX1_elect 108 (.ior) 1 109 := ⟨by decide +kernel, rfl⟩
theorem dX1_elect_109 : DC cX1_elect 109 (.putfield 89) 3 112 := ⟨by decide +kernel, rfl⟩
theorem dX1_elect_112 : DC cX1_elect 112 (.return_) 1 113 := ⟨by decide +kernel, rfl⟩
theorem dX1_withMoreThanQuota_0 : DC cX1_withMoreThanQuota 0 (.iconst 0) 1 1 := ⟨by decide +kernel, rfl⟩
theorem dX1_withMoreThanQuota_1 : DC cX1_withMoreThanQuota 1 (.istore_n 1) 1 2 := ⟨by decide +kernel, rfl⟩
theorem dX1_withMoreThanQuota_2 : DC cX1_withMoreThanQuota 2 (.iconst 0) 1 3 := ⟨by decide +kernel, rfl⟩
theorem dX1_withMoreThanQuota_3 : DC cX1_withMoreThanQuota 3 (.istore_n 2) 1 4 := ⟨by decide +kernel, rfl⟩
theorem dX1_withMoreThanQuota_4 : DC cX1_withMoreThanQuota 4 (.iload_n 2) 1 5 := ⟨by decide +kernel, rfl⟩
theorem dX1_withMoreThanQuota_5 : DC cX1_withMoreThanQuota 5 (.bipush 8) 2 7 := ⟨by decide +kernel, rfl⟩
theorem dX1_withMoreThanQuota_7 : DC cX1_withMoreThanQuota 7 (.if_icmp .ge 39) 3 10 := ⟨by decide +kernel, rfl⟩
theorem dX1_withMoreThanQuota_10 : DC cX1_withMoreThanQuota 10 (.aload_n 0) 1 11 := ⟨by decide +kernel, rfl⟩
theorem dX1_withMoreThanQuota_11 : DC cX1_withMoreThanQuota 11 (.getfield 89) 3 14 := ⟨by decide +kernel, rfl⟩
theorem dX1_withMoreThanQuota_14 : DC cX1_withMoreThanQuota 14 (.iload_n 2) 1 15 := ⟨by decide +kernel, rfl⟩
theorem dX1_withMoreThanQuota_15 : DC cX1_withMoreThanQuota 15 (.invokestatic 103) 3 18 := ⟨by decide +kernel, rfl⟩
theorem dX1_withMoreThanQuota_18 : DC cX1_withMoreThanQuota 18 (.ifCond .eq 22) 3 21 := ⟨by decide +kernel, rfl⟩
theorem dX1_withMoreThanQuota_21 : DC cX1_withMoreThanQuota 21 (.aload_n 0) 1 22 := ⟨by decide +kernel, rfl⟩
theorem dX1_withMoreThanQuota_22 : DC cX1_withMoreThanQuota 22 (.getfield 45) 3 25 := ⟨by decide +kernel, rfl⟩
theorem dX1_withMoreThanQuota_25 : DC cX1_withMoreThanQuota 25 (.iload_n 2) 1 26 := ⟨by decide +kernel, rfl⟩
theorem dX1_withMoreThanQuota_26 : DC cX1_withMoreThanQuota 26 (.iaload) 1 27 := ⟨by decide +kernel, rfl⟩
theorem dX1_withMoreThanQuota_27 : DC cX1_withMoreThanQuota 27 (.aload_n 0) 1 28 := ⟨by decide +kernel, rfl⟩
theorem dX1_withMoreThanQuota_28 : DC cX1_withMoreThanQuota 28 (.getfield 75) 3 31 := ⟨by decide +kernel, rfl⟩
theorem dX1_withMoreThanQuota_31 : DC cX1_withMoreThanQuota 31 (.if_icmp .le 9) 3 34 := ⟨by decide +kernel, rfl⟩
theorem dX1_withMoreThanQuota_34 : DC cX1_withMoreThanQuota 34 (.iload_n 1) 1 35 := ⟨by decide +kernel, rfl⟩
theorem dX1_withMoreThanQuota_35 : DC cX1_withMoreThanQuota 35 (.iconst 1) 1 36 := ⟨by decide +kernel, rfl⟩
theorem dX1_withMoreThanQuota_36 : DC cX1_withMoreThanQuota 36 (.iload_n 2) 1 37 := ⟨by decide +kernel, rfl⟩
theorem dX1_withMoreThanQuota_37 : DC cX1_withMoreThanQuota 37 (.ishl) 1 38 := ⟨by decide +kernel, rfl⟩
theorem dX1_withMoreThanQuota_38 : DC cX1_withMoreThanQuota 38 (.ior) 1 39 := ⟨by decide +kernel, rfl⟩
theorem dX1_withMoreThanQuota_39 : DC cX1_withMoreThanQuota 39 (.istore_n 1) 1 40 := ⟨by decide +kernel, rfl⟩
theorem dX1_withMoreThanQuota_40 : DC cX1_withMoreThanQuota 40 (.iinc 2 1) 3 43 := ⟨by decide +kernel, rfl⟩
theorem dX1_withMoreThanQuota_43 : DC cX1_withMoreThanQuota 43 (.goto (-39)) 3 46 := ⟨by decide +kernel, rfl⟩
theorem dX1_withMoreThanQuota_46 : DC cX1_withMoreThanQuota 46 (.iload_n 1) 1 47 := ⟨by decide +kernel, rfl⟩
theorem dX1_withMoreThanQuota_47 : DC cX1_withMoreThanQuota 47 (.ireturn) 1 48 := ⟨by decide +kernel, rfl⟩
theorem dX1_transferSurplus_0 : DC cX1_transferSurplus 0 (.aload_n 0) 1 1 := ⟨by decide +kernel, rfl⟩
theorem dX1_transferSurplus_1 : DC cX1_transferSurplus 1 (.getfield 45) 3 4 := ⟨by decide +kernel, rfl⟩
theorem dX1_transferSurplus_4 : DC cX1_transferSurplus 4 (.iload_n 1) 1 5 := ⟨by decide +kernel, rfl⟩
theorem dX1_transferSurplus_5 : DC cX1_transferSurplus 5 (.iaload) 1 6 := ⟨by decide +kernel, rfl⟩
theorem dX1_transferSurplus_6 : DC cX1_transferSurplus 6 (.aload_n 0) 1 7 := ⟨by decide +kernel, rfl⟩
theorem dX1_transferSurplus_7 : DC cX1_transferSurplus 7 (.getfield 75) 3 10 := ⟨by decide +kernel, rfl⟩
theorem dX1_transferSurplus_10 : DC cX1_transferSurplus 10 (.isub) 1 11 := ⟨by decide +kernel, rfl⟩
theorem dX1_transferSurplus_11 : DC cX1_transferSurplus 11 (.istore_n 3) 1 12 := ⟨by decide +kernel, rfl⟩
theorem dX1_transferSurplus_12 : DC cX1_transferSurplus 12 (.aload_n 0) 1 13 := ⟨by decide +kernel, rfl⟩
theorem dX1_transferSurplus_13 : DC cX1_transferSurplus 13 (.getfield 9) 3 16 := ⟨by decide +kernel, rfl⟩
theorem dX1_transferSurplus_16 : DC cX1_transferSurplus 16 (.getfield 137) 3 19 := ⟨by decide +kernel, rfl⟩
theorem dX1_transferSurplus_19 : DC cX1_transferSurplus 19 (.iconst 1) 1 20 := ⟨by decide +kernel, rfl⟩
theorem dX1_transferSurplus_20 : DC cX1_transferSurplus 20 (.iaload) 1 21 := ⟨by decide +kernel, rfl⟩
theorem dX1_transferSurplus_21 : DC cX1_transferSurplus 21 (.ifCond .ne 8) 3 24 := ⟨by decide +kernel, rfl⟩
theorem dX1_transferSurplus_24 : DC cX1_transferSurplus 24 (.bipush (-2)) 2 26 := ⟨by decide +kernel, rfl⟩
theorem dX1_transferSurplus_26 : DC cX1_transferSurplus 26 (.goto 8) 3 29 := ⟨by decide +kernel, rfl⟩
theorem dX1_transferSurplus_29 : DC cX1_transferSurplus 29 (.aload_n 0) 1 30 := ⟨by decide +kernel, rfl⟩
theorem dX1_transferSurplus_30 : DC cX1_transferSurplus 30 (.iload_n 1) 1 31 := ⟨by decide +kernel, rfl⟩
theorem dX1_transferSurplus_31 : DC cX1_transferSurplus 31 (.invokevirtual 209) 3 34 := ⟨by decide +kernel, rfl⟩
theorem dX1_transferSurplus_34 : DC cX1_transferSurplus 34 (.istore 4) 2 36 := ⟨by decide +kernel, rfl⟩
theorem dX1_transferSurplus_36 : DC cX1_transferSurplus 36 (.aload_n 0) 1 37 := ⟨by decide +kernel, rfl⟩
theorem dX1_transferSurplus_37 : DC cX1_transferSurplus 37 (.iload_n 1) 1 38 := ⟨by decide +kernel, rfl⟩
theorem dX1_transferSurplus_38 : DC cX1_transferSurplus 38 (.iload 4) 2 40 := ⟨by decide +kernel, rfl⟩
theorem dX1_transferSurplus_40 : DC cX1_transferSurplus 40 (.invokevirtual 212) 3 43 := ⟨by decide +kernel, rfl⟩
theorem dX1_transferSurplus_43 : DC cX1_transferSurplus 43 (.istore 5) 2 45 := ⟨by decide +kernel, rfl⟩
theorem dX1_transferSurplus_45 : DC cX1_transferSurplus 45 (.iconst 0) 1 46 := ⟨by decide +kernel, rfl⟩
theorem dX1_transferSurplus_46 : DC cX1_transferSurplus 46 (.istore 6) 2 48 := ⟨by decide +kernel, rfl⟩
theorem dX1_transferSurplus_48 : DC cX1_transferSurplus 48 (.iconst 0) 1 49 := ⟨by decide +kernel, rfl⟩
theorem dX1_transferSurplus_49 : DC cX1_transferSurplus 49 (.istore 7) 2 51 := ⟨by decide +kernel, rfl⟩
theorem dX1_transferSurplus_51 : DC cX1_transferSurplus 51 (.iload 7) 2 53 := ⟨by decide +kernel, rfl⟩
theorem dX1_transferSurplus_53 : DC cX1_transferSurplus 53 (.aload_n 0) 1 54 := ⟨by decide +kernel, rfl⟩
theorem dX1_transferSurplus_54 : DC cX1_transferSurplus 54 (.getfield 9) 3 57 := ⟨by decide +kernel, rfl⟩
theorem dX1_transferSurplus_57 : DC cX1_transferSurplus 57 (.getfield 130) 3 60 := ⟨by decide +kernel, rfl⟩
theorem dX1_transferSurplus_60 : DC cX1_transferSurplus 60 (.if_icmp .ge 53) 3 63 := ⟨by decide +kernel, rfl⟩
theorem dX1_transferSurplus_63 : DC cX1_transferSurplus 63 (.aload_n 0) 1 64 := ⟨by decide +kernel, rfl⟩
theorem dX1_transferSurplus_64 : DC cX1_transferSurplus 64 (.iload 7) 2 66 := ⟨by decide +kernel, rfl⟩
theorem dX1_transferSurplus_66 : DC cX1_transferSurplus 66 (.iload_n 1) 1 67 := ⟨by decide +kernel, rfl⟩
theorem dX1_transferSurplus_67 : DC cX1_transferSurplus 67 (.iload 4) 2 69 := ⟨by decide +kernel, rfl⟩
theorem dX1_transferSurplus_69 : DC cX1_transferSurplus 69 (.invokevirtual 215) 3 72 := ⟨by decide +kernel, rfl⟩
theorem dX1_transferSurplus_72 : DC cX1_transferSurplus 72 (.ifCond .eq 35) 3 75 := ⟨by decide +kernel, rfl⟩
theorem dX1_transferSurplus_75 : DC cX1_transferSurplus 75 (.aload_n 0) 1 76 := ⟨by decide +kernel, rfl⟩
theorem dX1_transferSurplus_76 : DC cX1_transferSurplus 76 (.getfield 58) 3 79 := ⟨by decide +kernel, rfl⟩
theorem dX1_transferSurplus_79 : DC cX1_transferSurplus 79 (.iload 7) 2 81 := ⟨by decide +kernel, rfl⟩
theorem dX1_transferSurplus_81 : DC cX1_transferSurplus 81 (.aload_n 0) 1 82 := ⟨by decide +kernel, rfl⟩
theorem dX1_transferSurplus_82 : DC cX1_transferSurplus 82 (.getfield 58) 3 85 := ⟨by decide +kernel, rfl⟩
theorem dX1_transferSurplus_85 : DC cX1_transferSurplus 85 (.iload 7) 2 87 := ⟨by decide +kernel, rfl⟩
theorem dX1_transferSurplus_87 : DC cX1_transferSurplus 87 (.iaload) 1 88 := ⟨by decide +kernel, rfl⟩
theorem dX1_transferSurplus_88 : DC cX1_transferSurplus 88 (.iload_n 3) 1 89 := ⟨by decide +kernel, rfl⟩
theorem dX1_transferSurplus_89 : DC cX1_transferSurplus 89 (.iload 5) 2 91 := ⟨by decide +kernel, rfl⟩
theorem dX1_transferSurplus_91 : DC cX1_transferSurplus 91 (.invokestatic 219) 3 94 := ⟨by decide +kernel, rfl⟩
theorem dX1_transferSurplus_94 : DC cX1_transferSurplus 94 (.iastore) 1 95 := ⟨by decide +kernel, rfl⟩
theorem dX1_transferSurplus_95 : DC cX1_transferSurplus 95 (.iload 6) 2 97 := ⟨by decide +kernel, rfl⟩
theorem dX1_transferSurplus_97 : DC cX1_transferSurplus 97 (.aload_n 0) 1 98 := ⟨by decide +kernel, rfl⟩
theorem dX1_transferSurplus_98 : DC cX1_transferSurplus 98 (.iload 7) 2 100 := ⟨by decide +kernel, rfl⟩
theorem dX1_transferSurplus_100 : DC cX1_transferSurplus 100 (.iload_n 2) 1 101 := ⟨by decide +kernel, rfl⟩
theorem dX1_transferSurplus_101 : DC cX1_transferSurplus 101 (.invokevirtual 133) 3 104 := ⟨by decide +kernel, rfl⟩
theorem dX1_transferSurplus_104 : DC cX1_transferSurplus 104 (.iadd) 1 105 := ⟨by decide +kernel, rfl⟩
theorem dX1_transferSurplus_105 : DC cX1_transferSurplus 105 (.istore 6) 2 107 := ⟨by decide +kernel, rfl⟩
theorem dX1_transferSurplus_107 : DC cX1_transferSurplus 107 (.iinc 7 1) 3 110 := ⟨by decide +kernel, rfl⟩
theorem dX1_transferSurplus_110 : DC cX1_transferSurplus 110 (.goto (-59)) 3 113 := ⟨by decide +kernel, rfl⟩
theorem dX1_transferSurplus_113 : DC cX1_transferSurplus 113 (.aload_n 0) 1 114 := ⟨by decide +kernel, rfl⟩
theorem dX1_transferSurplus_114 : DC cX1_transferSurplus 114 (.dup) 1 115 := ⟨by decide +kernel, rfl⟩
theorem dX1_transferSurplus_115 : DC cX1_transferSurplus 115 (.getfield 127) 3 118 := ⟨by decide +kernel, rfl⟩
theorem dX1_transferSurplus_118 : DC cX1_transferSurplus 118 (.iload_n 3) 1 119 := ⟨by decide +kernel, rfl⟩
theorem dX1_transferSurplus_119 : DC cX1_transferSurplus 119 (.iload 6) 2 121 := ⟨by decide +kernel, rfl⟩
theorem dX1_transferSurplus_121 : DC cX1_transferSurplus 121 (.isub) 1 122 := ⟨by decide +kernel, rfl⟩
theorem dX1_transferSurplus_122 : DC cX1_transferSurplus 122 (.iadd) 1 123 := ⟨by decide +kernel, rfl⟩
theorem dX1_transferSurplus_123 : DC cX1_transferSurplus 123 (.putfield 127) 3 126 := ⟨by decide +kernel, rfl⟩
theorem dX1_transferSurplus_126 : DC cX1_transferSurplus 126 (.aload_n 0) 1 127 := ⟨by decide +kernel, rfl⟩
theorem dX1_transferSurplus_127 : DC cX1_transferSurplus 127 (.getfield 45) 3 130 := ⟨by decide +kernel, rfl⟩
theorem dX1_transferSurplus_130 : DC cX1_transferSurplus 130 (.iload_n 1) 1 131 := ⟨by decide +kernel, rfl⟩
theorem dX1_transferSurplus_131 : DC cX1_transferSurplus 131 (.aload_n 0) 1 132 := ⟨by decide +kernel, rfl⟩
theorem dX1_transferSurplus_132 : DC cX1_transferSurplus 132 (.getfield 75) 3 135 := ⟨by decide +kernel, rfl⟩
theorem dX1_transferSurplus_135 : DC cX1_transferSurplus 135 (.iastore) 1 136 := ⟨by decide +kernel, rfl⟩
theorem dX1_transferSurplus_136 : DC cX1_transferSurplus 136 (.aload_n 0) 1 137 := ⟨by decide +kernel, rfl⟩
theorem dX1_transferSurplus_137 : DC cX1_transferSurplus 137 (.dup) 1 138 := ⟨by decide +kernel, rfl⟩
theorem dX1_transferSurplus_138 : DC cX1_transferSurplus 138 (.getfield 89) 3 141 := ⟨by decide +kernel, rfl⟩
theorem dX1_transferSurplus_141 : DC cX1_transferSurplus 141 (.iconst 1) 1 142 := ⟨by decide +kernel, rfl⟩
theorem dX1_transferSurplus_142 : DC cX1_transferSurplus 142 (.iload_n 1) 1 143 := ⟨by decide +kernel, rfl⟩
theorem dX1_transferSurplus_143 : DC cX1_transferSurplus 143 (.ishl) 1 144 := ⟨by decide +kernel, rfl⟩
theorem dX1_transferSurplus_144 : DC cX1_transferSurplus 144 (.iconst (-1)) 1 145 := ⟨by decide +kernel, rfl⟩
theorem dX1_transferSurplus_145 : DC cX1_transferSurplus 145 (.ixor) 1 146 := ⟨by decide +kernel, rfl⟩
theorem dX1_transferSurplus_146 : DC cX1_transferSurplus 146 (.iand) 1 147 := ⟨by decide +kernel, rfl⟩
theorem dX1_transferSurplus_147 : DC cX1_transferSurplus 147 (.putfield 89) 3 150 := ⟨by decide +kernel, rfl⟩
theorem dX1_transferSurplus_150 : DC cX1_transferSurplus 150 (.aload_n 0) 1 151 := ⟨by decide +kernel, rfl⟩
theorem dX1_transferSurplus_151 : DC cX1_transferSurplus 151 (.iload_n 2) 1 152 := ⟨by decide +kernel, rfl⟩
theorem dX1_transferSurplus_152 : DC cX1_transferSurplus 152 (.iconst 1) 1 153 := ⟨by decide +kernel, rfl⟩
theorem dX1_transferSurplus_153 : DC cX1_transferSurplus 153 (.iload_n 1) 1 154 := ⟨by decide +kernel, rfl⟩
theorem dX1_transferSurplus_154 : DC cX1_transferSurplus 154 (.iload 6) 2 156 := ⟨by decide +kernel, rfl⟩
theorem dX1_transferSurplus_156 : DC cX1_transferSurplus 156 (.invokevirtual 223) 3 159 := ⟨by decide +kernel, rfl⟩
theorem dX1_transferSurplus_159 : DC cX1_transferSurplus 159 (.return_) 1 160 := ⟨by decide +kernel, rfl⟩
theorem dX1_lastParcel_0 : DC cX1_lastParcel 0 (.iconst (-1)) 1 1 := ⟨by decide +kernel, rfl⟩
theorem dX1_lastParcel_1 : DC cX1_lastParcel 1 (.istore_n 2) 1 2 := ⟨by decide +kernel, rfl⟩
theorem dX1_lastParcel_2 : DC cX1_lastParcel 2 (.iconst 0) 1 3 := ⟨by decide +kernel, rfl⟩
theorem dX1_lastParcel_3 : DC cX1_lastParcel 3 (.istore_n 3) 1 4 := ⟨by decide +kernel, rfl⟩
theorem dX1_lastParcel_4 : DC cX1_lastParcel 4 (.iload_n 3) 1 5 := ⟨by decide +kernel, rfl⟩
theorem dX1_lastParcel_5 : DC cX1_lastParcel 5 (.aload_n 0) 1 6 := ⟨by decide +kernel, rfl⟩
theorem dX1_lastParcel_6 : DC cX1_lastParcel 6 (.getfield 9) 3 9 := ⟨by decide +kernel, rfl⟩
theorem dX1_lastParcel_9 : DC cX1_lastParcel 9 (.getfield 130) 3 12 := ⟨by decide +kernel, rfl⟩
theorem dX1_lastParcel_12 : DC cX1_lastParcel 12 (.if_icmp .ge 48) 3 15 := ⟨by decide +kernel, rfl⟩
theorem dX1_lastParcel_15 : DC cX1_lastParcel 15 (.aload_n 0) 1 16 := ⟨by decide +kernel, rfl⟩
theorem dX1_lastParcel_16 : DC cX1_lastParcel 16 (.getfield 49) 3 19 := ⟨by decide +kernel, rfl⟩
theorem dX1_lastParcel_19 : DC cX1_lastParcel 19 (.iload_n 3) 1 20 := ⟨by decide +kernel, rfl⟩
theorem dX1_lastParcel_20 : DC cX1_lastParcel 20 (.iaload) 1 21 := ⟨by decide +kernel, rfl⟩
theorem dX1_lastParcel_21 : DC cX1_lastParcel 21 (.iload_n 1) 1 22 := ⟨by decide +kernel, rfl⟩
theorem dX1_lastParcel_22 : DC cX1_lastParcel 22 (.if_icmp .ne 32) 3 25 := ⟨by decide +kernel, rfl⟩
theorem dX1_lastParcel_25 : DC cX1_lastParcel 25 (.aload_n 0) 1 26 := ⟨by decide +kernel, rfl⟩
theorem dX1_lastParcel_26 : DC cX1_lastParcel 26 (.getfield 9) 3 29 := ⟨by decide +kernel, rfl⟩
theorem dX1_lastParcel_29 : DC cX1_lastParcel 29 (.getfield 227) 3 32 := ⟨by decide +kernel, rfl⟩
theorem dX1_lastParcel_32 : DC cX1_lastParcel 32 (.iload_n 3) 1 33 := ⟨by decide +kernel, rfl⟩
theorem dX1_lastParcel_33 : DC cX1_lastParcel 33 (.iaload) 1 34 := ⟨by decide +kernel, rfl⟩
theorem dX1_lastParcel_34 : DC cX1_lastParcel 34 (.ifCond .le 20) 3 37 := ⟨by decide +kernel, rfl⟩
theorem dX1_lastParcel_37 : DC cX1_lastParcel 37 (.aload_n 0) 1 38 := ⟨by decide +kernel, rfl⟩
theorem dX1_lastParcel_38 : DC cX1_lastParcel 38 (.getfield 55) 3 41 := ⟨by decide +kernel, rfl⟩
theorem dX1_lastParcel_41 : DC cX1_lastParcel 41 (.iload_n 3) 1 42 := ⟨by decide +kernel, rfl⟩
theorem dX1_lastParcel_42 : DC cX1_lastParcel 42 (.iaload) 1 43 := ⟨by decide +kernel, rfl⟩
theorem dX1_lastParcel_43 : DC cX1_lastParcel 43 (.iload_n 2) 1 44 := ⟨by decide +kernel, rfl⟩
theorem dX1_lastParcel_44 : DC cX1_lastParcel 44 (.if_icmp .le 10) 3 47 := ⟨by decide +kernel, rfl⟩
theorem dX1_lastParcel_47 : DC cX1_lastParcel 47 (.aload_n 0) 1 48 := ⟨by decide +kernel, rfl⟩
theorem dX1_lastParcel_48 : DC cX1_lastParcel 48 (.getfield 55) 3 51 := ⟨by decide +kernel, rfl⟩
theorem dX1_lastParcel_51 : DC cX1_lastParcel 51 (.iload_n 3) 1 52 := ⟨by decide +kernel, rfl⟩
theorem dX1_lastParcel_52 : DC cX1_lastParcel 52 (.iaload) 1 53 := ⟨by decide +kernel, rfl⟩
theorem dX1_lastParcel_53 : DC cX1_lastParcel 53 (.istore_n 2) 1 54 := ⟨by decide +kernel, rfl⟩
theorem dX1_lastParcel_54 : DC cX1_lastParcel 54 (.iinc 3 1) 3 57 := ⟨by decide +kernel, rfl⟩
theorem dX1_lastParcel_57 : DC cX1_lastParcel 57 (.goto (-53)) 3 60 := ⟨by decide +kernel, rfl⟩
theorem dX1_lastParcel_60 : DC cX1_lastParcel 60 (.iload_n 2) 1 61 := ⟨by decide +kernel, rfl⟩
theorem dX1_lastParcel_61 : DC cX1_lastParcel 61 (.ireturn) 1 62 := ⟨by decide +kernel, rfl⟩
theorem dX1_isInParcel_0 : DC cX1_isInParcel 0 (.aload_n 0) 1 1 := ⟨by decide +kernel, rfl⟩
theorem dX1_isInParcel_1 : DC cX1_isInParcel 1 (.getfield 49) 3 4 := ⟨by decide +kernel, rfl⟩
theorem dX1_isInParcel_4 : DC cX1_isInParcel 4 (.iload_n 1) 1 5 := ⟨by decide +kernel, rfl⟩
theorem dX1_isInParcel_5 : DC cX1_isInParcel 5 (.iaload) 1 6 := ⟨by decide +kernel, rfl⟩
theorem dX1_isInParcel_6 : DC cX1_isInParcel 6 (.iload_n 2) 1 7 := ⟨by decide +kernel, rfl⟩
theorem dX1_isInParcel_7 : DC cX1_isInParcel 7 (.if_icmp .ne 23) 3 10 := ⟨by decide +kernel, rfl⟩
theorem dX1_isInParcel_10 : DC cX1_isInParcel 10 (.iload_n 3) 1 11 := ⟨by decide +kernel, rfl⟩
theorem dX1_isInParcel_11 : DC cX1_isInParcel 11 (.bipush (-2)) 2 13 := ⟨by decide +kernel, rfl⟩
theorem dX1_isInParcel_13 : DC cX1_isInParcel 13 (.if_icmp .eq 13) 3 16 := ⟨by decide +kernel, rfl⟩
theorem dX1_isInParcel_16 : DC cX1_isInParcel 16 (.aload_n 0) 1 17 := ⟨by decide +kernel, rfl⟩
theorem dX1_isInParcel_17 : DC cX1_isInParcel 17 (.getfield 55) 3 20 := ⟨by decide +kernel, rfl⟩
theorem dX1_isInParcel_20 : DC cX1_isInParcel 20 (.iload_n 1) 1 21 := ⟨by decide +kernel, rfl⟩
theorem dX1_isInParcel_21 : DC cX1_isInParcel 21 (.iaload) 1 22 := ⟨by decide +kernel, rfl⟩
theorem dX1_isInParcel_22 : DC cX1_isInParcel 22 (.iload_n 3) 1 23 := ⟨by decide +kernel, rfl⟩
theorem dX1_isInParcel_23 : DC cX1_isInParcel 23 (.if_icmp .ne 7) 3 26 := ⟨by decide +kernel, rfl⟩
theorem dX1_isInParcel_26 : DC cX1_isInParcel 26 (.iconst 1) 1 27 := ⟨by decide +kernel, rfl⟩
theorem dX1_isInParcel_27 : DC cX1_isInParcel 27 (.goto 4) 3 30 := ⟨by decide +kernel, rfl⟩
theorem dX1_isInParcel_30 : DC cX1_isInParcel 30 (.iconst 0) 1 31 := ⟨by decide +kernel, rfl⟩
theorem dX1_isInParcel_31 : DC cX1_isInParcel 31 (.ireturn) 1 32 := ⟨by decide +kernel, rfl⟩
theorem dX1_worthOfParcel_0 : DC cX1_worthOfParcel 0 (.iconst 0) 1 1 := ⟨by decide +kernel, rfl⟩
theorem dX1_worthOfParcel_1 : DC cX1_worthOfParcel 1 (.istore_n 3) 1 2 := ⟨by decide +kernel, rfl⟩
theorem dX1_worthOfParcel_2 : DC cX1_worthOfParcel 2 (.iconst 0) 1 3 := ⟨by decide +kernel, rfl⟩
theorem dX1_worthOfParcel_3 : DC cX1_worthOfParcel 3 (.istore 4) 2 5 := ⟨by decide +kernel, rfl⟩
theorem dX1_worthOfParcel_5 : DC cX1_worthOfParcel 5 (.iload 4) 2 7 := ⟨by decide +kernel, rfl⟩
theorem dX1_worthOfParcel_7 : DC cX1_worthOfParcel 7 (.aload_n 0) 1 8 := ⟨by decide +kernel, rfl⟩
theorem dX1_worthOfParcel_8 : DC cX1_worthOfParcel 8 (.getfield 9) 3 11 := ⟨by decide +kernel, rfl⟩
theorem dX1_worthOfParcel_11 : DC cX1_worthOfParcel 11 (.getfield 130) 3 14 := ⟨by decide +kernel, rfl⟩
theorem dX1_worthOfParcel_14 : DC cX1_worthOfParcel 14 (.if_icmp .ge 41) 3 17 := ⟨by decide +kernel, rfl⟩
theorem dX1_worthOfParcel_17 : DC cX1_worthOfParcel 17 (.aload_n 0) 1 18 := ⟨by decide +kernel, rfl⟩
theorem dX1_worthOfParcel_18 : DC cX1_worthOfParcel 18 (.iload 4) 2 20 := ⟨by decide +kernel, rfl⟩
theorem dX1_worthOfParcel_20 : DC cX1_worthOfParcel 20 (.iload_n 1) 1 21 := ⟨by decide +kernel, rfl⟩
theorem dX1_worthOfParcel_21 : DC cX1_worthOfParcel 21 (.iload_n 2) 1 22 := ⟨by decide +kernel, rfl⟩
theorem dX1_worthOfParcel_22 : DC cX1_worthOfParcel 22 (.invokevirtual 215) 3 25 := ⟨by decide +kernel, rfl⟩
theorem dX1_worthOfParcel_25 : DC cX1_worthOfParcel 25 (.ifCond .eq 24) 3 28 := ⟨by decide +kernel, rfl⟩
theorem dX1_worthOfParcel_28 : DC cX1_worthOfParcel 28 (.iload_n 3) 1 29 := ⟨by decide +kernel, rfl⟩
theorem dX1_worthOfParcel_29 : DC cX1_worthOfParcel 29 (.aload_n 0) 1 30 := ⟨by decide +kernel, rfl⟩
theorem dX1_worthOfParcel_30 : DC cX1_worthOfParcel 30 (.getfield 9) 3 33 := ⟨by decide +kernel, rfl⟩
theorem dX1_worthOfParcel_33 : DC cX1_worthOfParcel 33 (.getfield 227) 3 36 := ⟨by decide +kernel, rfl⟩
theorem dX1_worthOfParcel_36 : DC cX1_worthOfParcel 36 (.iload 4) 2 38 := ⟨by decide +kernel, rfl⟩
theorem dX1_worthOfParcel_38 : DC cX1_worthOfParcel 38 (.iaload) 1 39 := ⟨by decide +kernel, rfl⟩
theorem dX1_worthOfParcel_39 : DC cX1_worthOfParcel 39 (.aload_n 0) 1 40 := ⟨by decide +kernel, rfl⟩
theorem dX1_worthOfParcel_40 : DC cX1_worthOfParcel 40 (.getfield 58) 3 43 := ⟨by decide +kernel, rfl⟩
theorem dX1_worthOfParcel_43 : DC cX1_worthOfParcel 43 (.iload 4) 2 45 := ⟨by decide +kernel, rfl⟩
theorem dX1_worthOfParcel_45 : DC cX1_worthOfParcel 45 (.iaload) 1 46 := ⟨by decide +kernel, rfl⟩
theorem dX1_worthOfParcel_46 : DC cX1_worthOfParcel 46 (.imul) 1 47 := ⟨by decide +kernel, rfl⟩
theorem dX1_worthOfParcel_47 : DC cX1_worthOfParcel 47 (.iadd) 1 48 := ⟨by decide +kernel, rfl⟩
theorem dX1_worthOfParcel_48 : DC cX1_worthOfParcel 48 (.istore_n 3) 1 49 := ⟨by decide +kernel, rfl⟩
theorem dX1_worthOfParcel_49 : DC cX1_worthOfParcel 49 (.iinc 4 1) 3 52 := ⟨by decide +kernel, rfl⟩
theorem dX1_worthOfParcel_52 : DC cX1_worthOfParcel 52 (.goto (-47)) 3 55 := ⟨by decide +kernel, rfl⟩
theorem dX1_worthOfParcel_55 : DC cX1_worthOfParcel 55 (.iload_n 3) 1 56 := ⟨by decide +kernel, rfl⟩
theorem dX1_worthOfParcel_56 : DC cX1_worthOfParcel 56 (.ireturn) 1 57 := ⟨by decide +kernel, rfl⟩
theorem dX1_reducedWorth_0 : DC cX1_reducedWorth 0 (.iload_n 2) 1 1 := ⟨by decide +kernel, rfl⟩
theorem dX1_reducedWorth_1 : DC cX1_reducedWorth 1 (.ifCond .gt 5) 3 4 := ⟨by decide +kernel, rfl⟩
theorem dX1_reducedWorth_4 : DC cX1_reducedWorth 4 (.iconst 0) 1 5 := ⟨by decide +kernel, rfl⟩
theorem dX1_reducedWorth_5 : DC cX1_reducedWorth 5 (.ireturn) 1 6 := ⟨by decide +kernel, rfl⟩
theorem dX1_reducedWorth_6 : DC cX1_reducedWorth 6 (.iload_n 0) 1 7 := ⟨by decide +kernel, rfl⟩
theorem dX1_reducedWorth_7 : DC cX1_reducedWorth 7 (.i2l) 1 8 := ⟨by decide +kernel, rfl⟩
theorem dX1_reducedWorth_8 : DC cX1_reducedWorth 8 (.iload_n 0) 1 9 := ⟨by decide +kernel, rfl⟩
theorem dX1_reducedWorth_9 : DC cX1_reducedWorth 9 (.i2l) 1 10 := ⟨by decide +kernel, rfl⟩
theorem dX1_reducedWorth_10 : DC cX1_reducedWorth 10 (.iload_n 1) 1 11 := ⟨by decide +kernel, rfl⟩
theorem dX1_reducedWorth_11 : DC cX1_reducedWorth 11 (.i2l) 1 12 := ⟨by decide +kernel, rfl⟩
theorem dX1_reducedWorth_12 : DC cX1_reducedWorth 12 (.lmul) 1 13 := ⟨by decide +kernel, rfl⟩
theorem dX1_reducedWorth_13 : DC cX1_reducedWorth 13 (.iload_n 2) 1 14 := ⟨by decide +kernel, rfl⟩
theorem dX1_reducedWorth_14 : DC cX1_reducedWorth 14 (.i2l) 1 15 := ⟨by decide +kernel, rfl⟩
theorem dX1_reducedWorth_15 : DC cX1_reducedWorth 15 (.ldiv) 1 16 := ⟨by decide +kernel, rfl⟩
theorem dX1_reducedWorth_16 : DC cX1_reducedWorth 16 (.invokestatic 230) 3 19 := ⟨by decide +kernel, rfl⟩
theorem dX1_reducedWorth_19 : DC cX1_reducedWorth 19 (.l2i) 1 20 := ⟨by decide +kernel, rfl⟩
theorem dX1_reducedWorth_20 : DC cX1_reducedWorth 20 (.ireturn) 1 21 := ⟨by decide +kernel, rfl⟩
theorem dX1_excludeWeakest_0 : DC cX1_excludeWeakest 0 (.aload_n 0) 1 1 := ⟨by decide +kernel, rfl⟩
theorem dX1_excludeWeakest_1 : DC cX1_excludeWeakest 1 (.getfield 27) 3 4 := ⟨by decide +kernel, rfl⟩
theorem dX1_excludeWeakest_4 : DC cX1_excludeWeakest 4 (.aload_n 0) 1 5 := ⟨by decide +kernel, rfl⟩
theorem dX1_excludeWeakest_5 : DC cX1_excludeWeakest 5 (.getfield 86) 3 8 := ⟨by decide +kernel, rfl⟩
theorem dX1_excludeWeakest_8 : DC cX1_excludeWeakest 8 (.iload_n 1) 1 9 := ⟨by decide +kernel, rfl⟩
theorem dX1_excludeWeakest_9 : DC cX1_excludeWeakest 9 (.iconst 0) 1 10 := ⟨by decide +kernel, rfl⟩
theorem dX1_excludeWeakest_10 : DC cX1_excludeWeakest 10 (.invokevirtual 192) 3 13 := ⟨by decide +kernel, rfl⟩
theorem dX1_excludeWeakest_13 : DC cX1_excludeWeakest 13 (.istore_n 2) 1 14 := ⟨by decide +kernel, rfl⟩
theorem dX1_excludeWeakest_14 : DC cX1_excludeWeakest 14 (.iload_n 2) 1 15 := ⟨by decide +kernel, rfl⟩
theorem dX1_excludeWeakest_15 : DC cX1_excludeWeakest 15 (.iconst (-1)) 1 16 := ⟨by decide +kernel, rfl⟩
theorem dX1_excludeWeakest_16 : DC cX1_excludeWeakest 16 (.if_icmp .ne 4) 3 19 := ⟨by decide +kernel, rfl⟩
theorem dX1_excludeWeakest_19 : DC cX1_excludeWeakest 19 (.return_) 1 20 := ⟨by decide +kernel, rfl⟩
theorem dX1_excludeWeakest_20 : DC cX1_excludeWeakest 20 (.aload_n 0) 1 21 := ⟨by decide +kernel, rfl⟩
theorem dX1_excludeWeakest_21 : DC cX1_excludeWeakest 21 (.getfield 18) 3 24 := ⟨by decide +kernel, rfl⟩
theorem dX1_excludeWeakest_24 : DC cX1_excludeWeakest 24 (.getfield 107) 3 27 := ⟨by decide +kernel, rfl⟩
theorem dX1_excludeWeakest_27 : DC cX1_excludeWeakest 27 (.iload_n 2) 1 28 := ⟨by decide +kernel, rfl⟩
theorem dX1_excludeWeakest_28 : DC cX1_excludeWeakest 28 (.iconst 2) 1 29 := ⟨by decide +kernel, rfl⟩
theorem dX1_excludeWeakest_29 : DC cX1_excludeWeakest 29 (.iastore) 1 30 := ⟨by decide +kernel, rfl⟩
theorem dX1_excludeWeakest_30 : DC cX1_excludeWeakest 30 (.aload_n 0) 1 31 := ⟨by decide +kernel, rfl⟩
theorem dX1_excludeWeakest_31 : DC cX1_excludeWeakest 31 (.getfield 34) 3 34 := ⟨by decide +kernel, rfl⟩
theorem dX1_excludeWeakest_34 : DC cX1_excludeWeakest 34 (.getfield 110) 3 37 := ⟨by decide +kernel, rfl⟩
theorem dX1_excludeWeakest_37 : DC cX1_excludeWeakest 37 (.iload_n 2) 1 38 := ⟨by decide +kernel, rfl⟩
theorem dX1_excludeWeakest_38 : DC cX1_excludeWeakest 38 (.iload_n 1) 1 39 := ⟨by decide +kernel, rfl⟩
theorem dX1_excludeWeakest_39 : DC cX1_excludeWeakest 39 (.iastore) 1 40 := ⟨by decide +kernel, rfl⟩
theorem dX1_excludeWeakest_40 : DC cX1_excludeWeakest 40 (.aload_n 0) 1 41 := ⟨by decide +kernel, rfl⟩
theorem dX1_excludeWeakest_41 : DC cX1_excludeWeakest 41 (.getfield 34) 3 44 := ⟨by decide +kernel, rfl⟩
theorem dX1_excludeWeakest_44 : DC cX1_excludeWeakest 44 (.getfield 113) 3 47 := ⟨by decide +kernel, rfl⟩
theorem dX1_excludeWeakest_47 : DC cX1_excludeWeakest 47 (.iload_n 2) 1 48 := ⟨by decide +kernel, rfl⟩
theorem dX1_excludeWeakest_48 : DC cX1_excludeWeakest 48 (.aload_n 0) 1 49 := ⟨by decide +kernel, rfl⟩
theorem dX1_excludeWeakest_49 : DC cX1_excludeWeakest 49 (.getfield 27) 3 52 := ⟨by decide +kernel, rfl⟩
theorem dX1_excludeWeakest_52 : DC cX1_excludeWeakest 52 (.getfield 234) 3 55 := ⟨by decide +kernel, rfl⟩
theorem dX1_excludeWeakest_55 : DC cX1_excludeWeakest 55 (.iastore) 1 56 := ⟨by decide +kernel, rfl⟩
theorem dX1_excludeWeakest_56 : DC cX1_excludeWeakest 56 (.aload_n 0) 1 57 := ⟨by decide +kernel, rfl⟩
theorem dX1_excludeWeakest_57 : DC cX1_excludeWeakest 57 (.getfield 34) 3 60 := ⟨by decide +kernel, rfl⟩
theorem dX1_excludeWeakest_60 : DC cX1_excludeWeakest 60 (.getfield 116) 3 63 := ⟨by decide +kernel, rfl⟩
theorem dX1_excludeWeakest_63 : DC cX1_excludeWeakest 63 (.iload_n 2) 1 64 := ⟨by decide +kernel, rfl⟩
theorem dX1_excludeWeakest_64 : DC cX1_excludeWeakest 64 (.aload_n 0) 1 65 := ⟨by decide +kernel, rfl⟩
theorem dX1_excludeWeakest_65 : DC cX1_excludeWeakest 65 (.getfield 27) 3 68 := ⟨by decide +kernel, rfl⟩
theorem dX1_excludeWeakest_68 : DC cX1_excludeWeakest 68 (.getfield 236) 3 71 := ⟨by decide +kernel, rfl⟩
theorem dX1_excludeWeakest_71 : DC cX1_excludeWeakest 71 (.iastore) 1 72 := ⟨by decide +kernel, rfl⟩
theorem dX1_excludeWeakest_72 : DC cX1_excludeWeakest 72 (.aload_n 0) 1 73 := ⟨by decide +kernel, rfl⟩
theorem dX1_excludeWeakest_73 : DC cX1_excludeWeakest 73 (.dup) 1 74 := ⟨by decide +kernel, rfl⟩
theorem dX1_excludeWeakest_74 : DC cX1_excludeWeakest 74 (.getfield 86) 3 77 := ⟨by decide +kernel, rfl⟩
theorem dX1_excludeWeakest_77 : DC cX1_excludeWeakest 77 (.iconst 1) 1 78 := ⟨by decide +kernel, rfl⟩
theorem dX1_excludeWeakest_78 : DC cX1_excludeWeakest 78 (.iload_n 2) 1 79 := ⟨by decide +kernel, rfl⟩
theorem dX1_excludeWeakest_79 : DC cX1_excludeWeakest 79 (.ishl) 1 80 := ⟨by decide +kernel, rfl⟩
theorem dX1_excludeWeakest_80 : DC cX1_excludeWeakest 80 (.iconst (-1)) 1 81 := ⟨by decide +kernel, rfl⟩
theorem dX1_excludeWeakest_81 : DC cX1_excludeWeakest 81 (.ixor) 1 82 := ⟨by decide +kernel, rfl⟩
theorem dX1_excludeWeakest_82 : DC cX1_excludeWeakest 82 (.iand) 1 83 := ⟨by decide +kernel, rfl⟩
theorem dX1_excludeWeakest_83 : DC cX1_excludeWeakest 83 (.putfield 86) 3 86 := ⟨by decide +kernel, rfl⟩
theorem dX1_excludeWeakest_86 : DC cX1_excludeWeakest 86 (.aload_n 0) 1 87 := ⟨by decide +kernel, rfl⟩
theorem dX1_excludeWeakest_87 : DC cX1_excludeWeakest 87 (.getfield 45) 3 90 := ⟨by decide +kernel, rfl⟩
theorem dX1_excludeWeakest_90 : DC cX1_excludeWeakest 90 (.iload_n 2) 1 91 := ⟨by decide +kernel, rfl⟩
theorem dX1_excludeWeakest_91 : DC cX1_excludeWeakest 91 (.iconst 0) 1 92 := ⟨by decide +kernel, rfl⟩
theorem dX1_excludeWeakest_92 : DC cX1_excludeWeakest 92 (.iastore) 1 93 := ⟨by decide +kernel, rfl⟩
theorem dX1_excludeWeakest_93 : DC cX1_excludeWeakest 93 (.iconst 0) 1 94 := ⟨by decide +kernel, rfl⟩
theorem dX1_excludeWeakest_94 : DC cX1_excludeWeakest 94 (.istore_n 3) 1 95 := ⟨by decide +kernel, rfl⟩
theorem dX1_excludeWeakest_95 : DC cX1_excludeWeakest 95 (.iconst 0) 1 96 := ⟨by decide +kernel, rfl⟩
theorem dX1_excludeWeakest_96 : DC cX1_excludeWeakest 96 (.istore 4) 2 98 := ⟨by decide +kernel, rfl⟩
theorem dX1_excludeWeakest_98 : DC cX1_excludeWeakest 98 (.iload 4) 2 100 := ⟨by decide +kernel, rfl⟩
theorem dX1_excludeWeakest_100 : DC cX1_excludeWeakest 100 (.aload_n 0) 1 101 := ⟨by decide +kernel, rfl⟩
theorem dX1_excludeWeakest_101 : DC cX1_excludeWeakest 101 (.getfield 9) 3 104 := ⟨by decide +kernel, rfl⟩
theorem dX1_excludeWeakest_104 : DC cX1_excludeWeakest 104 (.getfield 130) 3 107 := ⟨by decide +kernel, rfl⟩
theorem dX1_excludeWeakest_107 : DC cX1_excludeWeakest 107 (.if_icmp .ge 30) 3 110 := ⟨by decide +kernel, rfl⟩
theorem dX1_excludeWeakest_110 : DC cX1_excludeWeakest 110 (.aload_n 0) 1 111 := ⟨by decide +kernel, rfl⟩
theorem dX1_excludeWeakest_111 : DC cX1_excludeWeakest 111 (.getfield 49) 3 114 := ⟨by decide +kernel, rfl⟩
theorem dX1_excludeWeakest_114 : DC cX1_excludeWeakest 114 (.iload 4) 2 116 := ⟨by decide +kernel, rfl⟩
theorem dX1_excludeWeakest_116 : DC cX1_excludeWeakest 116 (.iaload) 1 117 := ⟨by decide +kernel, rfl⟩
theorem dX1_excludeWeakest_117 : DC cX1_excludeWeakest 117 (.iload_n 2) 1 118 := ⟨by decide +kernel, rfl⟩
theorem dX1_excludeWeakest_118 : DC cX1_excludeWeakest 118 (.if_icmp .ne 13) 3 121 := ⟨by decide +kernel, rfl⟩
theorem dX1_excludeWeakest_121 : DC cX1_excludeWeakest 121 (.iload_n 3) 1 122 := ⟨by decide +kernel, rfl⟩
theorem dX1_excludeWeakest_122 : DC cX1_excludeWeakest 122 (.aload_n 0) 1 123 := ⟨by decide +kernel, rfl⟩
theorem dX1_excludeWeakest_123 : DC cX1_excludeWeakest 123 (.iload 4) 2 125 := ⟨by decide +kernel, rfl⟩
theorem dX1_excludeWeakest_125 : DC cX1_excludeWeakest 125 (.iload_n 1) 1 126 := ⟨by decide +kernel, rfl⟩
theorem dX1_excludeWeakest_126 : DC cX1_excludeWeakest 126 (.invokevirtual 133) 3 129 := ⟨by decide +kernel, rfl⟩
theorem dX1_excludeWeakest_129 : DC cX1_excludeWeakest 129 (.iadd) 1 130 := ⟨by decide +kernel, rfl⟩
theorem dX1_excludeWeakest_130 : DC cX1_excludeWeakest 130 (.istore_n 3) 1 131 := ⟨by decide +kernel, rfl⟩
theorem dX1_excludeWeakest_131 : DC cX1_excludeWeakest 131 (.iinc 4 1) 3 134 := ⟨by decide +kernel, rfl⟩
theorem dX1_excludeWeakest_134 : DC cX1_excludeWeakest 134 (.goto (-36)) 3 137 := ⟨by decide +kernel, rfl⟩
theorem dX1_excludeWeakest_137 : DC cX1_excludeWeakest 137 (.aload_n 0) 1 138 := ⟨by decide +kernel, rfl⟩
theorem dX1_excludeWeakest_138 : DC cX1_excludeWeakest 138 (.iload_n 1) 1 139 := ⟨by decide +kernel, rfl⟩
theorem dX1_excludeWeakest_139 : DC cX1_excludeWeakest 139 (.iconst 2) 1 140 := ⟨by decide +kernel, rfl⟩
theorem dX1_excludeWeakest_140 : DC cX1_excludeWeakest 140 (.iload_n 2) 1 141 := ⟨by decide +kernel, rfl⟩
theorem dX1_excludeWeakest_141 : DC cX1_excludeWeakest 141 (.iload_n 3) 1 142 := ⟨by decide +kernel, rfl⟩
theorem dX1_excludeWeakest_142 : DC cX1_excludeWeakest 142 (.invokevirtual 223) 3 145 := ⟨by decide +kernel, rfl⟩
theorem dX1_excludeWeakest_145 : DC cX1_excludeWeakest 145 (.return_) 1 146 := ⟨by decide +kernel, rfl⟩
theorem dX1_logEvent_0 : DC cX1_logEvent 0 (.aload_n 0) 1 1 := ⟨by decide +kernel, rfl⟩
theorem dX1_logEvent_1 : DC cX1_logEvent 1 (.getfield 41) 3 4 := ⟨by decide +kernel, rfl⟩
theorem dX1_logEvent_4 : DC cX1_logEvent 4 (.getfield 151) 3 7 := ⟨by decide +kernel, rfl⟩
theorem dX1_logEvent_7 : DC cX1_logEvent 7 (.iload_n 1) 1 8 := ⟨by decide +kernel, rfl⟩
theorem dX1_logEvent_8 : DC cX1_logEvent 8 (.iload_n 2) 1 9 := ⟨by decide +kernel, rfl⟩
theorem dX1_logEvent_9 : DC cX1_logEvent 9 (.iastore) 1 10 := ⟨by decide +kernel, rfl⟩
theorem dX1_logEvent_10 : DC cX1_logEvent 10 (.aload_n 0) 1 11 := ⟨by decide +kernel, rfl⟩
theorem dX1_logEvent_11 : DC cX1_logEvent 11 (.getfield 41) 3 14 := ⟨by decide +kernel, rfl⟩
theorem dX1_logEvent_14 : DC cX1_logEvent 14 (.getfield 154) 3 17 := ⟨by decide +kernel, rfl⟩
theorem dX1_logEvent_17 : DC cX1_logEvent 17 (.iload_n 1) 1 18 := ⟨by decide +kernel, rfl⟩
theorem dX1_logEvent_18 : DC cX1_logEvent 18 (.iload_n 3) 1 19 := ⟨by decide +kernel, rfl⟩
theorem dX1_logEvent_19 : DC cX1_logEvent 19 (.iastore) 1 20 := ⟨by decide +kernel, rfl⟩
theorem dX1_logEvent_20 : DC cX1_logEvent 20 (.aload_n 0) 1 21 := ⟨by decide +kernel, rfl⟩
theorem dX1_logEvent_21 : DC cX1_logEvent 21 (.getfield 41) 3 24 := ⟨by decide +kernel, rfl⟩
theorem dX1_logEvent_24 : DC cX1_logEvent 24 (.getfield 157) 3 27 := ⟨by decide +kernel, rfl⟩
theorem dX1_logEvent_27 : DC cX1_logEvent 27 (.iload_n 1) 1 28 := ⟨by decide +kernel, rfl⟩
theorem dX1_logEvent_28 : DC cX1_logEvent 28 (.iload 4) 2 30 := ⟨by decide +kernel, rfl⟩
theorem dX1_logEvent_30 : DC cX1_logEvent 30 (.iastore) 1 31 := ⟨by decide +kernel, rfl⟩
theorem dX1_logEvent_31 : DC cX1_logEvent 31 (.return_) 1 32 := ⟨by decide +kernel, rfl⟩
theorem dX1_sendOn_0 : DC cX1_sendOn 0 (.aload_n 0) 1 1 := ⟨by decide +kernel, rfl⟩
theorem dX1_sendOn_1 : DC cX1_sendOn 1 (.getfield 9) 3 4 := ⟨by decide +kernel, rfl⟩
theorem dX1_sendOn_4 : DC cX1_sendOn 4 (.getfield 227) 3 7 := ⟨by decide +kernel, rfl⟩
theorem dX1_sendOn_7 : DC cX1_sendOn 7 (.iload_n 1) 1 8 := ⟨by decide +kernel, rfl⟩
theorem dX1_sendOn_8 : DC cX1_sendOn 8 (.iaload) 1 9 := ⟨by decide +kernel, rfl⟩
theorem dX1_sendOn_9 : DC cX1_sendOn 9 (.aload_n 0) 1 10 := ⟨by decide +kernel, rfl⟩
theorem dX1_sendOn_10 : DC cX1_sendOn 10 (.getfield 58) 3 13 := ⟨by decide +kernel, rfl⟩
theorem dX1_sendOn_13 : DC cX1_sendOn 13 (.iload_n 1) 1 14 := ⟨by decide +kernel, rfl⟩
theorem dX1_sendOn_14 : DC cX1_sendOn 14 (.iaload) 1 15 := ⟨by decide +kernel, rfl⟩
theorem dX1_sendOn_15 : DC cX1_sendOn 15 (.imul) 1 16 := ⟨by decide +kernel, rfl⟩
theorem dX1_sendOn_16 : DC cX1_sendOn 16 (.istore_n 3) 1 17 := ⟨by decide +kernel, rfl⟩
theorem dX1_sendOn_17 : DC cX1_sendOn 17 (.aload_n 0) 1 18 := ⟨by decide +kernel, rfl⟩
theorem dX1_sendOn_18 : DC cX1_sendOn 18 (.getfield 9) 3 21 := ⟨by decide +kernel, rfl⟩
theorem dX1_sendOn_21 : DC cX1_sendOn 21 (.getfield 238) 3 24 := ⟨by decide +kernel, rfl⟩
theorem dX1_sendOn_24 : DC cX1_sendOn 24 (.iload_n 1) 1 25 := ⟨by decide +kernel, rfl⟩
theorem dX1_sendOn_25 : DC cX1_sendOn 25 (.iaload) 1 26 := ⟨by decide +kernel, rfl⟩
theorem dX1_sendOn_26 : DC cX1_sendOn 26 (.istore 4) 2 28 := ⟨by decide +kernel, rfl⟩
theorem dX1_sendOn_28 : DC cX1_sendOn 28 (.aload_n 0) 1 29 := ⟨by decide +kernel, rfl⟩
theorem dX1_sendOn_29 : DC cX1_sendOn 29 (.getfield 52) 3 32 := ⟨by decide +kernel, rfl⟩
theorem dX1_sendOn_32 : DC cX1_sendOn 32 (.iload_n 1) 1 33 := ⟨by decide +kernel, rfl⟩
theorem dX1_sendOn_33 : DC cX1_sendOn 33 (.iaload) 1 34 := ⟨by decide +kernel, rfl⟩
theorem dX1_sendOn_34 : DC cX1_sendOn 34 (.iconst 1) 1 35 := ⟨by decide +kernel, rfl⟩
theorem dX1_sendOn_35 : DC cX1_sendOn 35 (.iadd) 1 36 := ⟨by decide +kernel, rfl⟩
theorem dX1_sendOn_36 : DC cX1_sendOn 36 (.istore 5) 2 38 := ⟨by decide +kernel, rfl⟩
theorem dX1_sendOn_38 : DC cX1_sendOn 38 (.iload 5) 2 40 := ⟨by decide +kernel, rfl⟩
theorem dX1_sendOn_40 : DC cX1_sendOn 40 (.iload 4) 2 42 := ⟨by decide +kernel, rfl⟩
theorem dX1_sendOn_42 : DC cX1_sendOn 42 (.if_icmp .ge 71) 3 45 := ⟨by decide +kernel, rfl⟩
theorem dX1_sendOn_45 : DC cX1_sendOn 45 (.aload_n 0) 1 46 := ⟨by decide +kernel, rfl⟩
theorem dX1_sendOn_46 : DC cX1_sendOn 46 (.getfield 9) 3 49 := ⟨by decide +kernel, rfl⟩
theorem dX1_sendOn_49 : DC cX1_sendOn 49 (.getfield 241) 3 52 := ⟨by decide +kernel, rfl⟩
theorem dX1_sendOn_52 : DC cX1_sendOn 52 (.iload_n 1) 1 53 := ⟨by decide +kernel, rfl⟩
theorem dX1_sendOn_53 : DC cX1_sendOn 53 (.aaload) 1 54 := ⟨by decide +kernel, rfl⟩
theorem dX1_sendOn_54 : DC cX1_sendOn 54 (.iload 5) 2 56 := ⟨by decide +kernel, rfl⟩
theorem dX1_sendOn_56 : DC cX1_sendOn 56 (.iaload) 1 57 := ⟨by decide +kernel, rfl⟩
theorem dX1_sendOn_57 : DC cX1_sendOn 57 (.istore 6) 2 59 := ⟨by decide +kernel, rfl⟩
theorem dX1_sendOn_59 : DC cX1_sendOn 59 (.aload_n 0) 1 60 := ⟨by decide +kernel, rfl⟩
theorem dX1_sendOn_60 : DC cX1_sendOn 60 (.getfield 86) 3 63 := ⟨by decide +kernel, rfl⟩
theorem dX1_sendOn_63 : DC cX1_sendOn 63 (.iload 6) 2 65 := ⟨by decide +kernel, rfl⟩
theorem dX1_sendOn_65 : DC cX1_sendOn 65 (.invokestatic 103) 3 68 := ⟨by decide +kernel, rfl⟩
theorem dX1_sendOn_68 : DC cX1_sendOn 68 (.ifCond .eq 39) 3 71 := ⟨by decide +kernel, rfl⟩
theorem dX1_sendOn_71 : DC cX1_sendOn 71 (.aload_n 0) 1 72 := ⟨by decide +kernel, rfl⟩
theorem dX1_sendOn_72 : DC cX1_sendOn 72 (.getfield 49) 3 75 := ⟨by decide +kernel, rfl⟩
theorem dX1_sendOn_75 : DC cX1_sendOn 75 (.iload_n 1) 1 76 := ⟨by decide +kernel, rfl⟩
theorem dX1_sendOn_76 : DC cX1_sendOn 76 (.iload 6) 2 78 := ⟨by decide +kernel, rfl⟩
theorem dX1_sendOn_78 : DC cX1_sendOn 78 (.iastore) 1 79 := ⟨by decide +kernel, rfl⟩
theorem dX1_sendOn_79 : DC cX1_sendOn 79 (.aload_n 0) 1 80 := ⟨by decide +kernel, rfl⟩
theorem dX1_sendOn_80 : DC cX1_sendOn 80 (.getfield 52) 3 83 := ⟨by decide +kernel, rfl⟩
theorem dX1_sendOn_83 : DC cX1_sendOn 83 (.iload_n 1) 1 84 := ⟨by decide +kernel, rfl⟩
theorem dX1_sendOn_84 : DC cX1_sendOn 84 (.iload 5) 2 86 := ⟨by decide +kernel, rfl⟩
theorem dX1_sendOn_86 : DC cX1_sendOn 86 (.iastore) 1 87 := ⟨by decide +kernel, rfl⟩
theorem dX1_sendOn_87 : DC cX1_sendOn 87 (.aload_n 0) 1 88 := ⟨by decide +kernel, rfl⟩
theorem dX1_sendOn_88 : DC cX1_sendOn 88 (.getfield 55) 3 91 := ⟨by decide +kernel, rfl⟩
theorem dX1_sendOn_91 : DC cX1_sendOn 91 (.iload_n 1) 1 92 := ⟨by decide +kernel, rfl⟩
theorem dX1_sendOn_92 : DC cX1_sendOn 92 (.iload_n 2) 1 93 := ⟨by decide +kernel, rfl⟩
theorem dX1_sendOn_93 : DC cX1_sendOn 93 (.iastore) 1 94 := ⟨by decide +kernel, rfl⟩
theorem dX1_sendOn_94 : DC cX1_sendOn 94 (.aload_n 0) 1 95 := ⟨by decide +kernel, rfl⟩
theorem dX1_sendOn_95 : DC cX1_sendOn 95 (.getfield 45) 3 98 := ⟨by decide +kernel, rfl⟩
theorem dX1_sendOn_98 : DC cX1_sendOn 98 (.iload 6) 2 100 := ⟨by decide +kernel, rfl⟩
theorem dX1_sendOn_100 : DC cX1_sendOn 100 (.dup2) 1 101 := ⟨by decide +kernel, rfl⟩
theorem dX1_sendOn_101 : DC cX1_sendOn 101 (.iaload) 1 102 := ⟨by decide +kernel, rfl⟩
theorem dX1_sendOn_102 : DC cX1_sendOn 102 (.iload_n 3) 1 103 := ⟨by decide +kernel, rfl⟩
theorem dX1_sendOn_103 : DC cX1_sendOn 103 (.iadd) 1 104 := ⟨by decide +kernel, rfl⟩
theorem dX1_sendOn_104 : DC cX1_sendOn 104 (.iastore) 1 105 := ⟨by decide +kernel, rfl⟩
theorem dX1_sendOn_105 : DC cX1_sendOn 105 (.iload_n 3) 1 106 := ⟨by decide +kernel, rfl⟩
theorem dX1_sendOn_106 : DC cX1_sendOn 106 (.ireturn) 1 107 := ⟨by decide +kernel, rfl⟩
theorem dX1_sendOn_107 : DC cX1_sendOn 107 (.iinc 5 1) 3 110 := ⟨by decide +kernel, rfl⟩
theorem dX1_sendOn_110 : DC cX1_sendOn 110 (.goto (-72)) 3 113 := ⟨by decide +kernel, rfl⟩
theorem dX1_sendOn_113 : DC cX1_sendOn 113 (.aload_n 0) 1 114 := ⟨by decide +kernel, rfl⟩
theorem dX1_sendOn_114 : DC cX1_sendOn 114 (.getfield 49) 3 117 := ⟨by decide +kernel, rfl⟩
theorem dX1_sendOn_117 : DC cX1_sendOn 117 (.iload_n 1) 1 118 := ⟨by decide +kernel, rfl⟩
theorem dX1_sendOn_118 : DC cX1_sendOn 118 (.iconst (-1)) 1 119 := ⟨by decide +kernel, rfl⟩
theorem dX1_sendOn_119 : DC cX1_sendOn 119 (.iastore) 1 120 := ⟨by decide +kernel, rfl⟩
theorem dX1_sendOn_120 : DC cX1_sendOn 120 (.aload_n 0) 1 121 := ⟨by decide +kernel, rfl⟩
theorem dX1_sendOn_121 : DC cX1_sendOn 121 (.dup) 1 122 := ⟨by decide +kernel, rfl⟩
theorem dX1_sendOn_122 : DC cX1_sendOn 122 (.getfield 124) 3 125 := ⟨by decide +kernel, rfl⟩
theorem dX1_sendOn_125 : DC cX1_sendOn 125 (.iload_n 3) 1 126 := ⟨by decide +kernel, rfl⟩
theorem dX1_sendOn_126 : DC cX1_sendOn 126 (.iadd) 1 127 := ⟨by decide +kernel, rfl⟩
theorem dX1_sendOn_127 : DC cX1_sendOn 127 (.putfield 124) 3 130 := ⟨by decide +kernel, rfl⟩
theorem dX1_sendOn_130 : DC cX1_sendOn 130 (.iload_n 3) 1 131 := ⟨by decide +kernel, rfl⟩
theorem dX1_sendOn_131 : DC cX1_sendOn 131 (.ireturn) 1 132 := ⟨by decide +kernel, rfl⟩
theorem dX2_init_0 : DC cX2_init 0 (.aload_n 0) 1 1 := ⟨by decide +kernel, rfl⟩
theorem dX2_init_1 : DC cX2_init 1 (.invokespecial 3) 3 4 := ⟨by decide +kernel, rfl⟩
theorem dX2_init_4 : DC cX2_init 4 (.aload_n 0) 1 5 := ⟨by decide +kernel, rfl⟩
theorem dX2_init_5 : DC cX2_init 5 (.iconst 4) 1 6 := ⟨by decide +kernel, rfl⟩
theorem dX2_init_6 : DC cX2_init 6 (.newarray .int) 2 8 := ⟨by decide +kernel, rfl⟩
theorem dX2_init_8 : DC cX2_init 8 (.putfield 9) 3 11 := ⟨by decide +kernel, rfl⟩
theorem dX2_init_11 : DC cX2_init 11 (.aload_n 0) 1 12 := ⟨by decide +kernel, rfl⟩
theorem dX2_init_12 : DC cX2_init 12 (.bipush 8) 2 14 := ⟨by decide +kernel, rfl⟩
theorem dX2_init_14 : DC cX2_init 14 (.newarray .int) 2 16 := ⟨by decide +kernel, rfl⟩
theorem dX2_init_16 : DC cX2_init 16 (.putfield 15) 3 19 := ⟨by decide +kernel, rfl⟩
theorem dX2_init_19 : DC cX2_init 19 (.aload_n 0) 1 20 := ⟨by decide +kernel, rfl⟩
theorem dX2_init_20 : DC cX2_init 20 (.bipush 25) 2 22 := ⟨by decide +kernel, rfl⟩
theorem dX2_init_22 : DC cX2_init 22 (.newarray .int) 2 24 := ⟨by decide +kernel, rfl⟩
theorem dX2_init_24 : DC cX2_init 24 (.putfield 18) 3 27 := ⟨by decide +kernel, rfl⟩
theorem dX2_init_27 : DC cX2_init 27 (.aload_n 0) 1 28 := ⟨by decide +kernel, rfl⟩
theorem dX2_init_28 : DC cX2_init 28 (.bipush 25) 2 30 := ⟨by decide +kernel, rfl⟩
theorem dX2_init_30 : DC cX2_init 30 (.newarray .int) 2 32 := ⟨by decide +kernel, rfl⟩
theorem dX2_init_32 : DC cX2_init 32 (.putfield 21) 3 35 := ⟨by decide +kernel, rfl⟩
theorem dX2_init_35 : DC cX2_init 35 (.aload_n 0) 1 36 := ⟨by decide +kernel, rfl⟩
theorem dX2_init_36 : DC cX2_init 36 (.bipush 25) 2 38 := ⟨by decide +kernel, rfl⟩
theorem dX2_init_38 : DC cX2_init 38 (.bipush 8) 2 40 := ⟨by decide +kernel, rfl⟩
theorem dX2_init_40 : DC cX2_init 40 (.multianewarray 24 2) 4 44 := ⟨by decide +kernel, rfl⟩
theorem dX2_init_44 : DC cX2_init 44 (.putfield 26) 3 47 := ⟨by decide +kernel, rfl⟩
theorem dX2_init_47 : DC cX2_init 47 (.aload_n 0) 1 48 := ⟨by decide +kernel, rfl⟩
theorem dX2_init_48 : DC cX2_init 48 (.iconst 3) 1 49 := ⟨by decide +kernel, rfl⟩
theorem dX2_init_49 : DC cX2_init 49 (.iconst 1) 1 50 := ⟨by decide +kernel, rfl⟩
theorem dX2_init_50 : DC cX2_init 50 (.invokevirtual 29) 3 53 := ⟨by decide +kernel, rfl⟩
theorem dX2_init_53 : DC cX2_init 53 (.return_) 1 54 := ⟨by decide +kernel, rfl⟩
theorem dX2_startAgain_0 : DC cX2_startAgain 0 (.aload_n 0) 1 1 := ⟨by decide +kernel, rfl⟩
theorem dX2_startAgain_1 : DC cX2_startAgain 1 (.iload_n 1) 1 2 := ⟨by decide +kernel, rfl⟩
theorem dX2_startAgain_2 : DC cX2_startAgain 2 (.putfield 33) 3 5 := ⟨by decide +kernel, rfl⟩
theorem dX2_startAgain_5 : DC cX2_startAgain 5 (.aload_n 0) 1 6 := ⟨by decide +kernel, rfl⟩
theorem dX2_startAgain_6 : DC cX2_startAgain 6 (.getfield 9) 3 9 := ⟨by decide +kernel, rfl⟩
theorem dX2_startAgain_9 : DC cX2_startAgain 9 (.iconst 3) 1 10 := ⟨by decide +kernel, rfl⟩
theorem dX2_startAgain_10 : DC cX2_startAgain 10 (.iload_n 2) 1 11 := ⟨by decide +kernel, rfl⟩
theorem dX2_startAgain_11 : DC cX2_startAgain 11 (.iastore) 1 12 := ⟨by decide +kernel, rfl⟩
theorem dX2_startAgain_12 : DC cX2_startAgain 12 (.aload_n 0) 1 13 := ⟨by decide +kernel, rfl⟩
theorem dX2_startAgain_13 : DC cX2_startAgain 13 (.iconst 0) 1 14 := ⟨by decide +kernel, rfl⟩
theorem dX2_startAgain_14 : DC cX2_startAgain 14 (.putfield 37) 3 17 := ⟨by decide +kernel, rfl⟩
theorem dX2_startAgain_17 : DC cX2_startAgain 17 (.aload_n 0) 1 18 := ⟨by decide +kernel, rfl⟩
theorem dX2_startAgain_18 : DC cX2_startAgain 18 (.iconst 0) 1 19 := ⟨by decide +kernel, rfl⟩
theorem dX2_startAgain_19 : DC cX2_startAgain 19 (.putfield 40) 3 22 := ⟨by decide +kernel, rfl⟩
theorem dX2_startAgain_22 : DC cX2_startAgain 22 (.iconst 0) 1 23 := ⟨by decide +kernel, rfl⟩
theorem dX2_startAgain_23 : DC cX2_startAgain 23 (.istore_n 3) 1 24 := ⟨by decide +kernel, rfl⟩
theorem dX2_startAgain_24 : DC cX2_startAgain 24 (.iload_n 3) 1 25 := ⟨by decide +kernel, rfl⟩
theorem dX2_startAgain_25 : DC cX2_startAgain 25 (.bipush 8) 2 27 := ⟨by decide +kernel, rfl⟩
theorem dX2_startAgain_27 : DC cX2_startAgain 27 (.if_icmp .ge 16) 3 30 := ⟨by decide +kernel, rfl⟩
theorem dX2_startAgain_30 : DC cX2_startAgain 30 (.aload_n 0) 1 31 := ⟨by decide +kernel, rfl⟩
theorem dX2_startAgain_31 : DC cX2_startAgain 31 (.getfield 15) 3 34 := ⟨by decide +kernel, rfl⟩
theorem dX2_startAgain_34 : DC cX2_startAgain 34 (.iload_n 3) 1 35 := ⟨by decide +kernel, rfl⟩
theorem dX2_startAgain_35 : DC cX2_startAgain 35 (.iload_n 3) 1 36 := ⟨by decide +kernel, rfl⟩
theorem dX2_startAgain_36 : DC cX2_startAgain 36 (.iastore) 1 37 := ⟨by decide +kernel, rfl⟩
theorem dX2_startAgain_37 : DC cX2_startAgain 37 (.iinc 3 1) 3 40 := ⟨by decide +kernel, rfl⟩
theorem dX2_startAgain_40 : DC cX2_startAgain 40 (.goto (-16)) 3 43 := ⟨by decide +kernel, rfl⟩
theorem dX2_startAgain_43 : DC cX2_startAgain 43 (.return_) 1 44 := ⟨by decide +kernel, rfl⟩
theorem dX2_copyFrom_0 : DC cX2_copyFrom 0 (.aload_n 0) 1 1 := ⟨by decide +kernel, rfl⟩
theorem dX2_copyFrom_1 : DC cX2_copyFrom 1 (.aload_n 1) 1 2 := ⟨by decide +kernel, rfl⟩
theorem dX2_copyFrom_2 : DC cX2_copyFrom 2 (.getfield 33) 3 5 := ⟨by decide +kernel, rfl⟩
theorem dX2_copyFrom_5 : DC cX2_copyFrom 5 (.putfield 33) 3 8 := ⟨by decide +kernel, rfl⟩
theorem dX2_copyFrom_8 : DC cX2_copyFrom 8 (.aload_n 0) 1 9 := ⟨by decide +kernel, rfl⟩
theorem dX2_copyFrom_9 : DC cX2_copyFrom 9 (.aload_n 1) 1 10 := ⟨by decide +kernel, rfl⟩
theorem dX2_copyFrom_10 : DC cX2_copyFrom 10 (.getfield 37) 3 13 := ⟨by decide +kernel, rfl⟩
theorem dX2_copyFrom_13 : DC cX2_copyFrom 13 (.putfield 37) 3 16 := ⟨by decide +kernel, rfl⟩
theorem dX2_copyFrom_16 : DC cX2_copyFrom 16 (.aload_n 0) 1 17 := ⟨by decide +kernel, rfl⟩
theorem dX2_copyFrom_17 : DC cX2_copyFrom 17 (.aload_n 1) 1 18 := ⟨by decide +kernel, rfl⟩
theorem dX2_copyFrom_18 : DC cX2_copyFrom 18 (.getfield 40) 3 21 := ⟨by decide +kernel, rfl⟩
theorem dX2_copyFrom_21 : DC cX2_copyFrom 21 (.putfield 40) 3 24 := ⟨by decide +kernel, rfl⟩
theorem dX2_copyFrom_24 : DC cX2_copyFrom 24 (.aload_n 1) 1 25 := ⟨by decide +kernel, rfl⟩
theorem dX2_copyFrom_25 : DC cX2_copyFrom 25 (.getfield 9) 3 28 := ⟨by decide +kernel, rfl⟩
theorem dX2_copyFrom_28 : DC cX2_copyFrom 28 (.iconst 0) 1 29 := ⟨by decide +kernel, rfl⟩
theorem dX2_copyFrom_29 : DC cX2_copyFrom 29 (.aload_n 0) 1 30 := ⟨by decide +kernel, rfl⟩
theorem dX2_copyFrom_30 : DC cX2_copyFrom 30 (.getfield 9) 3 33 := ⟨by decide +kernel, rfl⟩
theorem dX2_copyFrom_33 : DC cX2_copyFrom 33 (.iconst 0) 1 34 := ⟨by decide +kernel, rfl⟩
theorem dX2_copyFrom_34 : DC cX2_copyFrom 34 (.iconst 4) 1 35 := ⟨by decide +kernel, rfl⟩
theorem dX2_copyFrom_35 : DC cX2_copyFrom 35 (.invokestatic 43) 3 38 := ⟨by decide +kernel, rfl⟩
theorem dX2_copyFrom_38 : DC cX2_copyFrom 38 (.aload_n 1) 1 39 := ⟨by decide +kernel, rfl⟩
theorem dX2_copyFrom_39 : DC cX2_copyFrom 39 (.getfield 15) 3 42 := ⟨by decide +kernel, rfl⟩
theorem dX2_copyFrom_42 : DC cX2_copyFrom 42 (.iconst 0) 1 43 := ⟨by decide +kernel, rfl⟩
theorem dX2_copyFrom_43 : DC cX2_copyFrom 43 (.aload_n 0) 1 44 := ⟨by decide +kernel, rfl⟩
theorem dX2_copyFrom_44 : DC cX2_copyFrom 44 (.getfield 15) 3 47 := ⟨by decide +kernel, rfl⟩
theorem dX2_copyFrom_47 : DC cX2_copyFrom 47 (.iconst 0) 1 48 := ⟨by decide +kernel, rfl⟩
theorem dX2_copyFrom_48 : DC cX2_copyFrom 48 (.bipush 8) 2 50 := ⟨by decide +kernel, rfl⟩
theorem dX2_copyFrom_50 : DC cX2_copyFrom 50 (.invokestatic 43) 3 53 := ⟨by decide +kernel, rfl⟩
theorem dX2_copyFrom_53 : DC cX2_copyFrom 53 (.aload_n 1) 1 54 := ⟨by decide +kernel, rfl⟩
theorem dX2_copyFrom_54 : DC cX2_copyFrom 54 (.getfield 18) 3 57 := ⟨by decide +kernel, rfl⟩
theorem dX2_copyFrom_57 : DC cX2_copyFrom 57 (.iconst 0) 1 58 := ⟨by decide +kernel, rfl⟩
theorem dX2_copyFrom_58 : DC cX2_copyFrom 58 (.aload_n 0) 1 59 := ⟨by decide +kernel, rfl⟩
theorem dX2_copyFrom_59 : DC cX2_copyFrom 59 (.getfield 18) 3 62 := ⟨by decide +kernel, rfl⟩
theorem dX2_copyFrom_62 : DC cX2_copyFrom 62 (.iconst 0) 1 63 := ⟨by decide +kernel, rfl⟩
theorem dX2_copyFrom_63 : DC cX2_copyFrom 63 (.bipush 25) 2 65 := ⟨by decide +kernel, rfl⟩
theorem dX2_copyFrom_65 : DC cX2_copyFrom 65 (.invokestatic 43) 3 68 := ⟨by decide +kernel, rfl⟩
theorem dX2_copyFrom_68 : DC cX2_copyFrom 68 (.aload_n 1) 1 69 := ⟨by decide +kernel, rfl⟩
theorem dX2_copyFrom_69 : DC cX2_copyFrom 69 (.getfield 21) 3 72 := ⟨by decide +kernel, rfl⟩
theorem dX2_copyFrom_72 : DC cX2_copyFrom 72 (.iconst 0) 1 73 := ⟨by decide +kernel, rfl⟩
theorem dX2_copyFrom_73 : DC cX2_copyFrom 73 (.aload_n 0) 1 74 := ⟨by decide +kernel, rfl⟩
theorem dX2_copyFrom_74 : DC cX2_copyFrom 74 (.getfield 21) 3 77 := ⟨by decide +kernel, rfl⟩
theorem dX2_copyFrom_77 : DC cX2_copyFrom 77 (.iconst 0) 1 78 := ⟨by decide +kernel, rfl⟩
theorem dX2_copyFrom_78 : DC cX2_copyFrom 78 (.bipush 25) 2 80 := ⟨by decide +kernel, rfl⟩
theorem dX2_copyFrom_80 : DC cX2_copyFrom 80 (.invokestatic 43) 3 83 := ⟨by decide +kernel, rfl⟩
theorem dX2_copyFrom_83 : DC cX2_copyFrom 83 (.iconst 0) 1 84 := ⟨by decide +kernel, rfl⟩
theorem dX2_copyFrom_84 : DC cX2_copyFrom 84 (.istore_n 2) 1 85 := ⟨by decide +kernel, rfl⟩
theorem dX2_copyFrom_85 : DC cX2_copyFrom 85 (.iload_n 2) 1 86 := ⟨by decide +kernel, rfl⟩
theorem dX2_copyFrom_86 : DC cX2_copyFrom 86 (.bipush 25) 2 88 := ⟨by decide +kernel, rfl⟩
theorem dX2_copyFrom_88 : DC cX2_copyFrom 88 (.if_icmp .ge 28) 3 91 := ⟨by decide +kernel, rfl⟩
theorem dX2_copyFrom_91 : DC cX2_copyFrom 91 (.aload_n 1) 1 92 := ⟨by decide +kernel, rfl⟩
theorem dX2_copyFrom_92 : DC cX2_copyFrom 92 (.getfield 26) 3 95 := ⟨by decide +kernel, rfl⟩
theorem dX2_copyFrom_95 : DC cX2_copyFrom 95 (.iload_n 2) 1 96 := ⟨by decide +kernel, rfl⟩
theorem dX2_copyFrom_96 : DC cX2_copyFrom 96 (.aaload) 1 97 := ⟨by decide +kernel, rfl⟩
theorem dX2_copyFrom_97 : DC cX2_copyFrom 97 (.iconst 0) 1 98 := ⟨by decide +kernel, rfl⟩
theorem dX2_copyFrom_98 : DC cX2_copyFrom 98 (.aload_n 0) 1 99 := ⟨by decide +kernel, rfl⟩
theorem dX2_copyFrom_99 : DC cX2_copyFrom 99 (.getfield 26) 3 102 := ⟨by decide +kernel, rfl⟩
theorem dX2_copyFrom_102 : DC cX2_copyFrom 102 (.iload_n 2) 1 103 := ⟨by decide +kernel, rfl⟩
theorem dX2_copyFrom_103 : DC cX2_copyFrom 103 (.aaload) 1 104 := ⟨by decide +kernel, rfl⟩
theorem dX2_copyFrom_104 : DC cX2_copyFrom 104 (.iconst 0) 1 105 := ⟨by decide +kernel, rfl⟩
theorem dX2_copyFrom_105 : DC cX2_copyFrom 105 (.bipush 8) 2 107 := ⟨by decide +kernel, rfl⟩
theorem dX2_copyFrom_107 : DC cX2_copyFrom 107 (.invokestatic 43) 3 110 := ⟨by decide +kernel, rfl⟩
theorem dX2_copyFrom_110 : DC cX2_copyFrom 110 (.iinc 2 1) 3 113 := ⟨by decide +kernel, rfl⟩
theorem dX2_copyFrom_113 : DC cX2_copyFrom 113 (.goto (-28)) 3 116 := ⟨by decide +kernel, rfl⟩
theorem dX2_copyFrom_116 : DC cX2_copyFrom 116 (.return_) 1 117 := ⟨by decide +kernel, rfl⟩
theorem dX2_addPile_0 : DC cX2_addPile 0 (.aload_n 0) 1 1 := ⟨by decide +kernel, rfl⟩
theorem dX2_addPile_1 : DC cX2_addPile 1 (.getfield 40) 3 4 := ⟨by decide +kernel, rfl⟩
theorem dX2_addPile_4 : DC cX2_addPile 4 (.bipush 25) 2 6 := ⟨by decide +kernel, rfl⟩
theorem dX2_addPile_6 : DC cX2_addPile 6 (.if_icmp .ge 36) 3 9 := ⟨by decide +kernel, rfl⟩
theorem dX2_addPile_9 : DC cX2_addPile 9 (.aload_n 0) 1 10 := ⟨by decide +kernel, rfl⟩
theorem dX2_addPile_10 : DC cX2_addPile 10 (.dup) 1 11 := ⟨by decide +kernel, rfl⟩
theorem dX2_addPile_11 : DC cX2_addPile 11 (.getfield 40) 3 14 := ⟨by decide +kernel, rfl⟩
theorem dX2_addPile_14 : DC cX2_addPile 14 (.iconst 1) 1 15 := ⟨by decide +kernel, rfl⟩
theorem dX2_addPile_15 : DC cX2_addPile 15 (.iadd) 1 16 := ⟨by decide +kernel, rfl⟩
theorem dX2_addPile_16 : DC cX2_addPile 16 (.putfield 40) 3 19 := ⟨by decide +kernel, rfl⟩
theorem dX2_addPile_19 : DC cX2_addPile 19 (.aload_n 0) 1 20 := ⟨by decide +kernel, rfl⟩
theorem dX2_addPile_20 : DC cX2_addPile 20 (.aload_n 0) 1 21 := ⟨by decide +kernel, rfl⟩
theorem dX2_addPile_21 : DC cX2_addPile 21 (.getfield 40) 3 24 := ⟨by decide +kernel, rfl⟩
theorem dX2_addPile_24 : DC cX2_addPile 24 (.iconst 1) 1 25 := ⟨by decide +kernel, rfl⟩
theorem dX2_addPile_25 : DC cX2_addPile 25 (.isub) 1 26 := ⟨by decide +kernel, rfl⟩
theorem dX2_addPile_26 : DC cX2_addPile 26 (.iload_n 1) 1 27 := ⟨by decide +kernel, rfl⟩
theorem dX2_addPile_27 : DC cX2_addPile 27 (.invokevirtual 49) 3 30 := ⟨by decide +kernel, rfl⟩
theorem dX2_addPile_30 : DC cX2_addPile 30 (.aload_n 0) 1 31 := ⟨by decide +kernel, rfl⟩
theorem dX2_addPile_31 : DC cX2_addPile 31 (.aload_n 0) 1 32 := ⟨by decide +kernel, rfl⟩
theorem dX2_addPile_32 : DC cX2_addPile 32 (.getfield 40) 3 35 := ⟨by decide +kernel, rfl⟩
theorem dX2_addPile_35 : DC cX2_addPile 35 (.iconst 1) 1 36 := ⟨by decide +kernel, rfl⟩
theorem dX2_addPile_36 : DC cX2_addPile 36 (.isub) 1 37 := ⟨by decide +kernel, rfl⟩
theorem dX2_addPile_37 : DC cX2_addPile 37 (.aload_n 2) 1 38 := ⟨by decide +kernel, rfl⟩
theorem dX2_addPile_38 : DC cX2_addPile 38 (.iload_n 3) 1 39 := ⟨by decide +kernel, rfl⟩
theorem dX2_addPile_39 : DC cX2_addPile 39 (.invokevirtual 52) 3 42 := ⟨by decide +kernel, rfl⟩
theorem dX2_addPile_42 : DC cX2_addPile 42 (.return_) 1 43 := ⟨by decide +kernel, rfl⟩
theorem dX2_addPileFor_0 : DC cX2_addPileFor 0 (.aload_n 0) 1 1 := ⟨by decide +kernel, rfl⟩
theorem dX2_addPileFor_1 : DC cX2_addPileFor 1 (.getfield 40) 3 4 := ⟨by decide +kernel, rfl⟩
theorem dX2_addPileFor_4 : DC cX2_addPileFor 4 (.bipush 25) 2 6 := ⟨by decide +kernel, rfl⟩
theorem dX2_addPileFor_6 : DC cX2_addPileFor 6 (.if_icmp .lt 5) 3 9 := ⟨by decide +kernel, rfl⟩
theorem dX2_addPileFor_9 : DC cX2_addPileFor 9 (.iconst (-1)) 1 10 := ⟨by decide +kernel, rfl⟩
theorem dX2_addPileFor_10 : DC cX2_addPileFor 10 (.ireturn) 1 11 := ⟨by decide +kernel, rfl⟩
theorem dX2_addPileFor_11 : DC cX2_addPileFor 11 (.aload_n 0) 1 12 := ⟨by decide +kernel, rfl⟩
theorem dX2_addPileFor_12 : DC cX2_addPileFor 12 (.getfield 18) 3 15 := ⟨by decide +kernel, rfl⟩
theorem dX2_addPileFor_15 : DC cX2_addPileFor 15 (.aload_n 0) 1 16 := ⟨by decide +kernel, rfl⟩
theorem dX2_addPileFor_16 : DC cX2_addPileFor 16 (.getfield 40) 3 19 := ⟨by decide +kernel, rfl⟩
theorem dX2_addPileFor_19 : DC cX2_addPileFor 19 (.iconst 0) 1 20 := ⟨by decide +kernel, rfl⟩
theorem dX2_addPileFor_20 : DC cX2_addPileFor 20 (.iastore) 1 21 := ⟨by decide +kernel, rfl⟩
theorem dX2_addPileFor_21 : DC cX2_addPileFor 21 (.aload_n 0) 1 22 := ⟨by decide +kernel, rfl⟩
theorem dX2_addPileFor_22 : DC cX2_addPileFor 22 (.getfield 21) 3 25 := ⟨by decide +kernel, rfl⟩
theorem dX2_addPileFor_25 : DC cX2_addPileFor 25 (.aload_n 0) 1 26 := ⟨by decide +kernel, rfl⟩
theorem dX2_addPileFor_26 : DC cX2_addPileFor 26 (.getfield 40) 3 29 := ⟨by decide +kernel, rfl⟩
theorem dX2_addPileFor_29 : DC cX2_addPileFor 29 (.iconst 1) 1 30 := ⟨by decide +kernel, rfl⟩
theorem dX2_addPileFor_30 : DC cX2_addPileFor 30 (.iastore) 1 31 := ⟨by decide +kernel, rfl⟩
theorem dX2_addPileFor_31 : DC cX2_addPileFor 31 (.aload_n 0) 1 32 := ⟨by decide +kernel, rfl⟩
theorem dX2_addPileFor_32 : DC cX2_addPileFor 32 (.getfield 26) 3 35 := ⟨by decide +kernel, rfl⟩
theorem dX2_addPileFor_35 : DC cX2_addPileFor 35 (.aload_n 0) 1 36 := ⟨by decide +kernel, rfl⟩
theorem dX2_addPileFor_36 : DC cX2_addPileFor 36 (.getfield 40) 3 39 := ⟨by decide +kernel, rfl⟩
theorem dX2_addPileFor_39 : DC cX2_addPileFor 39 (.aaload) 1 40 := ⟨by decide +kernel, rfl⟩
theorem dX2_addPileFor_40 : DC cX2_addPileFor 40 (.iconst 0) 1 41 := ⟨by decide +kernel, rfl⟩
theorem dX2_addPileFor_41 : DC cX2_addPileFor 41 (.iload_n 1) 1 42 := ⟨by decide +kernel, rfl⟩
theorem dX2_addPileFor_42 : DC cX2_addPileFor 42 (.iastore) 1 43 := ⟨by decide +kernel, rfl⟩
theorem dX2_addPileFor_43 : DC cX2_addPileFor 43 (.aload_n 0) 1 44 := ⟨by decide +kernel, rfl⟩
theorem dX2_addPileFor_44 : DC cX2_addPileFor 44 (.dup) 1 45 := ⟨by decide +kernel, rfl⟩
theorem dX2_addPileFor_45 : DC cX2_addPileFor 45 (.getfield 40) 3 48 := ⟨by decide +kernel, rfl⟩
theorem dX2_addPileFor_48 : DC cX2_addPileFor 48 (.iconst 1) 1 49 := ⟨by decide +kernel, rfl⟩
theorem dX2_addPileFor_49 : DC cX2_addPileFor 49 (.iadd) 1 50 := ⟨by decide +kernel, rfl⟩
theorem dX2_addPileFor_50 : DC cX2_addPileFor 50 (.putfield 40) 3 53 := ⟨by decide +kernel, rfl⟩
theorem dX2_addPileFor_53 : DC cX2_addPileFor 53 (.aload_n 0) 1 54 := ⟨by decide +kernel, rfl⟩
theorem dX2_addPileFor_54 : DC cX2_addPileFor 54 (.getfield 40) 3 57 := ⟨by decide +kernel, rfl⟩
theorem dX2_addPileFor_57 : DC cX2_addPileFor 57 (.iconst 1) 1 58 := ⟨by decide +kernel, rfl⟩
theorem dX2_addPileFor_58 : DC cX2_addPileFor 58 (.isub) 1 59 := ⟨by decide +kernel, rfl⟩
theorem dX2_addPileFor_59 : DC cX2_addPileFor 59 (.ireturn) 1 60 := ⟨by decide +kernel, rfl⟩
theorem dX2_resize_0 : DC cX2_resize 0 (.iload_n 1) 1 1 := ⟨by decide +kernel, rfl⟩
theorem dX2_resize_1 : DC cX2_resize 1 (.ifCond .lt 18) 3 4 := ⟨by decide +kernel, rfl⟩
theorem dX2_resize_4 : DC cX2_resize 4 (.iload_n 1) 1 5 := ⟨by decide +kernel, rfl⟩
theorem dX2_resize_5 : DC cX2_resize 5 (.aload_n 0) 1 6 := ⟨by decide +kernel, rfl⟩
theorem dX2_resize_6 : DC cX2_resize 6 (.getfield 40) 3 9 := ⟨by decide +kernel, rfl⟩
theorem dX2_resize_9 : DC cX2_resize 9 (.if_icmp .ge 10) 3 12 := ⟨by decide +kernel, rfl⟩
theorem dX2_resize_12 : DC cX2_resize 12 (.aload_n 0) 1 13 := ⟨by decide +kernel, rfl⟩
theorem dX2_resize_13 : DC cX2_resize 13 (.getfield 18) 3 16 := ⟨by decide +kernel, rfl⟩
theorem dX2_resize_16 : DC cX2_resize 16 (.iload_n 1) 1 17 := ⟨by decide +kernel, rfl⟩
theorem dX2_resize_17 : DC cX2_resize 17 (.iload_n 2) 1 18 := ⟨by decide +kernel, rfl⟩
theorem dX2_resize_18 : DC cX2_resize 18 (.iastore) 1 19 := ⟨by decide +kernel, rfl⟩
theorem dX2_resize_19 : DC cX2_resize 19 (.return_) 1 20 := ⟨by decide +kernel, rfl⟩
theorem dX2_rank_0 : DC cX2_rank 0 (.iload_n 1) 1 1 := ⟨by decide +kernel, rfl⟩
theorem dX2_rank_1 : DC cX2_rank 1 (.ifCond .lt 58) 3 4 := ⟨by decide +kernel, rfl⟩
theorem dX2_rank_4 : DC cX2_rank 4 (.iload_n 1) 1 5 := ⟨by decide +kernel, rfl⟩
theorem dX2_rank_5 : DC cX2_rank 5 (.aload_n 0) 1 6 := ⟨by decide +kernel, rfl⟩
theorem dX2_rank_6 : DC cX2_rank 6 (.getfield 40) 3 9 := ⟨by decide +kernel, rfl⟩
theorem dX2_rank_9 : DC cX2_rank 9 (.if_icmp .ge 50) 3 12 := ⟨by decide +kernel, rfl⟩
theorem dX2_rank_12 : DC cX2_rank 12 (.iload_n 3) 1 13 := ⟨by decide +kernel, rfl⟩
theorem dX2_rank_13 : DC cX2_rank 13 (.bipush 8) 2 15 := ⟨by decide +kernel, rfl⟩
theorem dX2_rank_15 : DC cX2_rank 15 (.if_icmp .gt 44) 3 18 := ⟨by decide +kernel, rfl⟩
theorem dX2_rank_18 : DC cX2_rank 18 (.iload_n 3) 1 19 := ⟨by decide +kernel, rfl⟩
theorem dX2_rank_19 : DC cX2_rank 19 (.aload_n 2) 1 20 := ⟨by decide +kernel, rfl⟩
theorem dX2_rank_20 : DC cX2_rank 20 (.arraylength) 1 21 := ⟨by decide +kernel, rfl⟩
theorem dX2_rank_21 : DC cX2_rank 21 (.if_icmp .gt 38) 3 24 := ⟨by decide +kernel, rfl⟩
theorem dX2_rank_24 : DC cX2_rank 24 (.aload_n 0) 1 25 := ⟨by decide +kernel, rfl⟩
theorem dX2_rank_25 : DC cX2_rank 25 (.getfield 21) 3 28 := ⟨by decide +kernel, rfl⟩
theorem dX2_rank_28 : DC cX2_rank 28 (.iload_n 1) 1 29 := ⟨by decide +kernel, rfl⟩
theorem dX2_rank_29 : DC cX2_rank 29 (.iload_n 3) 1 30 := ⟨by decide +kernel, rfl⟩
theorem dX2_rank_30 : DC cX2_rank 30 (.iastore) 1 31 := ⟨by decide +kernel, rfl⟩
theorem dX2_rank_31 : DC cX2_rank 31 (.iconst 0) 1 32 := ⟨by decide +kernel, rfl⟩
theorem dX2_rank_32 : DC cX2_rank 32 (.istore 4) 2 34 := ⟨by decide +kernel, rfl⟩
theorem dX2_rank_34 : DC cX2_rank 34 (.iload 4) 2 36 := ⟨by decide +kernel, rfl⟩
theorem dX2_rank_36 : DC cX2_rank 36 (.iload_n 3) 1 37 := ⟨by decide +kernel, rfl⟩
theorem dX2_rank_37 : DC cX2_rank 37 (.if_icmp .ge 22) 3 40 := ⟨by decide +kernel, rfl⟩
theorem dX2_rank_40 : DC cX2_rank 40 (.aload_n 0) 1 41 := ⟨by decide +kernel, rfl⟩
theorem dX2_rank_41 : DC cX2_rank 41 (.getfield 26) 3 44 := ⟨by decide +kernel, rfl⟩
theorem dX2_rank_44 : DC cX2_rank 44 (.iload_n 1) 1 45 := ⟨by decide +kernel, rfl⟩
theorem dX2_rank_45 : DC cX2_rank 45 (.aaload) 1 46 := ⟨by decide +kernel, rfl⟩
theorem dX2_rank_46 : DC cX2_rank 46 (.iload 4) 2 48 := ⟨by decide +kernel, rfl⟩
theorem dX2_rank_48 : DC cX2_rank 48 (.aload_n 2) 1 49 := ⟨by decide +kernel, rfl⟩
theorem dX2_rank_49 : DC cX2_rank 49 (.iload 4) 2 51 := ⟨by decide +kernel, rfl⟩
theorem dX2_rank_51 : DC cX2_rank 51 (.iaload) 1 52 := ⟨by decide +kernel, rfl⟩
theorem dX2_rank_52 : DC cX2_rank 52 (.iastore) 1 53 := ⟨by decide +kernel, rfl⟩
theorem dX2_rank_53 : DC cX2_rank 53 (.iinc 4 1) 3 56 := ⟨by decide +kernel, rfl⟩
theorem dX2_rank_56 : DC cX2_rank 56 (.goto (-22)) 3 59 := ⟨by decide +kernel, rfl⟩
theorem dX2_rank_59 : DC cX2_rank 59 (.return_) 1 60 := ⟨by decide +kernel, rfl⟩
theorem dX2_drawLot_0 : DC cX2_drawLot 0 (.iconst 0) 1 1 := ⟨by decide +kernel, rfl⟩
theorem dX2_drawLot_1 : DC cX2_drawLot 1 (.istore_n 2) 1 2 := ⟨by decide +kernel, rfl⟩
theorem dX2_drawLot_2 : DC cX2_drawLot 2 (.iload_n 2) 1 3 := ⟨by decide +kernel, rfl⟩
theorem dX2_drawLot_3 : DC cX2_drawLot 3 (.aload_n 0) 1 4 := ⟨by decide +kernel, rfl⟩
theorem dX2_drawLot_4 : DC cX2_drawLot 4 (.getfield 33) 3 7 := ⟨by decide +kernel, rfl⟩
theorem dX2_drawLot_7 : DC cX2_drawLot 7 (.if_icmp .ge 24) 3 10 := ⟨by decide +kernel, rfl⟩
theorem dX2_drawLot_10 : DC cX2_drawLot 10 (.iload_n 2) 1 11 := ⟨by decide +kernel, rfl⟩
theorem dX2_drawLot_11 : DC cX2_drawLot 11 (.aload_n 1) 1 12 := ⟨by decide +kernel, rfl⟩
theorem dX2_drawLot_12 : DC cX2_drawLot 12 (.arraylength) 1 13 := ⟨by decide +kernel, rfl⟩
theorem dX2_drawLot_13 : DC cX2_drawLot 13 (.if_icmp .ge 18) 3 16 := ⟨by decide +kernel, rfl⟩
theorem dX2_drawLot_16 : DC cX2_drawLot 16 (.aload_n 0) 1 17 := ⟨by decide +kernel, rfl⟩
theorem dX2_drawLot_17 : DC cX2_drawLot 17 (.getfield 15) 3 20 := ⟨by decide +kernel, rfl⟩
theorem dX2_drawLot_20 : DC cX2_drawLot 20 (.iload_n 2) 1 21 := ⟨by decide +kernel, rfl⟩
theorem dX2_drawLot_21 : DC cX2_drawLot 21 (.aload_n 1) 1 22 := ⟨by decide +kernel, rfl⟩
theorem dX2_drawLot_22 : DC cX2_drawLot 22 (.iload_n 2) 1 23 := ⟨by decide +kernel, rfl⟩
theorem dX2_drawLot_23 : DC cX2_drawLot 23 (.iaload) 1 24 := ⟨by decide +kernel, rfl⟩
theorem dX2_drawLot_24 : DC cX2_drawLot 24 (.iastore) 1 25 := ⟨by decide +kernel, rfl⟩
theorem dX2_drawLot_25 : DC cX2_drawLot 25 (.iinc 2 1) 3 28 := ⟨by decide +kernel, rfl⟩
theorem dX2_drawLot_28 : DC cX2_drawLot 28 (.goto (-26)) 3 31 := ⟨by decide +kernel, rfl⟩
theorem dX2_drawLot_31 : DC cX2_drawLot 31 (.return_) 1 32 := ⟨by decide +kernel, rfl⟩
theorem dX2_papers_0 : DC cX2_papers 0 (.iconst 0) 1 1 := ⟨by decide +kernel, rfl⟩
theorem dX2_papers_1 : DC cX2_papers 1 (.istore_n 1) 1 2 := ⟨by decide +kernel, rfl⟩
theorem dX2_papers_2 : DC cX2_papers 2 (.iconst 0) 1 3 := ⟨by decide +kernel, rfl⟩
theorem dX2_papers_3 : DC cX2_papers 3 (.istore_n 2) 1 4 := ⟨by decide +kernel, rfl⟩
theorem dX2_papers_4 : DC cX2_papers 4 (.iload_n 2) 1 5 := ⟨by decide +kernel, rfl⟩
theorem dX2_papers_5 : DC cX2_papers 5 (.aload_n 0) 1 6 := ⟨by decide +kernel, rfl⟩
theorem dX2_papers_6 : DC cX2_papers 6 (.getfield 40) 3 9 := ⟨by decide +kernel, rfl⟩
theorem dX2_papers_9 : DC cX2_papers 9 (.if_icmp .ge 18) 3 12 := ⟨by decide +kernel, rfl⟩
theorem dX2_papers_12 : DC cX2_papers 12 (.iload_n 1) 1 13 := ⟨by decide +kernel, rfl⟩
theorem dX2_papers_13 : DC cX2_papers 13 (.aload_n 0) 1 14 := ⟨by decide +kernel, rfl⟩
theorem dX2_papers_14 : DC cX2_papers 14 (.getfield 18) 3 17 := ⟨by decide +kernel, rfl⟩
theorem dX2_papers_17 : DC cX2_papers 17 (.iload_n 2) 1 18 := ⟨by decide +kernel, rfl⟩
theorem dX2_papers_18 : DC cX2_papers 18 (.iaload) 1 19 := ⟨by decide +kernel, rfl⟩
theorem dX2_papers_19 : DC cX2_papers 19 (.iadd) 1 20 := ⟨by decide +kernel, rfl⟩
theorem dX2_papers_20 : DC cX2_papers 20 (.istore_n 1) 1 21 := ⟨by decide +kernel, rfl⟩
theorem dX2_papers_21 : DC cX2_papers 21 (.iinc 2 1) 3 24 := ⟨by decide +kernel, rfl⟩
theorem dX2_papers_24 : DC cX2_papers 24 (.goto (-20)) 3 27 := ⟨by decide +kernel, rfl⟩
theorem dX2_papers_27 : DC cX2_papers 27 (.iload_n 1) 1 28 := ⟨by decide +kernel, rfl⟩
theorem dX2_papers_28 : DC cX2_papers 28 (.ireturn) 1 29 := ⟨by decide +kernel, rfl⟩
theorem dX2_papersPreferring_0 : DC cX2_papersPreferring 0 (.iconst 0) 1 1 := ⟨by decide +kernel, rfl⟩
theorem dX2_papersPreferring_1 : DC cX2_papersPreferring 1 (.istore_n 3) 1 2 := ⟨by decide +kernel, rfl⟩
theorem dX2_papersPreferring_2 : DC cX2_papersPreferring 2 (.iconst 0) 1 3 := ⟨by decide +kernel, rfl⟩
theorem dX2_papersPreferring_3 : DC cX2_papersPreferring 3 (.istore 4) 2 5 := ⟨by decide +kernel, rfl⟩
theorem dX2_papersPreferring_5 : DC cX2_papersPreferring 5 (.iload 4) 2 7 := ⟨by decide +kernel, rfl⟩
theorem dX2_papersPreferring_7 : DC cX2_papersPreferring 7 (.aload_n 0) 1 8 := ⟨by decide +kernel, rfl⟩
theorem dX2_papersPreferring_8 : DC cX2_papersPreferring 8 (.getfield 40) 3 11 := ⟨by decide +kernel, rfl⟩
theorem dX2_papersPreferring_11 : DC cX2_papersPreferring 11 (.if_icmp .ge 30) 3 14 := ⟨by decide +kernel, rfl⟩
theorem dX2_papersPreferring_14 : DC cX2_papersPreferring 14 (.aload_n 0) 1 15 := ⟨by decide +kernel, rfl⟩
theorem dX2_papersPreferring_15 : DC cX2_papersPreferring 15 (.iload 4) 2 17 := ⟨by decide +kernel, rfl⟩
theorem dX2_papersPreferring_17 : DC cX2_papersPreferring 17 (.iload_n 1) 1 18 := ⟨by decide +kernel, rfl⟩
theorem dX2_papersPreferring_18 : DC cX2_papersPreferring 18 (.iload_n 2) 1 19 := ⟨by decide +kernel, rfl⟩
theorem dX2_papersPreferring_19 : DC cX2_papersPreferring 19 (.invokevirtual 56) 3 22 := ⟨by decide +kernel, rfl⟩
theorem dX2_papersPreferring_22 : DC cX2_papersPreferring 22 (.ifCond .eq 13) 3 25 := ⟨by decide +kernel, rfl⟩
theorem dX2_papersPreferring_25 : DC cX2_papersPreferring 25 (.iload_n 3) 1 26 := ⟨by decide +kernel, rfl⟩
theorem dX2_papersPreferring_26 : DC cX2_papersPreferring 26 (.aload_n 0) 1 27 := ⟨by decide +kernel, rfl⟩
theorem dX2_papersPreferring_27 : DC cX2_papersPreferring 27 (.getfield 18) 3 30 := ⟨by decide +kernel, rfl⟩
theorem dX2_papersPreferring_30 : DC cX2_papersPreferring 30 (.iload 4) 2 32 := ⟨by decide +kernel, rfl⟩
theorem dX2_papersPreferring_32 : DC cX2_papersPreferring 32 (.iaload) 1 33 := ⟨by decide +kernel, rfl⟩
theorem dX2_papersPreferring_33 : DC cX2_papersPreferring 33 (.iadd) 1 34 := ⟨by decide +kernel, rfl⟩
theorem dX2_papersPreferring_34 : DC cX2_papersPreferring 34 (.istore_n 3) 1 35 := ⟨by decide +kernel, rfl⟩
theorem dX2_papersPreferring_35 : DC cX2_papersPreferring 35 (.iinc 4 1) 3 38 := ⟨by decide +kernel, rfl⟩
theorem dX2_papersPreferring_38 : DC cX2_papersPreferring 38 (.goto (-33)) 3 41 := ⟨by decide +kernel, rfl⟩
theorem dX2_papersPreferring_41 : DC cX2_papersPreferring 41 (.iload_n 3) 1 42 := ⟨by decide +kernel, rfl⟩
theorem dX2_papersPreferring_42 : DC cX2_papersPreferring 42 (.ireturn) 1 43 := ⟨by decide +kernel, rfl⟩
theorem dX2_prefers_0 : DC cX2_prefers 0 (.iconst 0) 1 1 := ⟨by decide +kernel, rfl⟩
theorem dX2_prefers_1 : DC cX2_prefers 1 (.istore 4) 2 3 := ⟨by decide +kernel, rfl⟩
theorem dX2_prefers_3 : DC cX2_prefers 3 (.iload 4) 2 5 := ⟨by decide +kernel, rfl⟩
theorem dX2_prefers_5 : DC cX2_prefers 5 (.aload_n 0) 1 6 := ⟨by decide +kernel, rfl⟩
theorem dX2_prefers_6 : DC cX2_prefers 6 (.getfield 21) 3 9 := ⟨by decide +kernel, rfl⟩
theorem dX2_prefers_9 : DC cX2_prefers 9 (.iload_n 1) 1 10 := ⟨by decide +kernel, rfl⟩
theorem dX2_prefers_10 : DC cX2_prefers 10 (.iaload) 1 11 := ⟨by decide +kernel, rfl⟩
theorem dX2_prefers_11 : DC cX2_prefers 11 (.if_icmp .ge 39) 3 14 := ⟨by decide +kernel, rfl⟩
theorem dX2_prefers_14 : DC cX2_prefers 14 (.aload_n 0) 1 15 := ⟨by decide +kernel, rfl⟩
theorem dX2_prefers_15 : DC cX2_prefers 15 (.getfield 26) 3 18 := ⟨by decide +kernel, rfl⟩
theorem dX2_prefers_18 : DC cX2_prefers 18 (.iload_n 1) 1 19 := ⟨by decide +kernel, rfl⟩
theorem dX2_prefers_19 : DC cX2_prefers 19 (.aaload) 1 20 := ⟨by decide +kernel, rfl⟩
theorem dX2_prefers_20 : DC cX2_prefers 20 (.iload 4) 2 22 := ⟨by decide +kernel, rfl⟩
theorem dX2_prefers_22 : DC cX2_prefers 22 (.iaload) 1 23 := ⟨by decide +kernel, rfl⟩
theorem dX2_prefers_23 : DC cX2_prefers 23 (.iload_n 3) 1 24 := ⟨by decide +kernel, rfl⟩
theorem dX2_prefers_24 : DC cX2_prefers 24 (.if_icmp .ne 5) 3 27 := ⟨by decide +kernel, rfl⟩
theorem dX2_prefers_27 : DC cX2_prefers 27 (.iconst 0) 1 28 := ⟨by decide +kernel, rfl⟩
theorem dX2_prefers_28 : DC cX2_prefers 28 (.ireturn) 1 29 := ⟨by decide +kernel, rfl⟩
theorem dX2_prefers_29 : DC cX2_prefers 29 (.aload_n 0) 1 30 := ⟨by decide +kernel, rfl⟩
theorem dX2_prefers_30 : DC cX2_prefers 30 (.getfield 26) 3 33 := ⟨by decide +kernel, rfl⟩
theorem dX2_prefers_33 : DC cX2_prefers 33 (.iload_n 1) 1 34 := ⟨by decide +kernel, rfl⟩
theorem dX2_prefers_34 : DC cX2_prefers 34 (.aaload) 1 35 := ⟨by decide +kernel, rfl⟩
theorem dX2_prefers_35 : DC cX2_prefers 35 (.iload 4) 2 37 := ⟨by decide +kernel, rfl⟩
theorem dX2_prefers_37 : DC cX2_prefers 37 (.iaload) 1 38 := ⟨by decide +kernel, rfl⟩
theorem dX2_prefers_38 : DC cX2_prefers 38 (.iload_n 2) 1 39 := ⟨by decide +kernel, rfl⟩
theorem dX2_prefers_39 : DC cX2_prefers 39 (.if_icmp .ne 5) 3 42 := ⟨by decide +kernel, rfl⟩
theorem dX2_prefers_42 : DC cX2_prefers 42 (.iconst 1) 1 43 := ⟨by decide +kernel, rfl⟩
theorem dX2_prefers_43 : DC cX2_prefers 43 (.ireturn) 1 44 := ⟨by decide +kernel, rfl⟩
theorem dX2_prefers_44 : DC cX2_prefers 44 (.iinc 4 1) 3 47 := ⟨by decide +kernel, rfl⟩
theorem dX2_prefers_47 : DC cX2_prefers 47 (.goto (-44)) 3 50 := ⟨by decide +kernel, rfl⟩
theorem dX2_prefers_50 : DC cX2_prefers 50 (.iconst 0) 1 51 := ⟨by decide +kernel, rfl⟩
theorem dX2_prefers_51 : DC cX2_prefers 51 (.ireturn) 1 52 := ⟨by decide +kernel, rfl⟩
theorem dX3_init_0 : DC cX3_init 0 (.aload_n 0) 1 1 := ⟨by decide +kernel, rfl⟩
theorem dX3_init_1 : DC cX3_init 1 (.invokespecial 3) 3 4 := ⟨by decide +kernel, rfl⟩
theorem dX3_init_4 : DC cX3_init 4 (.aload_n 0) 1 5 := ⟨by decide +kernel, rfl⟩
theorem dX3_init_5 : DC cX3_init 5 (.bipush 8) 2 7 := ⟨by decide +kernel, rfl⟩
theorem dX3_init_7 : DC cX3_init 7 (.newarray .int) 2 9 := ⟨by decide +kernel, rfl⟩
theorem dX3_init_9 : DC cX3_init 9 (.putfield 9) 3 12 := ⟨by decide +kernel, rfl⟩
theorem dX3_init_12 : DC cX3_init 12 (.aload_n 0) 1 13 := ⟨by decide +kernel, rfl⟩
theorem dX3_init_13 : DC cX3_init 13 (.bipush 8) 2 15 := ⟨by decide +kernel, rfl⟩
theorem dX3_init_15 : DC cX3_init 15 (.newarray .int) 2 17 := ⟨by decide +kernel, rfl⟩
theorem dX3_init_17 : DC cX3_init 17 (.putfield 15) 3 20 := ⟨by decide +kernel, rfl⟩
theorem dX3_init_20 : DC cX3_init 20 (.aload_n 0) 1 21 := ⟨by decide +kernel, rfl⟩
theorem dX3_init_21 : DC cX3_init 21 (.bipush 8) 2 23 := ⟨by decide +kernel, rfl⟩
theorem dX3_init_23 : DC cX3_init 23 (.newarray .int) 2 25 := ⟨by decide +kernel, rfl⟩
theorem dX3_init_25 : DC cX3_init 25 (.putfield 18) 3 28 := ⟨by decide +kernel, rfl⟩
theorem dX3_init_28 : DC cX3_init 28 (.return_) 1 29 := ⟨by decide +kernel, rfl⟩
theorem dX4_init_0 : DC cX4_init 0 (.aload_n 0) 1 1 := ⟨by decide +kernel, rfl⟩
theorem dX4_init_1 : DC cX4_init 1 (.invokespecial 3) 3 4 := ⟨by decide +kernel, rfl⟩
theorem dX4_init_4 : DC cX4_init 4 (.aload_n 0) 1 5 := ⟨by decide +kernel, rfl⟩
theorem dX4_init_5 : DC cX4_init 5 (.bipush 8) 2 7 := ⟨by decide +kernel, rfl⟩
theorem dX4_init_7 : DC cX4_init 7 (.anewarray 9) 3 10 := ⟨by decide +kernel, rfl⟩
theorem dX4_init_10 : DC cX4_init 10 (.putfield 11) 3 13 := ⟨by decide +kernel, rfl⟩
theorem dX4_init_13 : DC cX4_init 13 (.iconst 0) 1 14 := ⟨by decide +kernel, rfl⟩
theorem dX4_init_14 : DC cX4_init 14 (.istore_n 1) 1 15 := ⟨by decide +kernel, rfl⟩
theorem dX4_init_15 : DC cX4_init 15 (.iload_n 1) 1 16 := ⟨by decide +kernel, rfl⟩
theorem dX4_init_16 : DC cX4_init 16 (.bipush 8) 2 18 := ⟨by decide +kernel, rfl⟩
theorem dX4_init_18 : DC cX4_init 18 (.if_icmp .ge 22) 3 21 := ⟨by decide +kernel, rfl⟩
theorem dX4_init_21 : DC cX4_init 21 (.aload_n 0) 1 22 := ⟨by decide +kernel, rfl⟩
theorem dX4_init_22 : DC cX4_init 22 (.getfield 11) 3 25 := ⟨by decide +kernel, rfl⟩
theorem dX4_init_25 : DC cX4_init 25 (.iload_n 1) 1 26 := ⟨by decide +kernel, rfl⟩
theorem dX4_init_26 : DC cX4_init 26 (.new 9) 3 29 := ⟨by decide +kernel, rfl⟩
theorem dX4_init_29 : DC cX4_init 29 (.dup) 1 30 := ⟨by decide +kernel, rfl⟩
theorem dX4_init_30 : DC cX4_init 30 (.invokespecial 17) 3 33 := ⟨by decide +kernel, rfl⟩
theorem dX4_init_33 : DC cX4_init 33 (.aastore) 1 34 := ⟨by decide +kernel, rfl⟩
theorem dX4_init_34 : DC cX4_init 34 (.iinc 1 1) 3 37 := ⟨by decide +kernel, rfl⟩
theorem dX4_init_37 : DC cX4_init 37 (.goto (-22)) 3 40 := ⟨by decide +kernel, rfl⟩
theorem dX4_init_40 : DC cX4_init 40 (.return_) 1 41 := ⟨by decide +kernel, rfl⟩
theorem dX4_forgetAll_0 : DC cX4_forgetAll 0 (.aload_n 0) 1 1 := ⟨by decide +kernel, rfl⟩
theorem dX4_forgetAll_1 : DC cX4_forgetAll 1 (.iconst 0) 1 2 := ⟨by decide +kernel, rfl⟩
theorem dX4_forgetAll_2 : DC cX4_forgetAll 2 (.putfield 18) 3 5 := ⟨by decide +kernel, rfl⟩
theorem dX4_forgetAll_5 : DC cX4_forgetAll 5 (.return_) 1 6 := ⟨by decide +kernel, rfl⟩
theorem dX4_remember_0 : DC cX4_remember 0 (.aload_n 0) 1 1 := ⟨by decide +kernel, rfl⟩
theorem dX4_remember_1 : DC cX4_remember 1 (.getfield 18) 3 4 := ⟨by decide +kernel, rfl⟩
theorem dX4_remember_4 : DC cX4_remember 4 (.bipush 8) 2 6 := ⟨by decide +kernel, rfl⟩
theorem dX4_remember_6 : DC cX4_remember 6 (.if_icmp .lt 7) 3 9 := ⟨by decide +kernel, rfl⟩
theorem dX4_remember_9 : DC cX4_remember 9 (.aload_n 0) 1 10 := ⟨by decide +kernel, rfl⟩
theorem dX4_remember_10 : DC cX4_remember 10 (.invokevirtual 22) 3 13 := ⟨by decide +kernel, rfl⟩
theorem dX4_remember_13 : DC cX4_remember 13 (.aload_n 0) 1 14 := ⟨by decide +kernel, rfl⟩
theorem dX4_remember_14 : DC cX4_remember 14 (.getfield 11) 3 17 := ⟨by decide +kernel, rfl⟩
theorem dX4_remember_17 : DC cX4_remember 17 (.aload_n 0) 1 18 := ⟨by decide +kernel, rfl⟩
theorem dX4_remember_18 : DC cX4_remember 18 (.getfield 18) 3 21 := ⟨by decide +kernel, rfl⟩
theorem dX4_remember_21 : DC cX4_remember 21 (.aaload) 1 22 := ⟨by decide +kernel, rfl⟩
theorem dX4_remember_22 : DC cX4_remember 22 (.astore_n 2) 1 23 := ⟨by decide +kernel, rfl⟩
theorem dX4_remember_23 : DC cX4_remember 23 (.aload_n 2) 1 24 := ⟨by decide +kernel, rfl⟩
theorem dX4_remember_24 : DC cX4_remember 24 (.ifnull 18) 3 27 := ⟨by decide +kernel, rfl⟩
theorem dX4_remember_27 : DC cX4_remember 27 (.aload_n 2) 1 28 := ⟨by decide +kernel, rfl⟩
theorem dX4_remember_28 : DC cX4_remember 28 (.aload_n 1) 1 29 := ⟨by decide +kernel, rfl⟩
theorem dX4_remember_29 : DC cX4_remember 29 (.invokevirtual 25) 3 32 := ⟨by decide +kernel, rfl⟩
theorem dX4_remember_32 : DC cX4_remember 32 (.aload_n 0) 1 33 := ⟨by decide +kernel, rfl⟩
theorem dX4_remember_33 : DC cX4_remember 33 (.dup) 1 34 := ⟨by decide +kernel, rfl⟩
theorem dX4_remember_34 : DC cX4_remember 34 (.getfield 18) 3 37 := ⟨by decide +kernel, rfl⟩
theorem dX4_remember_37 : DC cX4_remember 37 (.iconst 1) 1 38 := ⟨by decide +kernel, rfl⟩
theorem dX4_remember_38 : DC cX4_remember 38 (.iadd) 1 39 := ⟨by decide +kernel, rfl⟩
theorem dX4_remember_39 : DC cX4_remember 39 (.putfield 18) 3 42 := ⟨by decide +kernel, rfl⟩
theorem dX4_remember_42 : DC cX4_remember 42 (.return_) 1 43 := ⟨by decide +kernel, rfl⟩
theorem dX4_takeBack_0 : DC cX4_takeBack 0 (.aload_n 0) 1 1 := ⟨by decide +kernel, rfl⟩
theorem dX4_takeBack_1 : DC cX4_takeBack 1 (.getfield 18) 3 4 := ⟨by decide +kernel, rfl⟩
theorem dX4_takeBack_4 : DC cX4_takeBack 4 (.ifCond .gt 4) 3 7 := ⟨by decide +kernel, rfl⟩
theorem dX4_takeBack_7 : DC cX4_takeBack 7 (.return_) 1 8 := ⟨by decide +kernel, rfl⟩
theorem dX4_takeBack_8 : DC cX4_takeBack 8 (.aload_n 0) 1 9 := ⟨by decide +kernel, rfl⟩
theorem dX4_takeBack_9 : DC cX4_takeBack 9 (.dup) 1 10 := ⟨by decide +kernel, rfl⟩
theorem dX4_takeBack_10 : DC cX4_takeBack 10 (.getfield 18) 3 13 := ⟨by decide +kernel, rfl⟩
theorem dX4_takeBack_13 : DC cX4_takeBack 13 (.iconst 1) 1 14 := ⟨by decide +kernel, rfl⟩
theorem dX4_takeBack_14 : DC cX4_takeBack 14 (.isub) 1 15 := ⟨by decide +kernel, rfl⟩
theorem dX4_takeBack_15 : DC cX4_takeBack 15 (.putfield 18) 3 18 := ⟨by decide +kernel, rfl⟩
theorem dX4_takeBack_18 : DC cX4_takeBack 18 (.aload_n 0) 1 19 := ⟨by decide +kernel, rfl⟩
theorem dX4_takeBack_19 : DC cX4_takeBack 19 (.getfield 11) 3 22 := ⟨by decide +kernel, rfl⟩
theorem dX4_takeBack_22 : DC cX4_takeBack 22 (.aload_n 0) 1 23 := ⟨by decide +kernel, rfl⟩
theorem dX4_takeBack_23 : DC cX4_takeBack 23 (.getfield 18) 3 26 := ⟨by decide +kernel, rfl⟩
theorem dX4_takeBack_26 : DC cX4_takeBack 26 (.aaload) 1 27 := ⟨by decide +kernel, rfl⟩
theorem dX4_takeBack_27 : DC cX4_takeBack 27 (.astore_n 2) 1 28 := ⟨by decide +kernel, rfl⟩
theorem dX4_takeBack_28 : DC cX4_takeBack 28 (.aload_n 2) 1 29 := ⟨by decide +kernel, rfl⟩
theorem dX4_takeBack_29 : DC cX4_takeBack 29 (.ifnull 8) 3 32 := ⟨by decide +kernel, rfl⟩
theorem dX4_takeBack_32 : DC cX4_takeBack 32 (.aload_n 1) 1 33 := ⟨by decide +kernel, rfl⟩
theorem dX4_takeBack_33 : DC cX4_takeBack 33 (.aload_n 2) 1 34 := ⟨by decide +kernel, rfl⟩
theorem dX4_takeBack_34 : DC cX4_takeBack 34 (.invokevirtual 25) 3 37 := ⟨by decide +kernel, rfl⟩
theorem dX4_takeBack_37 : DC cX4_takeBack 37 (.return_) 1 38 := ⟨by decide +kernel, rfl⟩
theorem dX4_forgetOldest_0 : DC cX4_forgetOldest 0 (.aload_n 0) 1 1 := ⟨by decide +kernel, rfl⟩
theorem dX4_forgetOldest_1 : DC cX4_forgetOldest 1 (.getfield 11) 3 4 := ⟨by decide +kernel, rfl⟩
theorem dX4_forgetOldest_4 : DC cX4_forgetOldest 4 (.iconst 0) 1 5 := ⟨by decide +kernel, rfl⟩
theorem dX4_forgetOldest_5 : DC cX4_forgetOldest 5 (.aaload) 1 6 := ⟨by decide +kernel, rfl⟩
theorem dX4_forgetOldest_6 : DC cX4_forgetOldest 6 (.astore_n 1) 1 7 := ⟨by decide +kernel, rfl⟩
theorem dX4_forgetOldest_7 : DC cX4_forgetOldest 7 (.iconst 1) 1 8 := ⟨by decide +kernel, rfl⟩
theorem dX4_forgetOldest_8 : DC cX4_forgetOldest 8 (.istore_n 2) 1 9 := ⟨by decide +kernel, rfl⟩
theorem dX4_forgetOldest_9 : DC cX4_forgetOldest 9 (.iload_n 2) 1 10 := ⟨by decide +kernel, rfl⟩
theorem dX4_forgetOldest_10 : DC cX4_forgetOldest 10 (.bipush 8) 2 12 := ⟨by decide +kernel, rfl⟩
theorem dX4_forgetOldest_12 : DC cX4_forgetOldest 12 (.if_icmp .ge 23) 3 15 := ⟨by decide +kernel, rfl⟩
theorem dX4_forgetOldest_15 : DC cX4_forgetOldest 15 (.aload_n 0) 1 16 := ⟨by decide +kernel, rfl⟩
theorem dX4_forgetOldest_16 : DC cX4_forgetOldest 16 (.getfield 11) 3 19 := ⟨by decide +kernel, rfl⟩
theorem dX4_forgetOldest_19 : DC cX4_forgetOldest 19 (.iload_n 2) 1 20 := ⟨by decide +kernel, rfl⟩
theorem dX4_forgetOldest_20 : DC cX4_forgetOldest 20 (.iconst 1) 1 21 := ⟨by decide +kernel, rfl⟩
theorem dX4_forgetOldest_21 : DC cX4_forgetOldest 21 (.isub) 1 22 := ⟨by decide +kernel, rfl⟩
theorem dX4_forgetOldest_22 : DC cX4_forgetOldest 22 (.aload_n 0) 1 23 := ⟨by decide +kernel, rfl⟩
theorem dX4_forgetOldest_23 : DC cX4_forgetOldest 23 (.getfield 11) 3 26 := ⟨by decide +kernel, rfl⟩
theorem dX4_forgetOldest_26 : DC cX4_forgetOldest 26 (.iload_n 2) 1 27 := ⟨by decide +kernel, rfl⟩
theorem dX4_forgetOldest_27 : DC cX4_forgetOldest 27 (.aaload) 1 28 := ⟨by decide +kernel, rfl⟩
theorem dX4_forgetOldest_28 : DC cX4_forgetOldest 28 (.aastore) 1 29 := ⟨by decide +kernel, rfl⟩
theorem dX4_forgetOldest_29 : DC cX4_forgetOldest 29 (.iinc 2 1) 3 32 := ⟨by decide +kernel, rfl⟩
theorem dX4_forgetOldest_32 : DC cX4_forgetOldest 32 (.goto (-23)) 3 35 := ⟨by decide +kernel, rfl⟩
theorem dX4_forgetOldest_35 : DC cX4_forgetOldest 35 (.aload_n 0) 1 36 := ⟨by decide +kernel, rfl⟩
theorem dX4_forgetOldest_36 : DC cX4_forgetOldest 36 (.getfield 11) 3 39 := ⟨by decide +kernel, rfl⟩
theorem dX4_forgetOldest_39 : DC cX4_forgetOldest 39 (.bipush 7) 2 41 := ⟨by decide +kernel, rfl⟩
theorem dX4_forgetOldest_41 : DC cX4_forgetOldest 41 (.aload_n 1) 1 42 := ⟨by decide +kernel, rfl⟩
theorem dX4_forgetOldest_42 : DC cX4_forgetOldest 42 (.aastore) 1 43 := ⟨by decide +kernel, rfl⟩
theorem dX4_forgetOldest_43 : DC cX4_forgetOldest 43 (.aload_n 0) 1 44 := ⟨by decide +kernel, rfl⟩
theorem dX4_forgetOldest_44 : DC cX4_forgetOldest 44 (.bipush 7) 2 46 := ⟨by decide +kernel, rfl⟩
theorem dX4_forgetOldest_46 : DC cX4_forgetOldest 46 (.putfield 18) 3 49 := ⟨by decide +kernel, rfl⟩
theorem dX4_forgetOldest_49 : DC cX4_forgetOldest 49 (.return_) 1 50 := ⟨by decide +kernel, rfl⟩
theorem dX5_init_0 : DC cX5_init 0 (.aload_n 0) 1 1 := ⟨by decide +kernel, rfl⟩
theorem dX5_init_1 : DC cX5_init 1 (.invokespecial 3) 3 4 := ⟨by decide +kernel, rfl⟩
theorem dX5_init_4 : DC cX5_init 4 (.aload_n 0) 1 5 := ⟨by decide +kernel, rfl⟩
theorem dX5_init_5 : DC cX5_init 5 (.bipush 8) 2 7 := ⟨by decide +kernel, rfl⟩
theorem dX5_init_7 : DC cX5_init 7 (.newarray .int) 2 9 := ⟨by decide +kernel, rfl⟩
theorem dX5_init_9 : DC cX5_init 9 (.putfield 9) 3 12 := ⟨by decide +kernel, rfl⟩
theorem dX5_init_12 : DC cX5_init 12 (.aload_n 0) 1 13 := ⟨by decide +kernel, rfl⟩
theorem dX5_init_13 : DC cX5_init 13 (.bipush 8) 2 15 := ⟨by decide +kernel, rfl⟩
theorem dX5_init_15 : DC cX5_init 15 (.newarray .int) 2 17 := ⟨by decide +kernel, rfl⟩
theorem dX5_init_17 : DC cX5_init 17 (.putfield 15) 3 20 := ⟨by decide +kernel, rfl⟩
theorem dX5_init_20 : DC cX5_init 20 (.aload_n 0) 1 21 := ⟨by decide +kernel, rfl⟩
theorem dX5_init_21 : DC cX5_init 21 (.bipush 9) 2 23 := ⟨by decide +kernel, rfl⟩
theorem dX5_init_23 : DC cX5_init 23 (.bipush 8) 2 25 := ⟨by decide +kernel, rfl⟩
theorem dX5_init_25 : DC cX5_init 25 (.multianewarray 18 2) 4 29 := ⟨by decide +kernel, rfl⟩
theorem dX5_init_29 : DC cX5_init 29 (.putfield 20) 3 32 := ⟨by decide +kernel, rfl⟩
theorem dX5_init_32 : DC cX5_init 32 (.return_) 1 33 := ⟨by decide +kernel, rfl⟩
theorem dX5_copyFrom_0 : DC cX5_copyFrom 0 (.aload_n 0) 1 1 := ⟨by decide +kernel, rfl⟩
theorem dX5_copyFrom_1 : DC cX5_copyFrom 1 (.aload_n 1) 1 2 := ⟨by decide +kernel, rfl⟩
theorem dX5_copyFrom_2 : DC cX5_copyFrom 2 (.getfield 23) 3 5 := ⟨by decide +kernel, rfl⟩
theorem dX5_copyFrom_5 : DC cX5_copyFrom 5 (.putfield 23) 3 8 := ⟨by decide +kernel, rfl⟩
theorem dX5_copyFrom_8 : DC cX5_copyFrom 8 (.aload_n 0) 1 9 := ⟨by decide +kernel, rfl⟩
theorem dX5_copyFrom_9 : DC cX5_copyFrom 9 (.aload_n 1) 1 10 := ⟨by decide +kernel, rfl⟩
theorem dX5_copyFrom_10 : DC cX5_copyFrom 10 (.getfield 27) 3 13 := ⟨by decide +kernel, rfl⟩
theorem dX5_copyFrom_13 : DC cX5_copyFrom 13 (.putfield 27) 3 16 := ⟨by decide +kernel, rfl⟩
theorem dX5_copyFrom_16 : DC cX5_copyFrom 16 (.aload_n 1) 1 17 := ⟨by decide +kernel, rfl⟩
theorem dX5_copyFrom_17 : DC cX5_copyFrom 17 (.getfield 9) 3 20 := ⟨by decide +kernel, rfl⟩
theorem dX5_copyFrom_20 : DC cX5_copyFrom 20 (.iconst 0) 1 21 := ⟨by decide +kernel, rfl⟩
theorem dX5_copyFrom_21 : DC cX5_copyFrom 21 (.aload_n 0) 1 22 := ⟨by decide +kernel, rfl⟩
theorem dX5_copyFrom_22 : DC cX5_copyFrom 22 (.getfield 9) 3 25 := ⟨by decide +kernel, rfl⟩
theorem dX5_copyFrom_25 : DC cX5_copyFrom 25 (.iconst 0) 1 26 := ⟨by decide +kernel, rfl⟩
theorem dX5_copyFrom_26 : DC cX5_copyFrom 26 (.bipush 8) 2 28 := ⟨by decide +kernel, rfl⟩
theorem dX5_copyFrom_28 : DC cX5_copyFrom 28 (.invokestatic 30) 3 31 := ⟨by decide +kernel, rfl⟩
theorem dX5_copyFrom_31 : DC cX5_copyFrom 31 (.aload_n 1) 1 32 := ⟨by decide +kernel, rfl⟩
theorem dX5_copyFrom_32 : DC cX5_copyFrom 32 (.getfield 15) 3 35 := ⟨by decide +kernel, rfl⟩
theorem dX5_copyFrom_35 : DC cX5_copyFrom 35 (.iconst 0) 1 36 := ⟨by decide +kernel, rfl⟩
theorem dX5_copyFrom_36 : DC cX5_copyFrom 36 (.aload_n 0) 1 37 := ⟨by decide +kernel, rfl⟩
theorem dX5_copyFrom_37 : DC cX5_copyFrom 37 (.getfield 15) 3 40 := ⟨by decide +kernel, rfl⟩
theorem dX5_copyFrom_40 : DC cX5_copyFrom 40 (.iconst 0) 1 41 := ⟨by decide +kernel, rfl⟩
theorem dX5_copyFrom_41 : DC cX5_copyFrom 41 (.bipush 8) 2 43 := ⟨by decide +kernel, rfl⟩
theorem dX5_copyFrom_43 : DC cX5_copyFrom 43 (.invokestatic 30) 3 46 := ⟨by decide +kernel, rfl⟩
theorem dX5_copyFrom_46 : DC cX5_copyFrom 46 (.iconst 0) 1 47 := ⟨by decide +kernel, rfl⟩
theorem dX5_copyFrom_47 : DC cX5_copyFrom 47 (.istore_n 2) 1 48 := ⟨by decide +kernel, rfl⟩
theorem dX5_copyFrom_48 : DC cX5_copyFrom 48 (.iload_n 2) 1 49 := ⟨by decide +kernel, rfl⟩
theorem dX5_copyFrom_49 : DC cX5_copyFrom 49 (.bipush 9) 2 51 := ⟨by decide +kernel, rfl⟩
theorem dX5_copyFrom_51 : DC cX5_copyFrom 51 (.if_icmp .ge 28) 3 54 := ⟨by decide +kernel, rfl⟩
theorem dX5_copyFrom_54 : DC cX5_copyFrom 54 (.aload_n 1) 1 55 := ⟨by decide +kernel, rfl⟩
theorem dX5_copyFrom_55 : DC cX5_copyFrom 55 (.getfield 20) 3 58 := ⟨by decide +kernel, rfl⟩
theorem dX5_copyFrom_58 : DC cX5_copyFrom 58 (.iload_n 2) 1 59 := ⟨by decide +kernel, rfl⟩
theorem dX5_copyFrom_59 : DC cX5_copyFrom 59 (.aaload) 1 60 := ⟨by decide +kernel, rfl⟩
theorem dX5_copyFrom_60 : DC cX5_copyFrom 60 (.iconst 0) 1 61 := ⟨by decide +kernel, rfl⟩
theorem dX5_copyFrom_61 : DC cX5_copyFrom 61 (.aload_n 0) 1 62 := ⟨by decide +kernel, rfl⟩
theorem dX5_copyFrom_62 : DC cX5_copyFrom 62 (.getfield 20) 3 65 := ⟨by decide +kernel, rfl⟩
theorem dX5_copyFrom_65 : DC cX5_copyFrom 65 (.iload_n 2) 1 66 := ⟨by decide +kernel, rfl⟩
theorem dX5_copyFrom_66 : DC cX5_copyFrom 66 (.aaload) 1 67 := ⟨by decide +kernel, rfl⟩
theorem dX5_copyFrom_67 : DC cX5_copyFrom 67 (.iconst 0) 1 68 := ⟨by decide +kernel, rfl⟩
theorem dX5_copyFrom_68 : DC cX5_copyFrom 68 (.bipush 8) 2 70 := ⟨by decide +kernel, rfl⟩
theorem dX5_copyFrom_70 : DC cX5_copyFrom 70 (.invokestatic 30) 3 73 := ⟨by decide +kernel, rfl⟩
theorem dX5_copyFrom_73 : DC cX5_copyFrom 73 (.iinc 2 1) 3 76 := ⟨by decide +kernel, rfl⟩
theorem dX5_copyFrom_76 : DC cX5_copyFrom 76 (.goto (-28)) 3 79 := ⟨by decide +kernel, rfl⟩
theorem dX5_copyFrom_79 : DC cX5_copyFrom 79 (.return_) 1 80 := ⟨by decide +kernel, rfl⟩
theorem dX5_hasRound_0 : DC cX5_hasRound 0 (.iload_n 1) 1 1 := ⟨by decide +kernel, rfl⟩
theorem dX5_hasRound_1 : DC cX5_hasRound 1 (.ifCond .lt 15) 3 4 := ⟨by decide +kernel, rfl⟩
theorem dX5_hasRound_4 : DC cX5_hasRound 4 (.iload_n 1) 1 5 := ⟨by decide +kernel, rfl⟩
theorem dX5_hasRound_5 : DC cX5_hasRound 5 (.aload_n 0) 1 6 := ⟨by decide +kernel, rfl⟩
theorem dX5_hasRound_6 : DC cX5_hasRound 6 (.getfield 23) 3 9 := ⟨by decide +kernel, rfl⟩
theorem dX5_hasRound_9 : DC cX5_hasRound 9 (.if_icmp .ge 7) 3 12 := ⟨by decide +kernel, rfl⟩
theorem dX5_hasRound_12 : DC cX5_hasRound 12 (.iconst 1) 1 13 := ⟨by decide +kernel, rfl⟩
theorem dX5_hasRound_13 : DC cX5_hasRound 13 (.goto 4) 3 16 := ⟨by decide +kernel, rfl⟩
theorem dX5_hasRound_16 : DC cX5_hasRound 16 (.iconst 0) 1 17 := ⟨by decide +kernel, rfl⟩
theorem dX5_hasRound_17 : DC cX5_hasRound 17 (.ireturn) 1 18 := ⟨by decide +kernel, rfl⟩
theorem dX5_placeOf_0 : DC cX5_placeOf 0 (.iconst 0) 1 1 := ⟨by decide +kernel, rfl⟩
theorem dX5_placeOf_1 : DC cX5_placeOf 1 (.istore_n 2) 1 2 := ⟨by decide +kernel, rfl⟩
theorem dX5_placeOf_2 : DC cX5_placeOf 2 (.iload_n 2) 1 3 := ⟨by decide +kernel, rfl⟩
theorem dX5_placeOf_3 : DC cX5_placeOf 3 (.aload_n 0) 1 4 := ⟨by decide +kernel, rfl⟩
theorem dX5_placeOf_4 : DC cX5_placeOf 4 (.getfield 27) 3 7 := ⟨by decide +kernel, rfl⟩
theorem dX5_placeOf_7 : DC cX5_placeOf 7 (.if_icmp .ge 21) 3 10 := ⟨by decide +kernel, rfl⟩
theorem dX5_placeOf_10 : DC cX5_placeOf 10 (.aload_n 0) 1 11 := ⟨by decide +kernel, rfl⟩
theorem dX5_placeOf_11 : DC cX5_placeOf 11 (.getfield 9) 3 14 := ⟨by decide +kernel, rfl⟩
theorem dX5_placeOf_14 : DC cX5_placeOf 14 (.iload_n 2) 1 15 := ⟨by decide +kernel, rfl⟩
theorem dX5_placeOf_15 : DC cX5_placeOf 15 (.iaload) 1 16 := ⟨by decide +kernel, rfl⟩
theorem dX5_placeOf_16 : DC cX5_placeOf 16 (.iload_n 1) 1 17 := ⟨by decide +kernel, rfl⟩
theorem dX5_placeOf_17 : DC cX5_placeOf 17 (.if_icmp .ne 5) 3 20 := ⟨by decide +kernel, rfl⟩
theorem dX5_placeOf_20 : DC cX5_placeOf 20 (.iload_n 2) 1 21 := ⟨by decide +kernel, rfl⟩
theorem dX5_placeOf_21 : DC cX5_placeOf 21 (.ireturn) 1 22 := ⟨by decide +kernel, rfl⟩
theorem dX5_placeOf_22 : DC cX5_placeOf 22 (.iinc 2 1) 3 25 := ⟨by decide +kernel, rfl⟩
theorem dX5_placeOf_25 : DC cX5_placeOf 25 (.goto (-23)) 3 28 := ⟨by decide +kernel, rfl⟩
theorem dX5_placeOf_28 : DC cX5_placeOf 28 (.iconst (-1)) 1 29 := ⟨by decide +kernel, rfl⟩
theorem dX5_placeOf_29 : DC cX5_placeOf 29 (.ireturn) 1 30 := ⟨by decide +kernel, rfl⟩
theorem dX5_lastVotes_0 : DC cX5_lastVotes 0 (.aload_n 0) 1 1 := ⟨by decide +kernel, rfl⟩
theorem dX5_lastVotes_1 : DC cX5_lastVotes 1 (.getfield 23) 3 4 := ⟨by decide +kernel, rfl⟩
theorem dX5_lastVotes_4 : DC cX5_lastVotes 4 (.ifCond .le 19) 3 7 := ⟨by decide +kernel, rfl⟩
theorem dX5_lastVotes_7 : DC cX5_lastVotes 7 (.aload_n 0) 1 8 := ⟨by decide +kernel, rfl⟩
theorem dX5_lastVotes_8 : DC cX5_lastVotes 8 (.getfield 20) 3 11 := ⟨by decide +kernel, rfl⟩
theorem dX5_lastVotes_11 : DC cX5_lastVotes 11 (.aload_n 0) 1 12 := ⟨by decide +kernel, rfl⟩
theorem dX5_lastVotes_12 : DC cX5_lastVotes 12 (.getfield 23) 3 15 := ⟨by decide +kernel, rfl⟩
theorem dX5_lastVotes_15 : DC cX5_lastVotes 15 (.iconst 1) 1 16 := ⟨by decide +kernel, rfl⟩
theorem dX5_lastVotes_16 : DC cX5_lastVotes 16 (.isub) 1 17 := ⟨by decide +kernel, rfl⟩
theorem dX5_lastVotes_17 : DC cX5_lastVotes 17 (.aaload) 1 18 := ⟨by decide +kernel, rfl⟩
theorem dX5_lastVotes_18 : DC cX5_lastVotes 18 (.iload_n 1) 1 19 := ⟨by decide +kernel, rfl⟩
theorem dX5_lastVotes_19 : DC cX5_lastVotes 19 (.iaload) 1 20 := ⟨by decide +kernel, rfl⟩
theorem dX5_lastVotes_20 : DC cX5_lastVotes 20 (.goto 4) 3 23 := ⟨by decide +kernel, rfl⟩
theorem dX5_lastVotes_23 : DC cX5_lastVotes 23 (.iconst 0) 1 24 := ⟨by decide +kernel, rfl⟩
theorem dX5_lastVotes_24 : DC cX5_lastVotes 24 (.ireturn) 1 25 := ⟨by decide +kernel, rfl⟩
theorem dX5_otherStatuses_0 : DC cX5_otherStatuses 0 (.iconst 0) 1 1 := ⟨by decide +kernel, rfl⟩
theorem dX5_otherStatuses_1 : DC cX5_otherStatuses 1 (.istore_n 3) 1 2 := ⟨by decide +kernel, rfl⟩
theorem dX5_otherStatuses_2 : DC cX5_otherStatuses 2 (.iconst 0) 1 3 := ⟨by decide +kernel, rfl⟩
theorem dX5_otherStatuses_3 : DC cX5_otherStatuses 3 (.istore 4) 2 5 := ⟨by decide +kernel, rfl⟩
theorem dX5_otherStatuses_5 : DC cX5_otherStatuses 5 (.iload 4) 2 7 := ⟨by decide +kernel, rfl⟩
theorem dX5_otherStatuses_7 : DC cX5_otherStatuses 7 (.iload_n 2) 1 8 := ⟨by decide +kernel, rfl⟩
theorem dX5_otherStatuses_8 : DC cX5_otherStatuses 8 (.if_icmp .ge 29) 3 11 := ⟨by decide +kernel, rfl⟩
theorem dX5_otherStatuses_11 : DC cX5_otherStatuses 11 (.aload_n 0) 1 12 := ⟨by decide +kernel, rfl⟩
theorem dX5_otherStatuses_12 : DC cX5_otherStatuses 12 (.getfield 15) 3 15 := ⟨by decide +kernel, rfl⟩
theorem dX5_otherStatuses_15 : DC cX5_otherStatuses 15 (.iload 4) 2 17 := ⟨by decide +kernel, rfl⟩
theorem dX5_otherStatuses_17 : DC cX5_otherStatuses 17 (.iaload) 1 18 := ⟨by decide +kernel, rfl⟩
theorem dX5_otherStatuses_18 : DC cX5_otherStatuses 18 (.aload_n 1) 1 19 := ⟨by decide +kernel, rfl⟩
theorem dX5_otherStatuses_19 : DC cX5_otherStatuses 19 (.getfield 15) 3 22 := ⟨by decide +kernel, rfl⟩
theorem dX5_otherStatuses_22 : DC cX5_otherStatuses 22 (.iload 4) 2 24 := ⟨by decide +kernel, rfl⟩
theorem dX5_otherStatuses_24 : DC cX5_otherStatuses 24 (.iaload) 1 25 := ⟨by decide +kernel, rfl⟩
theorem dX5_otherStatuses_25 : DC cX5_otherStatuses 25 (.if_icmp .eq 6) 3 28 := ⟨by decide +kernel, rfl⟩
theorem dX5_otherStatuses_28 : DC cX5_otherStatuses 28 (.iinc 3 1) 3 31 := ⟨by decide +kernel, rfl⟩
theorem dX5_otherStatuses_31 : DC cX5_otherStatuses 31 (.iinc 4 1) 3 34 := ⟨by decide +kernel, rfl⟩
theorem dX5_otherStatuses_34 : DC cX5_otherStatuses 34 (.goto (-29)) 3 37 := ⟨by decide +kernel, rfl⟩
theorem dX5_otherStatuses_37 : DC cX5_otherStatuses 37 (.iload_n 3) 1 38 := ⟨by decide +kernel, rfl⟩
theorem dX5_otherStatuses_38 : DC cX5_otherStatuses 38 (.ireturn) 1 39 := ⟨by decide +kernel, rfl⟩
theorem dX5_firstOtherPlace_0 : DC cX5_firstOtherPlace 0 (.aload_n 0) 1 1 := ⟨by decide +kernel, rfl⟩
theorem dX5_firstOtherPlace_1 : DC cX5_firstOtherPlace 1 (.getfield 27) 3 4 := ⟨by decide +kernel, rfl⟩
theorem dX5_firstOtherPlace_4 : DC cX5_firstOtherPlace 4 (.aload_n 1) 1 5 := ⟨by decide +kernel, rfl⟩
theorem dX5_firstOtherPlace_5 : DC cX5_firstOtherPlace 5 (.getfield 27) 3 8 := ⟨by decide +kernel, rfl⟩
theorem dX5_firstOtherPlace_8 : DC cX5_firstOtherPlace 8 (.invokestatic 36) 3 11 := ⟨by decide +kernel, rfl⟩
theorem dX5_firstOtherPlace_11 : DC cX5_firstOtherPlace 11 (.istore_n 2) 1 12 := ⟨by decide +kernel, rfl⟩
theorem dX5_firstOtherPlace_12 : DC cX5_firstOtherPlace 12 (.iconst 0) 1 13 := ⟨by decide +kernel, rfl⟩
theorem dX5_firstOtherPlace_13 : DC cX5_firstOtherPlace 13 (.istore_n 3) 1 14 := ⟨by decide +kernel, rfl⟩
theorem dX5_firstOtherPlace_14 : DC cX5_firstOtherPlace 14 (.iload_n 3) 1 15 := ⟨by decide +kernel, rfl⟩
theorem dX5_firstOtherPlace_15 : DC cX5_firstOtherPlace 15 (.iload_n 2) 1 16 := ⟨by decide +kernel, rfl⟩
theorem dX5_firstOtherPlace_16 : DC cX5_firstOtherPlace 16 (.if_icmp .ge 26) 3 19 := ⟨by decide +kernel, rfl⟩
theorem dX5_firstOtherPlace_19 : DC cX5_firstOtherPlace 19 (.aload_n 0) 1 20 := ⟨by decide +kernel, rfl⟩
theorem dX5_firstOtherPlace_20 : DC cX5_firstOtherPlace 20 (.getfield 9) 3 23 := ⟨by decide +kernel, rfl⟩
theorem dX5_firstOtherPlace_23 : DC cX5_firstOtherPlace 23 (.iload_n 3) 1 24 := ⟨by decide +kernel, rfl⟩
theorem dX5_firstOtherPlace_24 : DC cX5_firstOtherPlace 24 (.iaload) 1 25 := ⟨by decide +kernel, rfl⟩
theorem dX5_firstOtherPlace_25 : DC cX5_firstOtherPlace 25 (.aload_n 1) 1 26 := ⟨by decide +kernel, rfl⟩
theorem dX5_firstOtherPlace_26 : DC cX5_firstOtherPlace 26 (.getfield 9) 3 29 := ⟨by decide +kernel, rfl⟩
theorem dX5_firstOtherPlace_29 : DC cX5_firstOtherPlace 29 (.iload_n 3) 1 30 := ⟨by decide +kernel, rfl⟩
theorem dX5_firstOtherPlace_30 : DC cX5_firstOtherPlace 30 (.iaload) 1 31 := ⟨by decide +kernel, rfl⟩
theorem dX5_firstOtherPlace_31 : DC cX5_firstOtherPlace 31 (.if_icmp .eq 5) 3 34 := ⟨by decide +kernel, rfl⟩
theorem dX5_firstOtherPlace_34 : DC cX5_firstOtherPlace 34 (.iload_n 3) 1 35 := ⟨by decide +kernel, rfl⟩
theorem dX5_firstOtherPlace_35 : DC cX5_firstOtherPlace 35 (.ireturn) 1 36 := ⟨by decide +kernel, rfl⟩
theorem dX5_firstOtherPlace_36 : DC cX5_firstOtherPlace 36 (.iinc 3 1) 3 39 := ⟨by decide +kernel, rfl⟩
theorem dX5_firstOtherPlace_39 : DC cX5_firstOtherPlace 39 (.goto (-25)) 3 42 := ⟨by decide +kernel, rfl⟩
theorem dX5_firstOtherPlace_42 : DC cX5_firstOtherPlace 42 (.aload_n 0) 1 43 := ⟨by decide +kernel, rfl⟩
theorem dX5_firstOtherPlace_43 : DC cX5_firstOtherPlace 43 (.getfield 27) 3 46 := ⟨by decide +kernel, rfl⟩
theorem dX5_firstOtherPlace_46 : DC cX5_firstOtherPlace 46 (.aload_n 1) 1 47 := ⟨by decide +kernel, rfl⟩
theorem dX5_firstOtherPlace_47 : DC cX5_firstOtherPlace 47 (.getfield 27) 3 50 := ⟨by decide +kernel, rfl⟩
theorem dX5_firstOtherPlace_50 : DC cX5_firstOtherPlace 50 (.if_icmp .ne 7) 3 53 := ⟨by decide +kernel, rfl⟩
theorem dX5_firstOtherPlace_53 : DC cX5_firstOtherPlace 53 (.iconst (-1)) 1 54 := ⟨by decide +kernel, rfl⟩
theorem dX5_firstOtherPlace_54 : DC cX5_firstOtherPlace 54 (.goto 4) 3 57 := ⟨by decide +kernel, rfl⟩
theorem dX5_firstOtherPlace_57 : DC cX5_firstOtherPlace 57 (.iload_n 2) 1 58 := ⟨by decide +kernel, rfl⟩
theorem dX5_firstOtherPlace_58 : DC cX5_firstOtherPlace 58 (.ireturn) 1 59 := ⟨by decide +kernel, rfl⟩
theorem dX5_firstOtherRound_0 : DC cX5_firstOtherRound 0 (.aload_n 0) 1 1 := ⟨by decide +kernel, rfl⟩
theorem dX5_firstOtherRound_1 : DC cX5_firstOtherRound 1 (.getfield 23) 3 4 := ⟨by decide +kernel, rfl⟩
theorem dX5_firstOtherRound_4 : DC cX5_firstOtherRound 4 (.aload_n 1) 1 5 := ⟨by decide +kernel, rfl⟩
theorem dX5_firstOtherRound_5 : DC cX5_firstOtherRound 5 (.getfield 23) 3 8 := ⟨by decide +kernel, rfl⟩
theorem dX5_firstOtherRound_8 : DC cX5_firstOtherRound 8 (.invokestatic 36) 3 11 := ⟨by decide +kernel, rfl⟩
theorem dX5_firstOtherRound_11 : DC cX5_firstOtherRound 11 (.istore_n 3) 1 12 := ⟨by decide +kernel, rfl⟩
theorem dX5_firstOtherRound_12 : DC cX5_firstOtherRound 12 (.iconst 0) 1 13 := ⟨by decide +kernel, rfl⟩
theorem dX5_firstOtherRound_13 : DC cX5_firstOtherRound 13 (.istore 4) 2 15 := ⟨by decide +kernel, rfl⟩
theorem dX5_firstOtherRound_15 : DC cX5_firstOtherRound 15 (.iload 4) 2 17 := ⟨by decide +kernel, rfl⟩
theorem dX5_firstOtherRound_17 : DC cX5_firstOtherRound 17 (.iload_n 3) 1 18 := ⟨by decide +kernel, rfl⟩
theorem dX5_firstOtherRound_18 : DC cX5_firstOtherRound 18 (.if_icmp .ge 50) 3 21 := ⟨by decide +kernel, rfl⟩
theorem dX5_firstOtherRound_21 : DC cX5_firstOtherRound 21 (.iconst 0) 1 22 := ⟨by decide +kernel, rfl⟩
theorem dX5_firstOtherRound_22 : DC cX5_firstOtherRound 22 (.istore 5) 2 24 := ⟨by decide +kernel, rfl⟩
theorem dX5_firstOtherRound_24 : DC cX5_firstOtherRound 24 (.iload 5) 2 26 := ⟨by decide +kernel, rfl⟩
theorem dX5_firstOtherRound_26 : DC cX5_firstOtherRound 26 (.iload_n 2) 1 27 := ⟨by decide +kernel, rfl⟩
theorem dX5_firstOtherRound_27 : DC cX5_firstOtherRound 27 (.if_icmp .ge 35) 3 30 := ⟨by decide +kernel, rfl⟩
theorem dX5_firstOtherRound_30 : DC cX5_firstOtherRound 30 (.aload_n 0) 1 31 := ⟨by decide +kernel, rfl⟩
theorem dX5_firstOtherRound_31 : DC cX5_firstOtherRound 31 (.getfield 20) 3 34 := ⟨by decide +kernel, rfl⟩
theorem dX5_firstOtherRound_34 : DC cX5_firstOtherRound 34 (.iload 4) 2 36 := ⟨by decide +kernel, rfl⟩
theorem dX5_firstOtherRound_36 : DC cX5_firstOtherRound 36 (.aaload) 1 37 := ⟨by decide +kernel, rfl⟩
theorem dX5_firstOtherRound_37 : DC cX5_firstOtherRound 37 (.iload 5) 2 39 := ⟨by decide +kernel, rfl⟩
theorem dX5_firstOtherRound_39 : DC cX5_firstOtherRound 39 (.iaload) 1 40 := ⟨by decide +kernel, rfl⟩
theorem dX5_firstOtherRound_40 : DC cX5_firstOtherRound 40 (.aload_n 1) 1 41 := ⟨by decide +kernel, rfl⟩
theorem dX5_firstOtherRound_41 : DC cX5_firstOtherRound 41 (.getfield 20) 3 44 := ⟨by decide +kernel, rfl⟩
theorem dX5_firstOtherRound_44 : DC cX5_firstOtherRound 44 (.iload 4) 2 46 := ⟨by decide +kernel, rfl⟩
theorem dX5_firstOtherRound_46 : DC cX5_firstOtherRound 46 (.aaload) 1 47 := ⟨by decide +kernel, rfl⟩
theorem dX5_firstOtherRound_47 : DC cX5_firstOtherRound 47 (.iload 5) 2 49 := ⟨by decide +kernel, rfl⟩
theorem dX5_firstOtherRound_49 : DC cX5_firstOtherRound 49 (.iaload) 1 50 := ⟨by decide +kernel, rfl⟩
theorem dX5_firstOtherRound_50 : DC cX5_firstOtherRound 50 (.if_icmp .eq 6) 3 53 := ⟨by decide +kernel, rfl⟩
theorem dX5_firstOtherRound_53 : DC cX5_firstOtherRound 53 (.iload 4) 2 55 := ⟨by decide +kernel, rfl⟩
theorem dX5_firstOtherRound_55 : DC cX5_firstOtherRound 55 (.ireturn) 1 56 := ⟨by decide +kernel, rfl⟩
theorem dX5_firstOtherRound_56 : DC cX5_firstOtherRound 56 (.iinc 5 1) 3 59 := ⟨by decide +kernel, rfl⟩
theorem dX5_firstOtherRound_59 : DC cX5_firstOtherRound 59 (.goto (-35)) 3 62 := ⟨by decide +kernel, rfl⟩
theorem dX5_firstOtherRound_62 : DC cX5_firstOtherRound 62 (.iinc 4 1) 3 65 := ⟨by decide +kernel, rfl⟩
theorem dX5_firstOtherRound_65 : DC cX5_firstOtherRound 65 (.goto (-50)) 3 68 := ⟨by decide +kernel, rfl⟩
theorem dX5_firstOtherRound_68 : DC cX5_firstOtherRound 68 (.aload_n 0) 1 69 := ⟨by decide +kernel, rfl⟩
theorem dX5_firstOtherRound_69 : DC cX5_firstOtherRound 69 (.getfield 23) 3 72 := ⟨by decide +kernel, rfl⟩
theorem dX5_firstOtherRound_72 : DC cX5_firstOtherRound 72 (.aload_n 1) 1 73 := ⟨by decide +kernel, rfl⟩
theorem dX5_firstOtherRound_73 : DC cX5_firstOtherRound 73 (.getfield 23) 3 76 := ⟨by decide +kernel, rfl⟩
theorem dX5_firstOtherRound_76 : DC cX5_firstOtherRound 76 (.if_icmp .ne 7) 3 79 := ⟨by decide +kernel, rfl⟩
theorem dX5_firstOtherRound_79 : DC cX5_firstOtherRound 79 (.iconst (-1)) 1 80 := ⟨by decide +kernel, rfl⟩
theorem dX5_firstOtherRound_80 : DC cX5_firstOtherRound 80 (.goto 4) 3 83 := ⟨by decide +kernel, rfl⟩
theorem dX5_firstOtherRound_83 : DC cX5_firstOtherRound 83 (.iload_n 3) 1 84 := ⟨by decide +kernel, rfl⟩
theorem dX5_firstOtherRound_84 : DC cX5_firstOtherRound 84 (.ireturn) 1 85 := ⟨by decide +kernel, rfl⟩
theorem dX6_init_0 : DC cX6_init 0 (.aload_n 0) 1 1 := ⟨by decide +kernel, rfl⟩
theorem dX6_init_1 : DC cX6_init 1 (.invokespecial 3) 3 4 := ⟨by decide +kernel, rfl⟩
theorem dX6_init_4 : DC cX6_init 4 (.aload_n 0) 1 5 := ⟨by decide +kernel, rfl⟩
theorem dX6_init_5 : DC cX6_init 5 (.bipush 9) 2 7 := ⟨by decide +kernel, rfl⟩
theorem dX6_init_7 : DC cX6_init 7 (.newarray .int) 2 9 := ⟨by decide +kernel, rfl⟩
theorem dX6_init_9 : DC cX6_init 9 (.putfield 9) 3 12 := ⟨by decide +kernel, rfl⟩
theorem dX6_init_12 : DC cX6_init 12 (.aload_n 0) 1 13 := ⟨by decide +kernel, rfl⟩
theorem dX6_init_13 : DC cX6_init 13 (.bipush 9) 2 15 := ⟨by decide +kernel, rfl⟩
theorem dX6_init_15 : DC cX6_init 15 (.newarray .int) 2 17 := ⟨by decide +kernel, rfl⟩
theorem dX6_init_17 : DC cX6_init 17 (.putfield 15) 3 20 := ⟨by decide +kernel, rfl⟩
theorem dX6_init_20 : DC cX6_init 20 (.aload_n 0) 1 21 := ⟨by decide +kernel, rfl⟩
theorem dX6_init_21 : DC cX6_init 21 (.bipush 9) 2 23 := ⟨by decide +kernel, rfl⟩
theorem dX6_init_23 : DC cX6_init 23 (.newarray .int) 2 25 := ⟨by decide +kernel, rfl⟩
theorem dX6_init_25 : DC cX6_init 25 (.putfield 18) 3 28 := ⟨by decide +kernel, rfl⟩
theorem dX6_init_28 : DC cX6_init 28 (.aload_n 0) 1 29 := ⟨by decide +kernel, rfl⟩
theorem dX6_init_29 : DC cX6_init 29 (.bipush 9) 2 31 := ⟨by decide +kernel, rfl⟩
theorem dX6_init_31 : DC cX6_init 31 (.newarray .int) 2 33 := ⟨by decide +kernel, rfl⟩
theorem dX6_init_33 : DC cX6_init 33 (.putfield 21) 3 36 := ⟨by decide +kernel, rfl⟩
theorem dX6_init_36 : DC cX6_init 36 (.aload_n 0) 1 37 := ⟨by decide +kernel, rfl⟩
theorem dX6_init_37 : DC cX6_init 37 (.bipush 9) 2 39 := ⟨by decide +kernel, rfl⟩
theorem dX6_init_39 : DC cX6_init 39 (.newarray .int) 2 41 := ⟨by decide +kernel, rfl⟩
theorem dX6_init_41 : DC cX6_init 41 (.putfield 24) 3 44 := ⟨by decide +kernel, rfl⟩
theorem dX6_init_44 : DC cX6_init 44 (.aload_n 0) 1 45 := ⟨by decide +kernel, rfl⟩
theorem dX6_init_45 : DC cX6_init 45 (.bipush 9) 2 47 := ⟨by decide +kernel, rfl⟩
theorem dX6_init_47 : DC cX6_init 47 (.newarray .int) 2 49 := ⟨by decide +kernel, rfl⟩
theorem dX6_init_49 : DC cX6_init 49 (.putfield 27) 3 52 := ⟨by decide +kernel, rfl⟩
theorem dX6_init_52 : DC cX6_init 52 (.aload_n 0) 1 53 := ⟨by decide +kernel, rfl⟩
theorem dX6_init_53 : DC cX6_init 53 (.bipush 9) 2 55 := ⟨by decide +kernel, rfl⟩
theorem dX6_init_55 : DC cX6_init 55 (.newarray .int) 2 57 := ⟨by decide +kernel, rfl⟩
theorem dX6_init_57 : DC cX6_init 57 (.putfield 30) 3 60 := ⟨by decide +kernel, rfl⟩
theorem dX6_init_60 : DC cX6_init 60 (.aload_n 0) 1 61 := ⟨by decide +kernel, rfl⟩
theorem dX6_init_61 : DC cX6_init 61 (.bipush 9) 2 63 := ⟨by decide +kernel, rfl⟩
theorem dX6_init_63 : DC cX6_init 63 (.bipush 25) 2 65 := ⟨by decide +kernel, rfl⟩
theorem dX6_init_65 : DC cX6_init 65 (.multianewarray 33 2) 4 69 := ⟨by decide +kernel, rfl⟩
theorem dX6_init_69 : DC cX6_init 69 (.putfield 35) 3 72 := ⟨by decide +kernel, rfl⟩
theorem dX6_init_72 : DC cX6_init 72 (.aload_n 0) 1 73 := ⟨by decide +kernel, rfl⟩
theorem dX6_init_73 : DC cX6_init 73 (.bipush 9) 2 75 := ⟨by decide +kernel, rfl⟩
theorem dX6_init_75 : DC cX6_init 75 (.bipush 25) 2 77 := ⟨by decide +kernel, rfl⟩
theorem dX6_init_77 : DC cX6_init 77 (.multianewarray 33 2) 4 81 := ⟨by decide +kernel, rfl⟩
theorem dX6_init_81 : DC cX6_init 81 (.putfield 38) 3 84 := ⟨by decide +kernel, rfl⟩
theorem dX6_init_84 : DC cX6_init 84 (.return_) 1 85 := ⟨by decide +kernel, rfl⟩
theorem dX7_init_0 : DC cX7_init 0 (.aload_n 0) 1 1 := ⟨by decide +kernel, rfl⟩
theorem dX7_init_1 : DC cX7_init 1 (.invokespecial 3) 3 4 := ⟨by decide +kernel, rfl⟩
theorem dX7_init_4 : DC cX7_init 4 (.aload_n 0) 1 5 := ⟨by decide +kernel, rfl⟩
theorem dX7_init_5 : DC cX7_init 5 (.bipush 60) 2 7 := ⟨by decide +kernel, rfl⟩
theorem dX7_init_7 : DC cX7_init 7 (.newarray .int) 2 9 := ⟨by decide +kernel, rfl⟩
theorem dX7_init_9 : DC cX7_init 9 (.putfield 9) 3 12 := ⟨by decide +kernel, rfl⟩
theorem dX7_init_12 : DC cX7_init 12 (.aload_n 0) 1 13 := ⟨by decide +kernel, rfl⟩
theorem dX7_init_13 : DC cX7_init 13 (.bipush 8) 2 15 := ⟨by decide +kernel, rfl⟩
theorem dX7_init_15 : DC cX7_init 15 (.newarray .int) 2 17 := ⟨by decide +kernel, rfl⟩
theorem dX7_init_17 : DC cX7_init 17 (.putfield 15) 3 20 := ⟨by decide +kernel, rfl⟩
theorem dX7_init_20 : DC cX7_init 20 (.aload_n 0) 1 21 := ⟨by decide +kernel, rfl⟩
theorem dX7_init_21 : DC cX7_init 21 (.iconst (-1)) 1 22 := ⟨by decide +kernel, rfl⟩
theorem dX7_init_22 : DC cX7_init 22 (.putfield 18) 3 25 := ⟨by decide +kernel, rfl⟩
theorem dX7_init_25 : DC cX7_init 25 (.return_) 1 26 := ⟨by decide +kernel, rfl⟩
theorem dX7_addSign_0 : DC cX7_addSign 0 (.aload_n 0) 1 1 := ⟨by decide +kernel, rfl⟩
theorem dX7_addSign_1 : DC cX7_addSign 1 (.getfield 22) 3 4 := ⟨by decide +kernel, rfl⟩
theorem dX7_addSign_4 : DC cX7_addSign 4 (.bipush 60) 2 6 := ⟨by decide +kernel, rfl⟩
theorem dX7_addSign_6 : DC cX7_addSign 6 (.if_icmp .ge 23) 3 9 := ⟨by decide +kernel, rfl⟩
theorem dX7_addSign_9 : DC cX7_addSign 9 (.aload_n 0) 1 10 := ⟨by decide +kernel, rfl⟩
theorem dX7_addSign_10 : DC cX7_addSign 10 (.getfield 9) 3 13 := ⟨by decide +kernel, rfl⟩
theorem dX7_addSign_13 : DC cX7_addSign 13 (.aload_n 0) 1 14 := ⟨by decide +kernel, rfl⟩
theorem dX7_addSign_14 : DC cX7_addSign 14 (.getfield 22) 3 17 := ⟨by decide +kernel, rfl⟩
theorem dX7_addSign_17 : DC cX7_addSign 17 (.iload_n 1) 1 18 := ⟨by decide +kernel, rfl⟩
theorem dX7_addSign_18 : DC cX7_addSign 18 (.iastore) 1 19 := ⟨by decide +kernel, rfl⟩
theorem dX7_addSign_19 : DC cX7_addSign 19 (.aload_n 0) 1 20 := ⟨by decide +kernel, rfl⟩
theorem dX7_addSign_20 : DC cX7_addSign 20 (.dup) 1 21 := ⟨by decide +kernel, rfl⟩
theorem dX7_addSign_21 : DC cX7_addSign 21 (.getfield 22) 3 24 := ⟨by decide +kernel, rfl⟩
theorem dX7_addSign_24 : DC cX7_addSign 24 (.iconst 1) 1 25 := ⟨by decide +kernel, rfl⟩
theorem dX7_addSign_25 : DC cX7_addSign 25 (.iadd) 1 26 := ⟨by decide +kernel, rfl⟩
theorem dX7_addSign_26 : DC cX7_addSign 26 (.putfield 22) 3 29 := ⟨by decide +kernel, rfl⟩
theorem dX7_addSign_29 : DC cX7_addSign 29 (.return_) 1 30 := ⟨by decide +kernel, rfl⟩
theorem dX7_clear_0 : DC cX7_clear 0 (.aload_n 0) 1 1 := ⟨by decide +kernel, rfl⟩
theorem dX7_clear_1 : DC cX7_clear 1 (.iconst 0) 1 2 := ⟨by decide +kernel, rfl⟩
theorem dX7_clear_2 : DC cX7_clear 2 (.putfield 22) 3 5 := ⟨by decide +kernel, rfl⟩
theorem dX7_clear_5 : DC cX7_clear 5 (.return_) 1 6 := ⟨by decide +kernel, rfl⟩
theorem dX7_readInto_0 : DC cX7_readInto 0 (.aload_n 0) 1 1 := ⟨by decide +kernel, rfl⟩
theorem dX7_readInto_1 : DC cX7_readInto 1 (.iconst 0) 1 2 := ⟨by decide +kernel, rfl⟩
theorem dX7_readInto_2 : DC cX7_readInto 2 (.putfield 25) 3 5 := ⟨by decide +kernel, rfl⟩
theorem dX7_readInto_5 : DC cX7_readInto 5 (.aload_n 0) 1 6 := ⟨by decide +kernel, rfl⟩
theorem dX7_readInto_6 : DC cX7_readInto 6 (.iconst (-1)) 1 7 := ⟨by decide +kernel, rfl⟩
theorem dX7_readInto_7 : DC cX7_readInto 7 (.putfield 18) 3 10 := ⟨by decide +kernel, rfl⟩
theorem dX7_readInto_10 : DC cX7_readInto 10 (.iconst 0) 1 11 := ⟨by decide +kernel, rfl⟩
theorem dX7_readInto_11 : DC cX7_readInto 11 (.istore_n 2) 1 12 := ⟨by decide +kernel, rfl⟩
theorem dX7_readInto_12 : DC cX7_readInto 12 (.iload_n 2) 1 13 := ⟨by decide +kernel, rfl⟩
theorem dX7_readInto_13 : DC cX7_readInto 13 (.bipush 60) 2 15 := ⟨by decide +kernel, rfl⟩
theorem dX7_readInto_15 : DC cX7_readInto 15 (.if_icmp .gt 36) 3 18 := ⟨by decide +kernel, rfl⟩
theorem dX7_readInto_18 : DC cX7_readInto 18 (.iload_n 2) 1 19 := ⟨by decide +kernel, rfl⟩
theorem dX7_readInto_19 : DC cX7_readInto 19 (.ifCond .le 16) 3 22 := ⟨by decide +kernel, rfl⟩
theorem dX7_readInto_22 : DC cX7_readInto 22 (.aload_n 0) 1 23 := ⟨by decide +kernel, rfl⟩
theorem dX7_readInto_23 : DC cX7_readInto 23 (.getfield 25) 3 26 := ⟨by decide +kernel, rfl⟩
theorem dX7_readInto_26 : DC cX7_readInto 26 (.aload_n 0) 1 27 := ⟨by decide +kernel, rfl⟩
theorem dX7_readInto_27 : DC cX7_readInto 27 (.getfield 22) 3 30 := ⟨by decide +kernel, rfl⟩
theorem dX7_readInto_30 : DC cX7_readInto 30 (.if_icmp .lt 5) 3 33 := ⟨by decide +kernel, rfl⟩
theorem dX7_readInto_33 : DC cX7_readInto 33 (.iload_n 2) 1 34 := ⟨by decide +kernel, rfl⟩
theorem dX7_readInto_34 : DC cX7_readInto 34 (.ireturn) 1 35 := ⟨by decide +kernel, rfl⟩
theorem dX7_readInto_35 : DC cX7_readInto 35 (.aload_n 0) 1 36 := ⟨by decide +kernel, rfl⟩
theorem dX7_readInto_36 : DC cX7_readInto 36 (.aload_n 1) 1 37 := ⟨by decide +kernel, rfl⟩
theorem dX7_readInto_37 : DC cX7_readInto 37 (.invokevirtual 28) 3 40 := ⟨by decide +kernel, rfl⟩
theorem dX7_readInto_40 : DC cX7_readInto 40 (.ifCond .ne 5) 3 43 := ⟨by decide +kernel, rfl⟩
theorem dX7_readInto_43 : DC cX7_readInto 43 (.iconst (-1)) 1 44 := ⟨by decide +kernel, rfl⟩
theorem dX7_readInto_44 : DC cX7_readInto 44 (.ireturn) 1 45 := ⟨by decide +kernel, rfl⟩
theorem dX7_readInto_45 : DC cX7_readInto 45 (.iinc 2 1) 3 48 := ⟨by decide +kernel, rfl⟩
theorem dX7_readInto_48 : DC cX7_readInto 48 (.goto (-36)) 3 51 := ⟨by decide +kernel, rfl⟩
theorem dX7_readInto_51 : DC cX7_readInto 51 (.iconst (-1)) 1 52 := ⟨by decide +kernel, rfl⟩
theorem dX7_readInto_52 : DC cX7_readInto 52 (.ireturn) 1 53 := ⟨by decide +kernel, rfl⟩
theorem dX7_readCommand_0 : DC cX7_readCommand 0 (.aload_n 0) 1 1 := ⟨by decide +kernel, rfl⟩
theorem dX7_readCommand_1 : DC cX7_readCommand 1 (.invokevirtual 32) 3 4 := ⟨by decide +kernel, rfl⟩
theorem dX7_readCommand_4 : DC cX7_readCommand 4 (.lookupswitch 54 #[(33, 48), (35, 36), (126, 42)]) 36 40 := ⟨by decide +kernel, rfl⟩
theorem dX7_readCommand_40 : DC cX7_readCommand 40 (.aload_n 0) 1 41 := ⟨by decide +kernel, rfl⟩
theorem dX7_readCommand_41 : DC cX7_readCommand 41 (.aload_n 1) 1 42 := ⟨by decide +kernel, rfl⟩
theorem dX7_readCommand_42 : DC cX7_readCommand 42 (.invokevirtual 36) 3 45 := ⟨by decide +kernel, rfl⟩
theorem dX7_readCommand_45 : DC cX7_readCommand 45 (.ireturn) 1 46 := ⟨by decide +kernel, rfl⟩
theorem dX7_readCommand_46 : DC cX7_readCommand 46 (.aload_n 0) 1 47 := ⟨by decide +kernel, rfl⟩
theorem dX7_readCommand_47 : DC cX7_readCommand 47 (.aload_n 1) 1 48 := ⟨by decide +kernel, rfl⟩
theorem dX7_readCommand_48 : DC cX7_readCommand 48 (.invokevirtual 39) 3 51 := ⟨by decide +kernel, rfl⟩
theorem dX7_readCommand_51 : DC cX7_readCommand 51 (.ireturn) 1 52 := ⟨by decide +kernel, rfl⟩
theorem dX7_readCommand_52 : DC cX7_readCommand 52 (.aload_n 0) 1 53 := ⟨by decide +kernel, rfl⟩
theorem dX7_readCommand_53 : DC cX7_readCommand 53 (.aload_n 1) 1 54 := ⟨by decide +kernel, rfl⟩
theorem dX7_readCommand_54 : DC cX7_readCommand 54 (.invokevirtual 42) 3 57 := ⟨by decide +kernel, rfl⟩
theorem dX7_readCommand_57 : DC cX7_readCommand 57 (.ireturn) 1 58 := ⟨by decide +kernel, rfl⟩
theorem dX7_readCommand_58 : DC cX7_readCommand 58 (.aload_n 0) 1 59 := ⟨by decide +kernel, rfl⟩
theorem dX7_readCommand_59 : DC cX7_readCommand 59 (.aload_n 1) 1 60 := ⟨by decide +kernel, rfl⟩
theorem dX7_readCommand_60 : DC cX7_readCommand 60 (.invokevirtual 45) 3 63 := ⟨by decide +kernel, rfl⟩
theorem dX7_readCommand_63 : DC cX7_readCommand 63 (.ireturn) 1 64 := ⟨by decide +kernel, rfl⟩
theorem dX7_readAddition_0 : DC cX7_readAddition 0 (.aload_n 1) 1 1 := ⟨by decide +kernel, rfl⟩
theorem dX7_readAddition_1 : DC cX7_readAddition 1 (.getfield 48) 3 4 := ⟨by decide +kernel, rfl⟩
theorem dX7_readAddition_4 : DC cX7_readAddition 4 (.bipush 24) 2 6 := ⟨by decide +kernel, rfl⟩
theorem dX7_readAddition_6 : DC cX7_readAddition 6 (.if_icmp .lt 12) 3 9 := ⟨by decide +kernel, rfl⟩
theorem dX7_readAddition_9 : DC cX7_readAddition 9 (.aload_n 0) 1 10 := ⟨by decide +kernel, rfl⟩
theorem dX7_readAddition_10 : DC cX7_readAddition 10 (.aload_n 0) 1 11 := ⟨by decide +kernel, rfl⟩
theorem dX7_readAddition_11 : DC cX7_readAddition 11 (.getfield 25) 3 14 := ⟨by decide +kernel, rfl⟩
theorem dX7_readAddition_14 : DC cX7_readAddition 14 (.invokevirtual 53) 3 17 := ⟨by decide +kernel, rfl⟩
theorem dX7_readAddition_17 : DC cX7_readAddition 17 (.ireturn) 1 18 := ⟨by decide +kernel, rfl⟩
theorem dX7_readAddition_18 : DC cX7_readAddition 18 (.aload_n 0) 1 19 := ⟨by decide +kernel, rfl⟩
theorem dX7_readAddition_19 : DC cX7_readAddition 19 (.invokevirtual 57) 3 22 := ⟨by decide +kernel, rfl⟩
theorem dX7_readAddition_22 : DC cX7_readAddition 22 (.istore_n 2) 1 23 := ⟨by decide +kernel, rfl⟩
theorem dX7_readAddition_23 : DC cX7_readAddition 23 (.iload_n 2) 1 24 := ⟨by decide +kernel, rfl⟩
theorem dX7_readAddition_24 : DC cX7_readAddition 24 (.iconst (-1)) 1 25 := ⟨by decide +kernel, rfl⟩
theorem dX7_readAddition_25 : DC cX7_readAddition 25 (.if_icmp .eq 24) 3 28 := ⟨by decide +kernel, rfl⟩
theorem dX7_readAddition_28 : DC cX7_readAddition 28 (.aload_n 0) 1 29 := ⟨by decide +kernel, rfl⟩
theorem dX7_readAddition_29 : DC cX7_readAddition 29 (.bipush 58) 2 31 := ⟨by decide +kernel, rfl⟩
theorem dX7_readAddition_31 : DC cX7_readAddition 31 (.invokevirtual 60) 3 34 := ⟨by decide +kernel, rfl⟩
theorem dX7_readAddition_34 : DC cX7_readAddition 34 (.ifCond .eq 15) 3 37 := ⟨by decide +kernel, rfl⟩
theorem dX7_readAddition_37 : DC cX7_readAddition 37 (.aload_n 0) 1 38 := ⟨by decide +kernel, rfl⟩
theorem dX7_readAddition_38 : DC cX7_readAddition 38 (.aload_n 1) 1 39 := ⟨by decide +kernel, rfl⟩
theorem dX7_readAddition_39 : DC cX7_readAddition 39 (.getfield 63) 3 42 := ⟨by decide +kernel, rfl⟩
theorem dX7_readAddition_42 : DC cX7_readAddition 42 (.iconst 1) 1 43 := ⟨by decide +kernel, rfl⟩
theorem dX7_readAddition_43 : DC cX7_readAddition 43 (.invokevirtual 66) 3 46 := ⟨by decide +kernel, rfl⟩
theorem dX7_readAddition_46 : DC cX7_readAddition 46 (.ifCond .ne 5) 3 49 := ⟨by decide +kernel, rfl⟩
theorem dX7_readAddition_49 : DC cX7_readAddition 49 (.iconst 0) 1 50 := ⟨by decide +kernel, rfl⟩
theorem dX7_readAddition_50 : DC cX7_readAddition 50 (.ireturn) 1 51 := ⟨by decide +kernel, rfl⟩
theorem dX7_readAddition_51 : DC cX7_readAddition 51 (.aload_n 1) 1 52 := ⟨by decide +kernel, rfl⟩
theorem dX7_readAddition_52 : DC cX7_readAddition 52 (.iload_n 2) 1 53 := ⟨by decide +kernel, rfl⟩
theorem dX7_readAddition_53 : DC cX7_readAddition 53 (.aload_n 0) 1 54 := ⟨by decide +kernel, rfl⟩
theorem dX7_readAddition_54 : DC cX7_readAddition 54 (.getfield 15) 3 57 := ⟨by decide +kernel, rfl⟩
theorem dX7_readAddition_57 : DC cX7_readAddition 57 (.aload_n 0) 1 58 := ⟨by decide +kernel, rfl⟩
theorem dX7_readAddition_58 : DC cX7_readAddition 58 (.getfield 70) 3 61 := ⟨by decide +kernel, rfl⟩
theorem dX7_readAddition_61 : DC cX7_readAddition 61 (.invokevirtual 73) 3 64 := ⟨by decide +kernel, rfl⟩
theorem dX7_readAddition_64 : DC cX7_readAddition 64 (.iconst 1) 1 65 := ⟨by decide +kernel, rfl⟩
theorem dX7_readAddition_65 : DC cX7_readAddition 65 (.ireturn) 1 66 := ⟨by decide +kernel, rfl⟩
theorem dX7_readSize_0 : DC cX7_readSize 0 (.aload_n 0) 1 1 := ⟨by decide +kernel, rfl⟩
theorem dX7_readSize_1 : DC cX7_readSize 1 (.dup) 1 2 := ⟨by decide +kernel, rfl⟩
theorem dX7_readSize_2 : DC cX7_readSize 2 (.getfield 25) 3 5 := ⟨by decide +kernel, rfl⟩
theorem dX7_readSize_5 : DC cX7_readSize 5 (.iconst 1) 1 6 := ⟨by decide +kernel, rfl⟩
theorem dX7_readSize_6 : DC cX7_readSize 6 (.iadd) 1 7 := ⟨by decide +kernel, rfl⟩
theorem dX7_readSize_7 : DC cX7_readSize 7 (.putfield 25) 3 10 := ⟨by decide +kernel, rfl⟩
theorem dX7_readSize_10 : DC cX7_readSize 10 (.aload_n 0) 1 11 := ⟨by decide +kernel, rfl⟩
theorem dX7_readSize_11 : DC cX7_readSize 11 (.aload_n 1) 1 12 := ⟨by decide +kernel, rfl⟩
theorem dX7_readSize_12 : DC cX7_readSize 12 (.invokevirtual 77) 3 15 := ⟨by decide +kernel, rfl⟩
theorem dX7_readSize_15 : DC cX7_readSize 15 (.istore_n 2) 1 16 := ⟨by decide +kernel, rfl⟩
theorem dX7_readSize_16 : DC cX7_readSize 16 (.iload_n 2) 1 17 := ⟨by decide +kernel, rfl⟩
theorem dX7_readSize_17 : DC cX7_readSize 17 (.iconst (-1)) 1 18 := ⟨by decide +kernel, rfl⟩
theorem dX7_readSize_18 : DC cX7_readSize 18 (.if_icmp .eq 12) 3 21 := ⟨by decide +kernel, rfl⟩
theorem dX7_readSize_21 : DC cX7_readSize 21 (.aload_n 0) 1 22 := ⟨by decide +kernel, rfl⟩
theorem dX7_readSize_22 : DC cX7_readSize 22 (.bipush 61) 2 24 := ⟨by decide +kernel, rfl⟩
theorem dX7_readSize_24 : DC cX7_readSize 24 (.invokevirtual 60) 3 27 := ⟨by decide +kernel, rfl⟩
theorem dX7_readSize_27 : DC cX7_readSize 27 (.ifCond .ne 5) 3 30 := ⟨by decide +kernel, rfl⟩
theorem dX7_readSize_30 : DC cX7_readSize 30 (.iconst 0) 1 31 := ⟨by decide +kernel, rfl⟩
theorem dX7_readSize_31 : DC cX7_readSize 31 (.ireturn) 1 32 := ⟨by decide +kernel, rfl⟩
theorem dX7_readSize_32 : DC cX7_readSize 32 (.aload_n 0) 1 33 := ⟨by decide +kernel, rfl⟩
theorem dX7_readSize_33 : DC cX7_readSize 33 (.invokevirtual 57) 3 36 := ⟨by decide +kernel, rfl⟩
theorem dX7_readSize_36 : DC cX7_readSize 36 (.istore_n 3) 1 37 := ⟨by decide +kernel, rfl⟩
theorem dX7_readSize_37 : DC cX7_readSize 37 (.iload_n 3) 1 38 := ⟨by decide +kernel, rfl⟩
theorem dX7_readSize_38 : DC cX7_readSize 38 (.iconst (-1)) 1 39 := ⟨by decide +kernel, rfl⟩
theorem dX7_readSize_39 : DC cX7_readSize 39 (.if_icmp .eq 12) 3 42 := ⟨by decide +kernel, rfl⟩
theorem dX7_readSize_42 : DC cX7_readSize 42 (.aload_n 0) 1 43 := ⟨by decide +kernel, rfl⟩
theorem dX7_readSize_43 : DC cX7_readSize 43 (.bipush 59) 2 45 := ⟨by decide +kernel, rfl⟩
theorem dX7_readSize_45 : DC cX7_readSize 45 (.invokevirtual 60) 3 48 := ⟨by decide +kernel, rfl⟩
theorem dX7_readSize_48 : DC cX7_readSize 48 (.ifCond .ne 5) 3 51 := ⟨by decide +kernel, rfl⟩
theorem dX7_readSize_51 : DC cX7_readSize 51 (.iconst 0) 1 52 := ⟨by decide +kernel, rfl⟩
theorem dX7_readSize_52 : DC cX7_readSize 52 (.ireturn) 1 53 := ⟨by decide +kernel, rfl⟩
theorem dX7_readSize_53 : DC cX7_readSize 53 (.aload_n 1) 1 54 := ⟨by decide +kernel, rfl⟩
theorem dX7_readSize_54 : DC cX7_readSize 54 (.iload_n 2) 1 55 := ⟨by decide +kernel, rfl⟩
theorem dX7_readSize_55 : DC cX7_readSize 55 (.iload_n 3) 1 56 := ⟨by decide +kernel, rfl⟩
theorem dX7_readSize_56 : DC cX7_readSize 56 (.invokevirtual 81) 3 59 := ⟨by decide +kernel, rfl⟩
theorem dX7_readSize_59 : DC cX7_readSize 59 (.iconst 1) 1 60 := ⟨by decide +kernel, rfl⟩
theorem dX7_readSize_60 : DC cX7_readSize 60 (.ireturn) 1 61 := ⟨by decide +kernel, rfl⟩
theorem dX7_readReplacement_0 : DC cX7_readReplacement 0 (.aload_n 0) 1 1 := ⟨by decide +kernel, rfl⟩
theorem dX7_readReplacement_1 : DC cX7_readReplacement 1 (.dup) 1 2 := ⟨by decide +kernel, rfl⟩
theorem dX7_readReplacement_2 : DC cX7_readReplacement 2 (.getfield 25) 3 5 := ⟨by decide +kernel, rfl⟩
theorem dX7_readReplacement_5 : DC cX7_readReplacement 5 (.iconst 1) 1 6 := ⟨by decide +kernel, rfl⟩
theorem dX7_readReplacement_6 : DC cX7_readReplacement 6 (.iadd) 1 7 := ⟨by decide +kernel, rfl⟩
theorem dX7_readReplacement_7 : DC cX7_readReplacement 7 (.putfield 25) 3 10 := ⟨by decide +kernel, rfl⟩
theorem dX7_readReplacement_10 : DC cX7_readReplacement 10 (.aload_n 0) 1 11 := ⟨by decide +kernel, rfl⟩
theorem dX7_readReplacement_11 : DC cX7_readReplacement 11 (.aload_n 1) 1 12 := ⟨by decide +kernel, rfl⟩
theorem dX7_readReplacement_12 : DC cX7_readReplacement 12 (.invokevirtual 77) 3 15 := ⟨by decide +kernel, rfl⟩
theorem dX7_readReplacement_15 : DC cX7_readReplacement 15 (.istore_n 2) 1 16 := ⟨by decide +kernel, rfl⟩
theorem dX7_readReplacement_16 : DC cX7_readReplacement 16 (.iload_n 2) 1 17 := ⟨by decide +kernel, rfl⟩
theorem dX7_readReplacement_17 : DC cX7_readReplacement 17 (.iconst (-1)) 1 18 := ⟨by decide +kernel, rfl⟩
theorem dX7_readReplacement_18 : DC cX7_readReplacement 18 (.if_icmp .eq 24) 3 21 := ⟨by decide +kernel, rfl⟩
theorem dX7_readReplacement_21 : DC cX7_readReplacement 21 (.aload_n 0) 1 22 := ⟨by decide +kernel, rfl⟩
theorem dX7_readReplacement_22 : DC cX7_readReplacement 22 (.bipush 58) 2 24 := ⟨by decide +kernel, rfl⟩
theorem dX7_readReplacement_24 : DC cX7_readReplacement 24 (.invokevirtual 60) 3 27 := ⟨by decide +kernel, rfl⟩
theorem dX7_readReplacement_27 : DC cX7_readReplacement 27 (.ifCond .eq 15) 3 30 := ⟨by decide +kernel, rfl⟩
theorem dX7_readReplacement_30 : DC cX7_readReplacement 30 (.aload_n 0) 1 31 := ⟨by decide +kernel, rfl⟩
theorem dX7_readReplacement_31 : DC cX7_readReplacement 31 (.aload_n 1) 1 32 := ⟨by decide +kernel, rfl⟩
theorem dX7_readReplacement_32 : DC cX7_readReplacement 32 (.getfield 63) 3 35 := ⟨by decide +kernel, rfl⟩
theorem dX7_readReplacement_35 : DC cX7_readReplacement 35 (.iconst 1) 1 36 := ⟨by decide +kernel, rfl⟩
theorem dX7_readReplacement_36 : DC cX7_readReplacement 36 (.invokevirtual 66) 3 39 := ⟨by decide +kernel, rfl⟩
theorem dX7_readReplacement_39 : DC cX7_readReplacement 39 (.ifCond .ne 5) 3 42 := ⟨by decide +kernel, rfl⟩
theorem dX7_readReplacement_42 : DC cX7_readReplacement 42 (.iconst 0) 1 43 := ⟨by decide +kernel, rfl⟩
theorem dX7_readReplacement_43 : DC cX7_readReplacement 43 (.ireturn) 1 44 := ⟨by decide +kernel, rfl⟩
theorem dX7_readReplacement_44 : DC cX7_readReplacement 44 (.aload_n 1) 1 45 := ⟨by decide +kernel, rfl⟩
theorem dX7_readReplacement_45 : DC cX7_readReplacement 45 (.iload_n 2) 1 46 := ⟨by decide +kernel, rfl⟩
theorem dX7_readReplacement_46 : DC cX7_readReplacement 46 (.aload_n 0) 1 47 := ⟨by decide +kernel, rfl⟩
theorem dX7_readReplacement_47 : DC cX7_readReplacement 47 (.getfield 15) 3 50 := ⟨by decide +kernel, rfl⟩
theorem dX7_readReplacement_50 : DC cX7_readReplacement 50 (.aload_n 0) 1 51 := ⟨by decide +kernel, rfl⟩
theorem dX7_readReplacement_51 : DC cX7_readReplacement 51 (.getfield 70) 3 54 := ⟨by decide +kernel, rfl⟩
theorem dX7_readReplacement_54 : DC cX7_readReplacement 54 (.invokevirtual 85) 3 57 := ⟨by decide +kernel, rfl⟩
theorem dX7_readReplacement_57 : DC cX7_readReplacement 57 (.iconst 1) 1 58 := ⟨by decide +kernel, rfl⟩
theorem dX7_readReplacement_58 : DC cX7_readReplacement 58 (.ireturn) 1 59 := ⟨by decide +kernel, rfl⟩
theorem dX7_readLot_0 : DC cX7_readLot 0 (.aload_n 0) 1 1 := ⟨by decide +kernel, rfl⟩
theorem dX7_readLot_1 : DC cX7_readLot 1 (.dup) 1 2 := ⟨by decide +kernel, rfl⟩
theorem dX7_readLot_2 : DC cX7_readLot 2 (.getfield 25) 3 5 := ⟨by decide +kernel, rfl⟩
theorem dX7_readLot_5 : DC cX7_readLot 5 (.iconst 1) 1 6 := ⟨by decide +kernel, rfl⟩
theorem dX7_readLot_6 : DC cX7_readLot 6 (.iadd) 1 7 := ⟨by decide +kernel, rfl⟩
theorem dX7_readLot_7 : DC cX7_readLot 7 (.putfield 25) 3 10 := ⟨by decide +kernel, rfl⟩
theorem dX7_readLot_10 : DC cX7_readLot 10 (.aload_n 0) 1 11 := ⟨by decide +kernel, rfl⟩
theorem dX7_readLot_11 : DC cX7_readLot 11 (.aload_n 1) 1 12 := ⟨by decide +kernel, rfl⟩
theorem dX7_readLot_12 : DC cX7_readLot 12 (.getfield 63) 3 15 := ⟨by decide +kernel, rfl⟩
theorem dX7_readLot_15 : DC cX7_readLot 15 (.aload_n 1) 1 16 := ⟨by decide +kernel, rfl⟩
theorem dX7_readLot_16 : DC cX7_readLot 16 (.getfield 63) 3 19 := ⟨by decide +kernel, rfl⟩
theorem dX7_readLot_19 : DC cX7_readLot 19 (.invokevirtual 66) 3 22 := ⟨by decide +kernel, rfl⟩
theorem dX7_readLot_22 : DC cX7_readLot 22 (.ifCond .ne 5) 3 25 := ⟨by decide +kernel, rfl⟩
theorem dX7_readLot_25 : DC cX7_readLot 25 (.iconst 0) 1 26 := ⟨by decide +kernel, rfl⟩
theorem dX7_readLot_26 : DC cX7_readLot 26 (.ireturn) 1 27 := ⟨by decide +kernel, rfl⟩
theorem dX7_readLot_27 : DC cX7_readLot 27 (.aload_n 1) 1 28 := ⟨by decide +kernel, rfl⟩
theorem dX7_readLot_28 : DC cX7_readLot 28 (.aload_n 0) 1 29 := ⟨by decide +kernel, rfl⟩
theorem dX7_readLot_29 : DC cX7_readLot 29 (.getfield 15) 3 32 := ⟨by decide +kernel, rfl⟩
theorem dX7_readLot_32 : DC cX7_readLot 32 (.invokevirtual 88) 3 35 := ⟨by decide +kernel, rfl⟩
theorem dX7_readLot_35 : DC cX7_readLot 35 (.iconst 1) 1 36 := ⟨by decide +kernel, rfl⟩
theorem dX7_readLot_36 : DC cX7_readLot 36 (.ireturn) 1 37 := ⟨by decide +kernel, rfl⟩
theorem dX7_readRanking_0 : DC cX7_readRanking 0 (.iconst 0) 1 1 := ⟨by decide +kernel, rfl⟩
theorem dX7_readRanking_1 : DC cX7_readRanking 1 (.istore_n 3) 1 2 := ⟨by decide +kernel, rfl⟩
theorem dX7_readRanking_2 : DC cX7_readRanking 2 (.iconst 0) 1 3 := ⟨by decide +kernel, rfl⟩
theorem dX7_readRanking_3 : DC cX7_readRanking 3 (.istore 4) 2 5 := ⟨by decide +kernel, rfl⟩
theorem dX7_readRanking_5 : DC cX7_readRanking 5 (.iload 4) 2 7 := ⟨by decide +kernel, rfl⟩
theorem dX7_readRanking_7 : DC cX7_readRanking 7 (.bipush 8) 2 9 := ⟨by decide +kernel, rfl⟩
theorem dX7_readRanking_9 : DC cX7_readRanking 9 (.if_icmp .gt 115) 3 12 := ⟨by decide +kernel, rfl⟩
theorem dX7_readRanking_12 : DC cX7_readRanking 12 (.aload_n 0) 1 13 := ⟨by decide +kernel, rfl⟩
theorem dX7_readRanking_13 : DC cX7_readRanking 13 (.invokevirtual 32) 3 16 := ⟨by decide +kernel, rfl⟩
theorem dX7_readRanking_16 : DC cX7_readRanking 16 (.istore 5) 2 18 := ⟨by decide +kernel, rfl⟩
theorem dX7_readRanking_18 : DC cX7_readRanking 18 (.iload 5) 2 20 := ⟨by decide +kernel, rfl⟩
theorem dX7_readRanking_20 : DC cX7_readRanking 20 (.bipush 59) 2 22 := ⟨by decide +kernel, rfl⟩
theorem dX7_readRanking_22 : DC cX7_readRanking 22 (.if_icmp .ne 27) 3 25 := ⟨by decide +kernel, rfl⟩
theorem dX7_readRanking_25 : DC cX7_readRanking 25 (.iload 4) 2 27 := ⟨by decide +kernel, rfl⟩
theorem dX7_readRanking_27 : DC cX7_readRanking 27 (.iload_n 2) 1 28 := ⟨by decide +kernel, rfl⟩
theorem dX7_readRanking_28 : DC cX7_readRanking 28 (.if_icmp .lt 21) 3 31 := ⟨by decide +kernel, rfl⟩
theorem dX7_readRanking_31 : DC cX7_readRanking 31 (.aload_n 0) 1 32 := ⟨by decide +kernel, rfl⟩
theorem dX7_readRanking_32 : DC cX7_readRanking 32 (.dup) 1 33 := ⟨by decide +kernel, rfl⟩
theorem dX7_readRanking_33 : DC cX7_readRanking 33 (.getfield 25) 3 36 := ⟨by decide +kernel, rfl⟩
theorem dX7_readRanking_36 : DC cX7_readRanking 36 (.iconst 1) 1 37 := ⟨by decide +kernel, rfl⟩
theorem dX7_readRanking_37 : DC cX7_readRanking 37 (.iadd) 1 38 := ⟨by decide +kernel, rfl⟩
theorem dX7_readRanking_38 : DC cX7_readRanking 38 (.putfield 25) 3 41 := ⟨by decide +kernel, rfl⟩
theorem dX7_readRanking_41 : DC cX7_readRanking 41 (.aload_n 0) 1 42 := ⟨by decide +kernel, rfl⟩
theorem dX7_readRanking_42 : DC cX7_readRanking 42 (.iload 4) 2 44 := ⟨by decide +kernel, rfl⟩
theorem dX7_readRanking_44 : DC cX7_readRanking 44 (.putfield 70) 3 47 := ⟨by decide +kernel, rfl⟩
theorem dX7_readRanking_47 : DC cX7_readRanking 47 (.iconst 1) 1 48 := ⟨by decide +kernel, rfl⟩
theorem dX7_readRanking_48 : DC cX7_readRanking 48 (.ireturn) 1 49 := ⟨by decide +kernel, rfl⟩
theorem dX7_readRanking_49 : DC cX7_readRanking 49 (.iload 5) 2 51 := ⟨by decide +kernel, rfl⟩
theorem dX7_readRanking_51 : DC cX7_readRanking 51 (.bipush 97) 2 53 := ⟨by decide +kernel, rfl⟩
theorem dX7_readRanking_53 : DC cX7_readRanking 53 (.isub) 1 54 := ⟨by decide +kernel, rfl⟩
theorem dX7_readRanking_54 : DC cX7_readRanking 54 (.istore 6) 2 56 := ⟨by decide +kernel, rfl⟩
theorem dX7_readRanking_56 : DC cX7_readRanking 56 (.iload 4) 2 58 := ⟨by decide +kernel, rfl⟩
theorem dX7_readRanking_58 : DC cX7_readRanking 58 (.bipush 8) 2 60 := ⟨by decide +kernel, rfl⟩
theorem dX7_readRanking_60 : DC cX7_readRanking 60 (.if_icmp .eq 23) 3 63 := ⟨by decide +kernel, rfl⟩
theorem dX7_readRanking_63 : DC cX7_readRanking 63 (.iload 6) 2 65 := ⟨by decide +kernel, rfl⟩
theorem dX7_readRanking_65 : DC cX7_readRanking 65 (.ifCond .lt 18) 3 68 := ⟨by decide +kernel, rfl⟩
theorem dX7_readRanking_68 : DC cX7_readRanking 68 (.iload 6) 2 70 := ⟨by decide +kernel, rfl⟩
theorem dX7_readRanking_70 : DC cX7_readRanking 70 (.iload_n 1) 1 71 := ⟨by decide +kernel, rfl⟩
theorem dX7_readRanking_71 : DC cX7_readRanking 71 (.if_icmp .ge 12) 3 74 := ⟨by decide +kernel, rfl⟩
theorem dX7_readRanking_74 : DC cX7_readRanking 74 (.iload_n 3) 1 75 := ⟨by decide +kernel, rfl⟩
theorem dX7_readRanking_75 : DC cX7_readRanking 75 (.iload 6) 2 77 := ⟨by decide +kernel, rfl⟩
theorem dX7_readRanking_77 : DC cX7_readRanking 77 (.invokestatic 92) 3 80 := ⟨by decide +kernel, rfl⟩
theorem dX7_readRanking_80 : DC cX7_readRanking 80 (.ifCond .eq 12) 3 83 := ⟨by decide +kernel, rfl⟩
theorem dX7_readRanking_83 : DC cX7_readRanking 83 (.aload_n 0) 1 84 := ⟨by decide +kernel, rfl⟩
theorem dX7_readRanking_84 : DC cX7_readRanking 84 (.aload_n 0) 1 85 := ⟨by decide +kernel, rfl⟩
theorem dX7_readRanking_85 : DC cX7_readRanking 85 (.getfield 25) 3 88 := ⟨by decide +kernel, rfl⟩
theorem dX7_readRanking_88 : DC cX7_readRanking 88 (.invokevirtual 53) 3 91 := ⟨by decide +kernel, rfl⟩
theorem dX7_readRanking_91 : DC cX7_readRanking 91 (.ireturn) 1 92 := ⟨by decide +kernel, rfl⟩
theorem dX7_readRanking_92 : DC cX7_readRanking 92 (.iload_n 3) 1 93 := ⟨by decide +kernel, rfl⟩
theorem dX7_readRanking_93 : DC cX7_readRanking 93 (.iconst 1) 1 94 := ⟨by decide +kernel, rfl⟩
theorem dX7_readRanking_94 : DC cX7_readRanking 94 (.iload 6) 2 96 := ⟨by decide +kernel, rfl⟩
theorem dX7_readRanking_96 : DC cX7_readRanking 96 (.ishl) 1 97 := ⟨by decide +kernel, rfl⟩
theorem dX7_readRanking_97 : DC cX7_readRanking 97 (.ior) 1 98 := ⟨by decide +kernel, rfl⟩
theorem dX7_readRanking_98 : DC cX7_readRanking 98 (.istore_n 3) 1 99 := ⟨by decide +kernel, rfl⟩
theorem dX7_readRanking_99 : DC cX7_readRanking 99 (.aload_n 0) 1 100 := ⟨by decide +kernel, rfl⟩
theorem dX7_readRanking_100 : DC cX7_readRanking 100 (.getfield 15) 3 103 := ⟨by decide +kernel, rfl⟩
theorem dX7_readRanking_103 : DC cX7_readRanking 103 (.iload 4) 2 105 := ⟨by decide +kernel, rfl⟩
theorem dX7_readRanking_105 : DC cX7_readRanking 105 (.iload 6) 2 107 := ⟨by decide +kernel, rfl⟩
theorem dX7_readRanking_107 : DC cX7_readRanking 107 (.iastore) 1 108 := ⟨by decide +kernel, rfl⟩
theorem dX7_readRanking_108 : DC cX7_readRanking 108 (.aload_n 0) 1 109 := ⟨by decide +kernel, rfl⟩
theorem dX7_readRanking_109 : DC cX7_readRanking 109 (.dup) 1 110 := ⟨by decide +kernel, rfl⟩
theorem dX7_readRanking_110 : DC cX7_readRanking 110 (.getfield 25) 3 113 := ⟨by decide +kernel, rfl⟩
theorem dX7_readRanking_113 : DC cX7_readRanking 113 (.iconst 1) 1 114 := ⟨by decide +kernel, rfl⟩
theorem dX7_readRanking_114 : DC cX7_readRanking 114 (.iadd) 1 115 := ⟨by decide +kernel, rfl⟩
theorem dX7_readRanking_115 : DC cX7_readRanking 115 (.putfield 25) 3 118 := ⟨by decide +kernel, rfl⟩
theorem dX7_readRanking_118 : DC cX7_readRanking 118 (.iinc 4 1) 3 121 := ⟨by decide +kernel, rfl⟩
theorem dX7_readRanking_121 : DC cX7_readRanking 121 (.goto (-116)) 3 124 := ⟨by decide +kernel, rfl⟩
theorem dX7_readRanking_124 : DC cX7_readRanking 124 (.iconst 0) 1 125 := ⟨by decide +kernel, rfl⟩
theorem dX7_readRanking_125 : DC cX7_readRanking 125 (.ireturn) 1 126 := ⟨by decide +kernel, rfl⟩
theorem dX7_readPileNumber_0 : DC cX7_readPileNumber 0 (.aload_n 0) 1 1 := ⟨by decide +kernel, rfl⟩
theorem dX7_readPileNumber_1 : DC cX7_readPileNumber 1 (.getfield 25) 3 4 := ⟨by decide +kernel, rfl⟩
theorem dX7_readPileNumber_4 : DC cX7_readPileNumber 4 (.istore_n 2) 1 5 := ⟨by decide +kernel, rfl⟩
theorem dX7_readPileNumber_5 : DC cX7_readPileNumber 5 (.aload_n 0) 1 6 := ⟨by decide +kernel, rfl⟩
theorem dX7_readPileNumber_6 : DC cX7_readPileNumber 6 (.invokevirtual 57) 3 9 := ⟨by decide +kernel, rfl⟩
theorem dX7_readPileNumber_9 : DC cX7_readPileNumber 9 (.istore_n 3) 1 10 := ⟨by decide +kernel, rfl⟩
theorem dX7_readPileNumber_10 : DC cX7_readPileNumber 10 (.iload_n 3) 1 11 := ⟨by decide +kernel, rfl⟩
theorem dX7_readPileNumber_11 : DC cX7_readPileNumber 11 (.aload_n 1) 1 12 := ⟨by decide +kernel, rfl⟩
theorem dX7_readPileNumber_12 : DC cX7_readPileNumber 12 (.getfield 48) 3 15 := ⟨by decide +kernel, rfl⟩
theorem dX7_readPileNumber_15 : DC cX7_readPileNumber 15 (.if_icmp .lt 11) 3 18 := ⟨by decide +kernel, rfl⟩
theorem dX7_readPileNumber_18 : DC cX7_readPileNumber 18 (.aload_n 0) 1 19 := ⟨by decide +kernel, rfl⟩
theorem dX7_readPileNumber_19 : DC cX7_readPileNumber 19 (.iload_n 2) 1 20 := ⟨by decide +kernel, rfl⟩
theorem dX7_readPileNumber_20 : DC cX7_readPileNumber 20 (.invokevirtual 53) 3 23 := ⟨by decide +kernel, rfl⟩
theorem dX7_readPileNumber_23 : DC cX7_readPileNumber 23 (.pop) 1 24 := ⟨by decide +kernel, rfl⟩
theorem dX7_readPileNumber_24 : DC cX7_readPileNumber 24 (.iconst (-1)) 1 25 := ⟨by decide +kernel, rfl⟩
theorem dX7_readPileNumber_25 : DC cX7_readPileNumber 25 (.ireturn) 1 26 := ⟨by decide +kernel, rfl⟩
theorem dX7_readPileNumber_26 : DC cX7_readPileNumber 26 (.iload_n 3) 1 27 := ⟨by decide +kernel, rfl⟩
theorem dX7_readPileNumber_27 : DC cX7_readPileNumber 27 (.ireturn) 1 28 := ⟨by decide +kernel, rfl⟩
theorem dX7_readNumber_0 : DC cX7_readNumber 0 (.aload_n 0) 1 1 := ⟨by decide +kernel, rfl⟩
theorem dX7_readNumber_1 : DC cX7_readNumber 1 (.invokevirtual 32) 3 4 := ⟨by decide +kernel, rfl⟩
theorem dX7_readNumber_4 : DC cX7_readNumber 4 (.bipush 48) 2 6 := ⟨by decide +kernel, rfl⟩
theorem dX7_readNumber_6 : DC cX7_readNumber 6 (.isub) 1 7 := ⟨by decide +kernel, rfl⟩
theorem dX7_readNumber_7 : DC cX7_readNumber 7 (.istore_n 1) 1 8 := ⟨by decide +kernel, rfl⟩
theorem dX7_readNumber_8 : DC cX7_readNumber 8 (.iload_n 1) 1 9 := ⟨by decide +kernel, rfl⟩
theorem dX7_readNumber_9 : DC cX7_readNumber 9 (.ifCond .lt 9) 3 12 := ⟨by decide +kernel, rfl⟩
theorem dX7_readNumber_12 : DC cX7_readNumber 12 (.iload_n 1) 1 13 := ⟨by decide +kernel, rfl⟩
theorem dX7_readNumber_13 : DC cX7_readNumber 13 (.bipush 9) 2 15 := ⟨by decide +kernel, rfl⟩
theorem dX7_readNumber_15 : DC cX7_readNumber 15 (.if_icmp .le 14) 3 18 := ⟨by decide +kernel, rfl⟩
theorem dX7_readNumber_18 : DC cX7_readNumber 18 (.aload_n 0) 1 19 := ⟨by decide +kernel, rfl⟩
theorem dX7_readNumber_19 : DC cX7_readNumber 19 (.aload_n 0) 1 20 := ⟨by decide +kernel, rfl⟩
theorem dX7_readNumber_20 : DC cX7_readNumber 20 (.getfield 25) 3 23 := ⟨by decide +kernel, rfl⟩
theorem dX7_readNumber_23 : DC cX7_readNumber 23 (.invokevirtual 53) 3 26 := ⟨by decide +kernel, rfl⟩
theorem dX7_readNumber_26 : DC cX7_readNumber 26 (.pop) 1 27 := ⟨by decide +kernel, rfl⟩
theorem dX7_readNumber_27 : DC cX7_readNumber 27 (.iconst (-1)) 1 28 := ⟨by decide +kernel, rfl⟩
theorem dX7_readNumber_28 : DC cX7_readNumber 28 (.ireturn) 1 29 := ⟨by decide +kernel, rfl⟩
theorem dX7_readNumber_29 : DC cX7_readNumber 29 (.aload_n 0) 1 30 := ⟨by decide +kernel, rfl⟩
theorem dX7_readNumber_30 : DC cX7_readNumber 30 (.dup) 1 31 := ⟨by decide +kernel, rfl⟩
theorem dX7_readNumber_31 : DC cX7_readNumber 31 (.getfield 25) 3 34 := ⟨by decide +kernel, rfl⟩
theorem dX7_readNumber_34 : DC cX7_readNumber 34 (.iconst 1) 1 35 := ⟨by decide +kernel, rfl⟩
theorem dX7_readNumber_35 : DC cX7_readNumber 35 (.iadd) 1 36 := ⟨by decide +kernel, rfl⟩
theorem dX7_readNumber_36 : DC cX7_readNumber 36 (.putfield 25) 3 39 := ⟨by decide +kernel, rfl⟩
theorem dX7_readNumber_39 : DC cX7_readNumber 39 (.aload_n 0) 1 40 := ⟨by decide +kernel, rfl⟩
theorem dX7_readNumber_40 : DC cX7_readNumber 40 (.invokevirtual 32) 3 43 := ⟨by decide +kernel, rfl⟩
theorem dX7_readNumber_43 : DC cX7_readNumber 43 (.bipush 48) 2 45 := ⟨by decide +kernel, rfl⟩
theorem dX7_readNumber_45 : DC cX7_readNumber 45 (.isub) 1 46 := ⟨by decide +kernel, rfl⟩
theorem dX7_readNumber_46 : DC cX7_readNumber 46 (.istore_n 2) 1 47 := ⟨by decide +kernel, rfl⟩
theorem dX7_readNumber_47 : DC cX7_readNumber 47 (.iload_n 1) 1 48 := ⟨by decide +kernel, rfl⟩
theorem dX7_readNumber_48 : DC cX7_readNumber 48 (.ifCond .eq 13) 3 51 := ⟨by decide +kernel, rfl⟩
theorem dX7_readNumber_51 : DC cX7_readNumber 51 (.iload_n 2) 1 52 := ⟨by decide +kernel, rfl⟩
theorem dX7_readNumber_52 : DC cX7_readNumber 52 (.ifCond .lt 9) 3 55 := ⟨by decide +kernel, rfl⟩
theorem dX7_readNumber_55 : DC cX7_readNumber 55 (.iload_n 2) 1 56 := ⟨by decide +kernel, rfl⟩
theorem dX7_readNumber_56 : DC cX7_readNumber 56 (.bipush 9) 2 58 := ⟨by decide +kernel, rfl⟩
theorem dX7_readNumber_58 : DC cX7_readNumber 58 (.if_icmp .le 5) 3 61 := ⟨by decide +kernel, rfl⟩
theorem dX7_readNumber_61 : DC cX7_readNumber 61 (.iload_n 1) 1 62 := ⟨by decide +kernel, rfl⟩
theorem dX7_readNumber_62 : DC cX7_readNumber 62 (.ireturn) 1 63 := ⟨by decide +kernel, rfl⟩
theorem dX7_readNumber_63 : DC cX7_readNumber 63 (.aload_n 0) 1 64 := ⟨by decide +kernel, rfl⟩
theorem dX7_readNumber_64 : DC cX7_readNumber 64 (.dup) 1 65 := ⟨by decide +kernel, rfl⟩
theorem dX7_readNumber_65 : DC cX7_readNumber 65 (.getfield 25) 3 68 := ⟨by decide +kernel, rfl⟩
theorem dX7_readNumber_68 : DC cX7_readNumber 68 (.iconst 1) 1 69 := ⟨by decide +kernel, rfl⟩
theorem dX7_readNumber_69 : DC cX7_readNumber 69 (.iadd) 1 70 := ⟨by decide +kernel, rfl⟩
theorem dX7_readNumber_70 : DC cX7_readNumber 70 (.putfield 25) 3 73 := ⟨by decide +kernel, rfl⟩
theorem dX7_readNumber_73 : DC cX7_readNumber 73 (.bipush 10) 2 75 := ⟨by decide +kernel, rfl⟩
theorem dX7_readNumber_75 : DC cX7_readNumber 75 (.iload_n 1) 1 76 := ⟨by decide +kernel, rfl⟩
theorem dX7_readNumber_76 : DC cX7_readNumber 76 (.imul) 1 77 := ⟨by decide +kernel, rfl⟩
theorem dX7_readNumber_77 : DC cX7_readNumber 77 (.iload_n 2) 1 78 := ⟨by decide +kernel, rfl⟩
theorem dX7_readNumber_78 : DC cX7_readNumber 78 (.iadd) 1 79 := ⟨by decide +kernel, rfl⟩
theorem dX7_readNumber_79 : DC cX7_readNumber 79 (.ireturn) 1 80 := ⟨by decide +kernel, rfl⟩
theorem dX7_pass_0 : DC cX7_pass 0 (.aload_n 0) 1 1 := ⟨by decide +kernel, rfl⟩
theorem dX7_pass_1 : DC cX7_pass 1 (.invokevirtual 32) 3 4 := ⟨by decide +kernel, rfl⟩
theorem dX7_pass_4 : DC cX7_pass 4 (.iload_n 1) 1 5 := ⟨by decide +kernel, rfl⟩
theorem dX7_pass_5 : DC cX7_pass 5 (.if_icmp .eq 12) 3 8 := ⟨by decide +kernel, rfl⟩
theorem dX7_pass_8 : DC cX7_pass 8 (.aload_n 0) 1 9 := ⟨by decide +kernel, rfl⟩
theorem dX7_pass_9 : DC cX7_pass 9 (.aload_n 0) 1 10 := ⟨by decide +kernel, rfl⟩
theorem dX7_pass_10 : DC cX7_pass 10 (.getfield 25) 3 13 := ⟨by decide +kernel, rfl⟩
theorem dX7_pass_13 : DC cX7_pass 13 (.invokevirtual 53) 3 16 := ⟨by decide +kernel, rfl⟩
theorem dX7_pass_16 : DC cX7_pass 16 (.ireturn) 1 17 := ⟨by decide +kernel, rfl⟩
theorem dX7_pass_17 : DC cX7_pass 17 (.aload_n 0) 1 18 := ⟨by decide +kernel, rfl⟩
theorem dX7_pass_18 : DC cX7_pass 18 (.dup) 1 19 := ⟨by decide +kernel, rfl⟩
theorem dX7_pass_19 : DC cX7_pass 19 (.getfield 25) 3 22 := ⟨by decide +kernel, rfl⟩
theorem dX7_pass_22 : DC cX7_pass 22 (.iconst 1) 1 23 := ⟨by decide +kernel, rfl⟩
theorem dX7_pass_23 : DC cX7_pass 23 (.iadd) 1 24 := ⟨by decide +kernel, rfl⟩
theorem dX7_pass_24 : DC cX7_pass 24 (.putfield 25) 3 27 := ⟨by decide +kernel, rfl⟩
theorem dX7_pass_27 : DC cX7_pass 27 (.iconst 1) 1 28 := ⟨by decide +kernel, rfl⟩
theorem dX7_pass_28 : DC cX7_pass 28 (.ireturn) 1 29 := ⟨by decide +kernel, rfl⟩
theorem dX7_next_0 : DC cX7_next 0 (.aload_n 0) 1 1 := ⟨by decide +kernel, rfl⟩
theorem dX7_next_1 : DC cX7_next 1 (.getfield 25) 3 4 := ⟨by decide +kernel, rfl⟩
theorem dX7_next_4 : DC cX7_next 4 (.ifCond .lt 35) 3 7 := ⟨by decide +kernel, rfl⟩
theorem dX7_next_7 : DC cX7_next 7 (.aload_n 0) 1 8 := ⟨by decide +kernel, rfl⟩
theorem dX7_next_8 : DC cX7_next 8 (.getfield 25) 3 11 := ⟨by decide +kernel, rfl⟩
theorem dX7_next_11 : DC cX7_next 11 (.aload_n 0) 1 12 := ⟨by decide +kernel, rfl⟩
theorem dX7_next_12 : DC cX7_next 12 (.getfield 22) 3 15 := ⟨by decide +kernel, rfl⟩
theorem dX7_next_15 : DC cX7_next 15 (.if_icmp .ge 24) 3 18 := ⟨by decide +kernel, rfl⟩
theorem dX7_next_18 : DC cX7_next 18 (.aload_n 0) 1 19 := ⟨by decide +kernel, rfl⟩
theorem dX7_next_19 : DC cX7_next 19 (.getfield 25) 3 22 := ⟨by decide +kernel, rfl⟩
theorem dX7_next_22 : DC cX7_next 22 (.bipush 60) 2 24 := ⟨by decide +kernel, rfl⟩
theorem dX7_next_24 : DC cX7_next 24 (.if_icmp .ge 15) 3 27 := ⟨by decide +kernel, rfl⟩
theorem dX7_next_27 : DC cX7_next 27 (.aload_n 0) 1 28 := ⟨by decide +kernel, rfl⟩
theorem dX7_next_28 : DC cX7_next 28 (.getfield 9) 3 31 := ⟨by decide +kernel, rfl⟩
theorem dX7_next_31 : DC cX7_next 31 (.aload_n 0) 1 32 := ⟨by decide +kernel, rfl⟩
theorem dX7_next_32 : DC cX7_next 32 (.getfield 25) 3 35 := ⟨by decide +kernel, rfl⟩
theorem dX7_next_35 : DC cX7_next 35 (.iaload) 1 36 := ⟨by decide +kernel, rfl⟩
theorem dX7_next_36 : DC cX7_next 36 (.goto 4) 3 39 := ⟨by decide +kernel, rfl⟩
theorem dX7_next_39 : DC cX7_next 39 (.iconst (-1)) 1 40 := ⟨by decide +kernel, rfl⟩
theorem dX7_next_40 : DC cX7_next 40 (.ireturn) 1 41 := ⟨by decide +kernel, rfl⟩
theorem dX7_failAt_0 : DC cX7_failAt 0 (.aload_n 0) 1 1 := ⟨by decide +kernel, rfl⟩
theorem dX7_failAt_1 : DC cX7_failAt 1 (.iload_n 1) 1 2 := ⟨by decide +kernel, rfl⟩
theorem dX7_failAt_2 : DC cX7_failAt 2 (.putfield 18) 3 5 := ⟨by decide +kernel, rfl⟩
theorem dX7_failAt_5 : DC cX7_failAt 5 (.iconst 0) 1 6 := ⟨by decide +kernel, rfl⟩
theorem dX7_failAt_6 : DC cX7_failAt 6 (.ireturn) 1 7 := ⟨by decide +kernel, rfl⟩
theorem dX8_init_0 : DC cX8_init 0 (.aload_n 0) 1 1 := ⟨by decide +kernel, rfl⟩
theorem dX8_init_1 : DC cX8_init 1 (.invokespecial 1) 3 4 := ⟨by decide +kernel, rfl⟩
theorem dX8_init_4 : DC cX8_init 4 (.aload_n 0) 1 5 := ⟨by decide +kernel, rfl⟩
theorem dX8_init_5 : DC cX8_init 5 (.new 7) 3 8 := ⟨by decide +kernel, rfl⟩
theorem dX8_init_8 : DC cX8_init 8 (.dup) 1 9 := ⟨by decide +kernel, rfl⟩
theorem dX8_init_9 : DC cX8_init 9 (.invokespecial 9) 3 12 := ⟨by decide +kernel, rfl⟩
theorem dX8_init_12 : DC cX8_init 12 (.putfield 10) 3 15 := ⟨by decide +kernel, rfl⟩
theorem dX8_init_15 : DC cX8_init 15 (.aload_n 0) 1 16 := ⟨by decide +kernel, rfl⟩
theorem dX8_init_16 : DC cX8_init 16 (.new 7) 3 19 := ⟨by decide +kernel, rfl⟩
theorem dX8_init_19 : DC cX8_init 19 (.dup) 1 20 := ⟨by decide +kernel, rfl⟩
theorem dX8_init_20 : DC cX8_init 20 (.invokespecial 9) 3 23 := ⟨by decide +kernel, rfl⟩
theorem dX8_init_23 : DC cX8_init 23 (.putfield 16) 3 26 := ⟨by decide +kernel, rfl⟩
theorem dX8_init_26 : DC cX8_init 26 (.aload_n 0) 1 27 := ⟨by decide +kernel, rfl⟩
theorem dX8_init_27 : DC cX8_init 27 (.new 7) 3 30 := ⟨by decide +kernel, rfl⟩
theorem dX8_init_30 : DC cX8_init 30 (.dup) 1 31 := ⟨by decide +kernel, rfl⟩
theorem dX8_init_31 : DC cX8_init 31 (.invokespecial 9) 3 34 := ⟨by decide +kernel, rfl⟩
theorem dX8_init_34 : DC cX8_init 34 (.putfield 19) 3 37 := ⟨by decide +kernel, rfl⟩
theorem dX8_init_37 : DC cX8_init 37 (.aload_n 0) 1 38 := ⟨by decide +kernel, rfl⟩
theorem dX8_init_38 : DC cX8_init 38 (.new 22) 3 41 := ⟨by decide +kernel, rfl⟩
theorem dX8_init_41 : DC cX8_init 41 (.dup) 1 42 := ⟨by decide +kernel, rfl⟩
theorem dX8_init_42 : DC cX8_init 42 (.aload_n 0) 1 43 := ⟨by decide +kernel, rfl⟩
theorem dX8_init_43 : DC cX8_init 43 (.getfield 10) 3 46 := ⟨by decide +kernel, rfl⟩
theorem dX8_init_46 : DC cX8_init 46 (.invokespecial 24) 3 49 := ⟨by decide +kernel, rfl⟩
theorem dX8_init_49 : DC cX8_init 49 (.putfield 27) 3 52 := ⟨by decide +kernel, rfl⟩
theorem dX8_init_52 : DC cX8_init 52 (.aload_n 0) 1 53 := ⟨by decide +kernel, rfl⟩
theorem dX8_init_53 : DC cX8_init 53 (.new 22) 3 56 := ⟨by decide +kernel, rfl⟩
theorem dX8_init_56 : DC cX8_init 56 (.dup) 1 57 := ⟨by decide +kernel, rfl⟩
theorem dX8_init_57 : DC cX8_init 57 (.aload_n 0) 1 58 := ⟨by decide +kernel, rfl⟩
theorem dX8_init_58 : DC cX8_init 58 (.getfield 19) 3 61 := ⟨by decide +kernel, rfl⟩
theorem dX8_init_61 : DC cX8_init 61 (.invokespecial 24) 3 64 := ⟨by decide +kernel, rfl⟩
theorem dX8_init_64 : DC cX8_init 64 (.putfield 31) 3 67 := ⟨by decide +kernel, rfl⟩
theorem dX8_init_67 : DC cX8_init 67 (.aload_n 0) 1 68 := ⟨by decide +kernel, rfl⟩
theorem dX8_init_68 : DC cX8_init 68 (.new 34) 3 71 := ⟨by decide +kernel, rfl⟩
theorem dX8_init_71 : DC cX8_init 71 (.dup) 1 72 := ⟨by decide +kernel, rfl⟩
theorem dX8_init_72 : DC cX8_init 72 (.invokespecial 36) 3 75 := ⟨by decide +kernel, rfl⟩
theorem dX8_init_75 : DC cX8_init 75 (.putfield 37) 3 78 := ⟨by decide +kernel, rfl⟩
theorem dX8_init_78 : DC cX8_init 78 (.aload_n 0) 1 79 := ⟨by decide +kernel, rfl⟩
theorem dX8_init_79 : DC cX8_init 79 (.new 41) 3 82 := ⟨by decide +kernel, rfl⟩
theorem dX8_init_82 : DC cX8_init 82 (.dup) 1 83 := ⟨by decide +kernel, rfl⟩
theorem dX8_init_83 : DC cX8_init 83 (.invokespecial 43) 3 86 := ⟨by decide +kernel, rfl⟩
theorem dX8_init_86 : DC cX8_init 86 (.putfield 44) 3 89 := ⟨by decide +kernel, rfl⟩
theorem dX8_init_89 : DC cX8_init 89 (.aload_n 0) 1 90 := ⟨by decide +kernel, rfl⟩
theorem dX8_init_90 : DC cX8_init 90 (.new 48) 3 93 := ⟨by decide +kernel, rfl⟩
theorem dX8_init_93 : DC cX8_init 93 (.dup) 1 94 := ⟨by decide +kernel, rfl⟩
theorem dX8_init_94 : DC cX8_init 94 (.invokespecial 50) 3 97 := ⟨by decide +kernel, rfl⟩
theorem dX8_init_97 : DC cX8_init 97 (.putfield 51) 3 100 := ⟨by decide +kernel, rfl⟩
theorem dX8_init_100 : DC cX8_init 100 (.aload_n 0) 1 101 := ⟨by decide +kernel, rfl⟩
theorem dX8_init_101 : DC cX8_init 101 (.new 7) 3 104 := ⟨by decide +kernel, rfl⟩
theorem dX8_init_104 : DC cX8_init 104 (.dup) 1 105 := ⟨by decide +kernel, rfl⟩
theorem dX8_init_105 : DC cX8_init 105 (.invokespecial 9) 3 108 := ⟨by decide +kernel, rfl⟩
theorem dX8_init_108 : DC cX8_init 108 (.putfield 55) 3 111 := ⟨by decide +kernel, rfl⟩
theorem dX8_init_111 : DC cX8_init 111 (.aload_n 0) 1 112 := ⟨by decide +kernel, rfl⟩
theorem dX8_init_112 : DC cX8_init 112 (.new 48) 3 115 := ⟨by decide +kernel, rfl⟩
theorem dX8_init_115 : DC cX8_init 115 (.dup) 1 116 := ⟨by decide +kernel, rfl⟩
theorem dX8_init_116 : DC cX8_init 116 (.invokespecial 50) 3 119 := ⟨by decide +kernel, rfl⟩
theorem dX8_init_119 : DC cX8_init 119 (.putfield 58) 3 122 := ⟨by decide +kernel, rfl⟩
theorem dX8_init_122 : DC cX8_init 122 (.return_) 1 123 := ⟨by decide +kernel, rfl⟩
theorem dX8_begin_0 : DC cX8_begin 0 (.iload_n 1) 1 1 := ⟨by decide +kernel, rfl⟩
theorem dX8_begin_1 : DC cX8_begin 1 (.iconst 2) 1 2 := ⟨by decide +kernel, rfl⟩
theorem dX8_begin_2 : DC cX8_begin 2 (.if_icmp .lt 9) 3 5 := ⟨by decide +kernel, rfl⟩
theorem dX8_begin_5 : DC cX8_begin 5 (.iload_n 1) 1 6 := ⟨by decide +kernel, rfl⟩
theorem dX8_begin_6 : DC cX8_begin 6 (.bipush 8) 2 8 := ⟨by decide +kernel, rfl⟩
theorem dX8_begin_8 : DC cX8_begin 8 (.if_icmp .le 13) 3 11 := ⟨by decide +kernel, rfl⟩
theorem dX8_begin_11 : DC cX8_begin 11 (.new 61) 3 14 := ⟨by decide +kernel, rfl⟩
theorem dX8_begin_14 : DC cX8_begin 14 (.dup) 1 15 := ⟨by decide +kernel, rfl⟩
theorem dX8_begin_15 : DC cX8_begin 15 (.ldc 63) 2 17 := ⟨by decide +kernel, rfl⟩
theorem dX8_begin_17 : DC cX8_begin 17 (.invokespecial 65) 3 20 := ⟨by decide +kernel, rfl⟩
theorem dX8_begin_20 : DC cX8_begin 20 (.athrow) 1 21 := ⟨by decide +kernel, rfl⟩
theorem dX8_begin_21 : DC cX8_begin 21 (.iload_n 2) 1 22 := ⟨by decide +kernel, rfl⟩
theorem dX8_begin_22 : DC cX8_begin 22 (.iconst 1) 1 23 := ⟨by decide +kernel, rfl⟩
theorem dX8_begin_23 : DC cX8_begin 23 (.if_icmp .lt 9) 3 26 := ⟨by decide +kernel, rfl⟩
theorem dX8_begin_26 : DC cX8_begin 26 (.iload_n 2) 1 27 := ⟨by decide +kernel, rfl⟩
theorem dX8_begin_27 : DC cX8_begin 27 (.bipush 7) 2 29 := ⟨by decide +kernel, rfl⟩
theorem dX8_begin_29 : DC cX8_begin 29 (.if_icmp .le 13) 3 32 := ⟨by decide +kernel, rfl⟩
theorem dX8_begin_32 : DC cX8_begin 32 (.new 61) 3 35 := ⟨by decide +kernel, rfl⟩
theorem dX8_begin_35 : DC cX8_begin 35 (.dup) 1 36 := ⟨by decide +kernel, rfl⟩
theorem dX8_begin_36 : DC cX8_begin 36 (.ldc 68) 2 38 := ⟨by decide +kernel, rfl⟩
theorem dX8_begin_38 : DC cX8_begin 38 (.invokespecial 65) 3 41 := ⟨by decide +kernel, rfl⟩
theorem dX8_begin_41 : DC cX8_begin 41 (.athrow) 1 42 := ⟨by decide +kernel, rfl⟩
theorem dX8_begin_42 : DC cX8_begin 42 (.aload_n 0) 1 43 := ⟨by decide +kernel, rfl⟩
theorem dX8_begin_43 : DC cX8_begin 43 (.getfield 10) 3 46 := ⟨by decide +kernel, rfl⟩
theorem dX8_begin_46 : DC cX8_begin 46 (.getfield 70) 3 49 := ⟨by decide +kernel, rfl⟩
theorem dX8_begin_49 : DC cX8_begin 49 (.istore_n 3) 1 50 := ⟨by decide +kernel, rfl⟩
theorem dX8_begin_50 : DC cX8_begin 50 (.aload_n 0) 1 51 := ⟨by decide +kernel, rfl⟩
theorem dX8_begin_51 : DC cX8_begin 51 (.getfield 10) 3 54 := ⟨by decide +kernel, rfl⟩
theorem dX8_begin_54 : DC cX8_begin 54 (.iload_n 1) 1 55 := ⟨by decide +kernel, rfl⟩
theorem dX8_begin_55 : DC cX8_begin 55 (.iload_n 2) 1 56 := ⟨by decide +kernel, rfl⟩
theorem dX8_begin_56 : DC cX8_begin 56 (.invokevirtual 74) 3 59 := ⟨by decide +kernel, rfl⟩
theorem dX8_begin_59 : DC cX8_begin 59 (.aload_n 0) 1 60 := ⟨by decide +kernel, rfl⟩
theorem dX8_begin_60 : DC cX8_begin 60 (.iconst 0) 1 61 := ⟨by decide +kernel, rfl⟩
theorem dX8_begin_61 : DC cX8_begin 61 (.putfield 78) 3 64 := ⟨by decide +kernel, rfl⟩
theorem dX8_begin_64 : DC cX8_begin 64 (.aload_n 0) 1 65 := ⟨by decide +kernel, rfl⟩
theorem dX8_begin_65 : DC cX8_begin 65 (.iconst 0) 1 66 := ⟨by decide +kernel, rfl⟩
theorem dX8_begin_66 : DC cX8_begin 66 (.putfield 82) 3 69 := ⟨by decide +kernel, rfl⟩
theorem dX8_begin_69 : DC cX8_begin 69 (.aload_n 0) 1 70 := ⟨by decide +kernel, rfl⟩
theorem dX8_begin_70 : DC cX8_begin 70 (.getfield 44) 3 73 := ⟨by decide +kernel, rfl⟩
theorem dX8_begin_73 : DC cX8_begin 73 (.invokevirtual 85) 3 76 := ⟨by decide +kernel, rfl⟩
theorem dX8_begin_76 : DC cX8_begin 76 (.iload_n 3) 1 77 := ⟨by decide +kernel, rfl⟩
theorem dX8_begin_77 : DC cX8_begin 77 (.ireturn) 1 78 := ⟨by decide +kernel, rfl⟩
theorem dX8_append_0 : DC cX8_append 0 (.iconst 0) 1 1 := ⟨by decide +kernel, rfl⟩
theorem dX8_append_1 : DC cX8_append 1 (.istore_n 2) 1 2 := ⟨by decide +kernel, rfl⟩
theorem dX8_append_2 : DC cX8_append 2 (.bipush 24) 2 4 := ⟨by decide +kernel, rfl⟩
theorem dX8_append_4 : DC cX8_append 4 (.istore_n 3) 1 5 := ⟨by decide +kernel, rfl⟩
theorem dX8_append_5 : DC cX8_append 5 (.iload_n 3) 1 6 := ⟨by decide +kernel, rfl⟩
theorem dX8_append_6 : DC cX8_append 6 (.ifCond .lt 50) 3 9 := ⟨by decide +kernel, rfl⟩
theorem dX8_append_9 : DC cX8_append 9 (.iload_n 1) 1 10 := ⟨by decide +kernel, rfl⟩
theorem dX8_append_10 : DC cX8_append 10 (.iload_n 3) 1 11 := ⟨by decide +kernel, rfl⟩
theorem dX8_append_11 : DC cX8_append 11 (.iushr) 1 12 := ⟨by decide +kernel, rfl⟩
theorem dX8_append_12 : DC cX8_append 12 (.sipush 255) 3 15 := ⟨by decide +kernel, rfl⟩
theorem dX8_append_15 : DC cX8_append 15 (.iand) 1 16 := ⟨by decide +kernel, rfl⟩
theorem dX8_append_16 : DC cX8_append 16 (.istore 4) 2 18 := ⟨by decide +kernel, rfl⟩
theorem dX8_append_18 : DC cX8_append 18 (.iload 4) 2 20 := ⟨by decide +kernel, rfl⟩
theorem dX8_append_20 : DC cX8_append 20 (.ifCond .eq 30) 3 23 := ⟨by decide +kernel, rfl⟩
theorem dX8_append_23 : DC cX8_append 23 (.iload 4) 2 25 := ⟨by decide +kernel, rfl⟩
theorem dX8_append_25 : DC cX8_append 25 (.bipush 33) 2 27 := ⟨by decide +kernel, rfl⟩
theorem dX8_append_27 : DC cX8_append 27 (.if_icmp .lt 10) 3 30 := ⟨by decide +kernel, rfl⟩
theorem dX8_append_30 : DC cX8_append 30 (.iload 4) 2 32 := ⟨by decide +kernel, rfl⟩
theorem dX8_append_32 : DC cX8_append 32 (.bipush 126) 2 34 := ⟨by decide +kernel, rfl⟩
theorem dX8_append_34 : DC cX8_append 34 (.if_icmp .le 13) 3 37 := ⟨by decide +kernel, rfl⟩
theorem dX8_append_37 : DC cX8_append 37 (.new 61) 3 40 := ⟨by decide +kernel, rfl⟩
theorem dX8_append_40 : DC cX8_append 40 (.dup) 1 41 := ⟨by decide +kernel, rfl⟩
theorem dX8_append_41 : DC cX8_append 41 (.ldc 88) 2 43 := ⟨by decide +kernel, rfl⟩
theorem dX8_append_43 : DC cX8_append 43 (.invokespecial 65) 3 46 := ⟨by decide +kernel, rfl⟩
theorem dX8_append_46 : DC cX8_append 46 (.athrow) 1 47 := ⟨by decide +kernel, rfl⟩
theorem dX8_append_47 : DC cX8_append 47 (.iinc 2 1) 3 50 := ⟨by decide +kernel, rfl⟩
theorem dX8_append_50 : DC cX8_append 50 (.iinc 3 (-8)) 3 53 := ⟨by decide +kernel, rfl⟩
theorem dX8_append_53 : DC cX8_append 53 (.goto (-48)) 3 56 := ⟨by decide +kernel, rfl⟩
theorem dX8_append_56 : DC cX8_append 56 (.aload_n 0) 1 57 := ⟨by decide +kernel, rfl⟩
theorem dX8_append_57 : DC cX8_append 57 (.getfield 37) 3 60 := ⟨by decide +kernel, rfl⟩
theorem dX8_append_60 : DC cX8_append 60 (.getfield 90) 3 63 := ⟨by decide +kernel, rfl⟩
theorem dX8_append_63 : DC cX8_append 63 (.iload_n 2) 1 64 := ⟨by decide +kernel, rfl⟩
theorem dX8_append_64 : DC cX8_append 64 (.iadd) 1 65 := ⟨by decide +kernel, rfl⟩
theorem dX8_append_65 : DC cX8_append 65 (.bipush 60) 2 67 := ⟨by decide +kernel, rfl⟩
theorem dX8_append_67 : DC cX8_append 67 (.if_icmp .le 13) 3 70 := ⟨by decide +kernel, rfl⟩
theorem dX8_append_70 : DC cX8_append 70 (.new 93) 3 73 := ⟨by decide +kernel, rfl⟩
theorem dX8_append_73 : DC cX8_append 73 (.dup) 1 74 := ⟨by decide +kernel, rfl⟩
theorem dX8_append_74 : DC cX8_append 74 (.ldc 95) 2 76 := ⟨by decide +kernel, rfl⟩
theorem dX8_append_76 : DC cX8_append 76 (.invokespecial 97) 3 79 := ⟨by decide +kernel, rfl⟩
theorem dX8_append_79 : DC cX8_append 79 (.athrow) 1 80 := ⟨by decide +kernel, rfl⟩
theorem dX8_append_80 : DC cX8_append 80 (.bipush 24) 2 82 := ⟨by decide +kernel, rfl⟩
theorem dX8_append_82 : DC cX8_append 82 (.istore_n 3) 1 83 := ⟨by decide +kernel, rfl⟩
theorem dX8_append_83 : DC cX8_append 83 (.iload_n 3) 1 84 := ⟨by decide +kernel, rfl⟩
theorem dX8_append_84 : DC cX8_append 84 (.ifCond .lt 32) 3 87 := ⟨by decide +kernel, rfl⟩
theorem dX8_append_87 : DC cX8_append 87 (.iload_n 1) 1 88 := ⟨by decide +kernel, rfl⟩
theorem dX8_append_88 : DC cX8_append 88 (.iload_n 3) 1 89 := ⟨by decide +kernel, rfl⟩
theorem dX8_append_89 : DC cX8_append 89 (.iushr) 1 90 := ⟨by decide +kernel, rfl⟩
theorem dX8_append_90 : DC cX8_append 90 (.sipush 255) 3 93 := ⟨by decide +kernel, rfl⟩
theorem dX8_append_93 : DC cX8_append 93 (.iand) 1 94 := ⟨by decide +kernel, rfl⟩
theorem dX8_append_94 : DC cX8_append 94 (.istore 4) 2 96 := ⟨by decide +kernel, rfl⟩
theorem dX8_append_96 : DC cX8_append 96 (.iload 4) 2 98 := ⟨by decide +kernel, rfl⟩
theorem dX8_append_98 : DC cX8_append 98 (.ifCond .eq 12) 3 101 := ⟨by decide +kernel, rfl⟩
theorem dX8_append_101 : DC cX8_append 101 (.aload_n 0) 1 102 := ⟨by decide +kernel, rfl⟩
theorem dX8_append_102 : DC cX8_append 102 (.getfield 37) 3 105 := ⟨by decide +kernel, rfl⟩
theorem dX8_append_105 : DC cX8_append 105 (.iload 4) 2 107 := ⟨by decide +kernel, rfl⟩
theorem dX8_append_107 : DC cX8_append 107 (.invokevirtual 98) 3 110 := ⟨by decide +kernel, rfl⟩
theorem dX8_append_110 : DC cX8_append 110 (.iinc 3 (-8)) 3 113 := ⟨by decide +kernel, rfl⟩
theorem dX8_append_113 : DC cX8_append 113 (.goto (-30)) 3 116 := ⟨by decide +kernel, rfl⟩
theorem dX8_append_116 : DC cX8_append 116 (.aload_n 0) 1 117 := ⟨by decide +kernel, rfl⟩
theorem dX8_append_117 : DC cX8_append 117 (.getfield 37) 3 120 := ⟨by decide +kernel, rfl⟩
theorem dX8_append_120 : DC cX8_append 120 (.getfield 90) 3 123 := ⟨by decide +kernel, rfl⟩
theorem dX8_append_123 : DC cX8_append 123 (.ireturn) 1 124 := ⟨by decide +kernel, rfl⟩
theorem dX8_execute_0 : DC cX8_execute 0 (.aload_n 0) 1 1 := ⟨by decide +kernel, rfl⟩
theorem dX8_execute_1 : DC cX8_execute 1 (.getfield 16) 3 4 := ⟨by decide +kernel, rfl⟩
theorem dX8_execute_4 : DC cX8_execute 4 (.aload_n 0) 1 5 := ⟨by decide +kernel, rfl⟩
theorem dX8_execute_5 : DC cX8_execute 5 (.getfield 10) 3 8 := ⟨by decide +kernel, rfl⟩
theorem dX8_execute_8 : DC cX8_execute 8 (.invokevirtual 102) 3 11 := ⟨by decide +kernel, rfl⟩
theorem dX8_execute_11 : DC cX8_execute 11 (.aload_n 0) 1 12 := ⟨by decide +kernel, rfl⟩
theorem dX8_execute_12 : DC cX8_execute 12 (.getfield 37) 3 15 := ⟨by decide +kernel, rfl⟩
theorem dX8_execute_15 : DC cX8_execute 15 (.aload_n 0) 1 16 := ⟨by decide +kernel, rfl⟩
theorem dX8_execute_16 : DC cX8_execute 16 (.getfield 16) 3 19 := ⟨by decide +kernel, rfl⟩
theorem dX8_execute_19 : DC cX8_execute 19 (.invokevirtual 105) 3 22 := ⟨by decide +kernel, rfl⟩
theorem dX8_execute_22 : DC cX8_execute 22 (.istore_n 1) 1 23 := ⟨by decide +kernel, rfl⟩
theorem dX8_execute_23 : DC cX8_execute 23 (.aload_n 0) 1 24 := ⟨by decide +kernel, rfl⟩
theorem dX8_execute_24 : DC cX8_execute 24 (.getfield 37) 3 27 := ⟨by decide +kernel, rfl⟩
theorem dX8_execute_27 : DC cX8_execute 27 (.invokevirtual 109) 3 30 := ⟨by decide +kernel, rfl⟩
theorem dX8_execute_30 : DC cX8_execute 30 (.iload_n 1) 1 31 := ⟨by decide +kernel, rfl⟩
theorem dX8_execute_31 : DC cX8_execute 31 (.iconst (-1)) 1 32 := ⟨by decide +kernel, rfl⟩
theorem dX8_execute_32 : DC cX8_execute 32 (.if_icmp .ne 13) 3 35 := ⟨by decide +kernel, rfl⟩
theorem dX8_execute_35 : DC cX8_execute 35 (.new 61) 3 38 := ⟨by decide +kernel, rfl⟩
theorem dX8_execute_38 : DC cX8_execute 38 (.dup) 1 39 := ⟨by decide +kernel, rfl⟩
theorem dX8_execute_39 : DC cX8_execute 39 (.ldc 112) 2 41 := ⟨by decide +kernel, rfl⟩
theorem dX8_execute_41 : DC cX8_execute 41 (.invokespecial 65) 3 44 := ⟨by decide +kernel, rfl⟩
theorem dX8_execute_44 : DC cX8_execute 44 (.athrow) 1 45 := ⟨by decide +kernel, rfl⟩
theorem dX8_execute_45 : DC cX8_execute 45 (.aload_n 0) 1 46 := ⟨by decide +kernel, rfl⟩
theorem dX8_execute_46 : DC cX8_execute 46 (.invokevirtual 114) 3 49 := ⟨by decide +kernel, rfl⟩
theorem dX8_execute_49 : DC cX8_execute 49 (.aload_n 0) 1 50 := ⟨by decide +kernel, rfl⟩
theorem dX8_execute_50 : DC cX8_execute 50 (.getfield 10) 3 53 := ⟨by decide +kernel, rfl⟩
theorem dX8_execute_53 : DC cX8_execute 53 (.aload_n 0) 1 54 := ⟨by decide +kernel, rfl⟩
theorem dX8_execute_54 : DC cX8_execute 54 (.getfield 16) 3 57 := ⟨by decide +kernel, rfl⟩
theorem dX8_execute_57 : DC cX8_execute 57 (.invokevirtual 102) 3 60 := ⟨by decide +kernel, rfl⟩
theorem dX8_execute_60 : DC cX8_execute 60 (.iload_n 1) 1 61 := ⟨by decide +kernel, rfl⟩
theorem dX8_execute_61 : DC cX8_execute 61 (.ireturn) 1 62 := ⟨by decide +kernel, rfl⟩
theorem dX8_errorPosition_0 : DC cX8_errorPosition 0 (.aload_n 0) 1 1 := ⟨by decide +kernel, rfl⟩
theorem dX8_errorPosition_1 : DC cX8_errorPosition 1 (.getfield 37) 3 4 := ⟨by decide +kernel, rfl⟩
theorem dX8_errorPosition_4 : DC cX8_errorPosition 4 (.getfield 117) 3 7 := ⟨by decide +kernel, rfl⟩
theorem dX8_errorPosition_7 : DC cX8_errorPosition 7 (.ireturn) 1 8 := ⟨by decide +kernel, rfl⟩
theorem dX8_set_0 : DC cX8_set 0 (.iload_n 1) 1 1 := ⟨by decide +kernel, rfl⟩
theorem dX8_set_1 : DC cX8_set 1 (.ifCond .lt 8) 3 4 := ⟨by decide +kernel, rfl⟩
theorem dX8_set_4 : DC cX8_set 4 (.iload_n 1) 1 5 := ⟨by decide +kernel, rfl⟩
theorem dX8_set_5 : DC cX8_set 5 (.iconst 4) 1 6 := ⟨by decide +kernel, rfl⟩
theorem dX8_set_6 : DC cX8_set 6 (.if_icmp .lt 13) 3 9 := ⟨by decide +kernel, rfl⟩
theorem dX8_set_9 : DC cX8_set 9 (.new 61) 3 12 := ⟨by decide +kernel, rfl⟩
theorem dX8_set_12 : DC cX8_set 12 (.dup) 1 13 := ⟨by decide +kernel, rfl⟩
theorem dX8_set_13 : DC cX8_set 13 (.ldc 120) 2 15 := ⟨by decide +kernel, rfl⟩
theorem dX8_set_15 : DC cX8_set 15 (.invokespecial 65) 3 18 := ⟨by decide +kernel, rfl⟩
theorem dX8_set_18 : DC cX8_set 18 (.athrow) 1 19 := ⟨by decide +kernel, rfl⟩
theorem dX8_set_19 : DC cX8_set 19 (.iload_n 2) 1 20 := ⟨by decide +kernel, rfl⟩
theorem dX8_set_20 : DC cX8_set 20 (.iload_n 1) 1 21 := ⟨by decide +kernel, rfl⟩
theorem dX8_set_21 : DC cX8_set 21 (.invokestatic 122) 3 24 := ⟨by decide +kernel, rfl⟩
theorem dX8_set_24 : DC cX8_set 24 (.if_icmp .lt 11) 3 27 := ⟨by decide +kernel, rfl⟩
theorem dX8_set_27 : DC cX8_set 27 (.iload_n 2) 1 28 := ⟨by decide +kernel, rfl⟩
theorem dX8_set_28 : DC cX8_set 28 (.iload_n 1) 1 29 := ⟨by decide +kernel, rfl⟩
theorem dX8_set_29 : DC cX8_set 29 (.invokestatic 126) 3 32 := ⟨by decide +kernel, rfl⟩
theorem dX8_set_32 : DC cX8_set 32 (.if_icmp .le 13) 3 35 := ⟨by decide +kernel, rfl⟩
theorem dX8_set_35 : DC cX8_set 35 (.new 61) 3 38 := ⟨by decide +kernel, rfl⟩
theorem dX8_set_38 : DC cX8_set 38 (.dup) 1 39 := ⟨by decide +kernel, rfl⟩
theorem dX8_set_39 : DC cX8_set 39 (.ldc 129) 2 41 := ⟨by decide +kernel, rfl⟩
theorem dX8_set_41 : DC cX8_set 41 (.invokespecial 65) 3 44 := ⟨by decide +kernel, rfl⟩
theorem dX8_set_44 : DC cX8_set 44 (.athrow) 1 45 := ⟨by decide +kernel, rfl⟩
theorem dX8_set_45 : DC cX8_set 45 (.aload_n 0) 1 46 := ⟨by decide +kernel, rfl⟩
theorem dX8_set_46 : DC cX8_set 46 (.getfield 10) 3 49 := ⟨by decide +kernel, rfl⟩
theorem dX8_set_49 : DC cX8_set 49 (.getfield 131) 3 52 := ⟨by decide +kernel, rfl⟩
theorem dX8_set_52 : DC cX8_set 52 (.iload_n 1) 1 53 := ⟨by decide +kernel, rfl⟩
theorem dX8_set_53 : DC cX8_set 53 (.iaload) 1 54 := ⟨by decide +kernel, rfl⟩
theorem dX8_set_54 : DC cX8_set 54 (.istore_n 3) 1 55 := ⟨by decide +kernel, rfl⟩
theorem dX8_set_55 : DC cX8_set 55 (.aload_n 0) 1 56 := ⟨by decide +kernel, rfl⟩
theorem dX8_set_56 : DC cX8_set 56 (.invokevirtual 114) 3 59 := ⟨by decide +kernel, rfl⟩
theorem dX8_set_59 : DC cX8_set 59 (.aload_n 0) 1 60 := ⟨by decide +kernel, rfl⟩
theorem dX8_set_60 : DC cX8_set 60 (.getfield 10) 3 63 := ⟨by decide +kernel, rfl⟩
theorem dX8_set_63 : DC cX8_set 63 (.getfield 131) 3 66 := ⟨by decide +kernel, rfl⟩
theorem dX8_set_66 : DC cX8_set 66 (.iload_n 1) 1 67 := ⟨by decide +kernel, rfl⟩
theorem dX8_set_67 : DC cX8_set 67 (.iload_n 2) 1 68 := ⟨by decide +kernel, rfl⟩
theorem dX8_set_68 : DC cX8_set 68 (.iastore) 1 69 := ⟨by decide +kernel, rfl⟩
theorem dX8_set_69 : DC cX8_set 69 (.iload_n 3) 1 70 := ⟨by decide +kernel, rfl⟩
theorem dX8_set_70 : DC cX8_set 70 (.ireturn) 1 71 := ⟨by decide +kernel, rfl⟩
theorem dX8_withdraw_0 : DC cX8_withdraw 0 (.aload_n 0) 1 1 := ⟨by decide +kernel, rfl⟩
theorem dX8_withdraw_1 : DC cX8_withdraw 1 (.iload_n 1) 1 2 := ⟨by decide +kernel, rfl⟩
theorem dX8_withdraw_2 : DC cX8_withdraw 2 (.invokevirtual 135) 3 5 := ⟨by decide +kernel, rfl⟩
theorem dX8_withdraw_5 : DC cX8_withdraw 5 (.ifCond .ne 13) 3 8 := ⟨by decide +kernel, rfl⟩
theorem dX8_withdraw_8 : DC cX8_withdraw 8 (.new 139) 3 11 := ⟨by decide +kernel, rfl⟩
theorem dX8_withdraw_11 : DC cX8_withdraw 11 (.dup) 1 12 := ⟨by decide +kernel, rfl⟩
theorem dX8_withdraw_12 : DC cX8_withdraw 12 (.ldc 141) 2 14 := ⟨by decide +kernel, rfl⟩
theorem dX8_withdraw_14 : DC cX8_withdraw 14 (.invokespecial 143) 3 17 := ⟨by decide +kernel, rfl⟩
theorem dX8_withdraw_17 : DC cX8_withdraw 17 (.athrow) 1 18 := ⟨by decide +kernel, rfl⟩
theorem dX8_withdraw_18 : DC cX8_withdraw 18 (.aload_n 0) 1 19 := ⟨by decide +kernel, rfl⟩
theorem dX8_withdraw_19 : DC cX8_withdraw 19 (.invokevirtual 114) 3 22 := ⟨by decide +kernel, rfl⟩
theorem dX8_withdraw_22 : DC cX8_withdraw 22 (.aload_n 0) 1 23 := ⟨by decide +kernel, rfl⟩
theorem dX8_withdraw_23 : DC cX8_withdraw 23 (.getfield 10) 3 26 := ⟨by decide +kernel, rfl⟩
theorem dX8_withdraw_26 : DC cX8_withdraw 26 (.dup) 1 27 := ⟨by decide +kernel, rfl⟩
theorem dX8_withdraw_27 : DC cX8_withdraw 27 (.getfield 144) 3 30 := ⟨by decide +kernel, rfl⟩
theorem dX8_withdraw_30 : DC cX8_withdraw 30 (.iconst 1) 1 31 := ⟨by decide +kernel, rfl⟩
theorem dX8_withdraw_31 : DC cX8_withdraw 31 (.iload_n 1) 1 32 := ⟨by decide +kernel, rfl⟩
theorem dX8_withdraw_32 : DC cX8_withdraw 32 (.ishl) 1 33 := ⟨by decide +kernel, rfl⟩
theorem dX8_withdraw_33 : DC cX8_withdraw 33 (.ixor) 1 34 := ⟨by decide +kernel, rfl⟩
theorem dX8_withdraw_34 : DC cX8_withdraw 34 (.putfield 144) 3 37 := ⟨by decide +kernel, rfl⟩
theorem dX8_withdraw_37 : DC cX8_withdraw 37 (.aload_n 0) 1 38 := ⟨by decide +kernel, rfl⟩
theorem dX8_withdraw_38 : DC cX8_withdraw 38 (.getfield 10) 3 41 := ⟨by decide +kernel, rfl⟩
theorem dX8_withdraw_41 : DC cX8_withdraw 41 (.getfield 144) 3 44 := ⟨by decide +kernel, rfl⟩
theorem dX8_withdraw_44 : DC cX8_withdraw 44 (.iload_n 1) 1 45 := ⟨by decide +kernel, rfl⟩
theorem dX8_withdraw_45 : DC cX8_withdraw 45 (.invokestatic 147) 3 48 := ⟨by decide +kernel, rfl⟩
theorem dX8_withdraw_48 : DC cX8_withdraw 48 (.ireturn) 1 49 := ⟨by decide +kernel, rfl⟩
theorem dX8_pile_0 : DC cX8_pile 0 (.aload_n 0) 1 1 := ⟨by decide +kernel, rfl⟩
theorem dX8_pile_1 : DC cX8_pile 1 (.iload_n 1) 1 2 := ⟨by decide +kernel, rfl⟩
theorem dX8_pile_2 : DC cX8_pile 2 (.invokevirtual 151) 3 5 := ⟨by decide +kernel, rfl⟩
theorem dX8_pile_5 : DC cX8_pile 5 (.ifCond .ne 13) 3 8 := ⟨by decide +kernel, rfl⟩
theorem dX8_pile_8 : DC cX8_pile 8 (.new 139) 3 11 := ⟨by decide +kernel, rfl⟩
theorem dX8_pile_11 : DC cX8_pile 11 (.dup) 1 12 := ⟨by decide +kernel, rfl⟩
theorem dX8_pile_12 : DC cX8_pile 12 (.ldc 154) 2 14 := ⟨by decide +kernel, rfl⟩
theorem dX8_pile_14 : DC cX8_pile 14 (.invokespecial 143) 3 17 := ⟨by decide +kernel, rfl⟩
theorem dX8_pile_17 : DC cX8_pile 17 (.athrow) 1 18 := ⟨by decide +kernel, rfl⟩
theorem dX8_pile_18 : DC cX8_pile 18 (.iload_n 2) 1 19 := ⟨by decide +kernel, rfl⟩
theorem dX8_pile_19 : DC cX8_pile 19 (.ifCond .ne 13) 3 22 := ⟨by decide +kernel, rfl⟩
theorem dX8_pile_22 : DC cX8_pile 22 (.aload_n 0) 1 23 := ⟨by decide +kernel, rfl⟩
theorem dX8_pile_23 : DC cX8_pile 23 (.getfield 10) 3 26 := ⟨by decide +kernel, rfl⟩
theorem dX8_pile_26 : DC cX8_pile 26 (.getfield 156) 3 29 := ⟨by decide +kernel, rfl⟩
theorem dX8_pile_29 : DC cX8_pile 29 (.iload_n 1) 1 30 := ⟨by decide +kernel, rfl⟩
theorem dX8_pile_30 : DC cX8_pile 30 (.iaload) 1 31 := ⟨by decide +kernel, rfl⟩
theorem dX8_pile_31 : DC cX8_pile 31 (.ireturn) 1 32 := ⟨by decide +kernel, rfl⟩
theorem dX8_pile_32 : DC cX8_pile 32 (.iload_n 2) 1 33 := ⟨by decide +kernel, rfl⟩
theorem dX8_pile_33 : DC cX8_pile 33 (.iconst 1) 1 34 := ⟨by decide +kernel, rfl⟩
theorem dX8_pile_34 : DC cX8_pile 34 (.if_icmp .ne 13) 3 37 := ⟨by decide +kernel, rfl⟩
theorem dX8_pile_37 : DC cX8_pile 37 (.aload_n 0) 1 38 := ⟨by decide +kernel, rfl⟩
theorem dX8_pile_38 : DC cX8_pile 38 (.getfield 10) 3 41 := ⟨by decide +kernel, rfl⟩
theorem dX8_pile_41 : DC cX8_pile 41 (.getfield 159) 3 44 := ⟨by decide +kernel, rfl⟩
theorem dX8_pile_44 : DC cX8_pile 44 (.iload_n 1) 1 45 := ⟨by decide +kernel, rfl⟩
theorem dX8_pile_45 : DC cX8_pile 45 (.iaload) 1 46 := ⟨by decide +kernel, rfl⟩
theorem dX8_pile_46 : DC cX8_pile 46 (.ireturn) 1 47 := ⟨by decide +kernel, rfl⟩
theorem dX8_pile_47 : DC cX8_pile 47 (.iload_n 2) 1 48 := ⟨by decide +kernel, rfl⟩
theorem dX8_pile_48 : DC cX8_pile 48 (.bipush 10) 2 50 := ⟨by decide +kernel, rfl⟩
theorem dX8_pile_50 : DC cX8_pile 50 (.if_icmp .lt 19) 3 53 := ⟨by decide +kernel, rfl⟩
theorem dX8_pile_53 : DC cX8_pile 53 (.iload_n 2) 1 54 := ⟨by decide +kernel, rfl⟩
theorem dX8_pile_54 : DC cX8_pile 54 (.bipush 10) 2 56 := ⟨by decide +kernel, rfl⟩
theorem dX8_pile_56 : DC cX8_pile 56 (.aload_n 0) 1 57 := ⟨by decide +kernel, rfl⟩
theorem dX8_pile_57 : DC cX8_pile 57 (.getfield 10) 3 60 := ⟨by decide +kernel, rfl⟩
theorem dX8_pile_60 : DC cX8_pile 60 (.getfield 159) 3 63 := ⟨by decide +kernel, rfl⟩
theorem dX8_pile_63 : DC cX8_pile 63 (.iload_n 1) 1 64 := ⟨by decide +kernel, rfl⟩
theorem dX8_pile_64 : DC cX8_pile 64 (.iaload) 1 65 := ⟨by decide +kernel, rfl⟩
theorem dX8_pile_65 : DC cX8_pile 65 (.iadd) 1 66 := ⟨by decide +kernel, rfl⟩
theorem dX8_pile_66 : DC cX8_pile 66 (.if_icmp .lt 13) 3 69 := ⟨by decide +kernel, rfl⟩
theorem dX8_pile_69 : DC cX8_pile 69 (.new 61) 3 72 := ⟨by decide +kernel, rfl⟩
theorem dX8_pile_72 : DC cX8_pile 72 (.dup) 1 73 := ⟨by decide +kernel, rfl⟩
theorem dX8_pile_73 : DC cX8_pile 73 (.ldc 162) 2 75 := ⟨by decide +kernel, rfl⟩
theorem dX8_pile_75 : DC cX8_pile 75 (.invokespecial 65) 3 78 := ⟨by decide +kernel, rfl⟩
theorem dX8_pile_78 : DC cX8_pile 78 (.athrow) 1 79 := ⟨by decide +kernel, rfl⟩
theorem dX8_pile_79 : DC cX8_pile 79 (.aload_n 0) 1 80 := ⟨by decide +kernel, rfl⟩
theorem dX8_pile_80 : DC cX8_pile 80 (.getfield 10) 3 83 := ⟨by decide +kernel, rfl⟩
theorem dX8_pile_83 : DC cX8_pile 83 (.getfield 164) 3 86 := ⟨by decide +kernel, rfl⟩
theorem dX8_pile_86 : DC cX8_pile 86 (.iload_n 1) 1 87 := ⟨by decide +kernel, rfl⟩
theorem dX8_pile_87 : DC cX8_pile 87 (.aaload) 1 88 := ⟨by decide +kernel, rfl⟩
theorem dX8_pile_88 : DC cX8_pile 88 (.iload_n 2) 1 89 := ⟨by decide +kernel, rfl⟩
theorem dX8_pile_89 : DC cX8_pile 89 (.bipush 10) 2 91 := ⟨by decide +kernel, rfl⟩
theorem dX8_pile_91 : DC cX8_pile 91 (.isub) 1 92 := ⟨by decide +kernel, rfl⟩
theorem dX8_pile_92 : DC cX8_pile 92 (.iaload) 1 93 := ⟨by decide +kernel, rfl⟩
theorem dX8_pile_93 : DC cX8_pile 93 (.ireturn) 1 94 := ⟨by decide +kernel, rfl⟩
theorem dX8_character_0 : DC cX8_character 0 (.aload_n 0) 1 1 := ⟨by decide +kernel, rfl⟩
theorem dX8_character_1 : DC cX8_character 1 (.iload_n 1) 1 2 := ⟨by decide +kernel, rfl⟩
theorem dX8_character_2 : DC cX8_character 2 (.invokevirtual 151) 3 5 := ⟨by decide +kernel, rfl⟩
theorem dX8_character_5 : DC cX8_character 5 (.ifCond .ne 13) 3 8 := ⟨by decide +kernel, rfl⟩
theorem dX8_character_8 : DC cX8_character 8 (.new 139) 3 11 := ⟨by decide +kernel, rfl⟩
theorem dX8_character_11 : DC cX8_character 11 (.dup) 1 12 := ⟨by decide +kernel, rfl⟩
theorem dX8_character_12 : DC cX8_character 12 (.ldc 154) 2 14 := ⟨by decide +kernel, rfl⟩
theorem dX8_character_14 : DC cX8_character 14 (.invokespecial 143) 3 17 := ⟨by decide +kernel, rfl⟩
theorem dX8_character_17 : DC cX8_character 17 (.athrow) 1 18 := ⟨by decide +kernel, rfl⟩
theorem dX8_character_18 : DC cX8_character 18 (.aload_n 0) 1 19 := ⟨by decide +kernel, rfl⟩
theorem dX8_character_19 : DC cX8_character 19 (.getfield 10) 3 22 := ⟨by decide +kernel, rfl⟩
theorem dX8_character_22 : DC cX8_character 22 (.getfield 156) 3 25 := ⟨by decide +kernel, rfl⟩
theorem dX8_character_25 : DC cX8_character 25 (.iload_n 1) 1 26 := ⟨by decide +kernel, rfl⟩
theorem dX8_character_26 : DC cX8_character 26 (.iaload) 1 27 := ⟨by decide +kernel, rfl⟩
theorem dX8_character_27 : DC cX8_character 27 (.bipush 9) 2 29 := ⟨by decide +kernel, rfl⟩
theorem dX8_character_29 : DC cX8_character 29 (.if_icmp .le 7) 3 32 := ⟨by decide +kernel, rfl⟩
theorem dX8_character_32 : DC cX8_character 32 (.iconst 2) 1 33 := ⟨by decide +kernel, rfl⟩
theorem dX8_character_33 : DC cX8_character 33 (.goto 4) 3 36 := ⟨by decide +kernel, rfl⟩
theorem dX8_character_36 : DC cX8_character 36 (.iconst 1) 1 37 := ⟨by decide +kernel, rfl⟩
theorem dX8_character_37 : DC cX8_character 37 (.istore_n 3) 1 38 := ⟨by decide +kernel, rfl⟩
theorem dX8_character_38 : DC cX8_character 38 (.iload_n 3) 1 39 := ⟨by decide +kernel, rfl⟩
theorem dX8_character_39 : DC cX8_character 39 (.aload_n 0) 1 40 := ⟨by decide +kernel, rfl⟩
theorem dX8_character_40 : DC cX8_character 40 (.getfield 10) 3 43 := ⟨by decide +kernel, rfl⟩
theorem dX8_character_43 : DC cX8_character 43 (.getfield 159) 3 46 := ⟨by decide +kernel, rfl⟩
theorem dX8_character_46 : DC cX8_character 46 (.iload_n 1) 1 47 := ⟨by decide +kernel, rfl⟩
theorem dX8_character_47 : DC cX8_character 47 (.iaload) 1 48 := ⟨by decide +kernel, rfl⟩
theorem dX8_character_48 : DC cX8_character 48 (.iadd) 1 49 := ⟨by decide +kernel, rfl⟩
theorem dX8_character_49 : DC cX8_character 49 (.iconst 2) 1 50 := ⟨by decide +kernel, rfl⟩
theorem dX8_character_50 : DC cX8_character 50 (.iadd) 1 51 := ⟨by decide +kernel, rfl⟩
theorem dX8_character_51 : DC cX8_character 51 (.istore 4) 2 53 := ⟨by decide +kernel, rfl⟩
theorem dX8_character_53 : DC cX8_character 53 (.iload_n 2) 1 54 := ⟨by decide +kernel, rfl⟩
theorem dX8_character_54 : DC cX8_character 54 (.iconst (-1)) 1 55 := ⟨by decide +kernel, rfl⟩
theorem dX8_character_55 : DC cX8_character 55 (.if_icmp .lt 9) 3 58 := ⟨by decide +kernel, rfl⟩
theorem dX8_character_58 : DC cX8_character 58 (.iload_n 2) 1 59 := ⟨by decide +kernel, rfl⟩
theorem dX8_character_59 : DC cX8_character 59 (.iload 4) 2 61 := ⟨by decide +kernel, rfl⟩
theorem dX8_character_61 : DC cX8_character 61 (.if_icmp .lt 13) 3 64 := ⟨by decide +kernel, rfl⟩
theorem dX8_character_64 : DC cX8_character 64 (.new 139) 3 67 := ⟨by decide +kernel, rfl⟩
theorem dX8_character_67 : DC cX8_character 67 (.dup) 1 68 := ⟨by decide +kernel, rfl⟩
theorem dX8_character_68 : DC cX8_character 68 (.ldc 168) 2 70 := ⟨by decide +kernel, rfl⟩
theorem dX8_character_70 : DC cX8_character 70 (.invokespecial 143) 3 73 := ⟨by decide +kernel, rfl⟩
theorem dX8_character_73 : DC cX8_character 73 (.athrow) 1 74 := ⟨by decide +kernel, rfl⟩
theorem dX8_character_74 : DC cX8_character 74 (.iload_n 2) 1 75 := ⟨by decide +kernel, rfl⟩
theorem dX8_character_75 : DC cX8_character 75 (.iconst (-1)) 1 76 := ⟨by decide +kernel, rfl⟩
theorem dX8_character_76 : DC cX8_character 76 (.if_icmp .ne 6) 3 79 := ⟨by decide +kernel, rfl⟩
theorem dX8_character_79 : DC cX8_character 79 (.iload 4) 2 81 := ⟨by decide +kernel, rfl⟩
theorem dX8_character_81 : DC cX8_character 81 (.ireturn) 1 82 := ⟨by decide +kernel, rfl⟩
theorem dX8_character_82 : DC cX8_character 82 (.aload_n 0) 1 83 := ⟨by decide +kernel, rfl⟩
theorem dX8_character_83 : DC cX8_character 83 (.iload_n 1) 1 84 := ⟨by decide +kernel, rfl⟩
theorem dX8_character_84 : DC cX8_character 84 (.iload_n 2) 1 85 := ⟨by decide +kernel, rfl⟩
theorem dX8_character_85 : DC cX8_character 85 (.iload_n 3) 1 86 := ⟨by decide +kernel, rfl⟩
theorem dX8_character_86 : DC cX8_character 86 (.invokevirtual 170) 3 89 := ⟨by decide +kernel, rfl⟩
theorem dX8_character_89 : DC cX8_character 89 (.ireturn) 1 90 := ⟨by decide +kernel, rfl⟩
theorem dX8_rounds_0 : DC cX8_rounds 0 (.aload_n 0) 1 1 := ⟨by decide +kernel, rfl⟩
theorem dX8_rounds_1 : DC cX8_rounds 1 (.invokevirtual 174) 3 4 := ⟨by decide +kernel, rfl⟩
theorem dX8_rounds_4 : DC cX8_rounds 4 (.getfield 178) 3 7 := ⟨by decide +kernel, rfl⟩
theorem dX8_rounds_7 : DC cX8_rounds 7 (.getfield 181) 3 10 := ⟨by decide +kernel, rfl⟩
theorem dX8_rounds_10 : DC cX8_rounds 10 (.ireturn) 1 11 := ⟨by decide +kernel, rfl⟩
theorem dX8_votes_0 : DC cX8_votes 0 (.aload_n 0) 1 1 := ⟨by decide +kernel, rfl⟩
theorem dX8_votes_1 : DC cX8_votes 1 (.aload_n 0) 1 2 := ⟨by decide +kernel, rfl⟩
theorem dX8_votes_2 : DC cX8_votes 2 (.invokevirtual 174) 3 5 := ⟨by decide +kernel, rfl⟩
theorem dX8_votes_5 : DC cX8_votes 5 (.getfield 178) 3 8 := ⟨by decide +kernel, rfl⟩
theorem dX8_votes_8 : DC cX8_votes 8 (.iload_n 1) 1 9 := ⟨by decide +kernel, rfl⟩
theorem dX8_votes_9 : DC cX8_votes 9 (.iload_n 2) 1 10 := ⟨by decide +kernel, rfl⟩
theorem dX8_votes_10 : DC cX8_votes 10 (.invokevirtual 184) 3 13 := ⟨by decide +kernel, rfl⟩
theorem dX8_votes_13 : DC cX8_votes 13 (.ireturn) 1 14 := ⟨by decide +kernel, rfl⟩
theorem dX8_round_0 : DC cX8_round 0 (.aload_n 0) 1 1 := ⟨by decide +kernel, rfl⟩
theorem dX8_round_1 : DC cX8_round 1 (.invokevirtual 174) 3 4 := ⟨by decide +kernel, rfl⟩
theorem dX8_round_4 : DC cX8_round 4 (.astore_n 3) 1 5 := ⟨by decide +kernel, rfl⟩
theorem dX8_round_5 : DC cX8_round 5 (.aload_n 3) 1 6 := ⟨by decide +kernel, rfl⟩
theorem dX8_round_6 : DC cX8_round 6 (.getfield 178) 3 9 := ⟨by decide +kernel, rfl⟩
theorem dX8_round_9 : DC cX8_round 9 (.iload_n 1) 1 10 := ⟨by decide +kernel, rfl⟩
theorem dX8_round_10 : DC cX8_round 10 (.invokevirtual 188) 3 13 := ⟨by decide +kernel, rfl⟩
theorem dX8_round_13 : DC cX8_round 13 (.ifCond .ne 13) 3 16 := ⟨by decide +kernel, rfl⟩
theorem dX8_round_16 : DC cX8_round 16 (.new 139) 3 19 := ⟨by decide +kernel, rfl⟩
theorem dX8_round_19 : DC cX8_round 19 (.dup) 1 20 := ⟨by decide +kernel, rfl⟩
theorem dX8_round_20 : DC cX8_round 20 (.ldc 191) 2 22 := ⟨by decide +kernel, rfl⟩
theorem dX8_round_22 : DC cX8_round 22 (.invokespecial 143) 3 25 := ⟨by decide +kernel, rfl⟩
theorem dX8_round_25 : DC cX8_round 25 (.athrow) 1 26 := ⟨by decide +kernel, rfl⟩
theorem dX8_round_26 : DC cX8_round 26 (.aload_n 3) 1 27 := ⟨by decide +kernel, rfl⟩
theorem dX8_round_27 : DC cX8_round 27 (.getfield 193) 3 30 := ⟨by decide +kernel, rfl⟩
theorem dX8_round_30 : DC cX8_round 30 (.astore 4) 2 32 := ⟨by decide +kernel, rfl⟩
theorem dX8_round_32 : DC cX8_round 32 (.iload_n 2) 1 33 := ⟨by decide +kernel, rfl⟩
theorem dX8_round_33 : DC cX8_round 33 (.tableswitch 99 0 6 #[43, 51, 59, 67, 75, 83, 91]) 43 76 := ⟨by decide +kernel, rfl⟩
theorem dX8_round_76 : DC cX8_round 76 (.aload 4) 2 78 := ⟨by decide +kernel, rfl⟩
theorem dX8_round_78 : DC cX8_round 78 (.getfield 197) 3 81 := ⟨by decide +kernel, rfl⟩
theorem dX8_round_81 : DC cX8_round 81 (.iload_n 1) 1 82 := ⟨by decide +kernel, rfl⟩
theorem dX8_round_82 : DC cX8_round 82 (.iaload) 1 83 := ⟨by decide +kernel, rfl⟩
theorem dX8_round_83 : DC cX8_round 83 (.ireturn) 1 84 := ⟨by decide +kernel, rfl⟩
theorem dX8_round_84 : DC cX8_round 84 (.aload 4) 2 86 := ⟨by decide +kernel, rfl⟩
theorem dX8_round_86 : DC cX8_round 86 (.getfield 202) 3 89 := ⟨by decide +kernel, rfl⟩
theorem dX8_round_89 : DC cX8_round 89 (.iload_n 1) 1 90 := ⟨by decide +kernel, rfl⟩
theorem dX8_round_90 : DC cX8_round 90 (.iaload) 1 91 := ⟨by decide +kernel, rfl⟩
theorem dX8_round_91 : DC cX8_round 91 (.ireturn) 1 92 := ⟨by decide +kernel, rfl⟩
theorem dX8_round_92 : DC cX8_round 92 (.aload 4) 2 94 := ⟨by decide +kernel, rfl⟩
theorem dX8_round_94 : DC cX8_round 94 (.getfield 205) 3 97 := ⟨by decide +kernel, rfl⟩
theorem dX8_round_97 : DC cX8_round 97 (.iload_n 1) 1 98 := ⟨by decide +kernel, rfl⟩
theorem dX8_round_98 : DC cX8_round 98 (.iaload) 1 99 := ⟨by decide +kernel, rfl⟩
theorem dX8_round_99 : DC cX8_round 99 (.ireturn) 1 100 := ⟨by decide +kernel, rfl⟩
theorem dX8_round_100 : DC cX8_round 100 (.aload 4) 2 102 := ⟨by decide +kernel, rfl⟩
theorem dX8_round_102 : DC cX8_round 102 (.getfield 208) 3 105 := ⟨by decide +kernel, rfl⟩
theorem dX8_round_105 : DC cX8_round 105 (.iload_n 1) 1 106 := ⟨by decide +kernel, rfl⟩
theorem dX8_round_106 : DC cX8_round 106 (.iaload) 1 107 := ⟨by decide +kernel, rfl⟩
theorem dX8_round_107 : DC cX8_round 107 (.ireturn) 1 108 := ⟨by decide +kernel, rfl⟩
theorem dX8_round_108 : DC cX8_round 108 (.aload 4) 2 110 := ⟨by decide +kernel, rfl⟩
theorem dX8_round_110 : DC cX8_round 110 (.getfield 211) 3 113 := ⟨by decide +kernel, rfl⟩
theorem dX8_round_113 : DC cX8_round 113 (.iload_n 1) 1 114 := ⟨by decide +kernel, rfl⟩
theorem dX8_round_114 : DC cX8_round 114 (.iaload) 1 115 := ⟨by decide +kernel, rfl⟩
theorem dX8_round_115 : DC cX8_round 115 (.ireturn) 1 116 := ⟨by decide +kernel, rfl⟩
theorem dX8_round_116 : DC cX8_round 116 (.aload 4) 2 118 := ⟨by decide +kernel, rfl⟩
theorem dX8_round_118 : DC cX8_round 118 (.getfield 214) 3 121 := ⟨by decide +kernel, rfl⟩
theorem dX8_round_121 : DC cX8_round 121 (.iload_n 1) 1 122 := ⟨by decide +kernel, rfl⟩
theorem dX8_round_122 : DC cX8_round 122 (.iaload) 1 123 := ⟨by decide +kernel, rfl⟩
theorem dX8_round_123 : DC cX8_round 123 (.ireturn) 1 124 := ⟨by decide +kernel, rfl⟩
theorem dX8_round_124 : DC cX8_round 124 (.aload 4) 2 126 := ⟨by decide +kernel, rfl⟩
theorem dX8_round_126 : DC cX8_round 126 (.getfield 217) 3 129 := ⟨by decide +kernel, rfl⟩
theorem dX8_round_129 : DC cX8_round 129 (.iload_n 1) 1 130 := ⟨by decide +kernel, rfl⟩
theorem dX8_round_130 : DC cX8_round 130 (.iaload) 1 131 := ⟨by decide +kernel, rfl⟩
theorem dX8_round_131 : DC cX8_round 131 (.ireturn) 1 132 := ⟨by decide +kernel, rfl⟩
theorem dX8_round_132 : DC cX8_round 132 (.new 61) 3 135 := ⟨by decide +kernel, rfl⟩
theorem dX8_round_135 : DC cX8_round 135 (.dup) 1 136 := ⟨by decide +kernel, rfl⟩
theorem dX8_round_136 : DC cX8_round 136 (.ldc 220) 2 138 := ⟨by decide +kernel, rfl⟩
theorem dX8_round_138 : DC cX8_round 138 (.invokespecial 65) 3 141 := ⟨by decide +kernel, rfl⟩
theorem dX8_round_141 : DC cX8_round 141 (.athrow) 1 142 := ⟨by decide +kernel, rfl⟩
theorem dX8_candidate_0 : DC cX8_candidate 0 (.aload_n 0) 1 1 := ⟨by decide +kernel, rfl⟩
theorem dX8_candidate_1 : DC cX8_candidate 1 (.iload_n 1) 1 2 := ⟨by decide +kernel, rfl⟩
theorem dX8_candidate_2 : DC cX8_candidate 2 (.invokevirtual 135) 3 5 := ⟨by decide +kernel, rfl⟩
theorem dX8_candidate_5 : DC cX8_candidate 5 (.ifCond .ne 13) 3 8 := ⟨by decide +kernel, rfl⟩
theorem dX8_candidate_8 : DC cX8_candidate 8 (.new 139) 3 11 := ⟨by decide +kernel, rfl⟩
theorem dX8_candidate_11 : DC cX8_candidate 11 (.dup) 1 12 := ⟨by decide +kernel, rfl⟩
theorem dX8_candidate_12 : DC cX8_candidate 12 (.ldc 141) 2 14 := ⟨by decide +kernel, rfl⟩
theorem dX8_candidate_14 : DC cX8_candidate 14 (.invokespecial 143) 3 17 := ⟨by decide +kernel, rfl⟩
theorem dX8_candidate_17 : DC cX8_candidate 17 (.athrow) 1 18 := ⟨by decide +kernel, rfl⟩
theorem dX8_candidate_18 : DC cX8_candidate 18 (.aload_n 0) 1 19 := ⟨by decide +kernel, rfl⟩
theorem dX8_candidate_19 : DC cX8_candidate 19 (.invokevirtual 174) 3 22 := ⟨by decide +kernel, rfl⟩
theorem dX8_candidate_22 : DC cX8_candidate 22 (.astore_n 3) 1 23 := ⟨by decide +kernel, rfl⟩
theorem dX8_candidate_23 : DC cX8_candidate 23 (.iload_n 2) 1 24 := ⟨by decide +kernel, rfl⟩
theorem dX8_candidate_24 : DC cX8_candidate 24 (.tableswitch 98 0 5 #[40, 50, 60, 69, 79, 89]) 40 64 := ⟨by decide +kernel, rfl⟩
theorem dX8_candidate_64 : DC cX8_candidate 64 (.aload_n 3) 1 65 := ⟨by decide +kernel, rfl⟩
theorem dX8_candidate_65 : DC cX8_candidate 65 (.getfield 178) 3 68 := ⟨by decide +kernel, rfl⟩
theorem dX8_candidate_68 : DC cX8_candidate 68 (.getfield 222) 3 71 := ⟨by decide +kernel, rfl⟩
theorem dX8_candidate_71 : DC cX8_candidate 71 (.iload_n 1) 1 72 := ⟨by decide +kernel, rfl⟩
theorem dX8_candidate_72 : DC cX8_candidate 72 (.iaload) 1 73 := ⟨by decide +kernel, rfl⟩
theorem dX8_candidate_73 : DC cX8_candidate 73 (.ireturn) 1 74 := ⟨by decide +kernel, rfl⟩
theorem dX8_candidate_74 : DC cX8_candidate 74 (.aload_n 3) 1 75 := ⟨by decide +kernel, rfl⟩
theorem dX8_candidate_75 : DC cX8_candidate 75 (.getfield 225) 3 78 := ⟨by decide +kernel, rfl⟩
theorem dX8_candidate_78 : DC cX8_candidate 78 (.getfield 229) 3 81 := ⟨by decide +kernel, rfl⟩
theorem dX8_candidate_81 : DC cX8_candidate 81 (.iload_n 1) 1 82 := ⟨by decide +kernel, rfl⟩
theorem dX8_candidate_82 : DC cX8_candidate 82 (.iaload) 1 83 := ⟨by decide +kernel, rfl⟩
theorem dX8_candidate_83 : DC cX8_candidate 83 (.ireturn) 1 84 := ⟨by decide +kernel, rfl⟩
theorem dX8_candidate_84 : DC cX8_candidate 84 (.aload_n 3) 1 85 := ⟨by decide +kernel, rfl⟩
theorem dX8_candidate_85 : DC cX8_candidate 85 (.getfield 178) 3 88 := ⟨by decide +kernel, rfl⟩
theorem dX8_candidate_88 : DC cX8_candidate 88 (.iload_n 1) 1 89 := ⟨by decide +kernel, rfl⟩
theorem dX8_candidate_89 : DC cX8_candidate 89 (.invokevirtual 234) 3 92 := ⟨by decide +kernel, rfl⟩
theorem dX8_candidate_92 : DC cX8_candidate 92 (.ireturn) 1 93 := ⟨by decide +kernel, rfl⟩
theorem dX8_candidate_93 : DC cX8_candidate 93 (.aload_n 3) 1 94 := ⟨by decide +kernel, rfl⟩
theorem dX8_candidate_94 : DC cX8_candidate 94 (.getfield 225) 3 97 := ⟨by decide +kernel, rfl⟩
theorem dX8_candidate_97 : DC cX8_candidate 97 (.getfield 237) 3 100 := ⟨by decide +kernel, rfl⟩
theorem dX8_candidate_100 : DC cX8_candidate 100 (.iload_n 1) 1 101 := ⟨by decide +kernel, rfl⟩
theorem dX8_candidate_101 : DC cX8_candidate 101 (.iaload) 1 102 := ⟨by decide +kernel, rfl⟩
theorem dX8_candidate_102 : DC cX8_candidate 102 (.ireturn) 1 103 := ⟨by decide +kernel, rfl⟩
theorem dX8_candidate_103 : DC cX8_candidate 103 (.aload_n 3) 1 104 := ⟨by decide +kernel, rfl⟩
theorem dX8_candidate_104 : DC cX8_candidate 104 (.getfield 225) 3 107 := ⟨by decide +kernel, rfl⟩
theorem dX8_candidate_107 : DC cX8_candidate 107 (.getfield 240) 3 110 := ⟨by decide +kernel, rfl⟩
theorem dX8_candidate_110 : DC cX8_candidate 110 (.iload_n 1) 1 111 := ⟨by decide +kernel, rfl⟩
theorem dX8_candidate_111 : DC cX8_candidate 111 (.iaload) 1 112 := ⟨by decide +kernel, rfl⟩
theorem dX8_candidate_112 : DC cX8_candidate 112 (.ireturn) 1 113 := ⟨by decide +kernel, rfl⟩
theorem dX8_candidate_113 : DC cX8_candidate 113 (.aload_n 3) 1 114 := ⟨by decide +kernel, rfl⟩
theorem dX8_candidate_114 : DC cX8_candidate 114 (.getfield 178) 3 117 := ⟨by decide +kernel, rfl⟩
theorem dX8_candidate_117 : DC cX8_candidate 117 (.iload_n 1) 1 118 := ⟨by decide +kernel, rfl⟩
theorem dX8_candidate_118 : DC cX8_candidate 118 (.invokevirtual 243) 3 121 := ⟨by decide +kernel, rfl⟩
theorem dX8_candidate_121 : DC cX8_candidate 121 (.ireturn) 1 122 := ⟨by decide +kernel, rfl⟩
theorem dX8_candidate_122 : DC cX8_candidate 122 (.new 61) 3 125 := ⟨by decide +kernel, rfl⟩
theorem dX8_candidate_125 : DC cX8_candidate 125 (.dup) 1 126 := ⟨by decide +kernel, rfl⟩
theorem dX8_candidate_126 : DC cX8_candidate 126 (.ldc 246) 2 128 := ⟨by decide +kernel, rfl⟩
theorem dX8_candidate_128 : DC cX8_candidate 128 (.invokespecial 65) 3 131 := ⟨by decide +kernel, rfl⟩
theorem dX8_candidate_131 : DC cX8_candidate 131 (.athrow) 1 132 := ⟨by decide +kernel, rfl⟩
theorem dX8_elected_0 : DC cX8_elected 0 (.aload_n 0) 1 1 := ⟨by decide +kernel, rfl⟩
theorem dX8_elected_1 : DC cX8_elected 1 (.invokevirtual 174) 3 4 := ⟨by decide +kernel, rfl⟩
theorem dX8_elected_4 : DC cX8_elected 4 (.getfield 178) 3 7 := ⟨by decide +kernel, rfl⟩
theorem dX8_elected_7 : DC cX8_elected 7 (.astore_n 2) 1 8 := ⟨by decide +kernel, rfl⟩
theorem dX8_elected_8 : DC cX8_elected 8 (.iload_n 1) 1 9 := ⟨by decide +kernel, rfl⟩
theorem dX8_elected_9 : DC cX8_elected 9 (.ifCond .lt 11) 3 12 := ⟨by decide +kernel, rfl⟩
theorem dX8_elected_12 : DC cX8_elected 12 (.iload_n 1) 1 13 := ⟨by decide +kernel, rfl⟩
theorem dX8_elected_13 : DC cX8_elected 13 (.aload_n 2) 1 14 := ⟨by decide +kernel, rfl⟩
theorem dX8_elected_14 : DC cX8_elected 14 (.getfield 248) 3 17 := ⟨by decide +kernel, rfl⟩
theorem dX8_elected_17 : DC cX8_elected 17 (.if_icmp .lt 13) 3 20 := ⟨by decide +kernel, rfl⟩
theorem dX8_elected_20 : DC cX8_elected 20 (.new 251) 3 23 := ⟨by decide +kernel, rfl⟩
theorem dX8_elected_23 : DC cX8_elected 23 (.dup) 1 24 := ⟨by decide +kernel, rfl⟩
theorem dX8_elected_24 : DC cX8_elected 24 (.ldc 253) 2 26 := ⟨by decide +kernel, rfl⟩
theorem dX8_elected_26 : DC cX8_elected 26 (.invokespecial 255) 3 29 := ⟨by decide +kernel, rfl⟩
theorem dX8_elected_29 : DC cX8_elected 29 (.athrow) 1 30 := ⟨by decide +kernel, rfl⟩
theorem dX8_elected_30 : DC cX8_elected 30 (.aload_n 2) 1 31 := ⟨by decide +kernel, rfl⟩
theorem dX8_elected_31 : DC cX8_elected 31 (.getfield 256) 3 34 := ⟨by decide +kernel, rfl⟩
theorem dX8_elected_34 : DC cX8_elected 34 (.iload_n 1) 1 35 := ⟨by decide +kernel, rfl⟩
theorem dX8_elected_35 : DC cX8_elected 35 (.iaload) 1 36 := ⟨by decide +kernel, rfl⟩
theorem dX8_elected_36 : DC cX8_elected 36 (.ireturn) 1 37 := ⟨by decide +kernel, rfl⟩
theorem dX8_where_0 : DC cX8_where 0 (.aload_n 0) 1 1 := ⟨by decide +kernel, rfl⟩
theorem dX8_where_1 : DC cX8_where 1 (.invokevirtual 174) 3 4 := ⟨by decide +kernel, rfl⟩
theorem dX8_where_4 : DC cX8_where 4 (.astore 4) 2 6 := ⟨by decide +kernel, rfl⟩
theorem dX8_where_6 : DC cX8_where 6 (.aload 4) 2 8 := ⟨by decide +kernel, rfl⟩
theorem dX8_where_8 : DC cX8_where 8 (.getfield 178) 3 11 := ⟨by decide +kernel, rfl⟩
theorem dX8_where_11 : DC cX8_where 11 (.iload_n 1) 1 12 := ⟨by decide +kernel, rfl⟩
theorem dX8_where_12 : DC cX8_where 12 (.invokevirtual 188) 3 15 := ⟨by decide +kernel, rfl⟩
theorem dX8_where_15 : DC cX8_where 15 (.ifCond .ne 13) 3 18 := ⟨by decide +kernel, rfl⟩
theorem dX8_where_18 : DC cX8_where 18 (.new 139) 3 21 := ⟨by decide +kernel, rfl⟩
theorem dX8_where_21 : DC cX8_where 21 (.dup) 1 22 := ⟨by decide +kernel, rfl⟩
theorem dX8_where_22 : DC cX8_where 22 (.ldc 191) 2 24 := ⟨by decide +kernel, rfl⟩
theorem dX8_where_24 : DC cX8_where 24 (.invokespecial 143) 3 27 := ⟨by decide +kernel, rfl⟩
theorem dX8_where_27 : DC cX8_where 27 (.athrow) 1 28 := ⟨by decide +kernel, rfl⟩
theorem dX8_where_28 : DC cX8_where 28 (.aload_n 0) 1 29 := ⟨by decide +kernel, rfl⟩
theorem dX8_where_29 : DC cX8_where 29 (.iload_n 2) 1 30 := ⟨by decide +kernel, rfl⟩
theorem dX8_where_30 : DC cX8_where 30 (.invokevirtual 151) 3 33 := ⟨by decide +kernel, rfl⟩
theorem dX8_where_33 : DC cX8_where 33 (.ifCond .ne 13) 3 36 := ⟨by decide +kernel, rfl⟩
theorem dX8_where_36 : DC cX8_where 36 (.new 139) 3 39 := ⟨by decide +kernel, rfl⟩
theorem dX8_where_39 : DC cX8_where 39 (.dup) 1 40 := ⟨by decide +kernel, rfl⟩
theorem dX8_where_40 : DC cX8_where 40 (.ldc 154) 2 42 := ⟨by decide +kernel, rfl⟩
theorem dX8_where_42 : DC cX8_where 42 (.invokespecial 143) 3 45 := ⟨by decide +kernel, rfl⟩
theorem dX8_where_45 : DC cX8_where 45 (.athrow) 1 46 := ⟨by decide +kernel, rfl⟩
theorem dX8_where_46 : DC cX8_where 46 (.iload_n 3) 1 47 := ⟨by decide +kernel, rfl⟩
theorem dX8_where_47 : DC cX8_where 47 (.ifCond .ne 16) 3 50 := ⟨by decide +kernel, rfl⟩
theorem dX8_where_50 : DC cX8_where 50 (.aload 4) 2 52 := ⟨by decide +kernel, rfl⟩
theorem dX8_where_52 : DC cX8_where 52 (.getfield 193) 3 55 := ⟨by decide +kernel, rfl⟩
theorem dX8_where_55 : DC cX8_where 55 (.getfield 259) 3 58 := ⟨by decide +kernel, rfl⟩
theorem dX8_where_58 : DC cX8_where 58 (.iload_n 1) 1 59 := ⟨by decide +kernel, rfl⟩
theorem dX8_where_59 : DC cX8_where 59 (.aaload) 1 60 := ⟨by decide +kernel, rfl⟩
theorem dX8_where_60 : DC cX8_where 60 (.iload_n 2) 1 61 := ⟨by decide +kernel, rfl⟩
theorem dX8_where_61 : DC cX8_where 61 (.iaload) 1 62 := ⟨by decide +kernel, rfl⟩
theorem dX8_where_62 : DC cX8_where 62 (.ireturn) 1 63 := ⟨by decide +kernel, rfl⟩
theorem dX8_where_63 : DC cX8_where 63 (.iload_n 3) 1 64 := ⟨by decide +kernel, rfl⟩
theorem dX8_where_64 : DC cX8_where 64 (.iconst 1) 1 65 := ⟨by decide +kernel, rfl⟩
theorem dX8_where_65 : DC cX8_where 65 (.if_icmp .ne 16) 3 68 := ⟨by decide +kernel, rfl⟩
theorem dX8_where_68 : DC cX8_where 68 (.aload 4) 2 70 := ⟨by decide +kernel, rfl⟩
theorem dX8_where_70 : DC cX8_where 70 (.getfield 193) 3 73 := ⟨by decide +kernel, rfl⟩
theorem dX8_where_73 : DC cX8_where 73 (.getfield 262) 3 76 := ⟨by decide +kernel, rfl⟩
theorem dX8_where_76 : DC cX8_where 76 (.iload_n 1) 1 77 := ⟨by decide +kernel, rfl⟩
theorem dX8_where_77 : DC cX8_where 77 (.aaload) 1 78 := ⟨by decide +kernel, rfl⟩
theorem dX8_where_78 : DC cX8_where 78 (.iload_n 2) 1 79 := ⟨by decide +kernel, rfl⟩
theorem dX8_where_79 : DC cX8_where 79 (.iaload) 1 80 := ⟨by decide +kernel, rfl⟩
theorem dX8_where_80 : DC cX8_where 80 (.ireturn) 1 81 := ⟨by decide +kernel, rfl⟩
theorem dX8_where_81 : DC cX8_where 81 (.new 61) 3 84 := ⟨by decide +kernel, rfl⟩
theorem dX8_where_84 : DC cX8_where 84 (.dup) 1 85 := ⟨by decide +kernel, rfl⟩
theorem dX8_where_85 : DC cX8_where 85 (.ldc_w 265) 3 88 := ⟨by decide +kernel, rfl⟩
theorem dX8_where_88 : DC cX8_where 88 (.invokespecial 65) 3 91 := ⟨by decide +kernel, rfl⟩
theorem dX8_where_91 : DC cX8_where 91 (.athrow) 1 92 := ⟨by decide +kernel, rfl⟩
theorem dX8_share_0 : DC cX8_share 0 (.aload_n 0) 1 1 := ⟨by decide +kernel, rfl⟩
theorem dX8_share_1 : DC cX8_share 1 (.aload_n 0) 1 2 := ⟨by decide +kernel, rfl⟩
theorem dX8_share_2 : DC cX8_share 2 (.invokevirtual 174) 3 5 := ⟨by decide +kernel, rfl⟩
theorem dX8_share_5 : DC cX8_share 5 (.getfield 178) 3 8 := ⟨by decide +kernel, rfl⟩
theorem dX8_share_8 : DC cX8_share 8 (.iload_n 1) 1 9 := ⟨by decide +kernel, rfl⟩
theorem dX8_share_9 : DC cX8_share 9 (.iload_n 2) 1 10 := ⟨by decide +kernel, rfl⟩
theorem dX8_share_10 : DC cX8_share 10 (.invokevirtual 184) 3 13 := ⟨by decide +kernel, rfl⟩
theorem dX8_share_13 : DC cX8_share 13 (.istore_n 3) 1 14 := ⟨by decide +kernel, rfl⟩
theorem dX8_share_14 : DC cX8_share 14 (.aload_n 0) 1 15 := ⟨by decide +kernel, rfl⟩
theorem dX8_share_15 : DC cX8_share 15 (.getfield 10) 3 18 := ⟨by decide +kernel, rfl⟩
theorem dX8_share_18 : DC cX8_share 18 (.invokevirtual 267) 3 21 := ⟨by decide +kernel, rfl⟩
theorem dX8_share_21 : DC cX8_share 21 (.sipush 10000) 3 24 := ⟨by decide +kernel, rfl⟩
theorem dX8_share_24 : DC cX8_share 24 (.imul) 1 25 := ⟨by decide +kernel, rfl⟩
theorem dX8_share_25 : DC cX8_share 25 (.istore 4) 2 27 := ⟨by decide +kernel, rfl⟩
theorem dX8_share_27 : DC cX8_share 27 (.iload 4) 2 29 := ⟨by decide +kernel, rfl⟩
theorem dX8_share_29 : DC cX8_share 29 (.ifCond .gt 14) 3 32 := ⟨by decide +kernel, rfl⟩
theorem dX8_share_32 : DC cX8_share 32 (.new 271) 3 35 := ⟨by decide +kernel, rfl⟩
theorem dX8_share_35 : DC cX8_share 35 (.dup) 1 36 := ⟨by decide +kernel, rfl⟩
theorem dX8_share_36 : DC cX8_share 36 (.ldc_w 273) 3 39 := ⟨by decide +kernel, rfl⟩
theorem dX8_share_39 : DC cX8_share 39 (.invokespecial 275) 3 42 := ⟨by decide +kernel, rfl⟩
theorem dX8_share_42 : DC cX8_share 42 (.athrow) 1 43 := ⟨by decide +kernel, rfl⟩
theorem dX8_share_43 : DC cX8_share 43 (.iload_n 3) 1 44 := ⟨by decide +kernel, rfl⟩
theorem dX8_share_44 : DC cX8_share 44 (.i2f) 1 45 := ⟨by decide +kernel, rfl⟩
theorem dX8_share_45 : DC cX8_share 45 (.iload 4) 2 47 := ⟨by decide +kernel, rfl⟩
theorem dX8_share_47 : DC cX8_share 47 (.i2f) 1 48 := ⟨by decide +kernel, rfl⟩
theorem dX8_share_48 : DC cX8_share 48 (.fdiv) 1 49 := ⟨by decide +kernel, rfl⟩
theorem dX8_share_49 : DC cX8_share 49 (.freturn) 1 50 := ⟨by decide +kernel, rfl⟩
theorem dX8_preferring_0 : DC cX8_preferring 0 (.aload_n 0) 1 1 := ⟨by decide +kernel, rfl⟩
theorem dX8_preferring_1 : DC cX8_preferring 1 (.iload_n 1) 1 2 := ⟨by decide +kernel, rfl⟩
theorem dX8_preferring_2 : DC cX8_preferring 2 (.invokevirtual 135) 3 5 := ⟨by decide +kernel, rfl⟩
theorem dX8_preferring_5 : DC cX8_preferring 5 (.ifCond .eq 11) 3 8 := ⟨by decide +kernel, rfl⟩
theorem dX8_preferring_8 : DC cX8_preferring 8 (.aload_n 0) 1 9 := ⟨by decide +kernel, rfl⟩
theorem dX8_preferring_9 : DC cX8_preferring 9 (.iload_n 2) 1 10 := ⟨by decide +kernel, rfl⟩
theorem dX8_preferring_10 : DC cX8_preferring 10 (.invokevirtual 135) 3 13 := ⟨by decide +kernel, rfl⟩
theorem dX8_preferring_13 : DC cX8_preferring 13 (.ifCond .ne 13) 3 16 := ⟨by decide +kernel, rfl⟩
theorem dX8_preferring_16 : DC cX8_preferring 16 (.new 139) 3 19 := ⟨by decide +kernel, rfl⟩
theorem dX8_preferring_19 : DC cX8_preferring 19 (.dup) 1 20 := ⟨by decide +kernel, rfl⟩
theorem dX8_preferring_20 : DC cX8_preferring 20 (.ldc 141) 2 22 := ⟨by decide +kernel, rfl⟩
theorem dX8_preferring_22 : DC cX8_preferring 22 (.invokespecial 143) 3 25 := ⟨by decide +kernel, rfl⟩
theorem dX8_preferring_25 : DC cX8_preferring 25 (.athrow) 1 26 := ⟨by decide +kernel, rfl⟩
theorem dX8_preferring_26 : DC cX8_preferring 26 (.aload_n 0) 1 27 := ⟨by decide +kernel, rfl⟩
theorem dX8_preferring_27 : DC cX8_preferring 27 (.getfield 10) 3 30 := ⟨by decide +kernel, rfl⟩
theorem dX8_preferring_30 : DC cX8_preferring 30 (.iload_n 1) 1 31 := ⟨by decide +kernel, rfl⟩
theorem dX8_preferring_31 : DC cX8_preferring 31 (.iload_n 2) 1 32 := ⟨by decide +kernel, rfl⟩
theorem dX8_preferring_32 : DC cX8_preferring 32 (.invokevirtual 276) 3 35 := ⟨by decide +kernel, rfl⟩
theorem dX8_preferring_35 : DC cX8_preferring 35 (.ireturn) 1 36 := ⟨by decide +kernel, rfl⟩
theorem dX8_beatsAll_0 : DC cX8_beatsAll 0 (.iconst 0) 1 1 := ⟨by decide +kernel, rfl⟩
theorem dX8_beatsAll_1 : DC cX8_beatsAll 1 (.istore_n 1) 1 2 := ⟨by decide +kernel, rfl⟩
theorem dX8_beatsAll_2 : DC cX8_beatsAll 2 (.iload_n 1) 1 3 := ⟨by decide +kernel, rfl⟩
theorem dX8_beatsAll_3 : DC cX8_beatsAll 3 (.aload_n 0) 1 4 := ⟨by decide +kernel, rfl⟩
theorem dX8_beatsAll_4 : DC cX8_beatsAll 4 (.getfield 10) 3 7 := ⟨by decide +kernel, rfl⟩
theorem dX8_beatsAll_7 : DC cX8_beatsAll 7 (.getfield 70) 3 10 := ⟨by decide +kernel, rfl⟩
theorem dX8_beatsAll_10 : DC cX8_beatsAll 10 (.if_icmp .ge 33) 3 13 := ⟨by decide +kernel, rfl⟩
theorem dX8_beatsAll_13 : DC cX8_beatsAll 13 (.aload_n 0) 1 14 := ⟨by decide +kernel, rfl⟩
theorem dX8_beatsAll_14 : DC cX8_beatsAll 14 (.getfield 10) 3 17 := ⟨by decide +kernel, rfl⟩
theorem dX8_beatsAll_17 : DC cX8_beatsAll 17 (.getfield 144) 3 20 := ⟨by decide +kernel, rfl⟩
theorem dX8_beatsAll_20 : DC cX8_beatsAll 20 (.iload_n 1) 1 21 := ⟨by decide +kernel, rfl⟩
theorem dX8_beatsAll_21 : DC cX8_beatsAll 21 (.invokestatic 147) 3 24 := ⟨by decide +kernel, rfl⟩
theorem dX8_beatsAll_24 : DC cX8_beatsAll 24 (.ifCond .ne 13) 3 27 := ⟨by decide +kernel, rfl⟩
theorem dX8_beatsAll_27 : DC cX8_beatsAll 27 (.aload_n 0) 1 28 := ⟨by decide +kernel, rfl⟩
theorem dX8_beatsAll_28 : DC cX8_beatsAll 28 (.iload_n 1) 1 29 := ⟨by decide +kernel, rfl⟩
theorem dX8_beatsAll_29 : DC cX8_beatsAll 29 (.invokevirtual 280) 3 32 := ⟨by decide +kernel, rfl⟩
theorem dX8_beatsAll_32 : DC cX8_beatsAll 32 (.ifCond .eq 5) 3 35 := ⟨by decide +kernel, rfl⟩
theorem dX8_beatsAll_35 : DC cX8_beatsAll 35 (.iload_n 1) 1 36 := ⟨by decide +kernel, rfl⟩
theorem dX8_beatsAll_36 : DC cX8_beatsAll 36 (.ireturn) 1 37 := ⟨by decide +kernel, rfl⟩
theorem dX8_beatsAll_37 : DC cX8_beatsAll 37 (.iinc 1 1) 3 40 := ⟨by decide +kernel, rfl⟩
theorem dX8_beatsAll_40 : DC cX8_beatsAll 40 (.goto (-38)) 3 43 := ⟨by decide +kernel, rfl⟩
theorem dX8_beatsAll_43 : DC cX8_beatsAll 43 (.iconst (-1)) 1 44 := ⟨by decide +kernel, rfl⟩
theorem dX8_beatsAll_44 : DC cX8_beatsAll 44 (.ireturn) 1 45 := ⟨by decide +kernel, rfl⟩
theorem dX8_points_0 : DC cX8_points 0 (.aload_n 0) 1 1 := ⟨by decide +kernel, rfl⟩
theorem dX8_points_1 : DC cX8_points 1 (.iload_n 1) 1 2 := ⟨by decide +kernel, rfl⟩
theorem dX8_points_2 : DC cX8_points 2 (.invokevirtual 135) 3 5 := ⟨by decide +kernel, rfl⟩
theorem dX8_points_5 : DC cX8_points 5 (.ifCond .ne 13) 3 8 := ⟨by decide +kernel, rfl⟩
theorem dX8_points_8 : DC cX8_points 8 (.new 139) 3 11 := ⟨by decide +kernel, rfl⟩
theorem dX8_points_11 : DC cX8_points 11 (.dup) 1 12 := ⟨by decide +kernel, rfl⟩
theorem dX8_points_12 : DC cX8_points 12 (.ldc 141) 2 14 := ⟨by decide +kernel, rfl⟩
theorem dX8_points_14 : DC cX8_points 14 (.invokespecial 143) 3 17 := ⟨by decide +kernel, rfl⟩
theorem dX8_points_17 : DC cX8_points 17 (.athrow) 1 18 := ⟨by decide +kernel, rfl⟩
theorem dX8_points_18 : DC cX8_points 18 (.iconst 0) 1 19 := ⟨by decide +kernel, rfl⟩
theorem dX8_points_19 : DC cX8_points 19 (.istore_n 2) 1 20 := ⟨by decide +kernel, rfl⟩
theorem dX8_points_20 : DC cX8_points 20 (.iconst 0) 1 21 := ⟨by decide +kernel, rfl⟩
theorem dX8_points_21 : DC cX8_points 21 (.istore_n 3) 1 22 := ⟨by decide +kernel, rfl⟩
theorem dX8_points_22 : DC cX8_points 22 (.iload_n 3) 1 23 := ⟨by decide +kernel, rfl⟩
theorem dX8_points_23 : DC cX8_points 23 (.aload_n 0) 1 24 := ⟨by decide +kernel, rfl⟩
theorem dX8_points_24 : DC cX8_points 24 (.getfield 10) 3 27 := ⟨by decide +kernel, rfl⟩
theorem dX8_points_27 : DC cX8_points 27 (.getfield 70) 3 30 := ⟨by decide +kernel, rfl⟩
theorem dX8_points_30 : DC cX8_points 30 (.if_icmp .ge 21) 3 33 := ⟨by decide +kernel, rfl⟩
theorem dX8_points_33 : DC cX8_points 33 (.iload_n 2) 1 34 := ⟨by decide +kernel, rfl⟩
theorem dX8_points_34 : DC cX8_points 34 (.aload_n 0) 1 35 := ⟨by decide +kernel, rfl⟩
theorem dX8_points_35 : DC cX8_points 35 (.getfield 10) 3 38 := ⟨by decide +kernel, rfl⟩
theorem dX8_points_38 : DC cX8_points 38 (.iload_n 1) 1 39 := ⟨by decide +kernel, rfl⟩
theorem dX8_points_39 : DC cX8_points 39 (.iload_n 3) 1 40 := ⟨by decide +kernel, rfl⟩
theorem dX8_points_40 : DC cX8_points 40 (.invokevirtual 276) 3 43 := ⟨by decide +kernel, rfl⟩
theorem dX8_points_43 : DC cX8_points 43 (.iadd) 1 44 := ⟨by decide +kernel, rfl⟩
theorem dX8_points_44 : DC cX8_points 44 (.istore_n 2) 1 45 := ⟨by decide +kernel, rfl⟩
theorem dX8_points_45 : DC cX8_points 45 (.iinc 3 1) 3 48 := ⟨by decide +kernel, rfl⟩
theorem dX8_points_48 : DC cX8_points 48 (.goto (-26)) 3 51 := ⟨by decide +kernel, rfl⟩
theorem dX8_points_51 : DC cX8_points 51 (.iload_n 2) 1 52 := ⟨by decide +kernel, rfl⟩
theorem dX8_points_52 : DC cX8_points 52 (.ireturn) 1 53 := ⟨by decide +kernel, rfl⟩
theorem dX8_declare_0 : DC cX8_declare 0 (.aload_n 0) 1 1 := ⟨by decide +kernel, rfl⟩
theorem dX8_declare_1 : DC cX8_declare 1 (.getfield 51) 3 4 := ⟨by decide +kernel, rfl⟩
theorem dX8_declare_4 : DC cX8_declare 4 (.aload_n 0) 1 5 := ⟨by decide +kernel, rfl⟩
theorem dX8_declare_5 : DC cX8_declare 5 (.invokevirtual 174) 3 8 := ⟨by decide +kernel, rfl⟩
theorem dX8_declare_8 : DC cX8_declare 8 (.getfield 178) 3 11 := ⟨by decide +kernel, rfl⟩
theorem dX8_declare_11 : DC cX8_declare 11 (.invokevirtual 283) 3 14 := ⟨by decide +kernel, rfl⟩
theorem dX8_declare_14 : DC cX8_declare 14 (.aload_n 0) 1 15 := ⟨by decide +kernel, rfl⟩
theorem dX8_declare_15 : DC cX8_declare 15 (.iconst 1) 1 16 := ⟨by decide +kernel, rfl⟩
theorem dX8_declare_16 : DC cX8_declare 16 (.putfield 82) 3 19 := ⟨by decide +kernel, rfl⟩
theorem dX8_declare_19 : DC cX8_declare 19 (.aload_n 0) 1 20 := ⟨by decide +kernel, rfl⟩
theorem dX8_declare_20 : DC cX8_declare 20 (.getfield 51) 3 23 := ⟨by decide +kernel, rfl⟩
theorem dX8_declare_23 : DC cX8_declare 23 (.getfield 248) 3 26 := ⟨by decide +kernel, rfl⟩
theorem dX8_declare_26 : DC cX8_declare 26 (.ireturn) 1 27 := ⟨by decide +kernel, rfl⟩
theorem dX8_recount_0 : DC cX8_recount 0 (.iload_n 1) 1 1 := ⟨by decide +kernel, rfl⟩
theorem dX8_recount_1 : DC cX8_recount 1 (.ifCond .lt 8) 3 4 := ⟨by decide +kernel, rfl⟩
theorem dX8_recount_4 : DC cX8_recount 4 (.iload_n 1) 1 5 := ⟨by decide +kernel, rfl⟩
theorem dX8_recount_5 : DC cX8_recount 5 (.iconst 2) 1 6 := ⟨by decide +kernel, rfl⟩
theorem dX8_recount_6 : DC cX8_recount 6 (.if_icmp .le 14) 3 9 := ⟨by decide +kernel, rfl⟩
theorem dX8_recount_9 : DC cX8_recount 9 (.new 61) 3 12 := ⟨by decide +kernel, rfl⟩
theorem dX8_recount_12 : DC cX8_recount 12 (.dup) 1 13 := ⟨by decide +kernel, rfl⟩
theorem dX8_recount_13 : DC cX8_recount 13 (.ldc_w 286) 3 16 := ⟨by decide +kernel, rfl⟩
theorem dX8_recount_16 : DC cX8_recount 16 (.invokespecial 65) 3 19 := ⟨by decide +kernel, rfl⟩
theorem dX8_recount_19 : DC cX8_recount 19 (.athrow) 1 20 := ⟨by decide +kernel, rfl⟩
theorem dX8_recount_20 : DC cX8_recount 20 (.aload_n 0) 1 21 := ⟨by decide +kernel, rfl⟩
theorem dX8_recount_21 : DC cX8_recount 21 (.getfield 82) 3 24 := ⟨by decide +kernel, rfl⟩
theorem dX8_recount_24 : DC cX8_recount 24 (.ifCond .ne 14) 3 27 := ⟨by decide +kernel, rfl⟩
theorem dX8_recount_27 : DC cX8_recount 27 (.new 93) 3 30 := ⟨by decide +kernel, rfl⟩
theorem dX8_recount_30 : DC cX8_recount 30 (.dup) 1 31 := ⟨by decide +kernel, rfl⟩
theorem dX8_recount_31 : DC cX8_recount 31 (.ldc_w 288) 3 34 := ⟨by decide +kernel, rfl⟩
theorem dX8_recount_34 : DC cX8_recount 34 (.invokespecial 97) 3 37 := ⟨by decide +kernel, rfl⟩
theorem dX8_recount_37 : DC cX8_recount 37 (.athrow) 1 38 := ⟨by decide +kernel, rfl⟩
theorem dX8_recount_38 : DC cX8_recount 38 (.aload_n 0) 1 39 := ⟨by decide +kernel, rfl⟩
theorem dX8_recount_39 : DC cX8_recount 39 (.invokevirtual 174) 3 42 := ⟨by decide +kernel, rfl⟩
theorem dX8_recount_42 : DC cX8_recount 42 (.getfield 178) 3 45 := ⟨by decide +kernel, rfl⟩
theorem dX8_recount_45 : DC cX8_recount 45 (.astore_n 2) 1 46 := ⟨by decide +kernel, rfl⟩
theorem dX8_recount_46 : DC cX8_recount 46 (.iload_n 1) 1 47 := ⟨by decide +kernel, rfl⟩
theorem dX8_recount_47 : DC cX8_recount 47 (.ifCond .ne 19) 3 50 := ⟨by decide +kernel, rfl⟩
theorem dX8_recount_50 : DC cX8_recount 50 (.aload_n 2) 1 51 := ⟨by decide +kernel, rfl⟩
theorem dX8_recount_51 : DC cX8_recount 51 (.aload_n 0) 1 52 := ⟨by decide +kernel, rfl⟩
theorem dX8_recount_52 : DC cX8_recount 52 (.getfield 51) 3 55 := ⟨by decide +kernel, rfl⟩
theorem dX8_recount_55 : DC cX8_recount 55 (.aload_n 0) 1 56 := ⟨by decide +kernel, rfl⟩
theorem dX8_recount_56 : DC cX8_recount 56 (.getfield 10) 3 59 := ⟨by decide +kernel, rfl⟩
theorem dX8_recount_59 : DC cX8_recount 59 (.getfield 70) 3 62 := ⟨by decide +kernel, rfl⟩
theorem dX8_recount_62 : DC cX8_recount 62 (.invokevirtual 290) 3 65 := ⟨by decide +kernel, rfl⟩
theorem dX8_recount_65 : DC cX8_recount 65 (.ireturn) 1 66 := ⟨by decide +kernel, rfl⟩
theorem dX8_recount_66 : DC cX8_recount 66 (.iload_n 1) 1 67 := ⟨by decide +kernel, rfl⟩
theorem dX8_recount_67 : DC cX8_recount 67 (.iconst 1) 1 68 := ⟨by decide +kernel, rfl⟩
theorem dX8_recount_68 : DC cX8_recount 68 (.if_icmp .ne 14) 3 71 := ⟨by decide +kernel, rfl⟩
theorem dX8_recount_71 : DC cX8_recount 71 (.aload_n 2) 1 72 := ⟨by decide +kernel, rfl⟩
theorem dX8_recount_72 : DC cX8_recount 72 (.aload_n 0) 1 73 := ⟨by decide +kernel, rfl⟩
theorem dX8_recount_73 : DC cX8_recount 73 (.getfield 51) 3 76 := ⟨by decide +kernel, rfl⟩
theorem dX8_recount_76 : DC cX8_recount 76 (.invokevirtual 294) 3 79 := ⟨by decide +kernel, rfl⟩
theorem dX8_recount_79 : DC cX8_recount 79 (.goto 18) 3 82 := ⟨by decide +kernel, rfl⟩
theorem dX8_recount_82 : DC cX8_recount 82 (.aload_n 2) 1 83 := ⟨by decide +kernel, rfl⟩
theorem dX8_recount_83 : DC cX8_recount 83 (.aload_n 0) 1 84 := ⟨by decide +kernel, rfl⟩
theorem dX8_recount_84 : DC cX8_recount 84 (.getfield 51) 3 87 := ⟨by decide +kernel, rfl⟩
theorem dX8_recount_87 : DC cX8_recount 87 (.aload_n 0) 1 88 := ⟨by decide +kernel, rfl⟩
theorem dX8_recount_88 : DC cX8_recount 88 (.getfield 10) 3 91 := ⟨by decide +kernel, rfl⟩
theorem dX8_recount_91 : DC cX8_recount 91 (.getfield 70) 3 94 := ⟨by decide +kernel, rfl⟩
theorem dX8_recount_94 : DC cX8_recount 94 (.invokevirtual 298) 3 97 := ⟨by decide +kernel, rfl⟩
theorem dX8_recount_97 : DC cX8_recount 97 (.ireturn) 1 98 := ⟨by decide +kernel, rfl⟩
theorem dX8_needed_0 : DC cX8_needed 0 (.aload_n 0) 1 1 := ⟨by decide +kernel, rfl⟩
theorem dX8_needed_1 : DC cX8_needed 1 (.iload_n 1) 1 2 := ⟨by decide +kernel, rfl⟩
theorem dX8_needed_2 : DC cX8_needed 2 (.invokevirtual 135) 3 5 := ⟨by decide +kernel, rfl⟩
theorem dX8_needed_5 : DC cX8_needed 5 (.ifCond .ne 13) 3 8 := ⟨by decide +kernel, rfl⟩
theorem dX8_needed_8 : DC cX8_needed 8 (.new 139) 3 11 := ⟨by decide +kernel, rfl⟩
theorem dX8_needed_11 : DC cX8_needed 11 (.dup) 1 12 := ⟨by decide +kernel, rfl⟩
theorem dX8_needed_12 : DC cX8_needed 12 (.ldc 141) 2 14 := ⟨by decide +kernel, rfl⟩
theorem dX8_needed_14 : DC cX8_needed 14 (.invokespecial 143) 3 17 := ⟨by decide +kernel, rfl⟩
theorem dX8_needed_17 : DC cX8_needed 17 (.athrow) 1 18 := ⟨by decide +kernel, rfl⟩
theorem dX8_needed_18 : DC cX8_needed 18 (.aload_n 0) 1 19 := ⟨by decide +kernel, rfl⟩
theorem dX8_needed_19 : DC cX8_needed 19 (.invokevirtual 174) 3 22 := ⟨by decide +kernel, rfl⟩
theorem dX8_needed_22 : DC cX8_needed 22 (.getfield 178) 3 25 := ⟨by decide +kernel, rfl⟩
theorem dX8_needed_25 : DC cX8_needed 25 (.getfield 222) 3 28 := ⟨by decide +kernel, rfl⟩
theorem dX8_needed_28 : DC cX8_needed 28 (.iload_n 1) 1 29 := ⟨by decide +kernel, rfl⟩
theorem dX8_needed_29 : DC cX8_needed 29 (.iaload) 1 30 := ⟨by decide +kernel, rfl⟩
theorem dX8_needed_30 : DC cX8_needed 30 (.istore_n 2) 1 31 := ⟨by decide +kernel, rfl⟩
theorem dX8_needed_31 : DC cX8_needed 31 (.iload_n 2) 1 32 := ⟨by decide +kernel, rfl⟩
theorem dX8_needed_32 : DC cX8_needed 32 (.iconst 1) 1 33 := ⟨by decide +kernel, rfl⟩
theorem dX8_needed_33 : DC cX8_needed 33 (.if_icmp .ne 5) 3 36 := ⟨by decide +kernel, rfl⟩
theorem dX8_needed_36 : DC cX8_needed 36 (.iconst 0) 1 37 := ⟨by decide +kernel, rfl⟩
theorem dX8_needed_37 : DC cX8_needed 37 (.ireturn) 1 38 := ⟨by decide +kernel, rfl⟩
theorem dX8_needed_38 : DC cX8_needed 38 (.iload_n 2) 1 39 := ⟨by decide +kernel, rfl⟩
theorem dX8_needed_39 : DC cX8_needed 39 (.iconst 3) 1 40 := ⟨by decide +kernel, rfl⟩
theorem dX8_needed_40 : DC cX8_needed 40 (.if_icmp .ne 5) 3 43 := ⟨by decide +kernel, rfl⟩
theorem dX8_needed_43 : DC cX8_needed 43 (.iconst (-1)) 1 44 := ⟨by decide +kernel, rfl⟩
theorem dX8_needed_44 : DC cX8_needed 44 (.ireturn) 1 45 := ⟨by decide +kernel, rfl⟩
theorem dX8_needed_45 : DC cX8_needed 45 (.aload_n 0) 1 46 := ⟨by decide +kernel, rfl⟩
theorem dX8_needed_46 : DC cX8_needed 46 (.getfield 19) 3 49 := ⟨by decide +kernel, rfl⟩
theorem dX8_needed_49 : DC cX8_needed 49 (.aload_n 0) 1 50 := ⟨by decide +kernel, rfl⟩
theorem dX8_needed_50 : DC cX8_needed 50 (.getfield 10) 3 53 := ⟨by decide +kernel, rfl⟩
theorem dX8_needed_53 : DC cX8_needed 53 (.invokevirtual 102) 3 56 := ⟨by decide +kernel, rfl⟩
theorem dX8_needed_56 : DC cX8_needed 56 (.aload_n 0) 1 57 := ⟨by decide +kernel, rfl⟩
theorem dX8_needed_57 : DC cX8_needed 57 (.getfield 19) 3 60 := ⟨by decide +kernel, rfl⟩
theorem dX8_needed_60 : DC cX8_needed 60 (.iload_n 1) 1 61 := ⟨by decide +kernel, rfl⟩
theorem dX8_needed_61 : DC cX8_needed 61 (.invokevirtual 301) 3 64 := ⟨by decide +kernel, rfl⟩
theorem dX8_needed_64 : DC cX8_needed 64 (.istore_n 3) 1 65 := ⟨by decide +kernel, rfl⟩
theorem dX8_needed_65 : DC cX8_needed 65 (.iconst 1) 1 66 := ⟨by decide +kernel, rfl⟩
theorem dX8_needed_66 : DC cX8_needed 66 (.istore 4) 2 68 := ⟨by decide +kernel, rfl⟩
theorem dX8_needed_68 : DC cX8_needed 68 (.iload 4) 2 70 := ⟨by decide +kernel, rfl⟩
theorem dX8_needed_70 : DC cX8_needed 70 (.bipush 60) 2 72 := ⟨by decide +kernel, rfl⟩
theorem dX8_needed_72 : DC cX8_needed 72 (.if_icmp .gt 45) 3 75 := ⟨by decide +kernel, rfl⟩
theorem dX8_needed_75 : DC cX8_needed 75 (.aload_n 0) 1 76 := ⟨by decide +kernel, rfl⟩
theorem dX8_needed_76 : DC cX8_needed 76 (.getfield 19) 3 79 := ⟨by decide +kernel, rfl⟩
theorem dX8_needed_79 : DC cX8_needed 79 (.iload_n 3) 1 80 := ⟨by decide +kernel, rfl⟩
theorem dX8_needed_80 : DC cX8_needed 80 (.iload 4) 2 82 := ⟨by decide +kernel, rfl⟩
theorem dX8_needed_82 : DC cX8_needed 82 (.invokevirtual 304) 3 85 := ⟨by decide +kernel, rfl⟩
theorem dX8_needed_85 : DC cX8_needed 85 (.aload_n 0) 1 86 := ⟨by decide +kernel, rfl⟩
theorem dX8_needed_86 : DC cX8_needed 86 (.getfield 31) 3 89 := ⟨by decide +kernel, rfl⟩
theorem dX8_needed_89 : DC cX8_needed 89 (.invokevirtual 307) 3 92 := ⟨by decide +kernel, rfl⟩
theorem dX8_needed_92 : DC cX8_needed 92 (.aload_n 0) 1 93 := ⟨by decide +kernel, rfl⟩
theorem dX8_needed_93 : DC cX8_needed 93 (.getfield 31) 3 96 := ⟨by decide +kernel, rfl⟩
theorem dX8_needed_96 : DC cX8_needed 96 (.getfield 178) 3 99 := ⟨by decide +kernel, rfl⟩
theorem dX8_needed_99 : DC cX8_needed 99 (.getfield 222) 3 102 := ⟨by decide +kernel, rfl⟩
theorem dX8_needed_102 : DC cX8_needed 102 (.iload_n 1) 1 103 := ⟨by decide +kernel, rfl⟩
theorem dX8_needed_103 : DC cX8_needed 103 (.iaload) 1 104 := ⟨by decide +kernel, rfl⟩
theorem dX8_needed_104 : DC cX8_needed 104 (.iconst 1) 1 105 := ⟨by decide +kernel, rfl⟩
theorem dX8_needed_105 : DC cX8_needed 105 (.if_icmp .ne 6) 3 108 := ⟨by decide +kernel, rfl⟩
theorem dX8_needed_108 : DC cX8_needed 108 (.iload 4) 2 110 := ⟨by decide +kernel, rfl⟩
theorem dX8_needed_110 : DC cX8_needed 110 (.ireturn) 1 111 := ⟨by decide +kernel, rfl⟩
theorem dX8_needed_111 : DC cX8_needed 111 (.iinc 4 1) 3 114 := ⟨by decide +kernel, rfl⟩
theorem dX8_needed_114 : DC cX8_needed 114 (.goto (-46)) 3 117 := ⟨by decide +kernel, rfl⟩
theorem dX8_needed_117 : DC cX8_needed 117 (.iconst (-1)) 1 118 := ⟨by decide +kernel, rfl⟩
theorem dX8_needed_118 : DC cX8_needed 118 (.ireturn) 1 119 := ⟨by decide +kernel, rfl⟩
theorem dX8_undo_0 : DC cX8_undo 0 (.aload_n 0) 1 1 := ⟨by decide +kernel, rfl⟩
theorem dX8_undo_1 : DC cX8_undo 1 (.getfield 44) 3 4 := ⟨by decide +kernel, rfl⟩
theorem dX8_undo_4 : DC cX8_undo 4 (.getfield 310) 3 7 := ⟨by decide +kernel, rfl⟩
theorem dX8_undo_7 : DC cX8_undo 7 (.ifCond .ne 14) 3 10 := ⟨by decide +kernel, rfl⟩
theorem dX8_undo_10 : DC cX8_undo 10 (.new 93) 3 13 := ⟨by decide +kernel, rfl⟩
theorem dX8_undo_13 : DC cX8_undo 13 (.dup) 1 14 := ⟨by decide +kernel, rfl⟩
theorem dX8_undo_14 : DC cX8_undo 14 (.ldc_w 313) 3 17 := ⟨by decide +kernel, rfl⟩
theorem dX8_undo_17 : DC cX8_undo 17 (.invokespecial 97) 3 20 := ⟨by decide +kernel, rfl⟩
theorem dX8_undo_20 : DC cX8_undo 20 (.athrow) 1 21 := ⟨by decide +kernel, rfl⟩
theorem dX8_undo_21 : DC cX8_undo 21 (.aload_n 0) 1 22 := ⟨by decide +kernel, rfl⟩
theorem dX8_undo_22 : DC cX8_undo 22 (.getfield 44) 3 25 := ⟨by decide +kernel, rfl⟩
theorem dX8_undo_25 : DC cX8_undo 25 (.aload_n 0) 1 26 := ⟨by decide +kernel, rfl⟩
theorem dX8_undo_26 : DC cX8_undo 26 (.getfield 10) 3 29 := ⟨by decide +kernel, rfl⟩
theorem dX8_undo_29 : DC cX8_undo 29 (.invokevirtual 315) 3 32 := ⟨by decide +kernel, rfl⟩
theorem dX8_undo_32 : DC cX8_undo 32 (.aload_n 0) 1 33 := ⟨by decide +kernel, rfl⟩
theorem dX8_undo_33 : DC cX8_undo 33 (.iconst 0) 1 34 := ⟨by decide +kernel, rfl⟩
theorem dX8_undo_34 : DC cX8_undo 34 (.putfield 78) 3 37 := ⟨by decide +kernel, rfl⟩
theorem dX8_undo_37 : DC cX8_undo 37 (.aload_n 0) 1 38 := ⟨by decide +kernel, rfl⟩
theorem dX8_undo_38 : DC cX8_undo 38 (.getfield 44) 3 41 := ⟨by decide +kernel, rfl⟩
theorem dX8_undo_41 : DC cX8_undo 41 (.getfield 310) 3 44 := ⟨by decide +kernel, rfl⟩
theorem dX8_undo_44 : DC cX8_undo 44 (.ireturn) 1 45 := ⟨by decide +kernel, rfl⟩
theorem dX8_save_0 : DC cX8_save 0 (.aload_n 0) 1 1 := ⟨by decide +kernel, rfl⟩
theorem dX8_save_1 : DC cX8_save 1 (.getfield 55) 3 4 := ⟨by decide +kernel, rfl⟩
theorem dX8_save_4 : DC cX8_save 4 (.aload_n 0) 1 5 := ⟨by decide +kernel, rfl⟩
theorem dX8_save_5 : DC cX8_save 5 (.getfield 10) 3 8 := ⟨by decide +kernel, rfl⟩
theorem dX8_save_8 : DC cX8_save 8 (.invokevirtual 102) 3 11 := ⟨by decide +kernel, rfl⟩
theorem dX8_save_11 : DC cX8_save 11 (.aload_n 0) 1 12 := ⟨by decide +kernel, rfl⟩
theorem dX8_save_12 : DC cX8_save 12 (.getfield 58) 3 15 := ⟨by decide +kernel, rfl⟩
theorem dX8_save_15 : DC cX8_save 15 (.aload_n 0) 1 16 := ⟨by decide +kernel, rfl⟩
theorem dX8_save_16 : DC cX8_save 16 (.getfield 51) 3 19 := ⟨by decide +kernel, rfl⟩
theorem dX8_save_19 : DC cX8_save 19 (.invokevirtual 283) 3 22 := ⟨by decide +kernel, rfl⟩
theorem dX8_save_22 : DC cX8_save 22 (.aload_n 0) 1 23 := ⟨by decide +kernel, rfl⟩
theorem dX8_save_23 : DC cX8_save 23 (.aload_n 0) 1 24 := ⟨by decide +kernel, rfl⟩
theorem dX8_save_24 : DC cX8_save 24 (.getfield 82) 3 27 := ⟨by decide +kernel, rfl⟩
theorem dX8_save_27 : DC cX8_save 27 (.putfield 318) 3 30 := ⟨by decide +kernel, rfl⟩
theorem dX8_save_30 : DC cX8_save 30 (.aload_n 0) 1 31 := ⟨by decide +kernel, rfl⟩
theorem dX8_save_31 : DC cX8_save 31 (.iconst 1) 1 32 := ⟨by decide +kernel, rfl⟩
theorem dX8_save_32 : DC cX8_save 32 (.putfield 321) 3 35 := ⟨by decide +kernel, rfl⟩
theorem dX8_save_35 : DC cX8_save 35 (.aload_n 0) 1 36 := ⟨by decide +kernel, rfl⟩
theorem dX8_save_36 : DC cX8_save 36 (.getfield 55) 3 39 := ⟨by decide +kernel, rfl⟩
theorem dX8_save_39 : DC cX8_save 39 (.getfield 324) 3 42 := ⟨by decide +kernel, rfl⟩
theorem dX8_save_42 : DC cX8_save 42 (.ireturn) 1 43 := ⟨by decide +kernel, rfl⟩
theorem dX8_restore_0 : DC cX8_restore 0 (.aload_n 0) 1 1 := ⟨by decide +kernel, rfl⟩
theorem dX8_restore_1 : DC cX8_restore 1 (.getfield 321) 3 4 := ⟨by decide +kernel, rfl⟩
theorem dX8_restore_4 : DC cX8_restore 4 (.ifCond .ne 14) 3 7 := ⟨by decide +kernel, rfl⟩
theorem dX8_restore_7 : DC cX8_restore 7 (.new 93) 3 10 := ⟨by decide +kernel, rfl⟩
theorem dX8_restore_10 : DC cX8_restore 10 (.dup) 1 11 := ⟨by decide +kernel, rfl⟩
theorem dX8_restore_11 : DC cX8_restore 11 (.ldc_w 327) 3 14 := ⟨by decide +kernel, rfl⟩
theorem dX8_restore_14 : DC cX8_restore 14 (.invokespecial 97) 3 17 := ⟨by decide +kernel, rfl⟩
theorem dX8_restore_17 : DC cX8_restore 17 (.athrow) 1 18 := ⟨by decide +kernel, rfl⟩
theorem dX8_restore_18 : DC cX8_restore 18 (.aload_n 0) 1 19 := ⟨by decide +kernel, rfl⟩
theorem dX8_restore_19 : DC cX8_restore 19 (.getfield 10) 3 22 := ⟨by decide +kernel, rfl⟩
theorem dX8_restore_22 : DC cX8_restore 22 (.aload_n 0) 1 23 := ⟨by decide +kernel, rfl⟩
theorem dX8_restore_23 : DC cX8_restore 23 (.getfield 55) 3 26 := ⟨by decide +kernel, rfl⟩
theorem dX8_restore_26 : DC cX8_restore 26 (.invokevirtual 102) 3 29 := ⟨by decide +kernel, rfl⟩
theorem dX8_restore_29 : DC cX8_restore 29 (.aload_n 0) 1 30 := ⟨by decide +kernel, rfl⟩
theorem dX8_restore_30 : DC cX8_restore 30 (.getfield 51) 3 33 := ⟨by decide +kernel, rfl⟩
theorem dX8_restore_33 : DC cX8_restore 33 (.aload_n 0) 1 34 := ⟨by decide +kernel, rfl⟩
theorem dX8_restore_34 : DC cX8_restore 34 (.getfield 58) 3 37 := ⟨by decide +kernel, rfl⟩
theorem dX8_restore_37 : DC cX8_restore 37 (.invokevirtual 283) 3 40 := ⟨by decide +kernel, rfl⟩
theorem dX8_restore_40 : DC cX8_restore 40 (.aload_n 0) 1 41 := ⟨by decide +kernel, rfl⟩
theorem dX8_restore_41 : DC cX8_restore 41 (.aload_n 0) 1 42 := ⟨by decide +kernel, rfl⟩
theorem dX8_restore_42 : DC cX8_restore 42 (.getfield 318) 3 45 := ⟨by decide +kernel, rfl⟩
theorem dX8_restore_45 : DC cX8_restore 45 (.putfield 82) 3 48 := ⟨by decide +kernel, rfl⟩
theorem dX8_restore_48 : DC cX8_restore 48 (.aload_n 0) 1 49 := ⟨by decide +kernel, rfl⟩
theorem dX8_restore_49 : DC cX8_restore 49 (.iconst 0) 1 50 := ⟨by decide +kernel, rfl⟩
theorem dX8_restore_50 : DC cX8_restore 50 (.putfield 78) 3 53 := ⟨by decide +kernel, rfl⟩
theorem dX8_restore_53 : DC cX8_restore 53 (.aload_n 0) 1 54 := ⟨by decide +kernel, rfl⟩
theorem dX8_restore_54 : DC cX8_restore 54 (.getfield 44) 3 57 := ⟨by decide +kernel, rfl⟩
theorem dX8_restore_57 : DC cX8_restore 57 (.invokevirtual 85) 3 60 := ⟨by decide +kernel, rfl⟩
theorem dX8_restore_60 : DC cX8_restore 60 (.aload_n 0) 1 61 := ⟨by decide +kernel, rfl⟩
theorem dX8_restore_61 : DC cX8_restore 61 (.getfield 10) 3 64 := ⟨by decide +kernel, rfl⟩
theorem dX8_restore_64 : DC cX8_restore 64 (.getfield 324) 3 67 := ⟨by decide +kernel, rfl⟩
theorem dX8_restore_67 : DC cX8_restore 67 (.ireturn) 1 68 := ⟨by decide +kernel, rfl⟩
theorem dX8_count_0 : DC cX8_count 0 (.iload_n 1) 1 1 := ⟨by decide +kernel, rfl⟩
theorem dX8_count_1 : DC cX8_count 1 (.tableswitch 105 0 6 #[43, 51, 59, 67, 78, 89, 97]) 43 44 := ⟨by decide +kernel, rfl⟩
theorem dX8_count_44 : DC cX8_count 44 (.aload_n 0) 1 45 := ⟨by decide +kernel, rfl⟩
theorem dX8_count_45 : DC cX8_count 45 (.getfield 10) 3 48 := ⟨by decide +kernel, rfl⟩
theorem dX8_count_48 : DC cX8_count 48 (.getfield 70) 3 51 := ⟨by decide +kernel, rfl⟩
theorem dX8_count_51 : DC cX8_count 51 (.ireturn) 1 52 := ⟨by decide +kernel, rfl⟩
theorem dX8_count_52 : DC cX8_count 52 (.aload_n 0) 1 53 := ⟨by decide +kernel, rfl⟩
theorem dX8_count_53 : DC cX8_count 53 (.getfield 10) 3 56 := ⟨by decide +kernel, rfl⟩
theorem dX8_count_56 : DC cX8_count 56 (.getfield 324) 3 59 := ⟨by decide +kernel, rfl⟩
theorem dX8_count_59 : DC cX8_count 59 (.ireturn) 1 60 := ⟨by decide +kernel, rfl⟩
theorem dX8_count_60 : DC cX8_count 60 (.aload_n 0) 1 61 := ⟨by decide +kernel, rfl⟩
theorem dX8_count_61 : DC cX8_count 61 (.getfield 10) 3 64 := ⟨by decide +kernel, rfl⟩
theorem dX8_count_64 : DC cX8_count 64 (.invokevirtual 267) 3 67 := ⟨by decide +kernel, rfl⟩
theorem dX8_count_67 : DC cX8_count 67 (.ireturn) 1 68 := ⟨by decide +kernel, rfl⟩
theorem dX8_count_68 : DC cX8_count 68 (.aload_n 0) 1 69 := ⟨by decide +kernel, rfl⟩
theorem dX8_count_69 : DC cX8_count 69 (.invokevirtual 174) 3 72 := ⟨by decide +kernel, rfl⟩
theorem dX8_count_72 : DC cX8_count 72 (.getfield 178) 3 75 := ⟨by decide +kernel, rfl⟩
theorem dX8_count_75 : DC cX8_count 75 (.getfield 248) 3 78 := ⟨by decide +kernel, rfl⟩
theorem dX8_count_78 : DC cX8_count 78 (.ireturn) 1 79 := ⟨by decide +kernel, rfl⟩
theorem dX8_count_79 : DC cX8_count 79 (.aload_n 0) 1 80 := ⟨by decide +kernel, rfl⟩
theorem dX8_count_80 : DC cX8_count 80 (.getfield 10) 3 83 := ⟨by decide +kernel, rfl⟩
theorem dX8_count_83 : DC cX8_count 83 (.getfield 144) 3 86 := ⟨by decide +kernel, rfl⟩
theorem dX8_count_86 : DC cX8_count 86 (.invokestatic 329) 3 89 := ⟨by decide +kernel, rfl⟩
theorem dX8_count_89 : DC cX8_count 89 (.ireturn) 1 90 := ⟨by decide +kernel, rfl⟩
theorem dX8_count_90 : DC cX8_count 90 (.aload_n 0) 1 91 := ⟨by decide +kernel, rfl⟩
theorem dX8_count_91 : DC cX8_count 91 (.getfield 44) 3 94 := ⟨by decide +kernel, rfl⟩
theorem dX8_count_94 : DC cX8_count 94 (.getfield 310) 3 97 := ⟨by decide +kernel, rfl⟩
theorem dX8_count_97 : DC cX8_count 97 (.ireturn) 1 98 := ⟨by decide +kernel, rfl⟩
theorem dX8_count_98 : DC cX8_count 98 (.aload_n 0) 1 99 := ⟨by decide +kernel, rfl⟩
theorem dX8_count_99 : DC cX8_count 99 (.getfield 37) 3 102 := ⟨by decide +kernel, rfl⟩
theorem dX8_count_102 : DC cX8_count 102 (.getfield 90) 3 105 := ⟨by decide +kernel, rfl⟩
theorem dX8_count_105 : DC cX8_count 105 (.ireturn) 1 106 := ⟨by decide +kernel, rfl⟩
theorem dX8_count_106 : DC cX8_count 106 (.iload_n 1) 1 107 := ⟨by decide +kernel, rfl⟩
theorem dX8_count_107 : DC cX8_count 107 (.bipush 10) 2 109 := ⟨by decide +kernel, rfl⟩
theorem dX8_count_109 : DC cX8_count 109 (.if_icmp .lt 22) 3 112 := ⟨by decide +kernel, rfl⟩
theorem dX8_count_112 : DC cX8_count 112 (.iload_n 1) 1 113 := ⟨by decide +kernel, rfl⟩
theorem dX8_count_113 : DC cX8_count 113 (.bipush 14) 2 115 := ⟨by decide +kernel, rfl⟩
theorem dX8_count_115 : DC cX8_count 115 (.if_icmp .ge 16) 3 118 := ⟨by decide +kernel, rfl⟩
theorem dX8_count_118 : DC cX8_count 118 (.aload_n 0) 1 119 := ⟨by decide +kernel, rfl⟩
theorem dX8_count_119 : DC cX8_count 119 (.getfield 10) 3 122 := ⟨by decide +kernel, rfl⟩
theorem dX8_count_122 : DC cX8_count 122 (.getfield 131) 3 125 := ⟨by decide +kernel, rfl⟩
theorem dX8_count_125 : DC cX8_count 125 (.iload_n 1) 1 126 := ⟨by decide +kernel, rfl⟩
theorem dX8_count_126 : DC cX8_count 126 (.bipush 10) 2 128 := ⟨by decide +kernel, rfl⟩
theorem dX8_count_128 : DC cX8_count 128 (.isub) 1 129 := ⟨by decide +kernel, rfl⟩
theorem dX8_count_129 : DC cX8_count 129 (.iaload) 1 130 := ⟨by decide +kernel, rfl⟩
theorem dX8_count_130 : DC cX8_count 130 (.ireturn) 1 131 := ⟨by decide +kernel, rfl⟩
theorem dX8_count_131 : DC cX8_count 131 (.iload_n 1) 1 132 := ⟨by decide +kernel, rfl⟩
theorem dX8_count_132 : DC cX8_count 132 (.bipush 20) 2 134 := ⟨by decide +kernel, rfl⟩
theorem dX8_count_134 : DC cX8_count 134 (.if_icmp .lt 30) 3 137 := ⟨by decide +kernel, rfl⟩
theorem dX8_count_137 : DC cX8_count 137 (.iload_n 1) 1 138 := ⟨by decide +kernel, rfl⟩
theorem dX8_count_138 : DC cX8_count 138 (.bipush 20) 2 140 := ⟨by decide +kernel, rfl⟩
theorem dX8_count_140 : DC cX8_count 140 (.aload_n 0) 1 141 := ⟨by decide +kernel, rfl⟩
theorem dX8_count_141 : DC cX8_count 141 (.getfield 10) 3 144 := ⟨by decide +kernel, rfl⟩
theorem dX8_count_144 : DC cX8_count 144 (.getfield 70) 3 147 := ⟨by decide +kernel, rfl⟩
theorem dX8_count_147 : DC cX8_count 147 (.iadd) 1 148 := ⟨by decide +kernel, rfl⟩
theorem dX8_count_148 : DC cX8_count 148 (.if_icmp .ge 16) 3 151 := ⟨by decide +kernel, rfl⟩
theorem dX8_count_151 : DC cX8_count 151 (.aload_n 0) 1 152 := ⟨by decide +kernel, rfl⟩
theorem dX8_count_152 : DC cX8_count 152 (.getfield 10) 3 155 := ⟨by decide +kernel, rfl⟩
theorem dX8_count_155 : DC cX8_count 155 (.getfield 334) 3 158 := ⟨by decide +kernel, rfl⟩
theorem dX8_count_158 : DC cX8_count 158 (.iload_n 1) 1 159 := ⟨by decide +kernel, rfl⟩
theorem dX8_count_159 : DC cX8_count 159 (.bipush 20) 2 161 := ⟨by decide +kernel, rfl⟩
theorem dX8_count_161 : DC cX8_count 161 (.isub) 1 162 := ⟨by decide +kernel, rfl⟩
theorem dX8_count_162 : DC cX8_count 162 (.iaload) 1 163 := ⟨by decide +kernel, rfl⟩
theorem dX8_count_163 : DC cX8_count 163 (.ireturn) 1 164 := ⟨by decide +kernel, rfl⟩
theorem dX8_count_164 : DC cX8_count 164 (.new 61) 3 167 := ⟨by decide +kernel, rfl⟩
theorem dX8_count_167 : DC cX8_count 167 (.dup) 1 168 := ⟨by decide +kernel, rfl⟩
theorem dX8_count_168 : DC cX8_count 168 (.ldc_w 337) 3 171 := ⟨by decide +kernel, rfl⟩
theorem dX8_count_171 : DC cX8_count 171 (.invokespecial 65) 3 174 := ⟨by decide +kernel, rfl⟩
theorem dX8_count_174 : DC cX8_count 174 (.athrow) 1 175 := ⟨by decide +kernel, rfl⟩
theorem dX8_contains_0 : DC cX8_contains 0 (.iload_n 0) 1 1 := ⟨by decide +kernel, rfl⟩
theorem dX8_contains_1 : DC cX8_contains 1 (.iload_n 1) 1 2 := ⟨by decide +kernel, rfl⟩
theorem dX8_contains_2 : DC cX8_contains 2 (.ishr) 1 3 := ⟨by decide +kernel, rfl⟩
theorem dX8_contains_3 : DC cX8_contains 3 (.iconst 1) 1 4 := ⟨by decide +kernel, rfl⟩
theorem dX8_contains_4 : DC cX8_contains 4 (.iand) 1 5 := ⟨by decide +kernel, rfl⟩
theorem dX8_contains_5 : DC cX8_contains 5 (.ifCond .eq 7) 3 8 := ⟨by decide +kernel, rfl⟩
theorem dX8_contains_8 : DC cX8_contains 8 (.iconst 1) 1 9 := ⟨by decide +kernel, rfl⟩
theorem dX8_contains_9 : DC cX8_contains 9 (.goto 4) 3 12 := ⟨by decide +kernel, rfl⟩
theorem dX8_contains_12 : DC cX8_contains 12 (.iconst 0) 1 13 := ⟨by decide +kernel, rfl⟩
theorem dX8_contains_13 : DC cX8_contains 13 (.ireturn) 1 14 := ⟨by decide +kernel, rfl⟩
theorem dX8_leastSetting_0 : DC cX8_leastSetting 0 (.iload_n 0) 1 1 := ⟨by decide +kernel, rfl⟩
theorem dX8_leastSetting_1 : DC cX8_leastSetting 1 (.iconst 3) 1 2 := ⟨by decide +kernel, rfl⟩
theorem dX8_leastSetting_2 : DC cX8_leastSetting 2 (.if_icmp .ne 7) 3 5 := ⟨by decide +kernel, rfl⟩
theorem dX8_leastSetting_5 : DC cX8_leastSetting 5 (.iconst 1) 1 6 := ⟨by decide +kernel, rfl⟩
theorem dX8_leastSetting_6 : DC cX8_leastSetting 6 (.goto 4) 3 9 := ⟨by decide +kernel, rfl⟩
theorem dX8_leastSetting_9 : DC cX8_leastSetting 9 (.iconst 0) 1 10 := ⟨by decide +kernel, rfl⟩
theorem dX8_leastSetting_10 : DC cX8_leastSetting 10 (.ireturn) 1 11 := ⟨by decide +kernel, rfl⟩
theorem dX8_greatestSetting_0 : DC cX8_greatestSetting 0 (.iload_n 0) 1 1 := ⟨by decide +kernel, rfl⟩
theorem dX8_greatestSetting_1 : DC cX8_greatestSetting 1 (.iconst 3) 1 2 := ⟨by decide +kernel, rfl⟩
theorem dX8_greatestSetting_2 : DC cX8_greatestSetting 2 (.if_icmp .ne 6) 3 5 := ⟨by decide +kernel, rfl⟩
theorem dX8_greatestSetting_5 : DC cX8_greatestSetting 5 (.bipush 7) 2 7 := ⟨by decide +kernel, rfl⟩
theorem dX8_greatestSetting_7 : DC cX8_greatestSetting 7 (.ireturn) 1 8 := ⟨by decide +kernel, rfl⟩
theorem dX8_greatestSetting_8 : DC cX8_greatestSetting 8 (.iload_n 0) 1 9 := ⟨by decide +kernel, rfl⟩
theorem dX8_greatestSetting_9 : DC cX8_greatestSetting 9 (.ifCond .ne 7) 3 12 := ⟨by decide +kernel, rfl⟩
theorem dX8_greatestSetting_12 : DC cX8_greatestSetting 12 (.iconst 3) 1 13 := ⟨by decide +kernel, rfl⟩
theorem dX8_greatestSetting_13 : DC cX8_greatestSetting 13 (.goto 4) 3 16 := ⟨by decide +kernel, rfl⟩
theorem dX8_greatestSetting_16 : DC cX8_greatestSetting 16 (.iconst 1) 1 17 := ⟨by decide +kernel, rfl⟩
theorem dX8_greatestSetting_17 : DC cX8_greatestSetting 17 (.ireturn) 1 18 := ⟨by decide +kernel, rfl⟩
theorem dX8_isCandidate_0 : DC cX8_isCandidate 0 (.iload_n 1) 1 1 := ⟨by decide +kernel, rfl⟩
theorem dX8_isCandidate_1 : DC cX8_isCandidate 1 (.ifCond .lt 18) 3 4 := ⟨by decide +kernel, rfl⟩
theorem dX8_isCandidate_4 : DC cX8_isCandidate 4 (.iload_n 1) 1 5 := ⟨by decide +kernel, rfl⟩
theorem dX8_isCandidate_5 : DC cX8_isCandidate 5 (.aload_n 0) 1 6 := ⟨by decide +kernel, rfl⟩
theorem dX8_isCandidate_6 : DC cX8_isCandidate 6 (.getfield 10) 3 9 := ⟨by decide +kernel, rfl⟩
theorem dX8_isCandidate_9 : DC cX8_isCandidate 9 (.getfield 70) 3 12 := ⟨by decide +kernel, rfl⟩
theorem dX8_isCandidate_12 : DC cX8_isCandidate 12 (.if_icmp .ge 7) 3 15 := ⟨by decide +kernel, rfl⟩
theorem dX8_isCandidate_15 : DC cX8_isCandidate 15 (.iconst 1) 1 16 := ⟨by decide +kernel, rfl⟩
theorem dX8_isCandidate_16 : DC cX8_isCandidate 16 (.goto 4) 3 19 := ⟨by decide +kernel, rfl⟩
theorem dX8_isCandidate_19 : DC cX8_isCandidate 19 (.iconst 0) 1 20 := ⟨by decide +kernel, rfl⟩
theorem dX8_isCandidate_20 : DC cX8_isCandidate 20 (.ireturn) 1 21 := ⟨by decide +kernel, rfl⟩
theorem dX8_isPile_0 : DC cX8_isPile 0 (.iload_n 1) 1 1 := ⟨by decide +kernel, rfl⟩
theorem dX8_isPile_1 : DC cX8_isPile 1 (.ifCond .lt 18) 3 4 := ⟨by decide +kernel, rfl⟩
theorem dX8_isPile_4 : DC cX8_isPile 4 (.iload_n 1) 1 5 := ⟨by decide +kernel, rfl⟩
theorem dX8_isPile_5 : DC cX8_isPile 5 (.aload_n 0) 1 6 := ⟨by decide +kernel, rfl⟩
theorem dX8_isPile_6 : DC cX8_isPile 6 (.getfield 10) 3 9 := ⟨by decide +kernel, rfl⟩
theorem dX8_isPile_9 : DC cX8_isPile 9 (.getfield 324) 3 12 := ⟨by decide +kernel, rfl⟩
theorem dX8_isPile_12 : DC cX8_isPile 12 (.if_icmp .ge 7) 3 15 := ⟨by decide +kernel, rfl⟩
theorem dX8_isPile_15 : DC cX8_isPile 15 (.iconst 1) 1 16 := ⟨by decide +kernel, rfl⟩
theorem dX8_isPile_16 : DC cX8_isPile 16 (.goto 4) 3 19 := ⟨by decide +kernel, rfl⟩
theorem dX8_isPile_19 : DC cX8_isPile 19 (.iconst 0) 1 20 := ⟨by decide +kernel, rfl⟩
theorem dX8_isPile_20 : DC cX8_isPile 20 (.ireturn) 1 21 := ⟨by decide +kernel, rfl⟩
theorem dX8_rememberForUndo_0 : DC cX8_rememberForUndo 0 (.aload_n 0) 1 1 := ⟨by decide +kernel, rfl⟩
theorem dX8_rememberForUndo_1 : DC cX8_rememberForUndo 1 (.getfield 44) 3 4 := ⟨by decide +kernel, rfl⟩
theorem dX8_rememberForUndo_4 : DC cX8_rememberForUndo 4 (.aload_n 0) 1 5 := ⟨by decide +kernel, rfl⟩
theorem dX8_rememberForUndo_5 : DC cX8_rememberForUndo 5 (.getfield 10) 3 8 := ⟨by decide +kernel, rfl⟩
theorem dX8_rememberForUndo_8 : DC cX8_rememberForUndo 8 (.invokevirtual 339) 3 11 := ⟨by decide +kernel, rfl⟩
theorem dX8_rememberForUndo_11 : DC cX8_rememberForUndo 11 (.aload_n 0) 1 12 := ⟨by decide +kernel, rfl⟩
theorem dX8_rememberForUndo_12 : DC cX8_rememberForUndo 12 (.iconst 0) 1 13 := ⟨by decide +kernel, rfl⟩
theorem dX8_rememberForUndo_13 : DC cX8_rememberForUndo 13 (.putfield 78) 3 16 := ⟨by decide +kernel, rfl⟩
theorem dX8_rememberForUndo_16 : DC cX8_rememberForUndo 16 (.return_) 1 17 := ⟨by decide +kernel, rfl⟩
theorem dX8_counted_0 : DC cX8_counted 0 (.aload_n 0) 1 1 := ⟨by decide +kernel, rfl⟩
theorem dX8_counted_1 : DC cX8_counted 1 (.getfield 78) 3 4 := ⟨by decide +kernel, rfl⟩
theorem dX8_counted_4 : DC cX8_counted 4 (.ifCond .ne 15) 3 7 := ⟨by decide +kernel, rfl⟩
theorem dX8_counted_7 : DC cX8_counted 7 (.aload_n 0) 1 8 := ⟨by decide +kernel, rfl⟩
theorem dX8_counted_8 : DC cX8_counted 8 (.getfield 27) 3 11 := ⟨by decide +kernel, rfl⟩
theorem dX8_counted_11 : DC cX8_counted 11 (.invokevirtual 307) 3 14 := ⟨by decide +kernel, rfl⟩
theorem dX8_counted_14 : DC cX8_counted 14 (.aload_n 0) 1 15 := ⟨by decide +kernel, rfl⟩
theorem dX8_counted_15 : DC cX8_counted 15 (.iconst 1) 1 16 := ⟨by decide +kernel, rfl⟩
theorem dX8_counted_16 : DC cX8_counted 16 (.putfield 78) 3 19 := ⟨by decide +kernel, rfl⟩
theorem dX8_counted_19 : DC cX8_counted 19 (.aload_n 0) 1 20 := ⟨by decide +kernel, rfl⟩
theorem dX8_counted_20 : DC cX8_counted 20 (.getfield 27) 3 23 := ⟨by decide +kernel, rfl⟩
theorem dX8_counted_23 : DC cX8_counted 23 (.areturn) 1 24 := ⟨by decide +kernel, rfl⟩
theorem dX8_checkedVotes_0 : DC cX8_checkedVotes 0 (.aload_n 1) 1 1 := ⟨by decide +kernel, rfl⟩
theorem dX8_checkedVotes_1 : DC cX8_checkedVotes 1 (.iload_n 2) 1 2 := ⟨by decide +kernel, rfl⟩
theorem dX8_checkedVotes_2 : DC cX8_checkedVotes 2 (.invokevirtual 188) 3 5 := ⟨by decide +kernel, rfl⟩
theorem dX8_checkedVotes_5 : DC cX8_checkedVotes 5 (.ifCond .ne 13) 3 8 := ⟨by decide +kernel, rfl⟩
theorem dX8_checkedVotes_8 : DC cX8_checkedVotes 8 (.new 139) 3 11 := ⟨by decide +kernel, rfl⟩
theorem dX8_checkedVotes_11 : DC cX8_checkedVotes 11 (.dup) 1 12 := ⟨by decide +kernel, rfl⟩
theorem dX8_checkedVotes_12 : DC cX8_checkedVotes 12 (.ldc 191) 2 14 := ⟨by decide +kernel, rfl⟩
theorem dX8_checkedVotes_14 : DC cX8_checkedVotes 14 (.invokespecial 143) 3 17 := ⟨by decide +kernel, rfl⟩
theorem dX8_checkedVotes_17 : DC cX8_checkedVotes 17 (.athrow) 1 18 := ⟨by decide +kernel, rfl⟩
theorem dX8_checkedVotes_18 : DC cX8_checkedVotes 18 (.aload_n 0) 1 19 := ⟨by decide +kernel, rfl⟩
theorem dX8_checkedVotes_19 : DC cX8_checkedVotes 19 (.iload_n 3) 1 20 := ⟨by decide +kernel, rfl⟩
theorem dX8_checkedVotes_20 : DC cX8_checkedVotes 20 (.invokevirtual 135) 3 23 := ⟨by decide +kernel, rfl⟩
theorem dX8_checkedVotes_23 : DC cX8_checkedVotes 23 (.ifCond .ne 13) 3 26 := ⟨by decide +kernel, rfl⟩
theorem dX8_checkedVotes_26 : DC cX8_checkedVotes 26 (.new 139) 3 29 := ⟨by decide +kernel, rfl⟩
theorem dX8_checkedVotes_29 : DC cX8_checkedVotes 29 (.dup) 1 30 := ⟨by decide +kernel, rfl⟩
theorem dX8_checkedVotes_30 : DC cX8_checkedVotes 30 (.ldc 141) 2 32 := ⟨by decide +kernel, rfl⟩
theorem dX8_checkedVotes_32 : DC cX8_checkedVotes 32 (.invokespecial 143) 3 35 := ⟨by decide +kernel, rfl⟩
theorem dX8_checkedVotes_35 : DC cX8_checkedVotes 35 (.athrow) 1 36 := ⟨by decide +kernel, rfl⟩
theorem dX8_checkedVotes_36 : DC cX8_checkedVotes 36 (.aload_n 1) 1 37 := ⟨by decide +kernel, rfl⟩
theorem dX8_checkedVotes_37 : DC cX8_checkedVotes 37 (.getfield 342) 3 40 := ⟨by decide +kernel, rfl⟩
theorem dX8_checkedVotes_40 : DC cX8_checkedVotes 40 (.iload_n 2) 1 41 := ⟨by decide +kernel, rfl⟩
theorem dX8_checkedVotes_41 : DC cX8_checkedVotes 41 (.aaload) 1 42 := ⟨by decide +kernel, rfl⟩
theorem dX8_checkedVotes_42 : DC cX8_checkedVotes 42 (.iload_n 3) 1 43 := ⟨by decide +kernel, rfl⟩
theorem dX8_checkedVotes_43 : DC cX8_checkedVotes 43 (.iaload) 1 44 := ⟨by decide +kernel, rfl⟩
theorem dX8_checkedVotes_44 : DC cX8_checkedVotes 44 (.ireturn) 1 45 := ⟨by decide +kernel, rfl⟩
theorem dX8_signOfPile_0 : DC cX8_signOfPile 0 (.aload_n 0) 1 1 := ⟨by decide +kernel, rfl⟩
theorem dX8_signOfPile_1 : DC cX8_signOfPile 1 (.getfield 10) 3 4 := ⟨by decide +kernel, rfl⟩
theorem dX8_signOfPile_4 : DC cX8_signOfPile 4 (.getfield 156) 3 7 := ⟨by decide +kernel, rfl⟩
theorem dX8_signOfPile_7 : DC cX8_signOfPile 7 (.iload_n 1) 1 8 := ⟨by decide +kernel, rfl⟩
theorem dX8_signOfPile_8 : DC cX8_signOfPile 8 (.iaload) 1 9 := ⟨by decide +kernel, rfl⟩
theorem dX8_signOfPile_9 : DC cX8_signOfPile 9 (.istore 4) 2 11 := ⟨by decide +kernel, rfl⟩
theorem dX8_signOfPile_11 : DC cX8_signOfPile 11 (.iload_n 2) 1 12 := ⟨by decide +kernel, rfl⟩
theorem dX8_signOfPile_12 : DC cX8_signOfPile 12 (.iload_n 3) 1 13 := ⟨by decide +kernel, rfl⟩
theorem dX8_signOfPile_13 : DC cX8_signOfPile 13 (.if_icmp .ge 29) 3 16 := ⟨by decide +kernel, rfl⟩
theorem dX8_signOfPile_16 : DC cX8_signOfPile 16 (.bipush 48) 2 18 := ⟨by decide +kernel, rfl⟩
theorem dX8_signOfPile_18 : DC cX8_signOfPile 18 (.iload_n 3) 1 19 := ⟨by decide +kernel, rfl⟩
theorem dX8_signOfPile_19 : DC cX8_signOfPile 19 (.iconst 2) 1 20 := ⟨by decide +kernel, rfl⟩
theorem dX8_signOfPile_20 : DC cX8_signOfPile 20 (.if_icmp .ne 15) 3 23 := ⟨by decide +kernel, rfl⟩
theorem dX8_signOfPile_23 : DC cX8_signOfPile 23 (.iload_n 2) 1 24 := ⟨by decide +kernel, rfl⟩
theorem dX8_signOfPile_24 : DC cX8_signOfPile 24 (.ifCond .ne 11) 3 27 := ⟨by decide +kernel, rfl⟩
theorem dX8_signOfPile_27 : DC cX8_signOfPile 27 (.iload 4) 2 29 := ⟨by decide +kernel, rfl⟩
theorem dX8_signOfPile_29 : DC cX8_signOfPile 29 (.bipush 10) 2 31 := ⟨by decide +kernel, rfl⟩
theorem dX8_signOfPile_31 : DC cX8_signOfPile 31 (.idiv) 1 32 := ⟨by decide +kernel, rfl⟩
theorem dX8_signOfPile_32 : DC cX8_signOfPile 32 (.goto 8) 3 35 := ⟨by decide +kernel, rfl⟩
theorem dX8_signOfPile_35 : DC cX8_signOfPile 35 (.iload 4) 2 37 := ⟨by decide +kernel, rfl⟩
theorem dX8_signOfPile_37 : DC cX8_signOfPile 37 (.bipush 10) 2 39 := ⟨by decide +kernel, rfl⟩
theorem dX8_signOfPile_39 : DC cX8_signOfPile 39 (.irem) 1 40 := ⟨by decide +kernel, rfl⟩
theorem dX8_signOfPile_40 : DC cX8_signOfPile 40 (.iadd) 1 41 := ⟨by decide +kernel, rfl⟩
theorem dX8_signOfPile_41 : DC cX8_signOfPile 41 (.ireturn) 1 42 := ⟨by decide +kernel, rfl⟩
theorem dX8_signOfPile_42 : DC cX8_signOfPile 42 (.iload_n 2) 1 43 := ⟨by decide +kernel, rfl⟩
theorem dX8_signOfPile_43 : DC cX8_signOfPile 43 (.iload_n 3) 1 44 := ⟨by decide +kernel, rfl⟩
theorem dX8_signOfPile_44 : DC cX8_signOfPile 44 (.isub) 1 45 := ⟨by decide +kernel, rfl⟩
theorem dX8_signOfPile_45 : DC cX8_signOfPile 45 (.iconst 1) 1 46 := ⟨by decide +kernel, rfl⟩
theorem dX8_signOfPile_46 : DC cX8_signOfPile 46 (.isub) 1 47 := ⟨by decide +kernel, rfl⟩
theorem dX8_signOfPile_47 : DC cX8_signOfPile 47 (.istore 5) 2 49 := ⟨by decide +kernel, rfl⟩
theorem dX8_signOfPile_49 : DC cX8_signOfPile 49 (.iload 5) 2 51 := ⟨by decide +kernel, rfl⟩
theorem dX8_signOfPile_51 : DC cX8_signOfPile 51 (.ifCond .ge 6) 3 54 := ⟨by decide +kernel, rfl⟩
theorem dX8_signOfPile_54 : DC cX8_signOfPile 54 (.bipush 58) 2 56 := ⟨by decide +kernel, rfl⟩
theorem dX8_signOfPile_56 : DC cX8_signOfPile 56 (.ireturn) 1 57 := ⟨by decide +kernel, rfl⟩
theorem dX8_signOfPile_57 : DC cX8_signOfPile 57 (.iload 5) 2 59 := ⟨by decide +kernel, rfl⟩
theorem dX8_signOfPile_59 : DC cX8_signOfPile 59 (.aload_n 0) 1 60 := ⟨by decide +kernel, rfl⟩
theorem dX8_signOfPile_60 : DC cX8_signOfPile 60 (.getfield 10) 3 63 := ⟨by decide +kernel, rfl⟩
theorem dX8_signOfPile_63 : DC cX8_signOfPile 63 (.getfield 159) 3 66 := ⟨by decide +kernel, rfl⟩
theorem dX8_signOfPile_66 : DC cX8_signOfPile 66 (.iload_n 1) 1 67 := ⟨by decide +kernel, rfl⟩
theorem dX8_signOfPile_67 : DC cX8_signOfPile 67 (.iaload) 1 68 := ⟨by decide +kernel, rfl⟩
theorem dX8_signOfPile_68 : DC cX8_signOfPile 68 (.if_icmp .ge 21) 3 71 := ⟨by decide +kernel, rfl⟩
theorem dX8_signOfPile_71 : DC cX8_signOfPile 71 (.bipush 97) 2 73 := ⟨by decide +kernel, rfl⟩
theorem dX8_signOfPile_73 : DC cX8_signOfPile 73 (.aload_n 0) 1 74 := ⟨by decide +kernel, rfl⟩
theorem dX8_signOfPile_74 : DC cX8_signOfPile 74 (.getfield 10) 3 77 := ⟨by decide +kernel, rfl⟩
theorem dX8_signOfPile_77 : DC cX8_signOfPile 77 (.getfield 164) 3 80 := ⟨by decide +kernel, rfl⟩
theorem dX8_signOfPile_80 : DC cX8_signOfPile 80 (.iload_n 1) 1 81 := ⟨by decide +kernel, rfl⟩
theorem dX8_signOfPile_81 : DC cX8_signOfPile 81 (.aaload) 1 82 := ⟨by decide +kernel, rfl⟩
theorem dX8_signOfPile_82 : DC cX8_signOfPile 82 (.iload 5) 2 84 := ⟨by decide +kernel, rfl⟩
theorem dX8_signOfPile_84 : DC cX8_signOfPile 84 (.iaload) 1 85 := ⟨by decide +kernel, rfl⟩
theorem dX8_signOfPile_85 : DC cX8_signOfPile 85 (.iadd) 1 86 := ⟨by decide +kernel, rfl⟩
theorem dX8_signOfPile_86 : DC cX8_signOfPile 86 (.goto 5) 3 89 := ⟨by decide +kernel, rfl⟩
theorem dX8_signOfPile_89 : DC cX8_signOfPile 89 (.bipush 59) 2 91 := ⟨by decide +kernel, rfl⟩
theorem dX8_signOfPile_91 : DC cX8_signOfPile 91 (.ireturn) 1 92 := ⟨by decide +kernel, rfl⟩
theorem dX8_beatsEachOther_0 : DC cX8_beatsEachOther 0 (.iconst 0) 1 1 := ⟨by decide +kernel, rfl⟩
theorem dX8_beatsEachOther_1 : DC cX8_beatsEachOther 1 (.istore_n 2) 1 2 := ⟨by decide +kernel, rfl⟩
theorem dX8_beatsEachOther_2 : DC cX8_beatsEachOther 2 (.iload_n 2) 1 3 := ⟨by decide +kernel, rfl⟩
theorem dX8_beatsEachOther_3 : DC cX8_beatsEachOther 3 (.aload_n 0) 1 4 := ⟨by decide +kernel, rfl⟩
theorem dX8_beatsEachOther_4 : DC cX8_beatsEachOther 4 (.getfield 10) 3 7 := ⟨by decide +kernel, rfl⟩
theorem dX8_beatsEachOther_7 : DC cX8_beatsEachOther 7 (.getfield 70) 3 10 := ⟨by decide +kernel, rfl⟩
theorem dX8_beatsEachOther_10 : DC cX8_beatsEachOther 10 (.if_icmp .ge 51) 3 13 := ⟨by decide +kernel, rfl⟩
theorem dX8_beatsEachOther_13 : DC cX8_beatsEachOther 13 (.iload_n 2) 1 14 := ⟨by decide +kernel, rfl⟩
theorem dX8_beatsEachOther_14 : DC cX8_beatsEachOther 14 (.iload_n 1) 1 15 := ⟨by decide +kernel, rfl⟩
theorem dX8_beatsEachOther_15 : DC cX8_beatsEachOther 15 (.if_icmp .eq 40) 3 18 := ⟨by decide +kernel, rfl⟩
theorem dX8_beatsEachOther_18 : DC cX8_beatsEachOther 18 (.aload_n 0) 1 19 := ⟨by decide +kernel, rfl⟩
theorem dX8_beatsEachOther_19 : DC cX8_beatsEachOther 19 (.getfield 10) 3 22 := ⟨by decide +kernel, rfl⟩
theorem dX8_beatsEachOther_22 : DC cX8_beatsEachOther 22 (.getfield 144) 3 25 := ⟨by decide +kernel, rfl⟩
theorem dX8_beatsEachOther_25 : DC cX8_beatsEachOther 25 (.iload_n 2) 1 26 := ⟨by decide +kernel, rfl⟩
theorem dX8_beatsEachOther_26 : DC cX8_beatsEachOther 26 (.invokestatic 147) 3 29 := ⟨by decide +kernel, rfl⟩
theorem dX8_beatsEachOther_29 : DC cX8_beatsEachOther 29 (.ifCond .ne 26) 3 32 := ⟨by decide +kernel, rfl⟩
theorem dX8_beatsEachOther_32 : DC cX8_beatsEachOther 32 (.aload_n 0) 1 33 := ⟨by decide +kernel, rfl⟩
theorem dX8_beatsEachOther_33 : DC cX8_beatsEachOther 33 (.getfield 10) 3 36 := ⟨by decide +kernel, rfl⟩
theorem dX8_beatsEachOther_36 : DC cX8_beatsEachOther 36 (.iload_n 1) 1 37 := ⟨by decide +kernel, rfl⟩
theorem dX8_beatsEachOther_37 : DC cX8_beatsEachOther 37 (.iload_n 2) 1 38 := ⟨by decide +kernel, rfl⟩
theorem dX8_beatsEachOther_38 : DC cX8_beatsEachOther 38 (.invokevirtual 276) 3 41 := ⟨by decide +kernel, rfl⟩
theorem dX8_beatsEachOther_41 : DC cX8_beatsEachOther 41 (.aload_n 0) 1 42 := ⟨by decide +kernel, rfl⟩
theorem dX8_beatsEachOther_42 : DC cX8_beatsEachOther 42 (.getfield 10) 3 45 := ⟨by decide +kernel, rfl⟩
theorem dX8_beatsEachOther_45 : DC cX8_beatsEachOther 45 (.iload_n 2) 1 46 := ⟨by decide +kernel, rfl⟩
theorem dX8_beatsEachOther_46 : DC cX8_beatsEachOther 46 (.iload_n 1) 1 47 := ⟨by decide +kernel, rfl⟩
theorem dX8_beatsEachOther_47 : DC cX8_beatsEachOther 47 (.invokevirtual 276) 3 50 := ⟨by decide +kernel, rfl⟩
theorem dX8_beatsEachOther_50 : DC cX8_beatsEachOther 50 (.if_icmp .gt 5) 3 53 := ⟨by decide +kernel, rfl⟩
theorem dX8_beatsEachOther_53 : DC cX8_beatsEachOther 53 (.iconst 0) 1 54 := ⟨by decide +kernel, rfl⟩
theorem dX8_beatsEachOther_54 : DC cX8_beatsEachOther 54 (.ireturn) 1 55 := ⟨by decide +kernel, rfl⟩
theorem dX8_beatsEachOther_55 : DC cX8_beatsEachOther 55 (.iinc 2 1) 3 58 := ⟨by decide +kernel, rfl⟩
theorem dX8_beatsEachOther_58 : DC cX8_beatsEachOther 58 (.goto (-56)) 3 61 := ⟨by decide +kernel, rfl⟩
theorem dX8_beatsEachOther_61 : DC cX8_beatsEachOther 61 (.iconst 1) 1 62 := ⟨by decide +kernel, rfl⟩
theorem dX8_beatsEachOther_62 : DC cX8_beatsEachOther 62 (.ireturn) 1 63 := ⟨by decide +kernel, rfl⟩
end
section
theorem dX9_init_0 : DC cX9_init 0 (.aload_n 0) 1 1 := ⟨by decide +kernel, rfl⟩
theorem dX9_init_1 : DC cX9_init 1 (.invokespecial 3) 3 4 := ⟨by decide +kernel, rfl⟩
theorem dX9_init_4 : DC cX9_init 4 (.aload_n 0) 1 5 := ⟨by decide +kernel, rfl⟩
theorem dX9_init_5 : DC cX9_init 5 (.sipush 265) 3 8 := ⟨by decide +kernel, rfl⟩
theorem dX9_init_8 : DC cX9_init 8 (.newarray .int) 2 10 := ⟨by decide +kernel, rfl⟩
theorem dX9_init_10 : DC cX9_init 10 (.putfield 9) 3 13 := ⟨by decide +kernel, rfl⟩
theorem dX9_init_13 : DC cX9_init 13 (.aload_n 0) 1 14 := ⟨by decide +kernel, rfl⟩
theorem dX9_init_14 : DC cX9_init 14 (.sipush 265) 3 17 := ⟨by decide +kernel, rfl⟩
theorem dX9_init_17 : DC cX9_init 17 (.newarray .int) 2 19 := ⟨by decide +kernel, rfl⟩
theorem dX9_init_19 : DC cX9_init 19 (.putfield 13) 3 22 := ⟨by decide +kernel, rfl⟩
theorem dX9_init_22 : DC cX9_init 22 (.aload_n 0) 1 23 := ⟨by decide +kernel, rfl⟩
theorem dX9_init_23 : DC cX9_init 23 (.sipush 2120) 3 26 := ⟨by decide +kernel, rfl⟩
theorem dX9_init_26 : DC cX9_init 26 (.newarray .int) 2 28 := ⟨by decide +kernel, rfl⟩
theorem dX9_init_28 : DC cX9_init 28 (.putfield 16) 3 31 := ⟨by decide +kernel, rfl⟩
theorem dX9_init_31 : DC cX9_init 31 (.aload_n 0) 1 32 := ⟨by decide +kernel, rfl⟩
theorem dX9_init_32 : DC cX9_init 32 (.sipush 265) 3 35 := ⟨by decide +kernel, rfl⟩
theorem dX9_init_35 : DC cX9_init 35 (.newarray .int) 2 37 := ⟨by decide +kernel, rfl⟩
theorem dX9_init_37 : DC cX9_init 37 (.putfield 19) 3 40 := ⟨by decide +kernel, rfl⟩
theorem dX9_init_40 : DC cX9_init 40 (.aload_n 0) 1 41 := ⟨by decide +kernel, rfl⟩
theorem dX9_init_41 : DC cX9_init 41 (.bipush 60) 2 43 := ⟨by decide +kernel, rfl⟩
theorem dX9_init_43 : DC cX9_init 43 (.newarray .int) 2 45 := ⟨by decide +kernel, rfl⟩
theorem dX9_init_45 : DC cX9_init 45 (.putfield 22) 3 48 := ⟨by decide +kernel, rfl⟩
theorem dX9_init_48 : DC cX9_init 48 (.aload_n 0) 1 49 := ⟨by decide +kernel, rfl⟩
theorem dX9_init_49 : DC cX9_init 49 (.iconst (-1)) 1 50 := ⟨by decide +kernel, rfl⟩
theorem dX9_init_50 : DC cX9_init 50 (.putfield 25) 3 53 := ⟨by decide +kernel, rfl⟩
theorem dX9_init_53 : DC cX9_init 53 (.aload_n 0) 1 54 := ⟨by decide +kernel, rfl⟩
theorem dX9_init_54 : DC cX9_init 54 (.bipush 8) 2 56 := ⟨by decide +kernel, rfl⟩
theorem dX9_init_56 : DC cX9_init 56 (.newarray .int) 2 58 := ⟨by decide +kernel, rfl⟩
theorem dX9_init_58 : DC cX9_init 58 (.putfield 29) 3 61 := ⟨by decide +kernel, rfl⟩
theorem dX9_init_61 : DC cX9_init 61 (.aload_n 0) 1 62 := ⟨by decide +kernel, rfl⟩
theorem dX9_init_62 : DC cX9_init 62 (.sipush 192) 3 65 := ⟨by decide +kernel, rfl⟩
theorem dX9_init_65 : DC cX9_init 65 (.newarray .int) 2 67 := ⟨by decide +kernel, rfl⟩
theorem dX9_init_67 : DC cX9_init 67 (.putfield 32) 3 70 := ⟨by decide +kernel, rfl⟩
theorem dX9_init_70 : DC cX9_init 70 (.aload_n 0) 1 71 := ⟨by decide +kernel, rfl⟩
theorem dX9_init_71 : DC cX9_init 71 (.bipush 24) 2 73 := ⟨by decide +kernel, rfl⟩
theorem dX9_init_73 : DC cX9_init 73 (.newarray .int) 2 75 := ⟨by decide +kernel, rfl⟩
theorem dX9_init_75 : DC cX9_init 75 (.putfield 35) 3 78 := ⟨by decide +kernel, rfl⟩
theorem dX9_init_78 : DC cX9_init 78 (.aload_n 0) 1 79 := ⟨by decide +kernel, rfl⟩
theorem dX9_init_79 : DC cX9_init 79 (.bipush 24) 2 81 := ⟨by decide +kernel, rfl⟩
theorem dX9_init_81 : DC cX9_init 81 (.newarray .int) 2 83 := ⟨by decide +kernel, rfl⟩
theorem dX9_init_83 : DC cX9_init 83 (.putfield 38) 3 86 := ⟨by decide +kernel, rfl⟩
theorem dX9_init_86 : DC cX9_init 86 (.aload_n 0) 1 87 := ⟨by decide +kernel, rfl⟩
theorem dX9_init_87 : DC cX9_init 87 (.bipush 24) 2 89 := ⟨by decide +kernel, rfl⟩
theorem dX9_init_89 : DC cX9_init 89 (.newarray .int) 2 91 := ⟨by decide +kernel, rfl⟩
theorem dX9_init_91 : DC cX9_init 91 (.putfield 41) 3 94 := ⟨by decide +kernel, rfl⟩
theorem dX9_init_94 : DC cX9_init 94 (.aload_n 0) 1 95 := ⟨by decide +kernel, rfl⟩
theorem dX9_init_95 : DC cX9_init 95 (.bipush 24) 2 97 := ⟨by decide +kernel, rfl⟩
theorem dX9_init_97 : DC cX9_init 97 (.newarray .int) 2 99 := ⟨by decide +kernel, rfl⟩
theorem dX9_init_99 : DC cX9_init 99 (.putfield 44) 3 102 := ⟨by decide +kernel, rfl⟩
theorem dX9_init_102 : DC cX9_init 102 (.aload_n 0) 1 103 := ⟨by decide +kernel, rfl⟩
theorem dX9_init_103 : DC cX9_init 103 (.bipush 24) 2 105 := ⟨by decide +kernel, rfl⟩
theorem dX9_init_105 : DC cX9_init 105 (.newarray .int) 2 107 := ⟨by decide +kernel, rfl⟩
theorem dX9_init_107 : DC cX9_init 107 (.putfield 47) 3 110 := ⟨by decide +kernel, rfl⟩
theorem dX9_init_110 : DC cX9_init 110 (.aload_n 0) 1 111 := ⟨by decide +kernel, rfl⟩
theorem dX9_init_111 : DC cX9_init 111 (.bipush 24) 2 113 := ⟨by decide +kernel, rfl⟩
theorem dX9_init_113 : DC cX9_init 113 (.newarray .int) 2 115 := ⟨by decide +kernel, rfl⟩
theorem dX9_init_115 : DC cX9_init 115 (.putfield 50) 3 118 := ⟨by decide +kernel, rfl⟩
theorem dX9_init_118 : DC cX9_init 118 (.aload_n 0) 1 119 := ⟨by decide +kernel, rfl⟩
theorem dX9_init_119 : DC cX9_init 119 (.bipush 24) 2 121 := ⟨by decide +kernel, rfl⟩
theorem dX9_init_121 : DC cX9_init 121 (.newarray .int) 2 123 := ⟨by decide +kernel, rfl⟩
theorem dX9_init_123 : DC cX9_init 123 (.putfield 53) 3 126 := ⟨by decide +kernel, rfl⟩
theorem dX9_init_126 : DC cX9_init 126 (.aload_n 0) 1 127 := ⟨by decide +kernel, rfl⟩
theorem dX9_init_127 : DC cX9_init 127 (.sipush 600) 3 130 := ⟨by decide +kernel, rfl⟩
theorem dX9_init_130 : DC cX9_init 130 (.newarray .int) 2 132 := ⟨by decide +kernel, rfl⟩
theorem dX9_init_132 : DC cX9_init 132 (.putfield 56) 3 135 := ⟨by decide +kernel, rfl⟩
theorem dX9_init_135 : DC cX9_init 135 (.aload_n 0) 1 136 := ⟨by decide +kernel, rfl⟩
theorem dX9_init_136 : DC cX9_init 136 (.sipush 600) 3 139 := ⟨by decide +kernel, rfl⟩
theorem dX9_init_139 : DC cX9_init 139 (.newarray .int) 2 141 := ⟨by decide +kernel, rfl⟩
theorem dX9_init_141 : DC cX9_init 141 (.putfield 59) 3 144 := ⟨by decide +kernel, rfl⟩
theorem dX9_init_144 : DC cX9_init 144 (.aload_n 0) 1 145 := ⟨by decide +kernel, rfl⟩
theorem dX9_init_145 : DC cX9_init 145 (.bipush 8) 2 147 := ⟨by decide +kernel, rfl⟩
theorem dX9_init_147 : DC cX9_init 147 (.newarray .int) 2 149 := ⟨by decide +kernel, rfl⟩
theorem dX9_init_149 : DC cX9_init 149 (.putfield 62) 3 152 := ⟨by decide +kernel, rfl⟩
theorem dX9_init_152 : DC cX9_init 152 (.aload_n 0) 1 153 := ⟨by decide +kernel, rfl⟩
theorem dX9_init_153 : DC cX9_init 153 (.bipush 8) 2 155 := ⟨by decide +kernel, rfl⟩
theorem dX9_init_155 : DC cX9_init 155 (.newarray .int) 2 157 := ⟨by decide +kernel, rfl⟩
theorem dX9_init_157 : DC cX9_init 157 (.putfield 65) 3 160 := ⟨by decide +kernel, rfl⟩
theorem dX9_init_160 : DC cX9_init 160 (.aload_n 0) 1 161 := ⟨by decide +kernel, rfl⟩
theorem dX9_init_161 : DC cX9_init 161 (.bipush 8) 2 163 := ⟨by decide +kernel, rfl⟩
theorem dX9_init_163 : DC cX9_init 163 (.newarray .int) 2 165 := ⟨by decide +kernel, rfl⟩
theorem dX9_init_165 : DC cX9_init 165 (.putfield 68) 3 168 := ⟨by decide +kernel, rfl⟩
theorem dX9_init_168 : DC cX9_init 168 (.aload_n 0) 1 169 := ⟨by decide +kernel, rfl⟩
theorem dX9_init_169 : DC cX9_init 169 (.bipush 8) 2 171 := ⟨by decide +kernel, rfl⟩
theorem dX9_init_171 : DC cX9_init 171 (.newarray .int) 2 173 := ⟨by decide +kernel, rfl⟩
theorem dX9_init_173 : DC cX9_init 173 (.putfield 71) 3 176 := ⟨by decide +kernel, rfl⟩
theorem dX9_init_176 : DC cX9_init 176 (.aload_n 0) 1 177 := ⟨by decide +kernel, rfl⟩
theorem dX9_init_177 : DC cX9_init 177 (.bipush 8) 2 179 := ⟨by decide +kernel, rfl⟩
theorem dX9_init_179 : DC cX9_init 179 (.newarray .int) 2 181 := ⟨by decide +kernel, rfl⟩
theorem dX9_init_181 : DC cX9_init 181 (.putfield 74) 3 184 := ⟨by decide +kernel, rfl⟩
theorem dX9_init_184 : DC cX9_init 184 (.aload_n 0) 1 185 := ⟨by decide +kernel, rfl⟩
theorem dX9_init_185 : DC cX9_init 185 (.bipush 8) 2 187 := ⟨by decide +kernel, rfl⟩
theorem dX9_init_187 : DC cX9_init 187 (.newarray .int) 2 189 := ⟨by decide +kernel, rfl⟩
theorem dX9_init_189 : DC cX9_init 189 (.putfield 77) 3 192 := ⟨by decide +kernel, rfl⟩
theorem dX9_init_192 : DC cX9_init 192 (.aload_n 0) 1 193 := ⟨by decide +kernel, rfl⟩
theorem dX9_init_193 : DC cX9_init 193 (.bipush 8) 2 195 := ⟨by decide +kernel, rfl⟩
theorem dX9_init_195 : DC cX9_init 195 (.newarray .int) 2 197 := ⟨by decide +kernel, rfl⟩
theorem dX9_init_197 : DC cX9_init 197 (.putfield 80) 3 200 := ⟨by decide +kernel, rfl⟩
theorem dX9_init_200 : DC cX9_init 200 (.aload_n 0) 1 201 := ⟨by decide +kernel, rfl⟩
theorem dX9_init_201 : DC cX9_init 201 (.bipush 8) 2 203 := ⟨by decide +kernel, rfl⟩
theorem dX9_init_203 : DC cX9_init 203 (.newarray .boolean) 2 205 := ⟨by decide +kernel, rfl⟩
theorem dX9_init_205 : DC cX9_init 205 (.putfield 83) 3 208 := ⟨by decide +kernel, rfl⟩
theorem dX9_init_208 : DC cX9_init 208 (.aload_n 0) 1 209 := ⟨by decide +kernel, rfl⟩
theorem dX9_init_209 : DC cX9_init 209 (.bipush 25) 2 211 := ⟨by decide +kernel, rfl⟩
theorem dX9_init_211 : DC cX9_init 211 (.newarray .int) 2 213 := ⟨by decide +kernel, rfl⟩
theorem dX9_init_213 : DC cX9_init 213 (.putfield 87) 3 216 := ⟨by decide +kernel, rfl⟩
theorem dX9_init_216 : DC cX9_init 216 (.aload_n 0) 1 217 := ⟨by decide +kernel, rfl⟩
theorem dX9_init_217 : DC cX9_init 217 (.bipush 25) 2 219 := ⟨by decide +kernel, rfl⟩
theorem dX9_init_219 : DC cX9_init 219 (.newarray .int) 2 221 := ⟨by decide +kernel, rfl⟩
theorem dX9_init_221 : DC cX9_init 221 (.putfield 90) 3 224 := ⟨by decide +kernel, rfl⟩
theorem dX9_init_224 : DC cX9_init 224 (.aload_n 0) 1 225 := ⟨by decide +kernel, rfl⟩
theorem dX9_init_225 : DC cX9_init 225 (.bipush 25) 2 227 := ⟨by decide +kernel, rfl⟩
theorem dX9_init_227 : DC cX9_init 227 (.newarray .int) 2 229 := ⟨by decide +kernel, rfl⟩
theorem dX9_init_229 : DC cX9_init 229 (.putfield 93) 3 232 := ⟨by decide +kernel, rfl⟩
theorem dX9_init_232 : DC cX9_init 232 (.aload_n 0) 1 233 := ⟨by decide +kernel, rfl⟩
theorem dX9_init_233 : DC cX9_init 233 (.bipush 25) 2 235 := ⟨by decide +kernel, rfl⟩
theorem dX9_init_235 : DC cX9_init 235 (.newarray .int) 2 237 := ⟨by decide +kernel, rfl⟩
theorem dX9_init_237 : DC cX9_init 237 (.putfield 96) 3 240 := ⟨by decide +kernel, rfl⟩
theorem dX9_init_240 : DC cX9_init 240 (.aload_n 0) 1 241 := ⟨by decide +kernel, rfl⟩
theorem dX9_init_241 : DC cX9_init 241 (.sipush 192) 3 244 := ⟨by decide +kernel, rfl⟩
theorem dX9_init_244 : DC cX9_init 244 (.newarray .int) 2 246 := ⟨by decide +kernel, rfl⟩
theorem dX9_init_246 : DC cX9_init 246 (.putfield 99) 3 249 := ⟨by decide +kernel, rfl⟩
theorem dX9_init_249 : DC cX9_init 249 (.aload_n 0) 1 250 := ⟨by decide +kernel, rfl⟩
theorem dX9_init_250 : DC cX9_init 250 (.bipush 8) 2 252 := ⟨by decide +kernel, rfl⟩
theorem dX9_init_252 : DC cX9_init 252 (.newarray .int) 2 254 := ⟨by decide +kernel, rfl⟩
theorem dX9_init_254 : DC cX9_init 254 (.putfield 102) 3 257 := ⟨by decide +kernel, rfl⟩
theorem dX9_init_257 : DC cX9_init 257 (.aload_n 0) 1 258 := ⟨by decide +kernel, rfl⟩
theorem dX9_init_258 : DC cX9_init 258 (.bipush 8) 2 260 := ⟨by decide +kernel, rfl⟩
theorem dX9_init_260 : DC cX9_init 260 (.newarray .int) 2 262 := ⟨by decide +kernel, rfl⟩
theorem dX9_init_262 : DC cX9_init 262 (.putfield 105) 3 265 := ⟨by decide +kernel, rfl⟩
theorem dX9_init_265 : DC cX9_init 265 (.aload_n 0) 1 266 := ⟨by decide +kernel, rfl⟩
theorem dX9_init_266 : DC cX9_init 266 (.sipush 211) 3 269 := ⟨by decide +kernel, rfl⟩
theorem dX9_init_269 : DC cX9_init 269 (.newarray .int) 2 271 := ⟨by decide +kernel, rfl⟩
theorem dX9_init_271 : DC cX9_init 271 (.putfield 108) 3 274 := ⟨by decide +kernel, rfl⟩
theorem dX9_init_274 : DC cX9_init 274 (.aload_n 0) 1 275 := ⟨by decide +kernel, rfl⟩
theorem dX9_init_275 : DC cX9_init 275 (.getfield 9) 3 278 := ⟨by decide +kernel, rfl⟩
theorem dX9_init_278 : DC cX9_init 278 (.bipush 6) 2 280 := ⟨by decide +kernel, rfl⟩
theorem dX9_init_280 : DC cX9_init 280 (.iconst 1) 1 281 := ⟨by decide +kernel, rfl⟩
theorem dX9_init_281 : DC cX9_init 281 (.iastore) 1 282 := ⟨by decide +kernel, rfl⟩
theorem dX9_init_282 : DC cX9_init 282 (.aload_n 0) 1 283 := ⟨by decide +kernel, rfl⟩
theorem dX9_init_283 : DC cX9_init 283 (.iconst 3) 1 284 := ⟨by decide +kernel, rfl⟩
theorem dX9_init_284 : DC cX9_init 284 (.invokevirtual 111) 3 287 := ⟨by decide +kernel, rfl⟩
theorem dX9_init_287 : DC cX9_init 287 (.return_) 1 288 := ⟨by decide +kernel, rfl⟩
theorem dX9_thrown_0 : DC cX9_thrown 0 (.aload_n 0) 1 1 := ⟨by decide +kernel, rfl⟩
theorem dX9_thrown_1 : DC cX9_thrown 1 (.getfield 115) 3 4 := ⟨by decide +kernel, rfl⟩
theorem dX9_thrown_4 : DC cX9_thrown 4 (.ireturn) 1 5 := ⟨by decide +kernel, rfl⟩
theorem dX9_in_0 : DC cX9_in 0 (.iload_n 0) 1 1 := ⟨by decide +kernel, rfl⟩
theorem dX9_in_1 : DC cX9_in 1 (.iload_n 1) 1 2 := ⟨by decide +kernel, rfl⟩
theorem dX9_in_2 : DC cX9_in 2 (.if_icmp .lt 12) 3 5 := ⟨by decide +kernel, rfl⟩
theorem dX9_in_5 : DC cX9_in 5 (.iload_n 0) 1 6 := ⟨by decide +kernel, rfl⟩
theorem dX9_in_6 : DC cX9_in 6 (.iload_n 2) 1 7 := ⟨by decide +kernel, rfl⟩
theorem dX9_in_7 : DC cX9_in 7 (.if_icmp .gt 7) 3 10 := ⟨by decide +kernel, rfl⟩
theorem dX9_in_10 : DC cX9_in 10 (.iconst 1) 1 11 := ⟨by decide +kernel, rfl⟩
theorem dX9_in_11 : DC cX9_in 11 (.goto 4) 3 14 := ⟨by decide +kernel, rfl⟩
theorem dX9_in_14 : DC cX9_in 14 (.iconst 0) 1 15 := ⟨by decide +kernel, rfl⟩
theorem dX9_in_15 : DC cX9_in 15 (.ireturn) 1 16 := ⟨by decide +kernel, rfl⟩
theorem dX9_isCandidate_0 : DC cX9_isCandidate 0 (.iload_n 1) 1 1 := ⟨by decide +kernel, rfl⟩
theorem dX9_isCandidate_1 : DC cX9_isCandidate 1 (.iconst 0) 1 2 := ⟨by decide +kernel, rfl⟩
theorem dX9_isCandidate_2 : DC cX9_isCandidate 2 (.aload_n 0) 1 3 := ⟨by decide +kernel, rfl⟩
theorem dX9_isCandidate_3 : DC cX9_isCandidate 3 (.getfield 9) 3 6 := ⟨by decide +kernel, rfl⟩
theorem dX9_isCandidate_6 : DC cX9_isCandidate 6 (.iconst 0) 1 7 := ⟨by decide +kernel, rfl⟩
theorem dX9_isCandidate_7 : DC cX9_isCandidate 7 (.iaload) 1 8 := ⟨by decide +kernel, rfl⟩
theorem dX9_isCandidate_8 : DC cX9_isCandidate 8 (.iconst 1) 1 9 := ⟨by decide +kernel, rfl⟩
theorem dX9_isCandidate_9 : DC cX9_isCandidate 9 (.isub) 1 10 := ⟨by decide +kernel, rfl⟩
theorem dX9_isCandidate_10 : DC cX9_isCandidate 10 (.invokestatic 118) 3 13 := ⟨by decide +kernel, rfl⟩
theorem dX9_isCandidate_13 : DC cX9_isCandidate 13 (.ireturn) 1 14 := ⟨by decide +kernel, rfl⟩
theorem dX9_isPile_0 : DC cX9_isPile 0 (.iload_n 1) 1 1 := ⟨by decide +kernel, rfl⟩
theorem dX9_isPile_1 : DC cX9_isPile 1 (.iconst 0) 1 2 := ⟨by decide +kernel, rfl⟩
theorem dX9_isPile_2 : DC cX9_isPile 2 (.aload_n 0) 1 3 := ⟨by decide +kernel, rfl⟩
theorem dX9_isPile_3 : DC cX9_isPile 3 (.getfield 9) 3 6 := ⟨by decide +kernel, rfl⟩
theorem dX9_isPile_6 : DC cX9_isPile 6 (.iconst 1) 1 7 := ⟨by decide +kernel, rfl⟩
theorem dX9_isPile_7 : DC cX9_isPile 7 (.iaload) 1 8 := ⟨by decide +kernel, rfl⟩
theorem dX9_isPile_8 : DC cX9_isPile 8 (.iconst 1) 1 9 := ⟨by decide +kernel, rfl⟩
theorem dX9_isPile_9 : DC cX9_isPile 9 (.isub) 1 10 := ⟨by decide +kernel, rfl⟩
theorem dX9_isPile_10 : DC cX9_isPile 10 (.invokestatic 118) 3 13 := ⟨by decide +kernel, rfl⟩
theorem dX9_isPile_13 : DC cX9_isPile 13 (.ireturn) 1 14 := ⟨by decide +kernel, rfl⟩
theorem dX9_pileAt_0 : DC cX9_pileAt 0 (.bipush 15) 2 2 := ⟨by decide +kernel, rfl⟩
theorem dX9_pileAt_2 : DC cX9_pileAt 2 (.bipush 10) 2 4 := ⟨by decide +kernel, rfl⟩
theorem dX9_pileAt_4 : DC cX9_pileAt 4 (.iload_n 0) 1 5 := ⟨by decide +kernel, rfl⟩
theorem dX9_pileAt_5 : DC cX9_pileAt 5 (.imul) 1 6 := ⟨by decide +kernel, rfl⟩
theorem dX9_pileAt_6 : DC cX9_pileAt 6 (.iadd) 1 7 := ⟨by decide +kernel, rfl⟩
theorem dX9_pileAt_7 : DC cX9_pileAt 7 (.iload_n 1) 1 8 := ⟨by decide +kernel, rfl⟩
theorem dX9_pileAt_8 : DC cX9_pileAt 8 (.iadd) 1 9 := ⟨by decide +kernel, rfl⟩
theorem dX9_pileAt_9 : DC cX9_pileAt 9 (.ireturn) 1 10 := ⟨by decide +kernel, rfl⟩
theorem dX9_sizeOf_0 : DC cX9_sizeOf 0 (.aload_n 0) 1 1 := ⟨by decide +kernel, rfl⟩
theorem dX9_sizeOf_1 : DC cX9_sizeOf 1 (.getfield 9) 3 4 := ⟨by decide +kernel, rfl⟩
theorem dX9_sizeOf_4 : DC cX9_sizeOf 4 (.iload_n 1) 1 5 := ⟨by decide +kernel, rfl⟩
theorem dX9_sizeOf_5 : DC cX9_sizeOf 5 (.iconst 0) 1 6 := ⟨by decide +kernel, rfl⟩
theorem dX9_sizeOf_6 : DC cX9_sizeOf 6 (.invokestatic 122) 3 9 := ⟨by decide +kernel, rfl⟩
theorem dX9_sizeOf_9 : DC cX9_sizeOf 9 (.iaload) 1 10 := ⟨by decide +kernel, rfl⟩
theorem dX9_sizeOf_10 : DC cX9_sizeOf 10 (.ireturn) 1 11 := ⟨by decide +kernel, rfl⟩
theorem dX9_lengthOf_0 : DC cX9_lengthOf 0 (.aload_n 0) 1 1 := ⟨by decide +kernel, rfl⟩
theorem dX9_lengthOf_1 : DC cX9_lengthOf 1 (.getfield 9) 3 4 := ⟨by decide +kernel, rfl⟩
theorem dX9_lengthOf_4 : DC cX9_lengthOf 4 (.iload_n 1) 1 5 := ⟨by decide +kernel, rfl⟩
theorem dX9_lengthOf_5 : DC cX9_lengthOf 5 (.iconst 1) 1 6 := ⟨by decide +kernel, rfl⟩
theorem dX9_lengthOf_6 : DC cX9_lengthOf 6 (.invokestatic 122) 3 9 := ⟨by decide +kernel, rfl⟩
theorem dX9_lengthOf_9 : DC cX9_lengthOf 9 (.iaload) 1 10 := ⟨by decide +kernel, rfl⟩
theorem dX9_lengthOf_10 : DC cX9_lengthOf 10 (.ireturn) 1 11 := ⟨by decide +kernel, rfl⟩
theorem dX9_rankOf_0 : DC cX9_rankOf 0 (.aload_n 0) 1 1 := ⟨by decide +kernel, rfl⟩
theorem dX9_rankOf_1 : DC cX9_rankOf 1 (.getfield 9) 3 4 := ⟨by decide +kernel, rfl⟩
theorem dX9_rankOf_4 : DC cX9_rankOf 4 (.iload_n 1) 1 5 := ⟨by decide +kernel, rfl⟩
theorem dX9_rankOf_5 : DC cX9_rankOf 5 (.iconst 2) 1 6 := ⟨by decide +kernel, rfl⟩
theorem dX9_rankOf_6 : DC cX9_rankOf 6 (.iload_n 2) 1 7 := ⟨by decide +kernel, rfl⟩
theorem dX9_rankOf_7 : DC cX9_rankOf 7 (.iadd) 1 8 := ⟨by decide +kernel, rfl⟩
theorem dX9_rankOf_8 : DC cX9_rankOf 8 (.invokestatic 122) 3 11 := ⟨by decide +kernel, rfl⟩
theorem dX9_rankOf_11 : DC cX9_rankOf 11 (.iaload) 1 12 := ⟨by decide +kernel, rfl⟩
theorem dX9_rankOf_12 : DC cX9_rankOf 12 (.ireturn) 1 13 := ⟨by decide +kernel, rfl⟩
theorem dX9_isGone_0 : DC cX9_isGone 0 (.aload_n 0) 1 1 := ⟨by decide +kernel, rfl⟩
theorem dX9_isGone_1 : DC cX9_isGone 1 (.getfield 9) 3 4 := ⟨by decide +kernel, rfl⟩
theorem dX9_isGone_4 : DC cX9_isGone 4 (.iconst 2) 1 5 := ⟨by decide +kernel, rfl⟩
theorem dX9_isGone_5 : DC cX9_isGone 5 (.iaload) 1 6 := ⟨by decide +kernel, rfl⟩
theorem dX9_isGone_6 : DC cX9_isGone 6 (.iload_n 1) 1 7 := ⟨by decide +kernel, rfl⟩
theorem dX9_isGone_7 : DC cX9_isGone 7 (.ishr) 1 8 := ⟨by decide +kernel, rfl⟩
theorem dX9_isGone_8 : DC cX9_isGone 8 (.iconst 1) 1 9 := ⟨by decide +kernel, rfl⟩
theorem dX9_isGone_9 : DC cX9_isGone 9 (.iand) 1 10 := ⟨by decide +kernel, rfl⟩
theorem dX9_isGone_10 : DC cX9_isGone 10 (.iconst 1) 1 11 := ⟨by decide +kernel, rfl⟩
theorem dX9_isGone_11 : DC cX9_isGone 11 (.if_icmp .ne 7) 3 14 := ⟨by decide +kernel, rfl⟩
theorem dX9_isGone_14 : DC cX9_isGone 14 (.iconst 1) 1 15 := ⟨by decide +kernel, rfl⟩
theorem dX9_isGone_15 : DC cX9_isGone 15 (.goto 4) 3 18 := ⟨by decide +kernel, rfl⟩
theorem dX9_isGone_18 : DC cX9_isGone 18 (.iconst 0) 1 19 := ⟨by decide +kernel, rfl⟩
theorem dX9_isGone_19 : DC cX9_isGone 19 (.ireturn) 1 20 := ⟨by decide +kernel, rfl⟩
theorem dX9_start_0 : DC cX9_start 0 (.aload_n 0) 1 1 := ⟨by decide +kernel, rfl⟩
theorem dX9_start_1 : DC cX9_start 1 (.getfield 9) 3 4 := ⟨by decide +kernel, rfl⟩
theorem dX9_start_4 : DC cX9_start 4 (.iconst 0) 1 5 := ⟨by decide +kernel, rfl⟩
theorem dX9_start_5 : DC cX9_start 5 (.iload_n 1) 1 6 := ⟨by decide +kernel, rfl⟩
theorem dX9_start_6 : DC cX9_start 6 (.iastore) 1 7 := ⟨by decide +kernel, rfl⟩
theorem dX9_start_7 : DC cX9_start 7 (.aload_n 0) 1 8 := ⟨by decide +kernel, rfl⟩
theorem dX9_start_8 : DC cX9_start 8 (.getfield 9) 3 11 := ⟨by decide +kernel, rfl⟩
theorem dX9_start_11 : DC cX9_start 11 (.iconst 1) 1 12 := ⟨by decide +kernel, rfl⟩
theorem dX9_start_12 : DC cX9_start 12 (.iconst 0) 1 13 := ⟨by decide +kernel, rfl⟩
theorem dX9_start_13 : DC cX9_start 13 (.iastore) 1 14 := ⟨by decide +kernel, rfl⟩
theorem dX9_start_14 : DC cX9_start 14 (.aload_n 0) 1 15 := ⟨by decide +kernel, rfl⟩
theorem dX9_start_15 : DC cX9_start 15 (.getfield 9) 3 18 := ⟨by decide +kernel, rfl⟩
theorem dX9_start_18 : DC cX9_start 18 (.iconst 2) 1 19 := ⟨by decide +kernel, rfl⟩
theorem dX9_start_19 : DC cX9_start 19 (.iconst 0) 1 20 := ⟨by decide +kernel, rfl⟩
theorem dX9_start_20 : DC cX9_start 20 (.iastore) 1 21 := ⟨by decide +kernel, rfl⟩
theorem dX9_start_21 : DC cX9_start 21 (.iconst 0) 1 22 := ⟨by decide +kernel, rfl⟩
theorem dX9_start_22 : DC cX9_start 22 (.istore_n 2) 1 23 := ⟨by decide +kernel, rfl⟩
theorem dX9_start_23 : DC cX9_start 23 (.iload_n 2) 1 24 := ⟨by decide +kernel, rfl⟩
theorem dX9_start_24 : DC cX9_start 24 (.bipush 8) 2 26 := ⟨by decide +kernel, rfl⟩
theorem dX9_start_26 : DC cX9_start 26 (.if_icmp .ge 19) 3 29 := ⟨by decide +kernel, rfl⟩
theorem dX9_start_29 : DC cX9_start 29 (.aload_n 0) 1 30 := ⟨by decide +kernel, rfl⟩
theorem dX9_start_30 : DC cX9_start 30 (.getfield 9) 3 33 := ⟨by decide +kernel, rfl⟩
theorem dX9_start_33 : DC cX9_start 33 (.bipush 7) 2 35 := ⟨by decide +kernel, rfl⟩
theorem dX9_start_35 : DC cX9_start 35 (.iload_n 2) 1 36 := ⟨by decide +kernel, rfl⟩
theorem dX9_start_36 : DC cX9_start 36 (.iadd) 1 37 := ⟨by decide +kernel, rfl⟩
theorem dX9_start_37 : DC cX9_start 37 (.iload_n 2) 1 38 := ⟨by decide +kernel, rfl⟩
theorem dX9_start_38 : DC cX9_start 38 (.iastore) 1 39 := ⟨by decide +kernel, rfl⟩
theorem dX9_start_39 : DC cX9_start 39 (.iinc 2 1) 3 42 := ⟨by decide +kernel, rfl⟩
theorem dX9_start_42 : DC cX9_start 42 (.goto (-19)) 3 45 := ⟨by decide +kernel, rfl⟩
theorem dX9_start_45 : DC cX9_start 45 (.aload_n 0) 1 46 := ⟨by decide +kernel, rfl⟩
theorem dX9_start_46 : DC cX9_start 46 (.iconst 0) 1 47 := ⟨by decide +kernel, rfl⟩
theorem dX9_start_47 : DC cX9_start 47 (.putfield 126) 3 50 := ⟨by decide +kernel, rfl⟩
theorem dX9_start_50 : DC cX9_start 50 (.aload_n 0) 1 51 := ⟨by decide +kernel, rfl⟩
theorem dX9_start_51 : DC cX9_start 51 (.iconst 0) 1 52 := ⟨by decide +kernel, rfl⟩
theorem dX9_start_52 : DC cX9_start 52 (.putfield 129) 3 55 := ⟨by decide +kernel, rfl⟩
theorem dX9_start_55 : DC cX9_start 55 (.aload_n 0) 1 56 := ⟨by decide +kernel, rfl⟩
theorem dX9_start_56 : DC cX9_start 56 (.iconst 0) 1 57 := ⟨by decide +kernel, rfl⟩
theorem dX9_start_57 : DC cX9_start 57 (.putfield 133) 3 60 := ⟨by decide +kernel, rfl⟩
theorem dX9_start_60 : DC cX9_start 60 (.return_) 1 61 := ⟨by decide +kernel, rfl⟩
theorem dX9_push_0 : DC cX9_push 0 (.aload_n 0) 1 1 := ⟨by decide +kernel, rfl⟩
theorem dX9_push_1 : DC cX9_push 1 (.getfield 126) 3 4 := ⟨by decide +kernel, rfl⟩
theorem dX9_push_4 : DC cX9_push 4 (.bipush 8) 2 6 := ⟨by decide +kernel, rfl⟩
theorem dX9_push_6 : DC cX9_push 6 (.if_icmp .ne 31) 3 9 := ⟨by decide +kernel, rfl⟩
theorem dX9_push_9 : DC cX9_push 9 (.aload_n 0) 1 10 := ⟨by decide +kernel, rfl⟩
theorem dX9_push_10 : DC cX9_push 10 (.getfield 16) 3 13 := ⟨by decide +kernel, rfl⟩
theorem dX9_push_13 : DC cX9_push 13 (.sipush 265) 3 16 := ⟨by decide +kernel, rfl⟩
theorem dX9_push_16 : DC cX9_push 16 (.aload_n 0) 1 17 := ⟨by decide +kernel, rfl⟩
theorem dX9_push_17 : DC cX9_push 17 (.getfield 16) 3 20 := ⟨by decide +kernel, rfl⟩
theorem dX9_push_20 : DC cX9_push 20 (.iconst 0) 1 21 := ⟨by decide +kernel, rfl⟩
theorem dX9_push_21 : DC cX9_push 21 (.sipush 1855) 3 24 := ⟨by decide +kernel, rfl⟩
theorem dX9_push_24 : DC cX9_push 24 (.invokestatic 136) 3 27 := ⟨by decide +kernel, rfl⟩
theorem dX9_push_27 : DC cX9_push 27 (.aload_n 0) 1 28 := ⟨by decide +kernel, rfl⟩
theorem dX9_push_28 : DC cX9_push 28 (.dup) 1 29 := ⟨by decide +kernel, rfl⟩
theorem dX9_push_29 : DC cX9_push 29 (.getfield 126) 3 32 := ⟨by decide +kernel, rfl⟩
theorem dX9_push_32 : DC cX9_push 32 (.iconst 1) 1 33 := ⟨by decide +kernel, rfl⟩
theorem dX9_push_33 : DC cX9_push 33 (.isub) 1 34 := ⟨by decide +kernel, rfl⟩
theorem dX9_push_34 : DC cX9_push 34 (.putfield 126) 3 37 := ⟨by decide +kernel, rfl⟩
theorem dX9_push_37 : DC cX9_push 37 (.aload_n 1) 1 38 := ⟨by decide +kernel, rfl⟩
theorem dX9_push_38 : DC cX9_push 38 (.iconst 0) 1 39 := ⟨by decide +kernel, rfl⟩
theorem dX9_push_39 : DC cX9_push 39 (.aload_n 0) 1 40 := ⟨by decide +kernel, rfl⟩
theorem dX9_push_40 : DC cX9_push 40 (.getfield 16) 3 43 := ⟨by decide +kernel, rfl⟩
theorem dX9_push_43 : DC cX9_push 43 (.sipush 265) 3 46 := ⟨by decide +kernel, rfl⟩
theorem dX9_push_46 : DC cX9_push 46 (.aload_n 0) 1 47 := ⟨by decide +kernel, rfl⟩
theorem dX9_push_47 : DC cX9_push 47 (.getfield 126) 3 50 := ⟨by decide +kernel, rfl⟩
theorem dX9_push_50 : DC cX9_push 50 (.imul) 1 51 := ⟨by decide +kernel, rfl⟩
theorem dX9_push_51 : DC cX9_push 51 (.sipush 265) 3 54 := ⟨by decide +kernel, rfl⟩
theorem dX9_push_54 : DC cX9_push 54 (.invokestatic 136) 3 57 := ⟨by decide +kernel, rfl⟩
theorem dX9_push_57 : DC cX9_push 57 (.aload_n 0) 1 58 := ⟨by decide +kernel, rfl⟩
theorem dX9_push_58 : DC cX9_push 58 (.dup) 1 59 := ⟨by decide +kernel, rfl⟩
theorem dX9_push_59 : DC cX9_push 59 (.getfield 126) 3 62 := ⟨by decide +kernel, rfl⟩
theorem dX9_push_62 : DC cX9_push 62 (.iconst 1) 1 63 := ⟨by decide +kernel, rfl⟩
theorem dX9_push_63 : DC cX9_push 63 (.iadd) 1 64 := ⟨by decide +kernel, rfl⟩
theorem dX9_push_64 : DC cX9_push 64 (.putfield 126) 3 67 := ⟨by decide +kernel, rfl⟩
theorem dX9_push_67 : DC cX9_push 67 (.aload_n 0) 1 68 := ⟨by decide +kernel, rfl⟩
theorem dX9_push_68 : DC cX9_push 68 (.iconst 0) 1 69 := ⟨by decide +kernel, rfl⟩
theorem dX9_push_69 : DC cX9_push 69 (.putfield 133) 3 72 := ⟨by decide +kernel, rfl⟩
theorem dX9_push_72 : DC cX9_push 72 (.return_) 1 73 := ⟨by decide +kernel, rfl⟩
theorem dX9_begin_0 : DC cX9_begin 0 (.aload_n 0) 1 1 := ⟨by decide +kernel, rfl⟩
theorem dX9_begin_1 : DC cX9_begin 1 (.iload_n 1) 1 2 := ⟨by decide +kernel, rfl⟩
theorem dX9_begin_2 : DC cX9_begin 2 (.iconst 2) 1 3 := ⟨by decide +kernel, rfl⟩
theorem dX9_begin_3 : DC cX9_begin 3 (.bipush 8) 2 5 := ⟨by decide +kernel, rfl⟩
theorem dX9_begin_5 : DC cX9_begin 5 (.invokestatic 118) 3 8 := ⟨by decide +kernel, rfl⟩
theorem dX9_begin_8 : DC cX9_begin 8 (.ifCond .eq 17) 3 11 := ⟨by decide +kernel, rfl⟩
theorem dX9_begin_11 : DC cX9_begin 11 (.iload_n 2) 1 12 := ⟨by decide +kernel, rfl⟩
theorem dX9_begin_12 : DC cX9_begin 12 (.iconst 1) 1 13 := ⟨by decide +kernel, rfl⟩
theorem dX9_begin_13 : DC cX9_begin 13 (.bipush 7) 2 15 := ⟨by decide +kernel, rfl⟩
theorem dX9_begin_15 : DC cX9_begin 15 (.invokestatic 118) 3 18 := ⟨by decide +kernel, rfl⟩
theorem dX9_begin_18 : DC cX9_begin 18 (.ifCond .eq 7) 3 21 := ⟨by decide +kernel, rfl⟩
theorem dX9_begin_21 : DC cX9_begin 21 (.iconst 0) 1 22 := ⟨by decide +kernel, rfl⟩
theorem dX9_begin_22 : DC cX9_begin 22 (.goto 4) 3 25 := ⟨by decide +kernel, rfl⟩
theorem dX9_begin_25 : DC cX9_begin 25 (.iconst 1) 1 26 := ⟨by decide +kernel, rfl⟩
theorem dX9_begin_26 : DC cX9_begin 26 (.putfield 115) 3 29 := ⟨by decide +kernel, rfl⟩
theorem dX9_begin_29 : DC cX9_begin 29 (.aload_n 0) 1 30 := ⟨by decide +kernel, rfl⟩
theorem dX9_begin_30 : DC cX9_begin 30 (.getfield 115) 3 33 := ⟨by decide +kernel, rfl⟩
theorem dX9_begin_33 : DC cX9_begin 33 (.ifCond .le 5) 3 36 := ⟨by decide +kernel, rfl⟩
theorem dX9_begin_36 : DC cX9_begin 36 (.iconst 0) 1 37 := ⟨by decide +kernel, rfl⟩
theorem dX9_begin_37 : DC cX9_begin 37 (.ireturn) 1 38 := ⟨by decide +kernel, rfl⟩
theorem dX9_begin_38 : DC cX9_begin 38 (.aload_n 0) 1 39 := ⟨by decide +kernel, rfl⟩
theorem dX9_begin_39 : DC cX9_begin 39 (.getfield 9) 3 42 := ⟨by decide +kernel, rfl⟩
theorem dX9_begin_42 : DC cX9_begin 42 (.iconst 0) 1 43 := ⟨by decide +kernel, rfl⟩
theorem dX9_begin_43 : DC cX9_begin 43 (.iaload) 1 44 := ⟨by decide +kernel, rfl⟩
theorem dX9_begin_44 : DC cX9_begin 44 (.istore_n 3) 1 45 := ⟨by decide +kernel, rfl⟩
theorem dX9_begin_45 : DC cX9_begin 45 (.aload_n 0) 1 46 := ⟨by decide +kernel, rfl⟩
theorem dX9_begin_46 : DC cX9_begin 46 (.iload_n 1) 1 47 := ⟨by decide +kernel, rfl⟩
theorem dX9_begin_47 : DC cX9_begin 47 (.invokevirtual 111) 3 50 := ⟨by decide +kernel, rfl⟩
theorem dX9_begin_50 : DC cX9_begin 50 (.aload_n 0) 1 51 := ⟨by decide +kernel, rfl⟩
theorem dX9_begin_51 : DC cX9_begin 51 (.getfield 9) 3 54 := ⟨by decide +kernel, rfl⟩
theorem dX9_begin_54 : DC cX9_begin 54 (.bipush 6) 2 56 := ⟨by decide +kernel, rfl⟩
theorem dX9_begin_56 : DC cX9_begin 56 (.iload_n 2) 1 57 := ⟨by decide +kernel, rfl⟩
theorem dX9_begin_57 : DC cX9_begin 57 (.iastore) 1 58 := ⟨by decide +kernel, rfl⟩
theorem dX9_begin_58 : DC cX9_begin 58 (.iload_n 3) 1 59 := ⟨by decide +kernel, rfl⟩
theorem dX9_begin_59 : DC cX9_begin 59 (.ireturn) 1 60 := ⟨by decide +kernel, rfl⟩
theorem dX9_append_0 : DC cX9_append 0 (.iconst 0) 1 1 := ⟨by decide +kernel, rfl⟩
theorem dX9_append_1 : DC cX9_append 1 (.istore_n 2) 1 2 := ⟨by decide +kernel, rfl⟩
theorem dX9_append_2 : DC cX9_append 2 (.iconst 1) 1 3 := ⟨by decide +kernel, rfl⟩
theorem dX9_append_3 : DC cX9_append 3 (.istore_n 3) 1 4 := ⟨by decide +kernel, rfl⟩
theorem dX9_append_4 : DC cX9_append 4 (.bipush 24) 2 6 := ⟨by decide +kernel, rfl⟩
theorem dX9_append_6 : DC cX9_append 6 (.istore 4) 2 8 := ⟨by decide +kernel, rfl⟩
theorem dX9_append_8 : DC cX9_append 8 (.iload 4) 2 10 := ⟨by decide +kernel, rfl⟩
theorem dX9_append_10 : DC cX9_append 10 (.ifCond .lt 59) 3 13 := ⟨by decide +kernel, rfl⟩
theorem dX9_append_13 : DC cX9_append 13 (.iload_n 1) 1 14 := ⟨by decide +kernel, rfl⟩
theorem dX9_append_14 : DC cX9_append 14 (.iload 4) 2 16 := ⟨by decide +kernel, rfl⟩
theorem dX9_append_16 : DC cX9_append 16 (.iushr) 1 17 := ⟨by decide +kernel, rfl⟩
theorem dX9_append_17 : DC cX9_append 17 (.sipush 255) 3 20 := ⟨by decide +kernel, rfl⟩
theorem dX9_append_20 : DC cX9_append 20 (.iand) 1 21 := ⟨by decide +kernel, rfl⟩
theorem dX9_append_21 : DC cX9_append 21 (.istore 5) 2 23 := ⟨by decide +kernel, rfl⟩
theorem dX9_append_23 : DC cX9_append 23 (.iload_n 3) 1 24 := ⟨by decide +kernel, rfl⟩
theorem dX9_append_24 : DC cX9_append 24 (.ifCond .eq 24) 3 27 := ⟨by decide +kernel, rfl⟩
theorem dX9_append_27 : DC cX9_append 27 (.iload 5) 2 29 := ⟨by decide +kernel, rfl⟩
theorem dX9_append_29 : DC cX9_append 29 (.ifCond .eq 15) 3 32 := ⟨by decide +kernel, rfl⟩
theorem dX9_append_32 : DC cX9_append 32 (.iload 5) 2 34 := ⟨by decide +kernel, rfl⟩
theorem dX9_append_34 : DC cX9_append 34 (.bipush 33) 2 36 := ⟨by decide +kernel, rfl⟩
theorem dX9_append_36 : DC cX9_append 36 (.bipush 126) 2 38 := ⟨by decide +kernel, rfl⟩
theorem dX9_append_38 : DC cX9_append 38 (.invokestatic 118) 3 41 := ⟨by decide +kernel, rfl⟩
theorem dX9_append_41 : DC cX9_append 41 (.ifCond .eq 7) 3 44 := ⟨by decide +kernel, rfl⟩
theorem dX9_append_44 : DC cX9_append 44 (.iconst 1) 1 45 := ⟨by decide +kernel, rfl⟩
theorem dX9_append_45 : DC cX9_append 45 (.goto 4) 3 48 := ⟨by decide +kernel, rfl⟩
theorem dX9_append_48 : DC cX9_append 48 (.iconst 0) 1 49 := ⟨by decide +kernel, rfl⟩
theorem dX9_append_49 : DC cX9_append 49 (.istore_n 3) 1 50 := ⟨by decide +kernel, rfl⟩
theorem dX9_append_50 : DC cX9_append 50 (.iload_n 2) 1 51 := ⟨by decide +kernel, rfl⟩
theorem dX9_append_51 : DC cX9_append 51 (.iload 5) 2 53 := ⟨by decide +kernel, rfl⟩
theorem dX9_append_53 : DC cX9_append 53 (.ifCond .eq 7) 3 56 := ⟨by decide +kernel, rfl⟩
theorem dX9_append_56 : DC cX9_append 56 (.iconst 1) 1 57 := ⟨by decide +kernel, rfl⟩
theorem dX9_append_57 : DC cX9_append 57 (.goto 4) 3 60 := ⟨by decide +kernel, rfl⟩
theorem dX9_append_60 : DC cX9_append 60 (.iconst 0) 1 61 := ⟨by decide +kernel, rfl⟩
theorem dX9_append_61 : DC cX9_append 61 (.iadd) 1 62 := ⟨by decide +kernel, rfl⟩
theorem dX9_append_62 : DC cX9_append 62 (.istore_n 2) 1 63 := ⟨by decide +kernel, rfl⟩
theorem dX9_append_63 : DC cX9_append 63 (.iinc 4 (-8)) 3 66 := ⟨by decide +kernel, rfl⟩
theorem dX9_append_66 : DC cX9_append 66 (.goto (-58)) 3 69 := ⟨by decide +kernel, rfl⟩
theorem dX9_append_69 : DC cX9_append 69 (.aload_n 0) 1 70 := ⟨by decide +kernel, rfl⟩
theorem dX9_append_70 : DC cX9_append 70 (.iload_n 3) 1 71 := ⟨by decide +kernel, rfl⟩
theorem dX9_append_71 : DC cX9_append 71 (.ifCond .ne 7) 3 74 := ⟨by decide +kernel, rfl⟩
theorem dX9_append_74 : DC cX9_append 74 (.iconst 1) 1 75 := ⟨by decide +kernel, rfl⟩
theorem dX9_append_75 : DC cX9_append 75 (.goto 19) 3 78 := ⟨by decide +kernel, rfl⟩
theorem dX9_append_78 : DC cX9_append 78 (.aload_n 0) 1 79 := ⟨by decide +kernel, rfl⟩
theorem dX9_append_79 : DC cX9_append 79 (.getfield 142) 3 82 := ⟨by decide +kernel, rfl⟩
theorem dX9_append_82 : DC cX9_append 82 (.iload_n 2) 1 83 := ⟨by decide +kernel, rfl⟩
theorem dX9_append_83 : DC cX9_append 83 (.iadd) 1 84 := ⟨by decide +kernel, rfl⟩
theorem dX9_append_84 : DC cX9_append 84 (.bipush 60) 2 86 := ⟨by decide +kernel, rfl⟩
theorem dX9_append_86 : DC cX9_append 86 (.if_icmp .le 7) 3 89 := ⟨by decide +kernel, rfl⟩
theorem dX9_append_89 : DC cX9_append 89 (.iconst 2) 1 90 := ⟨by decide +kernel, rfl⟩
theorem dX9_append_90 : DC cX9_append 90 (.goto 4) 3 93 := ⟨by decide +kernel, rfl⟩
theorem dX9_append_93 : DC cX9_append 93 (.iconst 0) 1 94 := ⟨by decide +kernel, rfl⟩
theorem dX9_append_94 : DC cX9_append 94 (.putfield 115) 3 97 := ⟨by decide +kernel, rfl⟩
theorem dX9_append_97 : DC cX9_append 97 (.aload_n 0) 1 98 := ⟨by decide +kernel, rfl⟩
theorem dX9_append_98 : DC cX9_append 98 (.getfield 115) 3 101 := ⟨by decide +kernel, rfl⟩
theorem dX9_append_101 : DC cX9_append 101 (.ifCond .le 5) 3 104 := ⟨by decide +kernel, rfl⟩
theorem dX9_append_104 : DC cX9_append 104 (.iconst 0) 1 105 := ⟨by decide +kernel, rfl⟩
theorem dX9_append_105 : DC cX9_append 105 (.ireturn) 1 106 := ⟨by decide +kernel, rfl⟩
theorem dX9_append_106 : DC cX9_append 106 (.bipush 24) 2 108 := ⟨by decide +kernel, rfl⟩
theorem dX9_append_108 : DC cX9_append 108 (.istore 4) 2 110 := ⟨by decide +kernel, rfl⟩
theorem dX9_append_110 : DC cX9_append 110 (.iload 4) 2 112 := ⟨by decide +kernel, rfl⟩
theorem dX9_append_112 : DC cX9_append 112 (.ifCond .lt 45) 3 115 := ⟨by decide +kernel, rfl⟩
theorem dX9_append_115 : DC cX9_append 115 (.iload_n 1) 1 116 := ⟨by decide +kernel, rfl⟩
theorem dX9_append_116 : DC cX9_append 116 (.iload 4) 2 118 := ⟨by decide +kernel, rfl⟩
theorem dX9_append_118 : DC cX9_append 118 (.iushr) 1 119 := ⟨by decide +kernel, rfl⟩
theorem dX9_append_119 : DC cX9_append 119 (.sipush 255) 3 122 := ⟨by decide +kernel, rfl⟩
theorem dX9_append_122 : DC cX9_append 122 (.iand) 1 123 := ⟨by decide +kernel, rfl⟩
theorem dX9_append_123 : DC cX9_append 123 (.istore 5) 2 125 := ⟨by decide +kernel, rfl⟩
theorem dX9_append_125 : DC cX9_append 125 (.iload 5) 2 127 := ⟨by decide +kernel, rfl⟩
theorem dX9_append_127 : DC cX9_append 127 (.ifCond .eq 24) 3 130 := ⟨by decide +kernel, rfl⟩
theorem dX9_append_130 : DC cX9_append 130 (.aload_n 0) 1 131 := ⟨by decide +kernel, rfl⟩
theorem dX9_append_131 : DC cX9_append 131 (.getfield 22) 3 134 := ⟨by decide +kernel, rfl⟩
theorem dX9_append_134 : DC cX9_append 134 (.aload_n 0) 1 135 := ⟨by decide +kernel, rfl⟩
theorem dX9_append_135 : DC cX9_append 135 (.getfield 142) 3 138 := ⟨by decide +kernel, rfl⟩
theorem dX9_append_138 : DC cX9_append 138 (.iload 5) 2 140 := ⟨by decide +kernel, rfl⟩
theorem dX9_append_140 : DC cX9_append 140 (.iastore) 1 141 := ⟨by decide +kernel, rfl⟩
theorem dX9_append_141 : DC cX9_append 141 (.aload_n 0) 1 142 := ⟨by decide +kernel, rfl⟩
theorem dX9_append_142 : DC cX9_append 142 (.dup) 1 143 := ⟨by decide +kernel, rfl⟩
theorem dX9_append_143 : DC cX9_append 143 (.getfield 142) 3 146 := ⟨by decide +kernel, rfl⟩
theorem dX9_append_146 : DC cX9_append 146 (.iconst 1) 1 147 := ⟨by decide +kernel, rfl⟩
theorem dX9_append_147 : DC cX9_append 147 (.iadd) 1 148 := ⟨by decide +kernel, rfl⟩
theorem dX9_append_148 : DC cX9_append 148 (.putfield 142) 3 151 := ⟨by decide +kernel, rfl⟩
theorem dX9_append_151 : DC cX9_append 151 (.iinc 4 (-8)) 3 154 := ⟨by decide +kernel, rfl⟩
theorem dX9_append_154 : DC cX9_append 154 (.goto (-44)) 3 157 := ⟨by decide +kernel, rfl⟩
theorem dX9_append_157 : DC cX9_append 157 (.aload_n 0) 1 158 := ⟨by decide +kernel, rfl⟩
theorem dX9_append_158 : DC cX9_append 158 (.getfield 142) 3 161 := ⟨by decide +kernel, rfl⟩
theorem dX9_append_161 : DC cX9_append 161 (.ireturn) 1 162 := ⟨by decide +kernel, rfl⟩
theorem dX9_here_0 : DC cX9_here 0 (.aload_n 0) 1 1 := ⟨by decide +kernel, rfl⟩
theorem dX9_here_1 : DC cX9_here 1 (.getfield 145) 3 4 := ⟨by decide +kernel, rfl⟩
theorem dX9_here_4 : DC cX9_here 4 (.aload_n 0) 1 5 := ⟨by decide +kernel, rfl⟩
theorem dX9_here_5 : DC cX9_here 5 (.getfield 142) 3 8 := ⟨by decide +kernel, rfl⟩
theorem dX9_here_8 : DC cX9_here 8 (.if_icmp .ge 15) 3 11 := ⟨by decide +kernel, rfl⟩
theorem dX9_here_11 : DC cX9_here 11 (.aload_n 0) 1 12 := ⟨by decide +kernel, rfl⟩
theorem dX9_here_12 : DC cX9_here 12 (.getfield 22) 3 15 := ⟨by decide +kernel, rfl⟩
theorem dX9_here_15 : DC cX9_here 15 (.aload_n 0) 1 16 := ⟨by decide +kernel, rfl⟩
theorem dX9_here_16 : DC cX9_here 16 (.getfield 145) 3 19 := ⟨by decide +kernel, rfl⟩
theorem dX9_here_19 : DC cX9_here 19 (.iaload) 1 20 := ⟨by decide +kernel, rfl⟩
theorem dX9_here_20 : DC cX9_here 20 (.goto 4) 3 23 := ⟨by decide +kernel, rfl⟩
theorem dX9_here_23 : DC cX9_here 23 (.iconst 0) 1 24 := ⟨by decide +kernel, rfl⟩
theorem dX9_here_24 : DC cX9_here 24 (.ireturn) 1 25 := ⟨by decide +kernel, rfl⟩
theorem dX9_wrongAt_0 : DC cX9_wrongAt 0 (.aload_n 0) 1 1 := ⟨by decide +kernel, rfl⟩
theorem dX9_wrongAt_1 : DC cX9_wrongAt 1 (.getfield 148) 3 4 := ⟨by decide +kernel, rfl⟩
theorem dX9_wrongAt_4 : DC cX9_wrongAt 4 (.ifCond .ne 13) 3 7 := ⟨by decide +kernel, rfl⟩
theorem dX9_wrongAt_7 : DC cX9_wrongAt 7 (.aload_n 0) 1 8 := ⟨by decide +kernel, rfl⟩
theorem dX9_wrongAt_8 : DC cX9_wrongAt 8 (.iconst 1) 1 9 := ⟨by decide +kernel, rfl⟩
theorem dX9_wrongAt_9 : DC cX9_wrongAt 9 (.putfield 148) 3 12 := ⟨by decide +kernel, rfl⟩
theorem dX9_wrongAt_12 : DC cX9_wrongAt 12 (.aload_n 0) 1 13 := ⟨by decide +kernel, rfl⟩
theorem dX9_wrongAt_13 : DC cX9_wrongAt 13 (.iload_n 1) 1 14 := ⟨by decide +kernel, rfl⟩
theorem dX9_wrongAt_14 : DC cX9_wrongAt 14 (.putfield 145) 3 17 := ⟨by decide +kernel, rfl⟩
theorem dX9_wrongAt_17 : DC cX9_wrongAt 17 (.return_) 1 18 := ⟨by decide +kernel, rfl⟩
theorem dX9_wants_0 : DC cX9_wants 0 (.aload_n 0) 1 1 := ⟨by decide +kernel, rfl⟩
theorem dX9_wants_1 : DC cX9_wants 1 (.invokevirtual 151) 3 4 := ⟨by decide +kernel, rfl⟩
theorem dX9_wants_4 : DC cX9_wants 4 (.iload_n 1) 1 5 := ⟨by decide +kernel, rfl⟩
theorem dX9_wants_5 : DC cX9_wants 5 (.if_icmp .eq 11) 3 8 := ⟨by decide +kernel, rfl⟩
theorem dX9_wants_8 : DC cX9_wants 8 (.aload_n 0) 1 9 := ⟨by decide +kernel, rfl⟩
theorem dX9_wants_9 : DC cX9_wants 9 (.aload_n 0) 1 10 := ⟨by decide +kernel, rfl⟩
theorem dX9_wants_10 : DC cX9_wants 10 (.getfield 145) 3 13 := ⟨by decide +kernel, rfl⟩
theorem dX9_wants_13 : DC cX9_wants 13 (.invokevirtual 155) 3 16 := ⟨by decide +kernel, rfl⟩
theorem dX9_wants_16 : DC cX9_wants 16 (.aload_n 0) 1 17 := ⟨by decide +kernel, rfl⟩
theorem dX9_wants_17 : DC cX9_wants 17 (.getfield 148) 3 20 := ⟨by decide +kernel, rfl⟩
theorem dX9_wants_20 : DC cX9_wants 20 (.ifCond .ne 13) 3 23 := ⟨by decide +kernel, rfl⟩
theorem dX9_wants_23 : DC cX9_wants 23 (.aload_n 0) 1 24 := ⟨by decide +kernel, rfl⟩
theorem dX9_wants_24 : DC cX9_wants 24 (.dup) 1 25 := ⟨by decide +kernel, rfl⟩
theorem dX9_wants_25 : DC cX9_wants 25 (.getfield 145) 3 28 := ⟨by decide +kernel, rfl⟩
theorem dX9_wants_28 : DC cX9_wants 28 (.iconst 1) 1 29 := ⟨by decide +kernel, rfl⟩
theorem dX9_wants_29 : DC cX9_wants 29 (.iadd) 1 30 := ⟨by decide +kernel, rfl⟩
theorem dX9_wants_30 : DC cX9_wants 30 (.putfield 145) 3 33 := ⟨by decide +kernel, rfl⟩
theorem dX9_wants_33 : DC cX9_wants 33 (.return_) 1 34 := ⟨by decide +kernel, rfl⟩
theorem dX9_number_0 : DC cX9_number 0 (.aload_n 0) 1 1 := ⟨by decide +kernel, rfl⟩
theorem dX9_number_1 : DC cX9_number 1 (.getfield 148) 3 4 := ⟨by decide +kernel, rfl⟩
theorem dX9_number_4 : DC cX9_number 4 (.ifCond .ne 17) 3 7 := ⟨by decide +kernel, rfl⟩
theorem dX9_number_7 : DC cX9_number 7 (.aload_n 0) 1 8 := ⟨by decide +kernel, rfl⟩
theorem dX9_number_8 : DC cX9_number 8 (.invokevirtual 151) 3 11 := ⟨by decide +kernel, rfl⟩
theorem dX9_number_11 : DC cX9_number 11 (.bipush 48) 2 13 := ⟨by decide +kernel, rfl⟩
theorem dX9_number_13 : DC cX9_number 13 (.bipush 57) 2 15 := ⟨by decide +kernel, rfl⟩
theorem dX9_number_15 : DC cX9_number 15 (.invokestatic 118) 3 18 := ⟨by decide +kernel, rfl⟩
theorem dX9_number_18 : DC cX9_number 18 (.ifCond .ne 13) 3 21 := ⟨by decide +kernel, rfl⟩
theorem dX9_number_21 : DC cX9_number 21 (.aload_n 0) 1 22 := ⟨by decide +kernel, rfl⟩
theorem dX9_number_22 : DC cX9_number 22 (.aload_n 0) 1 23 := ⟨by decide +kernel, rfl⟩
theorem dX9_number_23 : DC cX9_number 23 (.getfield 145) 3 26 := ⟨by decide +kernel, rfl⟩
theorem dX9_number_26 : DC cX9_number 26 (.invokevirtual 155) 3 29 := ⟨by decide +kernel, rfl⟩
theorem dX9_number_29 : DC cX9_number 29 (.iconst 0) 1 30 := ⟨by decide +kernel, rfl⟩
theorem dX9_number_30 : DC cX9_number 30 (.ireturn) 1 31 := ⟨by decide +kernel, rfl⟩
theorem dX9_number_31 : DC cX9_number 31 (.aload_n 0) 1 32 := ⟨by decide +kernel, rfl⟩
theorem dX9_number_32 : DC cX9_number 32 (.invokevirtual 151) 3 35 := ⟨by decide +kernel, rfl⟩
theorem dX9_number_35 : DC cX9_number 35 (.bipush 48) 2 37 := ⟨by decide +kernel, rfl⟩
theorem dX9_number_37 : DC cX9_number 37 (.isub) 1 38 := ⟨by decide +kernel, rfl⟩
theorem dX9_number_38 : DC cX9_number 38 (.istore_n 1) 1 39 := ⟨by decide +kernel, rfl⟩
theorem dX9_number_39 : DC cX9_number 39 (.aload_n 0) 1 40 := ⟨by decide +kernel, rfl⟩
theorem dX9_number_40 : DC cX9_number 40 (.dup) 1 41 := ⟨by decide +kernel, rfl⟩
theorem dX9_number_41 : DC cX9_number 41 (.getfield 145) 3 44 := ⟨by decide +kernel, rfl⟩
theorem dX9_number_44 : DC cX9_number 44 (.iconst 1) 1 45 := ⟨by decide +kernel, rfl⟩
theorem dX9_number_45 : DC cX9_number 45 (.iadd) 1 46 := ⟨by decide +kernel, rfl⟩
theorem dX9_number_46 : DC cX9_number 46 (.putfield 145) 3 49 := ⟨by decide +kernel, rfl⟩
theorem dX9_number_49 : DC cX9_number 49 (.iload_n 1) 1 50 := ⟨by decide +kernel, rfl⟩
theorem dX9_number_50 : DC cX9_number 50 (.ifCond .le 40) 3 53 := ⟨by decide +kernel, rfl⟩
theorem dX9_number_53 : DC cX9_number 53 (.aload_n 0) 1 54 := ⟨by decide +kernel, rfl⟩
theorem dX9_number_54 : DC cX9_number 54 (.invokevirtual 151) 3 57 := ⟨by decide +kernel, rfl⟩
theorem dX9_number_57 : DC cX9_number 57 (.bipush 48) 2 59 := ⟨by decide +kernel, rfl⟩
theorem dX9_number_59 : DC cX9_number 59 (.bipush 57) 2 61 := ⟨by decide +kernel, rfl⟩
theorem dX9_number_61 : DC cX9_number 61 (.invokestatic 118) 3 64 := ⟨by decide +kernel, rfl⟩
theorem dX9_number_64 : DC cX9_number 64 (.ifCond .eq 26) 3 67 := ⟨by decide +kernel, rfl⟩
theorem dX9_number_67 : DC cX9_number 67 (.bipush 10) 2 69 := ⟨by decide +kernel, rfl⟩
theorem dX9_number_69 : DC cX9_number 69 (.iload_n 1) 1 70 := ⟨by decide +kernel, rfl⟩
theorem dX9_number_70 : DC cX9_number 70 (.imul) 1 71 := ⟨by decide +kernel, rfl⟩
theorem dX9_number_71 : DC cX9_number 71 (.aload_n 0) 1 72 := ⟨by decide +kernel, rfl⟩
theorem dX9_number_72 : DC cX9_number 72 (.invokevirtual 151) 3 75 := ⟨by decide +kernel, rfl⟩
theorem dX9_number_75 : DC cX9_number 75 (.iadd) 1 76 := ⟨by decide +kernel, rfl⟩
theorem dX9_number_76 : DC cX9_number 76 (.bipush 48) 2 78 := ⟨by decide +kernel, rfl⟩
theorem dX9_number_78 : DC cX9_number 78 (.isub) 1 79 := ⟨by decide +kernel, rfl⟩
theorem dX9_number_79 : DC cX9_number 79 (.istore_n 1) 1 80 := ⟨by decide +kernel, rfl⟩
theorem dX9_number_80 : DC cX9_number 80 (.aload_n 0) 1 81 := ⟨by decide +kernel, rfl⟩
theorem dX9_number_81 : DC cX9_number 81 (.dup) 1 82 := ⟨by decide +kernel, rfl⟩
theorem dX9_number_82 : DC cX9_number 82 (.getfield 145) 3 85 := ⟨by decide +kernel, rfl⟩
theorem dX9_number_85 : DC cX9_number 85 (.iconst 1) 1 86 := ⟨by decide +kernel, rfl⟩
theorem dX9_number_86 : DC cX9_number 86 (.iadd) 1 87 := ⟨by decide +kernel, rfl⟩
theorem dX9_number_87 : DC cX9_number 87 (.putfield 145) 3 90 := ⟨by decide +kernel, rfl⟩
theorem dX9_number_90 : DC cX9_number 90 (.iload_n 1) 1 91 := ⟨by decide +kernel, rfl⟩
theorem dX9_number_91 : DC cX9_number 91 (.ireturn) 1 92 := ⟨by decide +kernel, rfl⟩
theorem dX9_knownPile_0 : DC cX9_knownPile 0 (.aload_n 0) 1 1 := ⟨by decide +kernel, rfl⟩
theorem dX9_knownPile_1 : DC cX9_knownPile 1 (.getfield 145) 3 4 := ⟨by decide +kernel, rfl⟩
theorem dX9_knownPile_4 : DC cX9_knownPile 4 (.istore_n 1) 1 5 := ⟨by decide +kernel, rfl⟩
theorem dX9_knownPile_5 : DC cX9_knownPile 5 (.aload_n 0) 1 6 := ⟨by decide +kernel, rfl⟩
theorem dX9_knownPile_6 : DC cX9_knownPile 6 (.invokevirtual 158) 3 9 := ⟨by decide +kernel, rfl⟩
theorem dX9_knownPile_9 : DC cX9_knownPile 9 (.istore_n 2) 1 10 := ⟨by decide +kernel, rfl⟩
theorem dX9_knownPile_10 : DC cX9_knownPile 10 (.aload_n 0) 1 11 := ⟨by decide +kernel, rfl⟩
theorem dX9_knownPile_11 : DC cX9_knownPile 11 (.getfield 148) 3 14 := ⟨by decide +kernel, rfl⟩
theorem dX9_knownPile_14 : DC cX9_knownPile 14 (.ifCond .ne 16) 3 17 := ⟨by decide +kernel, rfl⟩
theorem dX9_knownPile_17 : DC cX9_knownPile 17 (.aload_n 0) 1 18 := ⟨by decide +kernel, rfl⟩
theorem dX9_knownPile_18 : DC cX9_knownPile 18 (.iload_n 2) 1 19 := ⟨by decide +kernel, rfl⟩
theorem dX9_knownPile_19 : DC cX9_knownPile 19 (.invokevirtual 161) 3 22 := ⟨by decide +kernel, rfl⟩
theorem dX9_knownPile_22 : DC cX9_knownPile 22 (.ifCond .ne 8) 3 25 := ⟨by decide +kernel, rfl⟩
theorem dX9_knownPile_25 : DC cX9_knownPile 25 (.aload_n 0) 1 26 := ⟨by decide +kernel, rfl⟩
theorem dX9_knownPile_26 : DC cX9_knownPile 26 (.iload_n 1) 1 27 := ⟨by decide +kernel, rfl⟩
theorem dX9_knownPile_27 : DC cX9_knownPile 27 (.invokevirtual 155) 3 30 := ⟨by decide +kernel, rfl⟩
theorem dX9_knownPile_30 : DC cX9_knownPile 30 (.iload_n 2) 1 31 := ⟨by decide +kernel, rfl⟩
theorem dX9_knownPile_31 : DC cX9_knownPile 31 (.ireturn) 1 32 := ⟨by decide +kernel, rfl⟩
theorem dX9_readRanking_0 : DC cX9_readRanking 0 (.aload_n 0) 1 1 := ⟨by decide +kernel, rfl⟩
theorem dX9_readRanking_1 : DC cX9_readRanking 1 (.iconst 0) 1 2 := ⟨by decide +kernel, rfl⟩
theorem dX9_readRanking_2 : DC cX9_readRanking 2 (.putfield 165) 3 5 := ⟨by decide +kernel, rfl⟩
theorem dX9_readRanking_5 : DC cX9_readRanking 5 (.iconst 0) 1 6 := ⟨by decide +kernel, rfl⟩
theorem dX9_readRanking_6 : DC cX9_readRanking 6 (.istore_n 1) 1 7 := ⟨by decide +kernel, rfl⟩
theorem dX9_readRanking_7 : DC cX9_readRanking 7 (.iconst 1) 1 8 := ⟨by decide +kernel, rfl⟩
theorem dX9_readRanking_8 : DC cX9_readRanking 8 (.istore_n 2) 1 9 := ⟨by decide +kernel, rfl⟩
theorem dX9_readRanking_9 : DC cX9_readRanking 9 (.iload_n 2) 1 10 := ⟨by decide +kernel, rfl⟩
theorem dX9_readRanking_10 : DC cX9_readRanking 10 (.ifCond .eq 100) 3 13 := ⟨by decide +kernel, rfl⟩
theorem dX9_readRanking_13 : DC cX9_readRanking 13 (.aload_n 0) 1 14 := ⟨by decide +kernel, rfl⟩
theorem dX9_readRanking_14 : DC cX9_readRanking 14 (.getfield 148) 3 17 := ⟨by decide +kernel, rfl⟩
theorem dX9_readRanking_17 : DC cX9_readRanking 17 (.ifCond .ne 93) 3 20 := ⟨by decide +kernel, rfl⟩
theorem dX9_readRanking_20 : DC cX9_readRanking 20 (.aload_n 0) 1 21 := ⟨by decide +kernel, rfl⟩
theorem dX9_readRanking_21 : DC cX9_readRanking 21 (.invokevirtual 151) 3 24 := ⟨by decide +kernel, rfl⟩
theorem dX9_readRanking_24 : DC cX9_readRanking 24 (.bipush 97) 2 26 := ⟨by decide +kernel, rfl⟩
theorem dX9_readRanking_26 : DC cX9_readRanking 26 (.isub) 1 27 := ⟨by decide +kernel, rfl⟩
theorem dX9_readRanking_27 : DC cX9_readRanking 27 (.istore_n 3) 1 28 := ⟨by decide +kernel, rfl⟩
theorem dX9_readRanking_28 : DC cX9_readRanking 28 (.aload_n 0) 1 29 := ⟨by decide +kernel, rfl⟩
theorem dX9_readRanking_29 : DC cX9_readRanking 29 (.iload_n 3) 1 30 := ⟨by decide +kernel, rfl⟩
theorem dX9_readRanking_30 : DC cX9_readRanking 30 (.invokevirtual 168) 3 33 := ⟨by decide +kernel, rfl⟩
theorem dX9_readRanking_33 : DC cX9_readRanking 33 (.ifCond .eq 12) 3 36 := ⟨by decide +kernel, rfl⟩
theorem dX9_readRanking_36 : DC cX9_readRanking 36 (.iload_n 1) 1 37 := ⟨by decide +kernel, rfl⟩
theorem dX9_readRanking_37 : DC cX9_readRanking 37 (.iload_n 3) 1 38 := ⟨by decide +kernel, rfl⟩
theorem dX9_readRanking_38 : DC cX9_readRanking 38 (.ishr) 1 39 := ⟨by decide +kernel, rfl⟩
theorem dX9_readRanking_39 : DC cX9_readRanking 39 (.iconst 1) 1 40 := ⟨by decide +kernel, rfl⟩
theorem dX9_readRanking_40 : DC cX9_readRanking 40 (.iand) 1 41 := ⟨by decide +kernel, rfl⟩
theorem dX9_readRanking_41 : DC cX9_readRanking 41 (.iconst 1) 1 42 := ⟨by decide +kernel, rfl⟩
theorem dX9_readRanking_42 : DC cX9_readRanking 42 (.if_icmp .ne 14) 3 45 := ⟨by decide +kernel, rfl⟩
theorem dX9_readRanking_45 : DC cX9_readRanking 45 (.aload_n 0) 1 46 := ⟨by decide +kernel, rfl⟩
theorem dX9_readRanking_46 : DC cX9_readRanking 46 (.aload_n 0) 1 47 := ⟨by decide +kernel, rfl⟩
theorem dX9_readRanking_47 : DC cX9_readRanking 47 (.getfield 145) 3 50 := ⟨by decide +kernel, rfl⟩
theorem dX9_readRanking_50 : DC cX9_readRanking 50 (.invokevirtual 155) 3 53 := ⟨by decide +kernel, rfl⟩
theorem dX9_readRanking_53 : DC cX9_readRanking 53 (.goto 39) 3 56 := ⟨by decide +kernel, rfl⟩
theorem dX9_readRanking_56 : DC cX9_readRanking 56 (.iload_n 1) 1 57 := ⟨by decide +kernel, rfl⟩
theorem dX9_readRanking_57 : DC cX9_readRanking 57 (.iconst 1) 1 58 := ⟨by decide +kernel, rfl⟩
theorem dX9_readRanking_58 : DC cX9_readRanking 58 (.iload_n 3) 1 59 := ⟨by decide +kernel, rfl⟩
theorem dX9_readRanking_59 : DC cX9_readRanking 59 (.ishl) 1 60 := ⟨by decide +kernel, rfl⟩
theorem dX9_readRanking_60 : DC cX9_readRanking 60 (.ior) 1 61 := ⟨by decide +kernel, rfl⟩
theorem dX9_readRanking_61 : DC cX9_readRanking 61 (.istore_n 1) 1 62 := ⟨by decide +kernel, rfl⟩
theorem dX9_readRanking_62 : DC cX9_readRanking 62 (.aload_n 0) 1 63 := ⟨by decide +kernel, rfl⟩
theorem dX9_readRanking_63 : DC cX9_readRanking 63 (.getfield 29) 3 66 := ⟨by decide +kernel, rfl⟩
theorem dX9_readRanking_66 : DC cX9_readRanking 66 (.aload_n 0) 1 67 := ⟨by decide +kernel, rfl⟩
theorem dX9_readRanking_67 : DC cX9_readRanking 67 (.getfield 165) 3 70 := ⟨by decide +kernel, rfl⟩
theorem dX9_readRanking_70 : DC cX9_readRanking 70 (.iload_n 3) 1 71 := ⟨by decide +kernel, rfl⟩
theorem dX9_readRanking_71 : DC cX9_readRanking 71 (.iastore) 1 72 := ⟨by decide +kernel, rfl⟩
theorem dX9_readRanking_72 : DC cX9_readRanking 72 (.aload_n 0) 1 73 := ⟨by decide +kernel, rfl⟩
theorem dX9_readRanking_73 : DC cX9_readRanking 73 (.dup) 1 74 := ⟨by decide +kernel, rfl⟩
theorem dX9_readRanking_74 : DC cX9_readRanking 74 (.getfield 165) 3 77 := ⟨by decide +kernel, rfl⟩
theorem dX9_readRanking_77 : DC cX9_readRanking 77 (.iconst 1) 1 78 := ⟨by decide +kernel, rfl⟩
theorem dX9_readRanking_78 : DC cX9_readRanking 78 (.iadd) 1 79 := ⟨by decide +kernel, rfl⟩
theorem dX9_readRanking_79 : DC cX9_readRanking 79 (.putfield 165) 3 82 := ⟨by decide +kernel, rfl⟩
theorem dX9_readRanking_82 : DC cX9_readRanking 82 (.aload_n 0) 1 83 := ⟨by decide +kernel, rfl⟩
theorem dX9_readRanking_83 : DC cX9_readRanking 83 (.dup) 1 84 := ⟨by decide +kernel, rfl⟩
theorem dX9_readRanking_84 : DC cX9_readRanking 84 (.getfield 145) 3 87 := ⟨by decide +kernel, rfl⟩
theorem dX9_readRanking_87 : DC cX9_readRanking 87 (.iconst 1) 1 88 := ⟨by decide +kernel, rfl⟩
theorem dX9_readRanking_88 : DC cX9_readRanking 88 (.iadd) 1 89 := ⟨by decide +kernel, rfl⟩
theorem dX9_readRanking_89 : DC cX9_readRanking 89 (.putfield 145) 3 92 := ⟨by decide +kernel, rfl⟩
theorem dX9_readRanking_92 : DC cX9_readRanking 92 (.aload_n 0) 1 93 := ⟨by decide +kernel, rfl⟩
theorem dX9_readRanking_93 : DC cX9_readRanking 93 (.invokevirtual 151) 3 96 := ⟨by decide +kernel, rfl⟩
theorem dX9_readRanking_96 : DC cX9_readRanking 96 (.bipush 59) 2 98 := ⟨by decide +kernel, rfl⟩
theorem dX9_readRanking_98 : DC cX9_readRanking 98 (.if_icmp .eq 7) 3 101 := ⟨by decide +kernel, rfl⟩
theorem dX9_readRanking_101 : DC cX9_readRanking 101 (.iconst 1) 1 102 := ⟨by decide +kernel, rfl⟩
theorem dX9_readRanking_102 : DC cX9_readRanking 102 (.goto 4) 3 105 := ⟨by decide +kernel, rfl⟩
theorem dX9_readRanking_105 : DC cX9_readRanking 105 (.iconst 0) 1 106 := ⟨by decide +kernel, rfl⟩
theorem dX9_readRanking_106 : DC cX9_readRanking 106 (.istore_n 2) 1 107 := ⟨by decide +kernel, rfl⟩
theorem dX9_readRanking_107 : DC cX9_readRanking 107 (.goto (-98)) 3 110 := ⟨by decide +kernel, rfl⟩
theorem dX9_readRanking_110 : DC cX9_readRanking 110 (.return_) 1 111 := ⟨by decide +kernel, rfl⟩
theorem dX9_setRanking_0 : DC cX9_setRanking 0 (.aload_n 0) 1 1 := ⟨by decide +kernel, rfl⟩
theorem dX9_setRanking_1 : DC cX9_setRanking 1 (.getfield 9) 3 4 := ⟨by decide +kernel, rfl⟩
theorem dX9_setRanking_4 : DC cX9_setRanking 4 (.iload_n 1) 1 5 := ⟨by decide +kernel, rfl⟩
theorem dX9_setRanking_5 : DC cX9_setRanking 5 (.iconst 1) 1 6 := ⟨by decide +kernel, rfl⟩
theorem dX9_setRanking_6 : DC cX9_setRanking 6 (.invokestatic 122) 3 9 := ⟨by decide +kernel, rfl⟩
theorem dX9_setRanking_9 : DC cX9_setRanking 9 (.aload_n 0) 1 10 := ⟨by decide +kernel, rfl⟩
theorem dX9_setRanking_10 : DC cX9_setRanking 10 (.getfield 165) 3 13 := ⟨by decide +kernel, rfl⟩
theorem dX9_setRanking_13 : DC cX9_setRanking 13 (.iastore) 1 14 := ⟨by decide +kernel, rfl⟩
theorem dX9_setRanking_14 : DC cX9_setRanking 14 (.aload_n 0) 1 15 := ⟨by decide +kernel, rfl⟩
theorem dX9_setRanking_15 : DC cX9_setRanking 15 (.getfield 29) 3 18 := ⟨by decide +kernel, rfl⟩
theorem dX9_setRanking_18 : DC cX9_setRanking 18 (.iconst 0) 1 19 := ⟨by decide +kernel, rfl⟩
theorem dX9_setRanking_19 : DC cX9_setRanking 19 (.aload_n 0) 1 20 := ⟨by decide +kernel, rfl⟩
theorem dX9_setRanking_20 : DC cX9_setRanking 20 (.getfield 9) 3 23 := ⟨by decide +kernel, rfl⟩
theorem dX9_setRanking_23 : DC cX9_setRanking 23 (.iload_n 1) 1 24 := ⟨by decide +kernel, rfl⟩
theorem dX9_setRanking_24 : DC cX9_setRanking 24 (.iconst 2) 1 25 := ⟨by decide +kernel, rfl⟩
theorem dX9_setRanking_25 : DC cX9_setRanking 25 (.invokestatic 122) 3 28 := ⟨by decide +kernel, rfl⟩
theorem dX9_setRanking_28 : DC cX9_setRanking 28 (.aload_n 0) 1 29 := ⟨by decide +kernel, rfl⟩
theorem dX9_setRanking_29 : DC cX9_setRanking 29 (.getfield 165) 3 32 := ⟨by decide +kernel, rfl⟩
theorem dX9_setRanking_32 : DC cX9_setRanking 32 (.invokestatic 136) 3 35 := ⟨by decide +kernel, rfl⟩
theorem dX9_setRanking_35 : DC cX9_setRanking 35 (.return_) 1 36 := ⟨by decide +kernel, rfl⟩
theorem dX9_readPile_0 : DC cX9_readPile 0 (.aload_n 0) 1 1 := ⟨by decide +kernel, rfl⟩
theorem dX9_readPile_1 : DC cX9_readPile 1 (.getfield 9) 3 4 := ⟨by decide +kernel, rfl⟩
theorem dX9_readPile_4 : DC cX9_readPile 4 (.iconst 1) 1 5 := ⟨by decide +kernel, rfl⟩
theorem dX9_readPile_5 : DC cX9_readPile 5 (.iaload) 1 6 := ⟨by decide +kernel, rfl⟩
theorem dX9_readPile_6 : DC cX9_readPile 6 (.bipush 24) 2 8 := ⟨by decide +kernel, rfl⟩
theorem dX9_readPile_8 : DC cX9_readPile 8 (.if_icmp .ne 11) 3 11 := ⟨by decide +kernel, rfl⟩
theorem dX9_readPile_11 : DC cX9_readPile 11 (.aload_n 0) 1 12 := ⟨by decide +kernel, rfl⟩
theorem dX9_readPile_12 : DC cX9_readPile 12 (.aload_n 0) 1 13 := ⟨by decide +kernel, rfl⟩
theorem dX9_readPile_13 : DC cX9_readPile 13 (.getfield 145) 3 16 := ⟨by decide +kernel, rfl⟩
theorem dX9_readPile_16 : DC cX9_readPile 16 (.invokevirtual 155) 3 19 := ⟨by decide +kernel, rfl⟩
theorem dX9_readPile_19 : DC cX9_readPile 19 (.aload_n 0) 1 20 := ⟨by decide +kernel, rfl⟩
theorem dX9_readPile_20 : DC cX9_readPile 20 (.invokevirtual 158) 3 23 := ⟨by decide +kernel, rfl⟩
theorem dX9_readPile_23 : DC cX9_readPile 23 (.istore_n 1) 1 24 := ⟨by decide +kernel, rfl⟩
theorem dX9_readPile_24 : DC cX9_readPile 24 (.aload_n 0) 1 25 := ⟨by decide +kernel, rfl⟩
theorem dX9_readPile_25 : DC cX9_readPile 25 (.bipush 58) 2 27 := ⟨by decide +kernel, rfl⟩
theorem dX9_readPile_27 : DC cX9_readPile 27 (.invokevirtual 171) 3 30 := ⟨by decide +kernel, rfl⟩
theorem dX9_readPile_30 : DC cX9_readPile 30 (.aload_n 0) 1 31 := ⟨by decide +kernel, rfl⟩
theorem dX9_readPile_31 : DC cX9_readPile 31 (.invokevirtual 174) 3 34 := ⟨by decide +kernel, rfl⟩
theorem dX9_readPile_34 : DC cX9_readPile 34 (.aload_n 0) 1 35 := ⟨by decide +kernel, rfl⟩
theorem dX9_readPile_35 : DC cX9_readPile 35 (.bipush 59) 2 37 := ⟨by decide +kernel, rfl⟩
theorem dX9_readPile_37 : DC cX9_readPile 37 (.invokevirtual 171) 3 40 := ⟨by decide +kernel, rfl⟩
theorem dX9_readPile_40 : DC cX9_readPile 40 (.aload_n 0) 1 41 := ⟨by decide +kernel, rfl⟩
theorem dX9_readPile_41 : DC cX9_readPile 41 (.getfield 148) 3 44 := ⟨by decide +kernel, rfl⟩
theorem dX9_readPile_44 : DC cX9_readPile 44 (.ifCond .ne 39) 3 47 := ⟨by decide +kernel, rfl⟩
theorem dX9_readPile_47 : DC cX9_readPile 47 (.aload_n 0) 1 48 := ⟨by decide +kernel, rfl⟩
theorem dX9_readPile_48 : DC cX9_readPile 48 (.getfield 9) 3 51 := ⟨by decide +kernel, rfl⟩
theorem dX9_readPile_51 : DC cX9_readPile 51 (.aload_n 0) 1 52 := ⟨by decide +kernel, rfl⟩
theorem dX9_readPile_52 : DC cX9_readPile 52 (.getfield 9) 3 55 := ⟨by decide +kernel, rfl⟩
theorem dX9_readPile_55 : DC cX9_readPile 55 (.iconst 1) 1 56 := ⟨by decide +kernel, rfl⟩
theorem dX9_readPile_56 : DC cX9_readPile 56 (.iaload) 1 57 := ⟨by decide +kernel, rfl⟩
theorem dX9_readPile_57 : DC cX9_readPile 57 (.iconst 0) 1 58 := ⟨by decide +kernel, rfl⟩
theorem dX9_readPile_58 : DC cX9_readPile 58 (.invokestatic 122) 3 61 := ⟨by decide +kernel, rfl⟩
theorem dX9_readPile_61 : DC cX9_readPile 61 (.iload_n 1) 1 62 := ⟨by decide +kernel, rfl⟩
theorem dX9_readPile_62 : DC cX9_readPile 62 (.iastore) 1 63 := ⟨by decide +kernel, rfl⟩
theorem dX9_readPile_63 : DC cX9_readPile 63 (.aload_n 0) 1 64 := ⟨by decide +kernel, rfl⟩
theorem dX9_readPile_64 : DC cX9_readPile 64 (.aload_n 0) 1 65 := ⟨by decide +kernel, rfl⟩
theorem dX9_readPile_65 : DC cX9_readPile 65 (.getfield 9) 3 68 := ⟨by decide +kernel, rfl⟩
theorem dX9_readPile_68 : DC cX9_readPile 68 (.iconst 1) 1 69 := ⟨by decide +kernel, rfl⟩
theorem dX9_readPile_69 : DC cX9_readPile 69 (.iaload) 1 70 := ⟨by decide +kernel, rfl⟩
theorem dX9_readPile_70 : DC cX9_readPile 70 (.invokevirtual 177) 3 73 := ⟨by decide +kernel, rfl⟩
theorem dX9_readPile_73 : DC cX9_readPile 73 (.aload_n 0) 1 74 := ⟨by decide +kernel, rfl⟩
theorem dX9_readPile_74 : DC cX9_readPile 74 (.getfield 9) 3 77 := ⟨by decide +kernel, rfl⟩
theorem dX9_readPile_77 : DC cX9_readPile 77 (.iconst 1) 1 78 := ⟨by decide +kernel, rfl⟩
theorem dX9_readPile_78 : DC cX9_readPile 78 (.dup2) 1 79 := ⟨by decide +kernel, rfl⟩
theorem dX9_readPile_79 : DC cX9_readPile 79 (.iaload) 1 80 := ⟨by decide +kernel, rfl⟩
theorem dX9_readPile_80 : DC cX9_readPile 80 (.iconst 1) 1 81 := ⟨by decide +kernel, rfl⟩
theorem dX9_readPile_81 : DC cX9_readPile 81 (.iadd) 1 82 := ⟨by decide +kernel, rfl⟩
theorem dX9_readPile_82 : DC cX9_readPile 82 (.iastore) 1 83 := ⟨by decide +kernel, rfl⟩
theorem dX9_readPile_83 : DC cX9_readPile 83 (.return_) 1 84 := ⟨by decide +kernel, rfl⟩
theorem dX9_readChange_0 : DC cX9_readChange 0 (.aload_n 0) 1 1 := ⟨by decide +kernel, rfl⟩
theorem dX9_readChange_1 : DC cX9_readChange 1 (.dup) 1 2 := ⟨by decide +kernel, rfl⟩
theorem dX9_readChange_2 : DC cX9_readChange 2 (.getfield 145) 3 5 := ⟨by decide +kernel, rfl⟩
theorem dX9_readChange_5 : DC cX9_readChange 5 (.iconst 1) 1 6 := ⟨by decide +kernel, rfl⟩
theorem dX9_readChange_6 : DC cX9_readChange 6 (.iadd) 1 7 := ⟨by decide +kernel, rfl⟩
theorem dX9_readChange_7 : DC cX9_readChange 7 (.putfield 145) 3 10 := ⟨by decide +kernel, rfl⟩
theorem dX9_readChange_10 : DC cX9_readChange 10 (.aload_n 0) 1 11 := ⟨by decide +kernel, rfl⟩
theorem dX9_readChange_11 : DC cX9_readChange 11 (.invokevirtual 180) 3 14 := ⟨by decide +kernel, rfl⟩
theorem dX9_readChange_14 : DC cX9_readChange 14 (.istore_n 2) 1 15 := ⟨by decide +kernel, rfl⟩
theorem dX9_readChange_15 : DC cX9_readChange 15 (.iload_n 1) 1 16 := ⟨by decide +kernel, rfl⟩
theorem dX9_readChange_16 : DC cX9_readChange 16 (.bipush 35) 2 18 := ⟨by decide +kernel, rfl⟩
theorem dX9_readChange_18 : DC cX9_readChange 18 (.if_icmp .ne 39) 3 21 := ⟨by decide +kernel, rfl⟩
theorem dX9_readChange_21 : DC cX9_readChange 21 (.aload_n 0) 1 22 := ⟨by decide +kernel, rfl⟩
theorem dX9_readChange_22 : DC cX9_readChange 22 (.bipush 61) 2 24 := ⟨by decide +kernel, rfl⟩
theorem dX9_readChange_24 : DC cX9_readChange 24 (.invokevirtual 171) 3 27 := ⟨by decide +kernel, rfl⟩
theorem dX9_readChange_27 : DC cX9_readChange 27 (.aload_n 0) 1 28 := ⟨by decide +kernel, rfl⟩
theorem dX9_readChange_28 : DC cX9_readChange 28 (.invokevirtual 158) 3 31 := ⟨by decide +kernel, rfl⟩
theorem dX9_readChange_31 : DC cX9_readChange 31 (.istore_n 3) 1 32 := ⟨by decide +kernel, rfl⟩
theorem dX9_readChange_32 : DC cX9_readChange 32 (.aload_n 0) 1 33 := ⟨by decide +kernel, rfl⟩
theorem dX9_readChange_33 : DC cX9_readChange 33 (.bipush 59) 2 35 := ⟨by decide +kernel, rfl⟩
theorem dX9_readChange_35 : DC cX9_readChange 35 (.invokevirtual 171) 3 38 := ⟨by decide +kernel, rfl⟩
theorem dX9_readChange_38 : DC cX9_readChange 38 (.aload_n 0) 1 39 := ⟨by decide +kernel, rfl⟩
theorem dX9_readChange_39 : DC cX9_readChange 39 (.getfield 148) 3 42 := ⟨by decide +kernel, rfl⟩
theorem dX9_readChange_42 : DC cX9_readChange 42 (.ifCond .ne 14) 3 45 := ⟨by decide +kernel, rfl⟩
theorem dX9_readChange_45 : DC cX9_readChange 45 (.aload_n 0) 1 46 := ⟨by decide +kernel, rfl⟩
theorem dX9_readChange_46 : DC cX9_readChange 46 (.getfield 9) 3 49 := ⟨by decide +kernel, rfl⟩
theorem dX9_readChange_49 : DC cX9_readChange 49 (.iload_n 2) 1 50 := ⟨by decide +kernel, rfl⟩
theorem dX9_readChange_50 : DC cX9_readChange 50 (.iconst 0) 1 51 := ⟨by decide +kernel, rfl⟩
theorem dX9_readChange_51 : DC cX9_readChange 51 (.invokestatic 122) 3 54 := ⟨by decide +kernel, rfl⟩
theorem dX9_readChange_54 : DC cX9_readChange 54 (.iload_n 3) 1 55 := ⟨by decide +kernel, rfl⟩
theorem dX9_readChange_55 : DC cX9_readChange 55 (.iastore) 1 56 := ⟨by decide +kernel, rfl⟩
theorem dX9_readChange_56 : DC cX9_readChange 56 (.return_) 1 57 := ⟨by decide +kernel, rfl⟩
theorem dX9_readChange_57 : DC cX9_readChange 57 (.aload_n 0) 1 58 := ⟨by decide +kernel, rfl⟩
theorem dX9_readChange_58 : DC cX9_readChange 58 (.bipush 58) 2 60 := ⟨by decide +kernel, rfl⟩
theorem dX9_readChange_60 : DC cX9_readChange 60 (.invokevirtual 171) 3 63 := ⟨by decide +kernel, rfl⟩
theorem dX9_readChange_63 : DC cX9_readChange 63 (.aload_n 0) 1 64 := ⟨by decide +kernel, rfl⟩
theorem dX9_readChange_64 : DC cX9_readChange 64 (.invokevirtual 174) 3 67 := ⟨by decide +kernel, rfl⟩
theorem dX9_readChange_67 : DC cX9_readChange 67 (.aload_n 0) 1 68 := ⟨by decide +kernel, rfl⟩
theorem dX9_readChange_68 : DC cX9_readChange 68 (.bipush 59) 2 70 := ⟨by decide +kernel, rfl⟩
theorem dX9_readChange_70 : DC cX9_readChange 70 (.invokevirtual 171) 3 73 := ⟨by decide +kernel, rfl⟩
theorem dX9_readChange_73 : DC cX9_readChange 73 (.aload_n 0) 1 74 := ⟨by decide +kernel, rfl⟩
theorem dX9_readChange_74 : DC cX9_readChange 74 (.getfield 148) 3 77 := ⟨by decide +kernel, rfl⟩
theorem dX9_readChange_77 : DC cX9_readChange 77 (.ifCond .ne 8) 3 80 := ⟨by decide +kernel, rfl⟩
theorem dX9_readChange_80 : DC cX9_readChange 80 (.aload_n 0) 1 81 := ⟨by decide +kernel, rfl⟩
theorem dX9_readChange_81 : DC cX9_readChange 81 (.iload_n 2) 1 82 := ⟨by decide +kernel, rfl⟩
theorem dX9_readChange_82 : DC cX9_readChange 82 (.invokevirtual 177) 3 85 := ⟨by decide +kernel, rfl⟩
theorem dX9_readChange_85 : DC cX9_readChange 85 (.return_) 1 86 := ⟨by decide +kernel, rfl⟩
theorem dX9_readLot_0 : DC cX9_readLot 0 (.aload_n 0) 1 1 := ⟨by decide +kernel, rfl⟩
theorem dX9_readLot_1 : DC cX9_readLot 1 (.dup) 1 2 := ⟨by decide +kernel, rfl⟩
theorem dX9_readLot_2 : DC cX9_readLot 2 (.getfield 145) 3 5 := ⟨by decide +kernel, rfl⟩
theorem dX9_readLot_5 : DC cX9_readLot 5 (.iconst 1) 1 6 := ⟨by decide +kernel, rfl⟩
theorem dX9_readLot_6 : DC cX9_readLot 6 (.iadd) 1 7 := ⟨by decide +kernel, rfl⟩
theorem dX9_readLot_7 : DC cX9_readLot 7 (.putfield 145) 3 10 := ⟨by decide +kernel, rfl⟩
theorem dX9_readLot_10 : DC cX9_readLot 10 (.aload_n 0) 1 11 := ⟨by decide +kernel, rfl⟩
theorem dX9_readLot_11 : DC cX9_readLot 11 (.invokevirtual 174) 3 14 := ⟨by decide +kernel, rfl⟩
theorem dX9_readLot_14 : DC cX9_readLot 14 (.aload_n 0) 1 15 := ⟨by decide +kernel, rfl⟩
theorem dX9_readLot_15 : DC cX9_readLot 15 (.getfield 148) 3 18 := ⟨by decide +kernel, rfl⟩
theorem dX9_readLot_18 : DC cX9_readLot 18 (.ifCond .ne 24) 3 21 := ⟨by decide +kernel, rfl⟩
theorem dX9_readLot_21 : DC cX9_readLot 21 (.aload_n 0) 1 22 := ⟨by decide +kernel, rfl⟩
theorem dX9_readLot_22 : DC cX9_readLot 22 (.getfield 165) 3 25 := ⟨by decide +kernel, rfl⟩
theorem dX9_readLot_25 : DC cX9_readLot 25 (.aload_n 0) 1 26 := ⟨by decide +kernel, rfl⟩
theorem dX9_readLot_26 : DC cX9_readLot 26 (.getfield 9) 3 29 := ⟨by decide +kernel, rfl⟩
theorem dX9_readLot_29 : DC cX9_readLot 29 (.iconst 0) 1 30 := ⟨by decide +kernel, rfl⟩
theorem dX9_readLot_30 : DC cX9_readLot 30 (.iaload) 1 31 := ⟨by decide +kernel, rfl⟩
theorem dX9_readLot_31 : DC cX9_readLot 31 (.if_icmp .ge 11) 3 34 := ⟨by decide +kernel, rfl⟩
theorem dX9_readLot_34 : DC cX9_readLot 34 (.aload_n 0) 1 35 := ⟨by decide +kernel, rfl⟩
theorem dX9_readLot_35 : DC cX9_readLot 35 (.aload_n 0) 1 36 := ⟨by decide +kernel, rfl⟩
theorem dX9_readLot_36 : DC cX9_readLot 36 (.getfield 145) 3 39 := ⟨by decide +kernel, rfl⟩
theorem dX9_readLot_39 : DC cX9_readLot 39 (.invokevirtual 155) 3 42 := ⟨by decide +kernel, rfl⟩
theorem dX9_readLot_42 : DC cX9_readLot 42 (.aload_n 0) 1 43 := ⟨by decide +kernel, rfl⟩
theorem dX9_readLot_43 : DC cX9_readLot 43 (.bipush 59) 2 45 := ⟨by decide +kernel, rfl⟩
theorem dX9_readLot_45 : DC cX9_readLot 45 (.invokevirtual 171) 3 48 := ⟨by decide +kernel, rfl⟩
theorem dX9_readLot_48 : DC cX9_readLot 48 (.aload_n 0) 1 49 := ⟨by decide +kernel, rfl⟩
theorem dX9_readLot_49 : DC cX9_readLot 49 (.getfield 148) 3 52 := ⟨by decide +kernel, rfl⟩
theorem dX9_readLot_52 : DC cX9_readLot 52 (.ifCond .ne 21) 3 55 := ⟨by decide +kernel, rfl⟩
theorem dX9_readLot_55 : DC cX9_readLot 55 (.aload_n 0) 1 56 := ⟨by decide +kernel, rfl⟩
theorem dX9_readLot_56 : DC cX9_readLot 56 (.getfield 29) 3 59 := ⟨by decide +kernel, rfl⟩
theorem dX9_readLot_59 : DC cX9_readLot 59 (.iconst 0) 1 60 := ⟨by decide +kernel, rfl⟩
theorem dX9_readLot_60 : DC cX9_readLot 60 (.aload_n 0) 1 61 := ⟨by decide +kernel, rfl⟩
theorem dX9_readLot_61 : DC cX9_readLot 61 (.getfield 9) 3 64 := ⟨by decide +kernel, rfl⟩
theorem dX9_readLot_64 : DC cX9_readLot 64 (.bipush 7) 2 66 := ⟨by decide +kernel, rfl⟩
theorem dX9_readLot_66 : DC cX9_readLot 66 (.aload_n 0) 1 67 := ⟨by decide +kernel, rfl⟩
theorem dX9_readLot_67 : DC cX9_readLot 67 (.getfield 165) 3 70 := ⟨by decide +kernel, rfl⟩
theorem dX9_readLot_70 : DC cX9_readLot 70 (.invokestatic 136) 3 73 := ⟨by decide +kernel, rfl⟩
theorem dX9_readLot_73 : DC cX9_readLot 73 (.return_) 1 74 := ⟨by decide +kernel, rfl⟩
theorem dX9_execute_0 : DC cX9_execute 0 (.aload_n 0) 1 1 := ⟨by decide +kernel, rfl⟩
theorem dX9_execute_1 : DC cX9_execute 1 (.getfield 9) 3 4 := ⟨by decide +kernel, rfl⟩
theorem dX9_execute_4 : DC cX9_execute 4 (.iconst 0) 1 5 := ⟨by decide +kernel, rfl⟩
theorem dX9_execute_5 : DC cX9_execute 5 (.aload_n 0) 1 6 := ⟨by decide +kernel, rfl⟩
theorem dX9_execute_6 : DC cX9_execute 6 (.getfield 13) 3 9 := ⟨by decide +kernel, rfl⟩
theorem dX9_execute_9 : DC cX9_execute 9 (.iconst 0) 1 10 := ⟨by decide +kernel, rfl⟩
theorem dX9_execute_10 : DC cX9_execute 10 (.sipush 265) 3 13 := ⟨by decide +kernel, rfl⟩
theorem dX9_execute_13 : DC cX9_execute 13 (.invokestatic 136) 3 16 := ⟨by decide +kernel, rfl⟩
theorem dX9_execute_16 : DC cX9_execute 16 (.aload_n 0) 1 17 := ⟨by decide +kernel, rfl⟩
theorem dX9_execute_17 : DC cX9_execute 17 (.iconst 0) 1 18 := ⟨by decide +kernel, rfl⟩
theorem dX9_execute_18 : DC cX9_execute 18 (.putfield 145) 3 21 := ⟨by decide +kernel, rfl⟩
theorem dX9_execute_21 : DC cX9_execute 21 (.aload_n 0) 1 22 := ⟨by decide +kernel, rfl⟩
theorem dX9_execute_22 : DC cX9_execute 22 (.iconst 0) 1 23 := ⟨by decide +kernel, rfl⟩
theorem dX9_execute_23 : DC cX9_execute 23 (.putfield 148) 3 26 := ⟨by decide +kernel, rfl⟩
theorem dX9_execute_26 : DC cX9_execute 26 (.iconst 0) 1 27 := ⟨by decide +kernel, rfl⟩
theorem dX9_execute_27 : DC cX9_execute 27 (.istore_n 1) 1 28 := ⟨by decide +kernel, rfl⟩
theorem dX9_execute_28 : DC cX9_execute 28 (.aload_n 0) 1 29 := ⟨by decide +kernel, rfl⟩
theorem dX9_execute_29 : DC cX9_execute 29 (.getfield 148) 3 32 := ⟨by decide +kernel, rfl⟩
theorem dX9_execute_32 : DC cX9_execute 32 (.ifCond .ne 88) 3 35 := ⟨by decide +kernel, rfl⟩
theorem dX9_execute_35 : DC cX9_execute 35 (.iload_n 1) 1 36 := ⟨by decide +kernel, rfl⟩
theorem dX9_execute_36 : DC cX9_execute 36 (.ifCond .eq 14) 3 39 := ⟨by decide +kernel, rfl⟩
theorem dX9_execute_39 : DC cX9_execute 39 (.aload_n 0) 1 40 := ⟨by decide +kernel, rfl⟩
theorem dX9_execute_40 : DC cX9_execute 40 (.getfield 145) 3 43 := ⟨by decide +kernel, rfl⟩
theorem dX9_execute_43 : DC cX9_execute 43 (.aload_n 0) 1 44 := ⟨by decide +kernel, rfl⟩
theorem dX9_execute_44 : DC cX9_execute 44 (.getfield 142) 3 47 := ⟨by decide +kernel, rfl⟩
theorem dX9_execute_47 : DC cX9_execute 47 (.if_icmp .ge 73) 3 50 := ⟨by decide +kernel, rfl⟩
theorem dX9_execute_50 : DC cX9_execute 50 (.aload_n 0) 1 51 := ⟨by decide +kernel, rfl⟩
theorem dX9_execute_51 : DC cX9_execute 51 (.invokevirtual 151) 3 54 := ⟨by decide +kernel, rfl⟩
theorem dX9_execute_54 : DC cX9_execute 54 (.istore_n 2) 1 55 := ⟨by decide +kernel, rfl⟩
theorem dX9_execute_55 : DC cX9_execute 55 (.iload_n 2) 1 56 := ⟨by decide +kernel, rfl⟩
theorem dX9_execute_56 : DC cX9_execute 56 (.bipush 48) 2 58 := ⟨by decide +kernel, rfl⟩
theorem dX9_execute_58 : DC cX9_execute 58 (.bipush 57) 2 60 := ⟨by decide +kernel, rfl⟩
theorem dX9_execute_60 : DC cX9_execute 60 (.invokestatic 118) 3 63 := ⟨by decide +kernel, rfl⟩
theorem dX9_execute_63 : DC cX9_execute 63 (.ifCond .eq 10) 3 66 := ⟨by decide +kernel, rfl⟩
theorem dX9_execute_66 : DC cX9_execute 66 (.aload_n 0) 1 67 := ⟨by decide +kernel, rfl⟩
theorem dX9_execute_67 : DC cX9_execute 67 (.invokevirtual 183) 3 70 := ⟨by decide +kernel, rfl⟩
theorem dX9_execute_70 : DC cX9_execute 70 (.goto 44) 3 73 := ⟨by decide +kernel, rfl⟩
theorem dX9_execute_73 : DC cX9_execute 73 (.iload_n 2) 1 74 := ⟨by decide +kernel, rfl⟩
theorem dX9_execute_74 : DC cX9_execute 74 (.bipush 35) 2 76 := ⟨by decide +kernel, rfl⟩
theorem dX9_execute_76 : DC cX9_execute 76 (.if_icmp .eq 9) 3 79 := ⟨by decide +kernel, rfl⟩
theorem dX9_execute_79 : DC cX9_execute 79 (.iload_n 2) 1 80 := ⟨by decide +kernel, rfl⟩
theorem dX9_execute_80 : DC cX9_execute 80 (.bipush 126) 2 82 := ⟨by decide +kernel, rfl⟩
theorem dX9_execute_82 : DC cX9_execute 82 (.if_icmp .ne 11) 3 85 := ⟨by decide +kernel, rfl⟩
theorem dX9_execute_85 : DC cX9_execute 85 (.aload_n 0) 1 86 := ⟨by decide +kernel, rfl⟩
theorem dX9_execute_86 : DC cX9_execute 86 (.iload_n 2) 1 87 := ⟨by decide +kernel, rfl⟩
theorem dX9_execute_87 : DC cX9_execute 87 (.invokevirtual 186) 3 90 := ⟨by decide +kernel, rfl⟩
theorem dX9_execute_90 : DC cX9_execute 90 (.goto 24) 3 93 := ⟨by decide +kernel, rfl⟩
theorem dX9_execute_93 : DC cX9_execute 93 (.iload_n 2) 1 94 := ⟨by decide +kernel, rfl⟩
theorem dX9_execute_94 : DC cX9_execute 94 (.bipush 33) 2 96 := ⟨by decide +kernel, rfl⟩
theorem dX9_execute_96 : DC cX9_execute 96 (.if_icmp .ne 10) 3 99 := ⟨by decide +kernel, rfl⟩
theorem dX9_execute_99 : DC cX9_execute 99 (.aload_n 0) 1 100 := ⟨by decide +kernel, rfl⟩
theorem dX9_execute_100 : DC cX9_execute 100 (.invokevirtual 189) 3 103 := ⟨by decide +kernel, rfl⟩
theorem dX9_execute_103 : DC cX9_execute 103 (.goto 11) 3 106 := ⟨by decide +kernel, rfl⟩
theorem dX9_execute_106 : DC cX9_execute 106 (.aload_n 0) 1 107 := ⟨by decide +kernel, rfl⟩
theorem dX9_execute_107 : DC cX9_execute 107 (.aload_n 0) 1 108 := ⟨by decide +kernel, rfl⟩
theorem dX9_execute_108 : DC cX9_execute 108 (.getfield 145) 3 111 := ⟨by decide +kernel, rfl⟩
theorem dX9_execute_111 : DC cX9_execute 111 (.invokevirtual 155) 3 114 := ⟨by decide +kernel, rfl⟩
theorem dX9_execute_114 : DC cX9_execute 114 (.iinc 1 1) 3 117 := ⟨by decide +kernel, rfl⟩
theorem dX9_execute_117 : DC cX9_execute 117 (.goto (-89)) 3 120 := ⟨by decide +kernel, rfl⟩
theorem dX9_execute_120 : DC cX9_execute 120 (.aload_n 0) 1 121 := ⟨by decide +kernel, rfl⟩
theorem dX9_execute_121 : DC cX9_execute 121 (.iconst 0) 1 122 := ⟨by decide +kernel, rfl⟩
theorem dX9_execute_122 : DC cX9_execute 122 (.putfield 142) 3 125 := ⟨by decide +kernel, rfl⟩
theorem dX9_execute_125 : DC cX9_execute 125 (.aload_n 0) 1 126 := ⟨by decide +kernel, rfl⟩
theorem dX9_execute_126 : DC cX9_execute 126 (.aload_n 0) 1 127 := ⟨by decide +kernel, rfl⟩
theorem dX9_execute_127 : DC cX9_execute 127 (.getfield 148) 3 130 := ⟨by decide +kernel, rfl⟩
theorem dX9_execute_130 : DC cX9_execute 130 (.ifCond .eq 10) 3 133 := ⟨by decide +kernel, rfl⟩
theorem dX9_execute_133 : DC cX9_execute 133 (.aload_n 0) 1 134 := ⟨by decide +kernel, rfl⟩
theorem dX9_execute_134 : DC cX9_execute 134 (.getfield 145) 3 137 := ⟨by decide +kernel, rfl⟩
theorem dX9_execute_137 : DC cX9_execute 137 (.goto 4) 3 140 := ⟨by decide +kernel, rfl⟩
theorem dX9_execute_140 : DC cX9_execute 140 (.iconst (-1)) 1 141 := ⟨by decide +kernel, rfl⟩
theorem dX9_execute_141 : DC cX9_execute 141 (.putfield 25) 3 144 := ⟨by decide +kernel, rfl⟩
theorem dX9_execute_144 : DC cX9_execute 144 (.aload_n 0) 1 145 := ⟨by decide +kernel, rfl⟩
theorem dX9_execute_145 : DC cX9_execute 145 (.aload_n 0) 1 146 := ⟨by decide +kernel, rfl⟩
theorem dX9_execute_146 : DC cX9_execute 146 (.getfield 148) 3 149 := ⟨by decide +kernel, rfl⟩
theorem dX9_execute_149 : DC cX9_execute 149 (.ifCond .eq 7) 3 152 := ⟨by decide +kernel, rfl⟩
theorem dX9_execute_152 : DC cX9_execute 152 (.iconst 1) 1 153 := ⟨by decide +kernel, rfl⟩
theorem dX9_execute_153 : DC cX9_execute 153 (.goto 4) 3 156 := ⟨by decide +kernel, rfl⟩
theorem dX9_execute_156 : DC cX9_execute 156 (.iconst 0) 1 157 := ⟨by decide +kernel, rfl⟩
theorem dX9_execute_157 : DC cX9_execute 157 (.putfield 115) 3 160 := ⟨by decide +kernel, rfl⟩
theorem dX9_execute_160 : DC cX9_execute 160 (.aload_n 0) 1 161 := ⟨by decide +kernel, rfl⟩
theorem dX9_execute_161 : DC cX9_execute 161 (.getfield 115) 3 164 := ⟨by decide +kernel, rfl⟩
theorem dX9_execute_164 : DC cX9_execute 164 (.ifCond .le 21) 3 167 := ⟨by decide +kernel, rfl⟩
theorem dX9_execute_167 : DC cX9_execute 167 (.aload_n 0) 1 168 := ⟨by decide +kernel, rfl⟩
theorem dX9_execute_168 : DC cX9_execute 168 (.getfield 13) 3 171 := ⟨by decide +kernel, rfl⟩
theorem dX9_execute_171 : DC cX9_execute 171 (.iconst 0) 1 172 := ⟨by decide +kernel, rfl⟩
theorem dX9_execute_172 : DC cX9_execute 172 (.aload_n 0) 1 173 := ⟨by decide +kernel, rfl⟩
theorem dX9_execute_173 : DC cX9_execute 173 (.getfield 9) 3 176 := ⟨by decide +kernel, rfl⟩
theorem dX9_execute_176 : DC cX9_execute 176 (.iconst 0) 1 177 := ⟨by decide +kernel, rfl⟩
theorem dX9_execute_177 : DC cX9_execute 177 (.sipush 265) 3 180 := ⟨by decide +kernel, rfl⟩
theorem dX9_execute_180 : DC cX9_execute 180 (.invokestatic 136) 3 183 := ⟨by decide +kernel, rfl⟩
theorem dX9_execute_183 : DC cX9_execute 183 (.iconst 0) 1 184 := ⟨by decide +kernel, rfl⟩
theorem dX9_execute_184 : DC cX9_execute 184 (.ireturn) 1 185 := ⟨by decide +kernel, rfl⟩
theorem dX9_execute_185 : DC cX9_execute 185 (.aload_n 0) 1 186 := ⟨by decide +kernel, rfl⟩
theorem dX9_execute_186 : DC cX9_execute 186 (.aload_n 0) 1 187 := ⟨by decide +kernel, rfl⟩
theorem dX9_execute_187 : DC cX9_execute 187 (.getfield 13) 3 190 := ⟨by decide +kernel, rfl⟩
theorem dX9_execute_190 : DC cX9_execute 190 (.invokevirtual 192) 3 193 := ⟨by decide +kernel, rfl⟩
theorem dX9_execute_193 : DC cX9_execute 193 (.iload_n 1) 1 194 := ⟨by decide +kernel, rfl⟩
theorem dX9_execute_194 : DC cX9_execute 194 (.ireturn) 1 195 := ⟨by decide +kernel, rfl⟩
theorem dX9_errorPosition_0 : DC cX9_errorPosition 0 (.aload_n 0) 1 1 := ⟨by decide +kernel, rfl⟩
theorem dX9_errorPosition_1 : DC cX9_errorPosition 1 (.iconst 0) 1 2 := ⟨by decide +kernel, rfl⟩
theorem dX9_errorPosition_2 : DC cX9_errorPosition 2 (.putfield 115) 3 5 := ⟨by decide +kernel, rfl⟩
theorem dX9_errorPosition_5 : DC cX9_errorPosition 5 (.aload_n 0) 1 6 := ⟨by decide +kernel, rfl⟩
theorem dX9_errorPosition_6 : DC cX9_errorPosition 6 (.getfield 25) 3 9 := ⟨by decide +kernel, rfl⟩
theorem dX9_errorPosition_9 : DC cX9_errorPosition 9 (.ireturn) 1 10 := ⟨by decide +kernel, rfl⟩
theorem dX9_set_0 : DC cX9_set 0 (.iload_n 1) 1 1 := ⟨by decide +kernel, rfl⟩
theorem dX9_set_1 : DC cX9_set 1 (.iconst 3) 1 2 := ⟨by decide +kernel, rfl⟩
theorem dX9_set_2 : DC cX9_set 2 (.if_icmp .ne 7) 3 5 := ⟨by decide +kernel, rfl⟩
theorem dX9_set_5 : DC cX9_set 5 (.iconst 1) 1 6 := ⟨by decide +kernel, rfl⟩
theorem dX9_set_6 : DC cX9_set 6 (.goto 4) 3 9 := ⟨by decide +kernel, rfl⟩
theorem dX9_set_9 : DC cX9_set 9 (.iconst 0) 1 10 := ⟨by decide +kernel, rfl⟩
theorem dX9_set_10 : DC cX9_set 10 (.istore_n 3) 1 11 := ⟨by decide +kernel, rfl⟩
theorem dX9_set_11 : DC cX9_set 11 (.iload_n 1) 1 12 := ⟨by decide +kernel, rfl⟩
theorem dX9_set_12 : DC cX9_set 12 (.ifCond .ne 7) 3 15 := ⟨by decide +kernel, rfl⟩
theorem dX9_set_15 : DC cX9_set 15 (.iconst 3) 1 16 := ⟨by decide +kernel, rfl⟩
theorem dX9_set_16 : DC cX9_set 16 (.goto 14) 3 19 := ⟨by decide +kernel, rfl⟩
theorem dX9_set_19 : DC cX9_set 19 (.iload_n 1) 1 20 := ⟨by decide +kernel, rfl⟩
theorem dX9_set_20 : DC cX9_set 20 (.iconst 3) 1 21 := ⟨by decide +kernel, rfl⟩
theorem dX9_set_21 : DC cX9_set 21 (.if_icmp .ne 8) 3 24 := ⟨by decide +kernel, rfl⟩
theorem dX9_set_24 : DC cX9_set 24 (.bipush 7) 2 26 := ⟨by decide +kernel, rfl⟩
theorem dX9_set_26 : DC cX9_set 26 (.goto 4) 3 29 := ⟨by decide +kernel, rfl⟩
theorem dX9_set_29 : DC cX9_set 29 (.iconst 1) 1 30 := ⟨by decide +kernel, rfl⟩
theorem dX9_set_30 : DC cX9_set 30 (.istore 4) 2 32 := ⟨by decide +kernel, rfl⟩
theorem dX9_set_32 : DC cX9_set 32 (.aload_n 0) 1 33 := ⟨by decide +kernel, rfl⟩
theorem dX9_set_33 : DC cX9_set 33 (.iload_n 1) 1 34 := ⟨by decide +kernel, rfl⟩
theorem dX9_set_34 : DC cX9_set 34 (.iconst 0) 1 35 := ⟨by decide +kernel, rfl⟩
theorem dX9_set_35 : DC cX9_set 35 (.iconst 3) 1 36 := ⟨by decide +kernel, rfl⟩
theorem dX9_set_36 : DC cX9_set 36 (.invokestatic 118) 3 39 := ⟨by decide +kernel, rfl⟩
theorem dX9_set_39 : DC cX9_set 39 (.ifCond .eq 17) 3 42 := ⟨by decide +kernel, rfl⟩
theorem dX9_set_42 : DC cX9_set 42 (.iload_n 2) 1 43 := ⟨by decide +kernel, rfl⟩
theorem dX9_set_43 : DC cX9_set 43 (.iload_n 3) 1 44 := ⟨by decide +kernel, rfl⟩
theorem dX9_set_44 : DC cX9_set 44 (.iload 4) 2 46 := ⟨by decide +kernel, rfl⟩
theorem dX9_set_46 : DC cX9_set 46 (.invokestatic 118) 3 49 := ⟨by decide +kernel, rfl⟩
theorem dX9_set_49 : DC cX9_set 49 (.ifCond .eq 7) 3 52 := ⟨by decide +kernel, rfl⟩
theorem dX9_set_52 : DC cX9_set 52 (.iconst 0) 1 53 := ⟨by decide +kernel, rfl⟩
theorem dX9_set_53 : DC cX9_set 53 (.goto 4) 3 56 := ⟨by decide +kernel, rfl⟩
theorem dX9_set_56 : DC cX9_set 56 (.iconst 1) 1 57 := ⟨by decide +kernel, rfl⟩
theorem dX9_set_57 : DC cX9_set 57 (.putfield 115) 3 60 := ⟨by decide +kernel, rfl⟩
theorem dX9_set_60 : DC cX9_set 60 (.aload_n 0) 1 61 := ⟨by decide +kernel, rfl⟩
theorem dX9_set_61 : DC cX9_set 61 (.getfield 115) 3 64 := ⟨by decide +kernel, rfl⟩
theorem dX9_set_64 : DC cX9_set 64 (.ifCond .le 5) 3 67 := ⟨by decide +kernel, rfl⟩
theorem dX9_set_67 : DC cX9_set 67 (.iconst 0) 1 68 := ⟨by decide +kernel, rfl⟩
theorem dX9_set_68 : DC cX9_set 68 (.ireturn) 1 69 := ⟨by decide +kernel, rfl⟩
theorem dX9_set_69 : DC cX9_set 69 (.aload_n 0) 1 70 := ⟨by decide +kernel, rfl⟩
theorem dX9_set_70 : DC cX9_set 70 (.aload_n 0) 1 71 := ⟨by decide +kernel, rfl⟩
theorem dX9_set_71 : DC cX9_set 71 (.getfield 9) 3 74 := ⟨by decide +kernel, rfl⟩
theorem dX9_set_74 : DC cX9_set 74 (.invokevirtual 192) 3 77 := ⟨by decide +kernel, rfl⟩
theorem dX9_set_77 : DC cX9_set 77 (.aload_n 0) 1 78 := ⟨by decide +kernel, rfl⟩
theorem dX9_set_78 : DC cX9_set 78 (.getfield 9) 3 81 := ⟨by decide +kernel, rfl⟩
theorem dX9_set_81 : DC cX9_set 81 (.iconst 3) 1 82 := ⟨by decide +kernel, rfl⟩
theorem dX9_set_82 : DC cX9_set 82 (.iload_n 1) 1 83 := ⟨by decide +kernel, rfl⟩
theorem dX9_set_83 : DC cX9_set 83 (.iadd) 1 84 := ⟨by decide +kernel, rfl⟩
theorem dX9_set_84 : DC cX9_set 84 (.iaload) 1 85 := ⟨by decide +kernel, rfl⟩
theorem dX9_set_85 : DC cX9_set 85 (.istore 5) 2 87 := ⟨by decide +kernel, rfl⟩
theorem dX9_set_87 : DC cX9_set 87 (.aload_n 0) 1 88 := ⟨by decide +kernel, rfl⟩
theorem dX9_set_88 : DC cX9_set 88 (.getfield 9) 3 91 := ⟨by decide +kernel, rfl⟩
theorem dX9_set_91 : DC cX9_set 91 (.iconst 3) 1 92 := ⟨by decide +kernel, rfl⟩
theorem dX9_set_92 : DC cX9_set 92 (.iload_n 1) 1 93 := ⟨by decide +kernel, rfl⟩
theorem dX9_set_93 : DC cX9_set 93 (.iadd) 1 94 := ⟨by decide +kernel, rfl⟩
theorem dX9_set_94 : DC cX9_set 94 (.iload_n 2) 1 95 := ⟨by decide +kernel, rfl⟩
theorem dX9_set_95 : DC cX9_set 95 (.iastore) 1 96 := ⟨by decide +kernel, rfl⟩
theorem dX9_set_96 : DC cX9_set 96 (.iload 5) 2 98 := ⟨by decide +kernel, rfl⟩
theorem dX9_set_98 : DC cX9_set 98 (.ireturn) 1 99 := ⟨by decide +kernel, rfl⟩
theorem dX9_withdraw_0 : DC cX9_withdraw 0 (.aload_n 0) 1 1 := ⟨by decide +kernel, rfl⟩
theorem dX9_withdraw_1 : DC cX9_withdraw 1 (.aload_n 0) 1 2 := ⟨by decide +kernel, rfl⟩
theorem dX9_withdraw_2 : DC cX9_withdraw 2 (.iload_n 1) 1 3 := ⟨by decide +kernel, rfl⟩
theorem dX9_withdraw_3 : DC cX9_withdraw 3 (.invokevirtual 168) 3 6 := ⟨by decide +kernel, rfl⟩
theorem dX9_withdraw_6 : DC cX9_withdraw 6 (.ifCond .eq 7) 3 9 := ⟨by decide +kernel, rfl⟩
theorem dX9_withdraw_9 : DC cX9_withdraw 9 (.iconst 0) 1 10 := ⟨by decide +kernel, rfl⟩
theorem dX9_withdraw_10 : DC cX9_withdraw 10 (.goto 4) 3 13 := ⟨by decide +kernel, rfl⟩
theorem dX9_withdraw_13 : DC cX9_withdraw 13 (.iconst 1) 1 14 := ⟨by decide +kernel, rfl⟩
theorem dX9_withdraw_14 : DC cX9_withdraw 14 (.putfield 115) 3 17 := ⟨by decide +kernel, rfl⟩
theorem dX9_withdraw_17 : DC cX9_withdraw 17 (.aload_n 0) 1 18 := ⟨by decide +kernel, rfl⟩
theorem dX9_withdraw_18 : DC cX9_withdraw 18 (.getfield 115) 3 21 := ⟨by decide +kernel, rfl⟩
theorem dX9_withdraw_21 : DC cX9_withdraw 21 (.ifCond .le 5) 3 24 := ⟨by decide +kernel, rfl⟩
theorem dX9_withdraw_24 : DC cX9_withdraw 24 (.iconst 0) 1 25 := ⟨by decide +kernel, rfl⟩
theorem dX9_withdraw_25 : DC cX9_withdraw 25 (.ireturn) 1 26 := ⟨by decide +kernel, rfl⟩
theorem dX9_withdraw_26 : DC cX9_withdraw 26 (.aload_n 0) 1 27 := ⟨by decide +kernel, rfl⟩
theorem dX9_withdraw_27 : DC cX9_withdraw 27 (.aload_n 0) 1 28 := ⟨by decide +kernel, rfl⟩
theorem dX9_withdraw_28 : DC cX9_withdraw 28 (.getfield 9) 3 31 := ⟨by decide +kernel, rfl⟩
theorem dX9_withdraw_31 : DC cX9_withdraw 31 (.invokevirtual 192) 3 34 := ⟨by decide +kernel, rfl⟩
theorem dX9_withdraw_34 : DC cX9_withdraw 34 (.aload_n 0) 1 35 := ⟨by decide +kernel, rfl⟩
theorem dX9_withdraw_35 : DC cX9_withdraw 35 (.getfield 9) 3 38 := ⟨by decide +kernel, rfl⟩
theorem dX9_withdraw_38 : DC cX9_withdraw 38 (.iconst 2) 1 39 := ⟨by decide +kernel, rfl⟩
theorem dX9_withdraw_39 : DC cX9_withdraw 39 (.dup2) 1 40 := ⟨by decide +kernel, rfl⟩
theorem dX9_withdraw_40 : DC cX9_withdraw 40 (.iaload) 1 41 := ⟨by decide +kernel, rfl⟩
theorem dX9_withdraw_41 : DC cX9_withdraw 41 (.iconst 1) 1 42 := ⟨by decide +kernel, rfl⟩
theorem dX9_withdraw_42 : DC cX9_withdraw 42 (.iload_n 1) 1 43 := ⟨by decide +kernel, rfl⟩
theorem dX9_withdraw_43 : DC cX9_withdraw 43 (.ishl) 1 44 := ⟨by decide +kernel, rfl⟩
theorem dX9_withdraw_44 : DC cX9_withdraw 44 (.ixor) 1 45 := ⟨by decide +kernel, rfl⟩
theorem dX9_withdraw_45 : DC cX9_withdraw 45 (.iastore) 1 46 := ⟨by decide +kernel, rfl⟩
theorem dX9_withdraw_46 : DC cX9_withdraw 46 (.aload_n 0) 1 47 := ⟨by decide +kernel, rfl⟩
theorem dX9_withdraw_47 : DC cX9_withdraw 47 (.iload_n 1) 1 48 := ⟨by decide +kernel, rfl⟩
theorem dX9_withdraw_48 : DC cX9_withdraw 48 (.invokevirtual 196) 3 51 := ⟨by decide +kernel, rfl⟩
theorem dX9_withdraw_51 : DC cX9_withdraw 51 (.ireturn) 1 52 := ⟨by decide +kernel, rfl⟩
theorem dX9_pile_0 : DC cX9_pile 0 (.aload_n 0) 1 1 := ⟨by decide +kernel, rfl⟩
theorem dX9_pile_1 : DC cX9_pile 1 (.aload_n 0) 1 2 := ⟨by decide +kernel, rfl⟩
theorem dX9_pile_2 : DC cX9_pile 2 (.iload_n 1) 1 3 := ⟨by decide +kernel, rfl⟩
theorem dX9_pile_3 : DC cX9_pile 3 (.invokevirtual 161) 3 6 := ⟨by decide +kernel, rfl⟩
theorem dX9_pile_6 : DC cX9_pile 6 (.ifCond .ne 7) 3 9 := ⟨by decide +kernel, rfl⟩
theorem dX9_pile_9 : DC cX9_pile 9 (.iconst 1) 1 10 := ⟨by decide +kernel, rfl⟩
theorem dX9_pile_10 : DC cX9_pile 10 (.goto 35) 3 13 := ⟨by decide +kernel, rfl⟩
theorem dX9_pile_13 : DC cX9_pile 13 (.iload_n 2) 1 14 := ⟨by decide +kernel, rfl⟩
theorem dX9_pile_14 : DC cX9_pile 14 (.iconst 0) 1 15 := ⟨by decide +kernel, rfl⟩
theorem dX9_pile_15 : DC cX9_pile 15 (.iconst 1) 1 16 := ⟨by decide +kernel, rfl⟩
theorem dX9_pile_16 : DC cX9_pile 16 (.invokestatic 118) 3 19 := ⟨by decide +kernel, rfl⟩
theorem dX9_pile_19 : DC cX9_pile 19 (.ifCond .ne 21) 3 22 := ⟨by decide +kernel, rfl⟩
theorem dX9_pile_22 : DC cX9_pile 22 (.iload_n 2) 1 23 := ⟨by decide +kernel, rfl⟩
theorem dX9_pile_23 : DC cX9_pile 23 (.bipush 10) 2 25 := ⟨by decide +kernel, rfl⟩
theorem dX9_pile_25 : DC cX9_pile 25 (.if_icmp .lt 19) 3 28 := ⟨by decide +kernel, rfl⟩
theorem dX9_pile_28 : DC cX9_pile 28 (.iload_n 2) 1 29 := ⟨by decide +kernel, rfl⟩
theorem dX9_pile_29 : DC cX9_pile 29 (.bipush 10) 2 31 := ⟨by decide +kernel, rfl⟩
theorem dX9_pile_31 : DC cX9_pile 31 (.isub) 1 32 := ⟨by decide +kernel, rfl⟩
theorem dX9_pile_32 : DC cX9_pile 32 (.aload_n 0) 1 33 := ⟨by decide +kernel, rfl⟩
theorem dX9_pile_33 : DC cX9_pile 33 (.iload_n 1) 1 34 := ⟨by decide +kernel, rfl⟩
theorem dX9_pile_34 : DC cX9_pile 34 (.invokevirtual 199) 3 37 := ⟨by decide +kernel, rfl⟩
theorem dX9_pile_37 : DC cX9_pile 37 (.if_icmp .ge 7) 3 40 := ⟨by decide +kernel, rfl⟩
theorem dX9_pile_40 : DC cX9_pile 40 (.iconst 0) 1 41 := ⟨by decide +kernel, rfl⟩
theorem dX9_pile_41 : DC cX9_pile 41 (.goto 4) 3 44 := ⟨by decide +kernel, rfl⟩
theorem dX9_pile_44 : DC cX9_pile 44 (.iconst 2) 1 45 := ⟨by decide +kernel, rfl⟩
theorem dX9_pile_45 : DC cX9_pile 45 (.putfield 115) 3 48 := ⟨by decide +kernel, rfl⟩
theorem dX9_pile_48 : DC cX9_pile 48 (.aload_n 0) 1 49 := ⟨by decide +kernel, rfl⟩
theorem dX9_pile_49 : DC cX9_pile 49 (.getfield 115) 3 52 := ⟨by decide +kernel, rfl⟩
theorem dX9_pile_52 : DC cX9_pile 52 (.ifCond .le 5) 3 55 := ⟨by decide +kernel, rfl⟩
theorem dX9_pile_55 : DC cX9_pile 55 (.iconst 0) 1 56 := ⟨by decide +kernel, rfl⟩
theorem dX9_pile_56 : DC cX9_pile 56 (.ireturn) 1 57 := ⟨by decide +kernel, rfl⟩
theorem dX9_pile_57 : DC cX9_pile 57 (.iload_n 2) 1 58 := ⟨by decide +kernel, rfl⟩
theorem dX9_pile_58 : DC cX9_pile 58 (.ifCond .ne 11) 3 61 := ⟨by decide +kernel, rfl⟩
theorem dX9_pile_61 : DC cX9_pile 61 (.aload_n 0) 1 62 := ⟨by decide +kernel, rfl⟩
theorem dX9_pile_62 : DC cX9_pile 62 (.iload_n 1) 1 63 := ⟨by decide +kernel, rfl⟩
theorem dX9_pile_63 : DC cX9_pile 63 (.invokevirtual 203) 3 66 := ⟨by decide +kernel, rfl⟩
theorem dX9_pile_66 : DC cX9_pile 66 (.goto 25) 3 69 := ⟨by decide +kernel, rfl⟩
theorem dX9_pile_69 : DC cX9_pile 69 (.iload_n 2) 1 70 := ⟨by decide +kernel, rfl⟩
theorem dX9_pile_70 : DC cX9_pile 70 (.iconst 1) 1 71 := ⟨by decide +kernel, rfl⟩
theorem dX9_pile_71 : DC cX9_pile 71 (.if_icmp .ne 11) 3 74 := ⟨by decide +kernel, rfl⟩
theorem dX9_pile_74 : DC cX9_pile 74 (.aload_n 0) 1 75 := ⟨by decide +kernel, rfl⟩
theorem dX9_pile_75 : DC cX9_pile 75 (.iload_n 1) 1 76 := ⟨by decide +kernel, rfl⟩
theorem dX9_pile_76 : DC cX9_pile 76 (.invokevirtual 199) 3 79 := ⟨by decide +kernel, rfl⟩
theorem dX9_pile_79 : DC cX9_pile 79 (.goto 12) 3 82 := ⟨by decide +kernel, rfl⟩
theorem dX9_pile_82 : DC cX9_pile 82 (.aload_n 0) 1 83 := ⟨by decide +kernel, rfl⟩
theorem dX9_pile_83 : DC cX9_pile 83 (.iload_n 1) 1 84 := ⟨by decide +kernel, rfl⟩
theorem dX9_pile_84 : DC cX9_pile 84 (.iload_n 2) 1 85 := ⟨by decide +kernel, rfl⟩
theorem dX9_pile_85 : DC cX9_pile 85 (.bipush 10) 2 87 := ⟨by decide +kernel, rfl⟩
theorem dX9_pile_87 : DC cX9_pile 87 (.isub) 1 88 := ⟨by decide +kernel, rfl⟩
theorem dX9_pile_88 : DC cX9_pile 88 (.invokevirtual 206) 3 91 := ⟨by decide +kernel, rfl⟩
theorem dX9_pile_91 : DC cX9_pile 91 (.ireturn) 1 92 := ⟨by decide +kernel, rfl⟩
theorem dX9_character_0 : DC cX9_character 0 (.aload_n 0) 1 1 := ⟨by decide +kernel, rfl⟩
theorem dX9_character_1 : DC cX9_character 1 (.aload_n 0) 1 2 := ⟨by decide +kernel, rfl⟩
theorem dX9_character_2 : DC cX9_character 2 (.iload_n 1) 1 3 := ⟨by decide +kernel, rfl⟩
theorem dX9_character_3 : DC cX9_character 3 (.invokevirtual 161) 3 6 := ⟨by decide +kernel, rfl⟩
theorem dX9_character_6 : DC cX9_character 6 (.ifCond .eq 7) 3 9 := ⟨by decide +kernel, rfl⟩
theorem dX9_character_9 : DC cX9_character 9 (.iconst 0) 1 10 := ⟨by decide +kernel, rfl⟩
theorem dX9_character_10 : DC cX9_character 10 (.goto 4) 3 13 := ⟨by decide +kernel, rfl⟩
theorem dX9_character_13 : DC cX9_character 13 (.iconst 1) 1 14 := ⟨by decide +kernel, rfl⟩
theorem dX9_character_14 : DC cX9_character 14 (.putfield 115) 3 17 := ⟨by decide +kernel, rfl⟩
theorem dX9_character_17 : DC cX9_character 17 (.aload_n 0) 1 18 := ⟨by decide +kernel, rfl⟩
theorem dX9_character_18 : DC cX9_character 18 (.getfield 115) 3 21 := ⟨by decide +kernel, rfl⟩
theorem dX9_character_21 : DC cX9_character 21 (.ifCond .le 7) 3 24 := ⟨by decide +kernel, rfl⟩
theorem dX9_character_24 : DC cX9_character 24 (.iconst 0) 1 25 := ⟨by decide +kernel, rfl⟩
theorem dX9_character_25 : DC cX9_character 25 (.goto 18) 3 28 := ⟨by decide +kernel, rfl⟩
theorem dX9_character_28 : DC cX9_character 28 (.aload_n 0) 1 29 := ⟨by decide +kernel, rfl⟩
theorem dX9_character_29 : DC cX9_character 29 (.iload_n 1) 1 30 := ⟨by decide +kernel, rfl⟩
theorem dX9_character_30 : DC cX9_character 30 (.invokevirtual 203) 3 33 := ⟨by decide +kernel, rfl⟩
theorem dX9_character_33 : DC cX9_character 33 (.bipush 9) 2 35 := ⟨by decide +kernel, rfl⟩
theorem dX9_character_35 : DC cX9_character 35 (.if_icmp .le 7) 3 38 := ⟨by decide +kernel, rfl⟩
theorem dX9_character_38 : DC cX9_character 38 (.iconst 2) 1 39 := ⟨by decide +kernel, rfl⟩
theorem dX9_character_39 : DC cX9_character 39 (.goto 4) 3 42 := ⟨by decide +kernel, rfl⟩
theorem dX9_character_42 : DC cX9_character 42 (.iconst 1) 1 43 := ⟨by decide +kernel, rfl⟩
theorem dX9_character_43 : DC cX9_character 43 (.istore_n 3) 1 44 := ⟨by decide +kernel, rfl⟩
theorem dX9_character_44 : DC cX9_character 44 (.aload_n 0) 1 45 := ⟨by decide +kernel, rfl⟩
theorem dX9_character_45 : DC cX9_character 45 (.getfield 115) 3 48 := ⟨by decide +kernel, rfl⟩
theorem dX9_character_48 : DC cX9_character 48 (.ifCond .le 7) 3 51 := ⟨by decide +kernel, rfl⟩
theorem dX9_character_51 : DC cX9_character 51 (.iconst 0) 1 52 := ⟨by decide +kernel, rfl⟩
theorem dX9_character_52 : DC cX9_character 52 (.goto 12) 3 55 := ⟨by decide +kernel, rfl⟩
theorem dX9_character_55 : DC cX9_character 55 (.iload_n 3) 1 56 := ⟨by decide +kernel, rfl⟩
theorem dX9_character_56 : DC cX9_character 56 (.aload_n 0) 1 57 := ⟨by decide +kernel, rfl⟩
theorem dX9_character_57 : DC cX9_character 57 (.iload_n 1) 1 58 := ⟨by decide +kernel, rfl⟩
theorem dX9_character_58 : DC cX9_character 58 (.invokevirtual 199) 3 61 := ⟨by decide +kernel, rfl⟩
theorem dX9_character_61 : DC cX9_character 61 (.iadd) 1 62 := ⟨by decide +kernel, rfl⟩
theorem dX9_character_62 : DC cX9_character 62 (.iconst 2) 1 63 := ⟨by decide +kernel, rfl⟩
theorem dX9_character_63 : DC cX9_character 63 (.iadd) 1 64 := ⟨by decide +kernel, rfl⟩
theorem dX9_character_64 : DC cX9_character 64 (.istore 4) 2 66 := ⟨by decide +kernel, rfl⟩
theorem dX9_character_66 : DC cX9_character 66 (.aload_n 0) 1 67 := ⟨by decide +kernel, rfl⟩
theorem dX9_character_67 : DC cX9_character 67 (.aload_n 0) 1 68 := ⟨by decide +kernel, rfl⟩
theorem dX9_character_68 : DC cX9_character 68 (.getfield 115) 3 71 := ⟨by decide +kernel, rfl⟩
theorem dX9_character_71 : DC cX9_character 71 (.ifCond .gt 15) 3 74 := ⟨by decide +kernel, rfl⟩
theorem dX9_character_74 : DC cX9_character 74 (.iload_n 2) 1 75 := ⟨by decide +kernel, rfl⟩
theorem dX9_character_75 : DC cX9_character 75 (.iconst (-1)) 1 76 := ⟨by decide +kernel, rfl⟩
theorem dX9_character_76 : DC cX9_character 76 (.iload 4) 2 78 := ⟨by decide +kernel, rfl⟩
theorem dX9_character_78 : DC cX9_character 78 (.iconst 1) 1 79 := ⟨by decide +kernel, rfl⟩
theorem dX9_character_79 : DC cX9_character 79 (.isub) 1 80 := ⟨by decide +kernel, rfl⟩
theorem dX9_character_80 : DC cX9_character 80 (.invokestatic 118) 3 83 := ⟨by decide +kernel, rfl⟩
theorem dX9_character_83 : DC cX9_character 83 (.ifCond .ne 7) 3 86 := ⟨by decide +kernel, rfl⟩
theorem dX9_character_86 : DC cX9_character 86 (.iconst 1) 1 87 := ⟨by decide +kernel, rfl⟩
theorem dX9_character_87 : DC cX9_character 87 (.goto 4) 3 90 := ⟨by decide +kernel, rfl⟩
theorem dX9_character_90 : DC cX9_character 90 (.iconst 0) 1 91 := ⟨by decide +kernel, rfl⟩
theorem dX9_character_91 : DC cX9_character 91 (.putfield 115) 3 94 := ⟨by decide +kernel, rfl⟩
theorem dX9_character_94 : DC cX9_character 94 (.aload_n 0) 1 95 := ⟨by decide +kernel, rfl⟩
theorem dX9_character_95 : DC cX9_character 95 (.getfield 115) 3 98 := ⟨by decide +kernel, rfl⟩
theorem dX9_character_98 : DC cX9_character 98 (.ifCond .le 5) 3 101 := ⟨by decide +kernel, rfl⟩
theorem dX9_character_101 : DC cX9_character 101 (.iconst 0) 1 102 := ⟨by decide +kernel, rfl⟩
theorem dX9_character_102 : DC cX9_character 102 (.ireturn) 1 103 := ⟨by decide +kernel, rfl⟩
theorem dX9_character_103 : DC cX9_character 103 (.iload_n 2) 1 104 := ⟨by decide +kernel, rfl⟩
theorem dX9_character_104 : DC cX9_character 104 (.ifCond .ge 6) 3 107 := ⟨by decide +kernel, rfl⟩
theorem dX9_character_107 : DC cX9_character 107 (.iload 4) 2 109 := ⟨by decide +kernel, rfl⟩
theorem dX9_character_109 : DC cX9_character 109 (.ireturn) 1 110 := ⟨by decide +kernel, rfl⟩
theorem dX9_character_110 : DC cX9_character 110 (.iload_n 2) 1 111 := ⟨by decide +kernel, rfl⟩
theorem dX9_character_111 : DC cX9_character 111 (.iload_n 3) 1 112 := ⟨by decide +kernel, rfl⟩
theorem dX9_character_112 : DC cX9_character 112 (.if_icmp .ge 33) 3 115 := ⟨by decide +kernel, rfl⟩
theorem dX9_character_115 : DC cX9_character 115 (.bipush 48) 2 117 := ⟨by decide +kernel, rfl⟩
theorem dX9_character_117 : DC cX9_character 117 (.iload_n 2) 1 118 := ⟨by decide +kernel, rfl⟩
theorem dX9_character_118 : DC cX9_character 118 (.iconst 1) 1 119 := ⟨by decide +kernel, rfl⟩
theorem dX9_character_119 : DC cX9_character 119 (.iadd) 1 120 := ⟨by decide +kernel, rfl⟩
theorem dX9_character_120 : DC cX9_character 120 (.iload_n 3) 1 121 := ⟨by decide +kernel, rfl⟩
theorem dX9_character_121 : DC cX9_character 121 (.if_icmp .ne 14) 3 124 := ⟨by decide +kernel, rfl⟩
theorem dX9_character_124 : DC cX9_character 124 (.aload_n 0) 1 125 := ⟨by decide +kernel, rfl⟩
theorem dX9_character_125 : DC cX9_character 125 (.iload_n 1) 1 126 := ⟨by decide +kernel, rfl⟩
theorem dX9_character_126 : DC cX9_character 126 (.invokevirtual 203) 3 129 := ⟨by decide +kernel, rfl⟩
theorem dX9_character_129 : DC cX9_character 129 (.bipush 10) 2 131 := ⟨by decide +kernel, rfl⟩
theorem dX9_character_131 : DC cX9_character 131 (.irem) 1 132 := ⟨by decide +kernel, rfl⟩
theorem dX9_character_132 : DC cX9_character 132 (.goto 11) 3 135 := ⟨by decide +kernel, rfl⟩
theorem dX9_character_135 : DC cX9_character 135 (.aload_n 0) 1 136 := ⟨by decide +kernel, rfl⟩
theorem dX9_character_136 : DC cX9_character 136 (.iload_n 1) 1 137 := ⟨by decide +kernel, rfl⟩
theorem dX9_character_137 : DC cX9_character 137 (.invokevirtual 203) 3 140 := ⟨by decide +kernel, rfl⟩
theorem dX9_character_140 : DC cX9_character 140 (.bipush 10) 2 142 := ⟨by decide +kernel, rfl⟩
theorem dX9_character_142 : DC cX9_character 142 (.idiv) 1 143 := ⟨by decide +kernel, rfl⟩
theorem dX9_character_143 : DC cX9_character 143 (.iadd) 1 144 := ⟨by decide +kernel, rfl⟩
theorem dX9_character_144 : DC cX9_character 144 (.ireturn) 1 145 := ⟨by decide +kernel, rfl⟩
theorem dX9_character_145 : DC cX9_character 145 (.iload_n 2) 1 146 := ⟨by decide +kernel, rfl⟩
theorem dX9_character_146 : DC cX9_character 146 (.iload_n 3) 1 147 := ⟨by decide +kernel, rfl⟩
theorem dX9_character_147 : DC cX9_character 147 (.if_icmp .ne 8) 3 150 := ⟨by decide +kernel, rfl⟩
theorem dX9_character_150 : DC cX9_character 150 (.bipush 58) 2 152 := ⟨by decide +kernel, rfl⟩
theorem dX9_character_152 : DC cX9_character 152 (.goto 29) 3 155 := ⟨by decide +kernel, rfl⟩
theorem dX9_character_155 : DC cX9_character 155 (.iload_n 2) 1 156 := ⟨by decide +kernel, rfl⟩
theorem dX9_character_156 : DC cX9_character 156 (.iload 4) 2 158 := ⟨by decide +kernel, rfl⟩
theorem dX9_character_158 : DC cX9_character 158 (.iconst 1) 1 159 := ⟨by decide +kernel, rfl⟩
theorem dX9_character_159 : DC cX9_character 159 (.isub) 1 160 := ⟨by decide +kernel, rfl⟩
theorem dX9_character_160 : DC cX9_character 160 (.if_icmp .ne 8) 3 163 := ⟨by decide +kernel, rfl⟩
theorem dX9_character_163 : DC cX9_character 163 (.bipush 59) 2 165 := ⟨by decide +kernel, rfl⟩
theorem dX9_character_165 : DC cX9_character 165 (.goto 16) 3 168 := ⟨by decide +kernel, rfl⟩
theorem dX9_character_168 : DC cX9_character 168 (.bipush 97) 2 170 := ⟨by decide +kernel, rfl⟩
theorem dX9_character_170 : DC cX9_character 170 (.aload_n 0) 1 171 := ⟨by decide +kernel, rfl⟩
theorem dX9_character_171 : DC cX9_character 171 (.iload_n 1) 1 172 := ⟨by decide +kernel, rfl⟩
theorem dX9_character_172 : DC cX9_character 172 (.iload_n 2) 1 173 := ⟨by decide +kernel, rfl⟩
theorem dX9_character_173 : DC cX9_character 173 (.iload_n 3) 1 174 := ⟨by decide +kernel, rfl⟩
theorem dX9_character_174 : DC cX9_character 174 (.isub) 1 175 := ⟨by decide +kernel, rfl⟩
theorem dX9_character_175 : DC cX9_character 175 (.iconst 1) 1 176 := ⟨by decide +kernel, rfl⟩
theorem dX9_character_176 : DC cX9_character 176 (.isub) 1 177 := ⟨by decide +kernel, rfl⟩
theorem dX9_character_177 : DC cX9_character 177 (.invokevirtual 206) 3 180 := ⟨by decide +kernel, rfl⟩
theorem dX9_character_180 : DC cX9_character 180 (.iadd) 1 181 := ⟨by decide +kernel, rfl⟩
theorem dX9_character_181 : DC cX9_character 181 (.ireturn) 1 182 := ⟨by decide +kernel, rfl⟩
theorem dX9_papers_0 : DC cX9_papers 0 (.iconst 0) 1 1 := ⟨by decide +kernel, rfl⟩
theorem dX9_papers_1 : DC cX9_papers 1 (.istore_n 1) 1 2 := ⟨by decide +kernel, rfl⟩
theorem dX9_papers_2 : DC cX9_papers 2 (.iconst 0) 1 3 := ⟨by decide +kernel, rfl⟩
theorem dX9_papers_3 : DC cX9_papers 3 (.istore_n 2) 1 4 := ⟨by decide +kernel, rfl⟩
theorem dX9_papers_4 : DC cX9_papers 4 (.iload_n 2) 1 5 := ⟨by decide +kernel, rfl⟩
theorem dX9_papers_5 : DC cX9_papers 5 (.aload_n 0) 1 6 := ⟨by decide +kernel, rfl⟩
theorem dX9_papers_6 : DC cX9_papers 6 (.getfield 9) 3 9 := ⟨by decide +kernel, rfl⟩
theorem dX9_papers_9 : DC cX9_papers 9 (.iconst 1) 1 10 := ⟨by decide +kernel, rfl⟩
theorem dX9_papers_10 : DC cX9_papers 10 (.iaload) 1 11 := ⟨by decide +kernel, rfl⟩
theorem dX9_papers_11 : DC cX9_papers 11 (.if_icmp .ge 17) 3 14 := ⟨by decide +kernel, rfl⟩
theorem dX9_papers_14 : DC cX9_papers 14 (.iload_n 1) 1 15 := ⟨by decide +kernel, rfl⟩
theorem dX9_papers_15 : DC cX9_papers 15 (.aload_n 0) 1 16 := ⟨by decide +kernel, rfl⟩
theorem dX9_papers_16 : DC cX9_papers 16 (.iload_n 2) 1 17 := ⟨by decide +kernel, rfl⟩
theorem dX9_papers_17 : DC cX9_papers 17 (.invokevirtual 203) 3 20 := ⟨by decide +kernel, rfl⟩
theorem dX9_papers_20 : DC cX9_papers 20 (.iadd) 1 21 := ⟨by decide +kernel, rfl⟩
theorem dX9_papers_21 : DC cX9_papers 21 (.istore_n 1) 1 22 := ⟨by decide +kernel, rfl⟩
theorem dX9_papers_22 : DC cX9_papers 22 (.iinc 2 1) 3 25 := ⟨by decide +kernel, rfl⟩
theorem dX9_papers_25 : DC cX9_papers 25 (.goto (-21)) 3 28 := ⟨by decide +kernel, rfl⟩
theorem dX9_papers_28 : DC cX9_papers 28 (.iload_n 1) 1 29 := ⟨by decide +kernel, rfl⟩
theorem dX9_papers_29 : DC cX9_papers 29 (.ireturn) 1 30 := ⟨by decide +kernel, rfl⟩
theorem dX9_goOn_0 : DC cX9_goOn 0 (.iload_n 2) 1 1 := ⟨by decide +kernel, rfl⟩
theorem dX9_goOn_1 : DC cX9_goOn 1 (.iconst 1) 1 2 := ⟨by decide +kernel, rfl⟩
theorem dX9_goOn_2 : DC cX9_goOn 2 (.iadd) 1 3 := ⟨by decide +kernel, rfl⟩
theorem dX9_goOn_3 : DC cX9_goOn 3 (.istore 4) 2 5 := ⟨by decide +kernel, rfl⟩
theorem dX9_goOn_5 : DC cX9_goOn 5 (.iload 4) 2 7 := ⟨by decide +kernel, rfl⟩
theorem dX9_goOn_7 : DC cX9_goOn 7 (.aload_n 0) 1 8 := ⟨by decide +kernel, rfl⟩
theorem dX9_goOn_8 : DC cX9_goOn 8 (.iload_n 1) 1 9 := ⟨by decide +kernel, rfl⟩
theorem dX9_goOn_9 : DC cX9_goOn 9 (.invokevirtual 199) 3 12 := ⟨by decide +kernel, rfl⟩
theorem dX9_goOn_12 : DC cX9_goOn 12 (.if_icmp .ge 24) 3 15 := ⟨by decide +kernel, rfl⟩
theorem dX9_goOn_15 : DC cX9_goOn 15 (.aload_n 0) 1 16 := ⟨by decide +kernel, rfl⟩
theorem dX9_goOn_16 : DC cX9_goOn 16 (.getfield 62) 3 19 := ⟨by decide +kernel, rfl⟩
theorem dX9_goOn_19 : DC cX9_goOn 19 (.aload_n 0) 1 20 := ⟨by decide +kernel, rfl⟩
theorem dX9_goOn_20 : DC cX9_goOn 20 (.iload_n 1) 1 21 := ⟨by decide +kernel, rfl⟩
theorem dX9_goOn_21 : DC cX9_goOn 21 (.iload 4) 2 23 := ⟨by decide +kernel, rfl⟩
theorem dX9_goOn_23 : DC cX9_goOn 23 (.invokevirtual 206) 3 26 := ⟨by decide +kernel, rfl⟩
theorem dX9_goOn_26 : DC cX9_goOn 26 (.iaload) 1 27 := ⟨by decide +kernel, rfl⟩
theorem dX9_goOn_27 : DC cX9_goOn 27 (.ifCond .eq 9) 3 30 := ⟨by decide +kernel, rfl⟩
theorem dX9_goOn_30 : DC cX9_goOn 30 (.iinc 4 1) 3 33 := ⟨by decide +kernel, rfl⟩
theorem dX9_goOn_33 : DC cX9_goOn 33 (.goto (-28)) 3 36 := ⟨by decide +kernel, rfl⟩
theorem dX9_goOn_36 : DC cX9_goOn 36 (.aload_n 0) 1 37 := ⟨by decide +kernel, rfl⟩
theorem dX9_goOn_37 : DC cX9_goOn 37 (.getfield 90) 3 40 := ⟨by decide +kernel, rfl⟩
theorem dX9_goOn_40 : DC cX9_goOn 40 (.iload_n 1) 1 41 := ⟨by decide +kernel, rfl⟩
theorem dX9_goOn_41 : DC cX9_goOn 41 (.iload 4) 2 43 := ⟨by decide +kernel, rfl⟩
theorem dX9_goOn_43 : DC cX9_goOn 43 (.iastore) 1 44 := ⟨by decide +kernel, rfl⟩
theorem dX9_goOn_44 : DC cX9_goOn 44 (.aload_n 0) 1 45 := ⟨by decide +kernel, rfl⟩
theorem dX9_goOn_45 : DC cX9_goOn 45 (.getfield 96) 3 48 := ⟨by decide +kernel, rfl⟩
theorem dX9_goOn_48 : DC cX9_goOn 48 (.iload_n 1) 1 49 := ⟨by decide +kernel, rfl⟩
theorem dX9_goOn_49 : DC cX9_goOn 49 (.iload_n 3) 1 50 := ⟨by decide +kernel, rfl⟩
theorem dX9_goOn_50 : DC cX9_goOn 50 (.iastore) 1 51 := ⟨by decide +kernel, rfl⟩
theorem dX9_goOn_51 : DC cX9_goOn 51 (.aload_n 0) 1 52 := ⟨by decide +kernel, rfl⟩
theorem dX9_goOn_52 : DC cX9_goOn 52 (.getfield 87) 3 55 := ⟨by decide +kernel, rfl⟩
theorem dX9_goOn_55 : DC cX9_goOn 55 (.iload_n 1) 1 56 := ⟨by decide +kernel, rfl⟩
theorem dX9_goOn_56 : DC cX9_goOn 56 (.iload 4) 2 58 := ⟨by decide +kernel, rfl⟩
theorem dX9_goOn_58 : DC cX9_goOn 58 (.aload_n 0) 1 59 := ⟨by decide +kernel, rfl⟩
theorem dX9_goOn_59 : DC cX9_goOn 59 (.iload_n 1) 1 60 := ⟨by decide +kernel, rfl⟩
theorem dX9_goOn_60 : DC cX9_goOn 60 (.invokevirtual 199) 3 63 := ⟨by decide +kernel, rfl⟩
theorem dX9_goOn_63 : DC cX9_goOn 63 (.if_icmp .ge 13) 3 66 := ⟨by decide +kernel, rfl⟩
theorem dX9_goOn_66 : DC cX9_goOn 66 (.aload_n 0) 1 67 := ⟨by decide +kernel, rfl⟩
theorem dX9_goOn_67 : DC cX9_goOn 67 (.iload_n 1) 1 68 := ⟨by decide +kernel, rfl⟩
theorem dX9_goOn_68 : DC cX9_goOn 68 (.iload 4) 2 70 := ⟨by decide +kernel, rfl⟩
theorem dX9_goOn_70 : DC cX9_goOn 70 (.invokevirtual 206) 3 73 := ⟨by decide +kernel, rfl⟩
theorem dX9_goOn_73 : DC cX9_goOn 73 (.goto 4) 3 76 := ⟨by decide +kernel, rfl⟩
theorem dX9_goOn_76 : DC cX9_goOn 76 (.iconst (-1)) 1 77 := ⟨by decide +kernel, rfl⟩
theorem dX9_goOn_77 : DC cX9_goOn 77 (.iastore) 1 78 := ⟨by decide +kernel, rfl⟩
theorem dX9_goOn_78 : DC cX9_goOn 78 (.aload_n 0) 1 79 := ⟨by decide +kernel, rfl⟩
theorem dX9_goOn_79 : DC cX9_goOn 79 (.iload_n 1) 1 80 := ⟨by decide +kernel, rfl⟩
theorem dX9_goOn_80 : DC cX9_goOn 80 (.invokevirtual 203) 3 83 := ⟨by decide +kernel, rfl⟩
theorem dX9_goOn_83 : DC cX9_goOn 83 (.aload_n 0) 1 84 := ⟨by decide +kernel, rfl⟩
theorem dX9_goOn_84 : DC cX9_goOn 84 (.getfield 93) 3 87 := ⟨by decide +kernel, rfl⟩
theorem dX9_goOn_87 : DC cX9_goOn 87 (.iload_n 1) 1 88 := ⟨by decide +kernel, rfl⟩
theorem dX9_goOn_88 : DC cX9_goOn 88 (.iaload) 1 89 := ⟨by decide +kernel, rfl⟩
theorem dX9_goOn_89 : DC cX9_goOn 89 (.imul) 1 90 := ⟨by decide +kernel, rfl⟩
theorem dX9_goOn_90 : DC cX9_goOn 90 (.istore 5) 2 92 := ⟨by decide +kernel, rfl⟩
theorem dX9_goOn_92 : DC cX9_goOn 92 (.aload_n 0) 1 93 := ⟨by decide +kernel, rfl⟩
theorem dX9_goOn_93 : DC cX9_goOn 93 (.getfield 87) 3 96 := ⟨by decide +kernel, rfl⟩
theorem dX9_goOn_96 : DC cX9_goOn 96 (.iload_n 1) 1 97 := ⟨by decide +kernel, rfl⟩
theorem dX9_goOn_97 : DC cX9_goOn 97 (.iaload) 1 98 := ⟨by decide +kernel, rfl⟩
theorem dX9_goOn_98 : DC cX9_goOn 98 (.ifCond .lt 22) 3 101 := ⟨by decide +kernel, rfl⟩
theorem dX9_goOn_101 : DC cX9_goOn 101 (.aload_n 0) 1 102 := ⟨by decide +kernel, rfl⟩
theorem dX9_goOn_102 : DC cX9_goOn 102 (.getfield 80) 3 105 := ⟨by decide +kernel, rfl⟩
theorem dX9_goOn_105 : DC cX9_goOn 105 (.aload_n 0) 1 106 := ⟨by decide +kernel, rfl⟩
theorem dX9_goOn_106 : DC cX9_goOn 106 (.getfield 87) 3 109 := ⟨by decide +kernel, rfl⟩
theorem dX9_goOn_109 : DC cX9_goOn 109 (.iload_n 1) 1 110 := ⟨by decide +kernel, rfl⟩
theorem dX9_goOn_110 : DC cX9_goOn 110 (.iaload) 1 111 := ⟨by decide +kernel, rfl⟩
theorem dX9_goOn_111 : DC cX9_goOn 111 (.dup2) 1 112 := ⟨by decide +kernel, rfl⟩
theorem dX9_goOn_112 : DC cX9_goOn 112 (.iaload) 1 113 := ⟨by decide +kernel, rfl⟩
theorem dX9_goOn_113 : DC cX9_goOn 113 (.iload 5) 2 115 := ⟨by decide +kernel, rfl⟩
theorem dX9_goOn_115 : DC cX9_goOn 115 (.iadd) 1 116 := ⟨by decide +kernel, rfl⟩
theorem dX9_goOn_116 : DC cX9_goOn 116 (.iastore) 1 117 := ⟨by decide +kernel, rfl⟩
theorem dX9_goOn_117 : DC cX9_goOn 117 (.goto 14) 3 120 := ⟨by decide +kernel, rfl⟩
theorem dX9_goOn_120 : DC cX9_goOn 120 (.aload_n 0) 1 121 := ⟨by decide +kernel, rfl⟩
theorem dX9_goOn_121 : DC cX9_goOn 121 (.dup) 1 122 := ⟨by decide +kernel, rfl⟩
theorem dX9_goOn_122 : DC cX9_goOn 122 (.getfield 209) 3 125 := ⟨by decide +kernel, rfl⟩
theorem dX9_goOn_125 : DC cX9_goOn 125 (.iload 5) 2 127 := ⟨by decide +kernel, rfl⟩
theorem dX9_goOn_127 : DC cX9_goOn 127 (.iadd) 1 128 := ⟨by decide +kernel, rfl⟩
theorem dX9_goOn_128 : DC cX9_goOn 128 (.putfield 209) 3 131 := ⟨by decide +kernel, rfl⟩
theorem dX9_goOn_131 : DC cX9_goOn 131 (.return_) 1 132 := ⟨by decide +kernel, rfl⟩
theorem dX9_prepare_0 : DC cX9_prepare 0 (.aload_n 0) 1 1 := ⟨by decide +kernel, rfl⟩
theorem dX9_prepare_1 : DC cX9_prepare 1 (.iconst 0) 1 2 := ⟨by decide +kernel, rfl⟩
theorem dX9_prepare_2 : DC cX9_prepare 2 (.putfield 212) 3 5 := ⟨by decide +kernel, rfl⟩
theorem dX9_prepare_5 : DC cX9_prepare 5 (.aload_n 0) 1 6 := ⟨by decide +kernel, rfl⟩
theorem dX9_prepare_6 : DC cX9_prepare 6 (.iconst 0) 1 7 := ⟨by decide +kernel, rfl⟩
theorem dX9_prepare_7 : DC cX9_prepare 7 (.putfield 215) 3 10 := ⟨by decide +kernel, rfl⟩
theorem dX9_prepare_10 : DC cX9_prepare 10 (.aload_n 0) 1 11 := ⟨by decide +kernel, rfl⟩
theorem dX9_prepare_11 : DC cX9_prepare 11 (.iconst 0) 1 12 := ⟨by decide +kernel, rfl⟩
theorem dX9_prepare_12 : DC cX9_prepare 12 (.putfield 209) 3 15 := ⟨by decide +kernel, rfl⟩
theorem dX9_prepare_15 : DC cX9_prepare 15 (.aload_n 0) 1 16 := ⟨by decide +kernel, rfl⟩
theorem dX9_prepare_16 : DC cX9_prepare 16 (.iconst 0) 1 17 := ⟨by decide +kernel, rfl⟩
theorem dX9_prepare_17 : DC cX9_prepare 17 (.putfield 218) 3 20 := ⟨by decide +kernel, rfl⟩
theorem dX9_prepare_20 : DC cX9_prepare 20 (.iconst 0) 1 21 := ⟨by decide +kernel, rfl⟩
theorem dX9_prepare_21 : DC cX9_prepare 21 (.istore_n 1) 1 22 := ⟨by decide +kernel, rfl⟩
theorem dX9_prepare_22 : DC cX9_prepare 22 (.iload_n 1) 1 23 := ⟨by decide +kernel, rfl⟩
theorem dX9_prepare_23 : DC cX9_prepare 23 (.bipush 8) 2 25 := ⟨by decide +kernel, rfl⟩
theorem dX9_prepare_25 : DC cX9_prepare 25 (.if_icmp .ge 80) 3 28 := ⟨by decide +kernel, rfl⟩
theorem dX9_prepare_28 : DC cX9_prepare 28 (.aload_n 0) 1 29 := ⟨by decide +kernel, rfl⟩
theorem dX9_prepare_29 : DC cX9_prepare 29 (.getfield 62) 3 32 := ⟨by decide +kernel, rfl⟩
theorem dX9_prepare_32 : DC cX9_prepare 32 (.iload_n 1) 1 33 := ⟨by decide +kernel, rfl⟩
theorem dX9_prepare_33 : DC cX9_prepare 33 (.iload_n 1) 1 34 := ⟨by decide +kernel, rfl⟩
theorem dX9_prepare_34 : DC cX9_prepare 34 (.aload_n 0) 1 35 := ⟨by decide +kernel, rfl⟩
theorem dX9_prepare_35 : DC cX9_prepare 35 (.getfield 9) 3 38 := ⟨by decide +kernel, rfl⟩
theorem dX9_prepare_38 : DC cX9_prepare 38 (.iconst 0) 1 39 := ⟨by decide +kernel, rfl⟩
theorem dX9_prepare_39 : DC cX9_prepare 39 (.iaload) 1 40 := ⟨by decide +kernel, rfl⟩
theorem dX9_prepare_40 : DC cX9_prepare 40 (.if_icmp .ge 11) 3 43 := ⟨by decide +kernel, rfl⟩
theorem dX9_prepare_43 : DC cX9_prepare 43 (.aload_n 0) 1 44 := ⟨by decide +kernel, rfl⟩
theorem dX9_prepare_44 : DC cX9_prepare 44 (.iload_n 1) 1 45 := ⟨by decide +kernel, rfl⟩
theorem dX9_prepare_45 : DC cX9_prepare 45 (.invokevirtual 196) 3 48 := ⟨by decide +kernel, rfl⟩
theorem dX9_prepare_48 : DC cX9_prepare 48 (.ifCond .eq 7) 3 51 := ⟨by decide +kernel, rfl⟩
theorem dX9_prepare_51 : DC cX9_prepare 51 (.iconst 3) 1 52 := ⟨by decide +kernel, rfl⟩
theorem dX9_prepare_52 : DC cX9_prepare 52 (.goto 4) 3 55 := ⟨by decide +kernel, rfl⟩
theorem dX9_prepare_55 : DC cX9_prepare 55 (.iconst 0) 1 56 := ⟨by decide +kernel, rfl⟩
theorem dX9_prepare_56 : DC cX9_prepare 56 (.iastore) 1 57 := ⟨by decide +kernel, rfl⟩
theorem dX9_prepare_57 : DC cX9_prepare 57 (.aload_n 0) 1 58 := ⟨by decide +kernel, rfl⟩
theorem dX9_prepare_58 : DC cX9_prepare 58 (.getfield 65) 3 61 := ⟨by decide +kernel, rfl⟩
theorem dX9_prepare_61 : DC cX9_prepare 61 (.iload_n 1) 1 62 := ⟨by decide +kernel, rfl⟩
theorem dX9_prepare_62 : DC cX9_prepare 62 (.iconst (-1)) 1 63 := ⟨by decide +kernel, rfl⟩
theorem dX9_prepare_63 : DC cX9_prepare 63 (.iastore) 1 64 := ⟨by decide +kernel, rfl⟩
theorem dX9_prepare_64 : DC cX9_prepare 64 (.aload_n 0) 1 65 := ⟨by decide +kernel, rfl⟩
theorem dX9_prepare_65 : DC cX9_prepare 65 (.getfield 68) 3 68 := ⟨by decide +kernel, rfl⟩
theorem dX9_prepare_68 : DC cX9_prepare 68 (.iload_n 1) 1 69 := ⟨by decide +kernel, rfl⟩
theorem dX9_prepare_69 : DC cX9_prepare 69 (.iconst (-1)) 1 70 := ⟨by decide +kernel, rfl⟩
theorem dX9_prepare_70 : DC cX9_prepare 70 (.iastore) 1 71 := ⟨by decide +kernel, rfl⟩
theorem dX9_prepare_71 : DC cX9_prepare 71 (.aload_n 0) 1 72 := ⟨by decide +kernel, rfl⟩
theorem dX9_prepare_72 : DC cX9_prepare 72 (.getfield 71) 3 75 := ⟨by decide +kernel, rfl⟩
theorem dX9_prepare_75 : DC cX9_prepare 75 (.iload_n 1) 1 76 := ⟨by decide +kernel, rfl⟩
theorem dX9_prepare_76 : DC cX9_prepare 76 (.iconst 0) 1 77 := ⟨by decide +kernel, rfl⟩
theorem dX9_prepare_77 : DC cX9_prepare 77 (.iastore) 1 78 := ⟨by decide +kernel, rfl⟩
theorem dX9_prepare_78 : DC cX9_prepare 78 (.aload_n 0) 1 79 := ⟨by decide +kernel, rfl⟩
theorem dX9_prepare_79 : DC cX9_prepare 79 (.getfield 74) 3 82 := ⟨by decide +kernel, rfl⟩
theorem dX9_prepare_82 : DC cX9_prepare 82 (.iload_n 1) 1 83 := ⟨by decide +kernel, rfl⟩
theorem dX9_prepare_83 : DC cX9_prepare 83 (.iconst (-1)) 1 84 := ⟨by decide +kernel, rfl⟩
theorem dX9_prepare_84 : DC cX9_prepare 84 (.iastore) 1 85 := ⟨by decide +kernel, rfl⟩
theorem dX9_prepare_85 : DC cX9_prepare 85 (.aload_n 0) 1 86 := ⟨by decide +kernel, rfl⟩
theorem dX9_prepare_86 : DC cX9_prepare 86 (.getfield 80) 3 89 := ⟨by decide +kernel, rfl⟩
theorem dX9_prepare_89 : DC cX9_prepare 89 (.iload_n 1) 1 90 := ⟨by decide +kernel, rfl⟩
theorem dX9_prepare_90 : DC cX9_prepare 90 (.iconst 0) 1 91 := ⟨by decide +kernel, rfl⟩
theorem dX9_prepare_91 : DC cX9_prepare 91 (.iastore) 1 92 := ⟨by decide +kernel, rfl⟩
theorem dX9_prepare_92 : DC cX9_prepare 92 (.aload_n 0) 1 93 := ⟨by decide +kernel, rfl⟩
theorem dX9_prepare_93 : DC cX9_prepare 93 (.getfield 83) 3 96 := ⟨by decide +kernel, rfl⟩
theorem dX9_prepare_96 : DC cX9_prepare 96 (.iload_n 1) 1 97 := ⟨by decide +kernel, rfl⟩
theorem dX9_prepare_97 : DC cX9_prepare 97 (.iconst 0) 1 98 := ⟨by decide +kernel, rfl⟩
theorem dX9_prepare_98 : DC cX9_prepare 98 (.bastore) 1 99 := ⟨by decide +kernel, rfl⟩
theorem dX9_prepare_99 : DC cX9_prepare 99 (.iinc 1 1) 3 102 := ⟨by decide +kernel, rfl⟩
theorem dX9_prepare_102 : DC cX9_prepare 102 (.goto (-80)) 3 105 := ⟨by decide +kernel, rfl⟩
theorem dX9_prepare_105 : DC cX9_prepare 105 (.iconst 0) 1 106 := ⟨by decide +kernel, rfl⟩
theorem dX9_prepare_106 : DC cX9_prepare 106 (.istore_n 1) 1 107 := ⟨by decide +kernel, rfl⟩
theorem dX9_prepare_107 : DC cX9_prepare 107 (.iload_n 1) 1 108 := ⟨by decide +kernel, rfl⟩
theorem dX9_prepare_108 : DC cX9_prepare 108 (.aload_n 0) 1 109 := ⟨by decide +kernel, rfl⟩
theorem dX9_prepare_109 : DC cX9_prepare 109 (.getfield 9) 3 112 := ⟨by decide +kernel, rfl⟩
theorem dX9_prepare_112 : DC cX9_prepare 112 (.iconst 1) 1 113 := ⟨by decide +kernel, rfl⟩
theorem dX9_prepare_113 : DC cX9_prepare 113 (.iaload) 1 114 := ⟨by decide +kernel, rfl⟩
theorem dX9_prepare_114 : DC cX9_prepare 114 (.if_icmp .ge 25) 3 117 := ⟨by decide +kernel, rfl⟩
theorem dX9_prepare_117 : DC cX9_prepare 117 (.aload_n 0) 1 118 := ⟨by decide +kernel, rfl⟩
theorem dX9_prepare_118 : DC cX9_prepare 118 (.getfield 93) 3 121 := ⟨by decide +kernel, rfl⟩
theorem dX9_prepare_121 : DC cX9_prepare 121 (.iload_n 1) 1 122 := ⟨by decide +kernel, rfl⟩
theorem dX9_prepare_122 : DC cX9_prepare 122 (.sipush 10000) 3 125 := ⟨by decide +kernel, rfl⟩
theorem dX9_prepare_125 : DC cX9_prepare 125 (.iastore) 1 126 := ⟨by decide +kernel, rfl⟩
theorem dX9_prepare_126 : DC cX9_prepare 126 (.aload_n 0) 1 127 := ⟨by decide +kernel, rfl⟩
theorem dX9_prepare_127 : DC cX9_prepare 127 (.iload_n 1) 1 128 := ⟨by decide +kernel, rfl⟩
theorem dX9_prepare_128 : DC cX9_prepare 128 (.iconst (-1)) 1 129 := ⟨by decide +kernel, rfl⟩
theorem dX9_prepare_129 : DC cX9_prepare 129 (.iconst (-1)) 1 130 := ⟨by decide +kernel, rfl⟩
theorem dX9_prepare_130 : DC cX9_prepare 130 (.invokevirtual 221) 3 133 := ⟨by decide +kernel, rfl⟩
theorem dX9_prepare_133 : DC cX9_prepare 133 (.iinc 1 1) 3 136 := ⟨by decide +kernel, rfl⟩
theorem dX9_prepare_136 : DC cX9_prepare 136 (.goto (-29)) 3 139 := ⟨by decide +kernel, rfl⟩
theorem dX9_prepare_139 : DC cX9_prepare 139 (.return_) 1 140 := ⟨by decide +kernel, rfl⟩
theorem dX9_quota_0 : DC cX9_quota 0 (.aload_n 0) 1 1 := ⟨by decide +kernel, rfl⟩
theorem dX9_quota_1 : DC cX9_quota 1 (.invokevirtual 225) 3 4 := ⟨by decide +kernel, rfl⟩
theorem dX9_quota_4 : DC cX9_quota 4 (.istore_n 1) 1 5 := ⟨by decide +kernel, rfl⟩
theorem dX9_quota_5 : DC cX9_quota 5 (.aload_n 0) 1 6 := ⟨by decide +kernel, rfl⟩
theorem dX9_quota_6 : DC cX9_quota 6 (.getfield 9) 3 9 := ⟨by decide +kernel, rfl⟩
theorem dX9_quota_9 : DC cX9_quota 9 (.bipush 6) 2 11 := ⟨by decide +kernel, rfl⟩
theorem dX9_quota_11 : DC cX9_quota 11 (.iaload) 1 12 := ⟨by decide +kernel, rfl⟩
theorem dX9_quota_12 : DC cX9_quota 12 (.istore_n 2) 1 13 := ⟨by decide +kernel, rfl⟩
theorem dX9_quota_13 : DC cX9_quota 13 (.aload_n 0) 1 14 := ⟨by decide +kernel, rfl⟩
theorem dX9_quota_14 : DC cX9_quota 14 (.getfield 9) 3 17 := ⟨by decide +kernel, rfl⟩
theorem dX9_quota_17 : DC cX9_quota 17 (.iconst 3) 1 18 := ⟨by decide +kernel, rfl⟩
theorem dX9_quota_18 : DC cX9_quota 18 (.iaload) 1 19 := ⟨by decide +kernel, rfl⟩
theorem dX9_quota_19 : DC cX9_quota 19 (.tableswitch 61 0 2 #[25, 37, 49]) 25 44 := ⟨by decide +kernel, rfl⟩
theorem dX9_quota_44 : DC cX9_quota 44 (.iload_n 1) 1 45 := ⟨by decide +kernel, rfl⟩
theorem dX9_quota_45 : DC cX9_quota 45 (.iload_n 2) 1 46 := ⟨by decide +kernel, rfl⟩
theorem dX9_quota_46 : DC cX9_quota 46 (.iconst 1) 1 47 := ⟨by decide +kernel, rfl⟩
theorem dX9_quota_47 : DC cX9_quota 47 (.iadd) 1 48 := ⟨by decide +kernel, rfl⟩
theorem dX9_quota_48 : DC cX9_quota 48 (.idiv) 1 49 := ⟨by decide +kernel, rfl⟩
theorem dX9_quota_49 : DC cX9_quota 49 (.iconst 1) 1 50 := ⟨by decide +kernel, rfl⟩
theorem dX9_quota_50 : DC cX9_quota 50 (.iadd) 1 51 := ⟨by decide +kernel, rfl⟩
theorem dX9_quota_51 : DC cX9_quota 51 (.sipush 10000) 3 54 := ⟨by decide +kernel, rfl⟩
theorem dX9_quota_54 : DC cX9_quota 54 (.imul) 1 55 := ⟨by decide +kernel, rfl⟩
theorem dX9_quota_55 : DC cX9_quota 55 (.ireturn) 1 56 := ⟨by decide +kernel, rfl⟩
theorem dX9_quota_56 : DC cX9_quota 56 (.iload_n 1) 1 57 := ⟨by decide +kernel, rfl⟩
theorem dX9_quota_57 : DC cX9_quota 57 (.iload_n 2) 1 58 := ⟨by decide +kernel, rfl⟩
theorem dX9_quota_58 : DC cX9_quota 58 (.iadd) 1 59 := ⟨by decide +kernel, rfl⟩
theorem dX9_quota_59 : DC cX9_quota 59 (.iconst 1) 1 60 := ⟨by decide +kernel, rfl⟩
theorem dX9_quota_60 : DC cX9_quota 60 (.isub) 1 61 := ⟨by decide +kernel, rfl⟩
theorem dX9_quota_61 : DC cX9_quota 61 (.iload_n 2) 1 62 := ⟨by decide +kernel, rfl⟩
theorem dX9_quota_62 : DC cX9_quota 62 (.idiv) 1 63 := ⟨by decide +kernel, rfl⟩
theorem dX9_quota_63 : DC cX9_quota 63 (.sipush 10000) 3 66 := ⟨by decide +kernel, rfl⟩
theorem dX9_quota_66 : DC cX9_quota 66 (.imul) 1 67 := ⟨by decide +kernel, rfl⟩
theorem dX9_quota_67 : DC cX9_quota 67 (.ireturn) 1 68 := ⟨by decide +kernel, rfl⟩
theorem dX9_quota_68 : DC cX9_quota 68 (.iload_n 1) 1 69 := ⟨by decide +kernel, rfl⟩
theorem dX9_quota_69 : DC cX9_quota 69 (.sipush 10000) 3 72 := ⟨by decide +kernel, rfl⟩
theorem dX9_quota_72 : DC cX9_quota 72 (.imul) 1 73 := ⟨by decide +kernel, rfl⟩
theorem dX9_quota_73 : DC cX9_quota 73 (.iload_n 2) 1 74 := ⟨by decide +kernel, rfl⟩
theorem dX9_quota_74 : DC cX9_quota 74 (.iconst 1) 1 75 := ⟨by decide +kernel, rfl⟩
theorem dX9_quota_75 : DC cX9_quota 75 (.iadd) 1 76 := ⟨by decide +kernel, rfl⟩
theorem dX9_quota_76 : DC cX9_quota 76 (.idiv) 1 77 := ⟨by decide +kernel, rfl⟩
theorem dX9_quota_77 : DC cX9_quota 77 (.iconst 1) 1 78 := ⟨by decide +kernel, rfl⟩
theorem dX9_quota_78 : DC cX9_quota 78 (.iadd) 1 79 := ⟨by decide +kernel, rfl⟩
theorem dX9_quota_79 : DC cX9_quota 79 (.ireturn) 1 80 := ⟨by decide +kernel, rfl⟩
theorem dX9_quota_80 : DC cX9_quota 80 (.iload_n 1) 1 81 := ⟨by decide +kernel, rfl⟩
theorem dX9_quota_81 : DC cX9_quota 81 (.sipush 10000) 3 84 := ⟨by decide +kernel, rfl⟩
theorem dX9_quota_84 : DC cX9_quota 84 (.imul) 1 85 := ⟨by decide +kernel, rfl⟩
theorem dX9_quota_85 : DC cX9_quota 85 (.aload_n 0) 1 86 := ⟨by decide +kernel, rfl⟩
theorem dX9_quota_86 : DC cX9_quota 86 (.getfield 209) 3 89 := ⟨by decide +kernel, rfl⟩
theorem dX9_quota_89 : DC cX9_quota 89 (.isub) 1 90 := ⟨by decide +kernel, rfl⟩
theorem dX9_quota_90 : DC cX9_quota 90 (.aload_n 0) 1 91 := ⟨by decide +kernel, rfl⟩
theorem dX9_quota_91 : DC cX9_quota 91 (.getfield 218) 3 94 := ⟨by decide +kernel, rfl⟩
theorem dX9_quota_94 : DC cX9_quota 94 (.isub) 1 95 := ⟨by decide +kernel, rfl⟩
theorem dX9_quota_95 : DC cX9_quota 95 (.iload_n 2) 1 96 := ⟨by decide +kernel, rfl⟩
theorem dX9_quota_96 : DC cX9_quota 96 (.iconst 1) 1 97 := ⟨by decide +kernel, rfl⟩
theorem dX9_quota_97 : DC cX9_quota 97 (.iadd) 1 98 := ⟨by decide +kernel, rfl⟩
theorem dX9_quota_98 : DC cX9_quota 98 (.idiv) 1 99 := ⟨by decide +kernel, rfl⟩
theorem dX9_quota_99 : DC cX9_quota 99 (.iconst 1) 1 100 := ⟨by decide +kernel, rfl⟩
theorem dX9_quota_100 : DC cX9_quota 100 (.iadd) 1 101 := ⟨by decide +kernel, rfl⟩
theorem dX9_quota_101 : DC cX9_quota 101 (.ireturn) 1 102 := ⟨by decide +kernel, rfl⟩
theorem dX9_note_0 : DC cX9_note 0 (.aload_n 0) 1 1 := ⟨by decide +kernel, rfl⟩
theorem dX9_note_1 : DC cX9_note 1 (.getfield 35) 3 4 := ⟨by decide +kernel, rfl⟩
theorem dX9_note_4 : DC cX9_note 4 (.aload_n 0) 1 5 := ⟨by decide +kernel, rfl⟩
theorem dX9_note_5 : DC cX9_note 5 (.getfield 212) 3 8 := ⟨by decide +kernel, rfl⟩
theorem dX9_note_8 : DC cX9_note 8 (.aload_n 0) 1 9 := ⟨by decide +kernel, rfl⟩
theorem dX9_note_9 : DC cX9_note 9 (.invokevirtual 228) 3 12 := ⟨by decide +kernel, rfl⟩
theorem dX9_note_12 : DC cX9_note 12 (.iastore) 1 13 := ⟨by decide +kernel, rfl⟩
theorem dX9_note_13 : DC cX9_note 13 (.aload_n 0) 1 14 := ⟨by decide +kernel, rfl⟩
theorem dX9_note_14 : DC cX9_note 14 (.getfield 38) 3 17 := ⟨by decide +kernel, rfl⟩
theorem dX9_note_17 : DC cX9_note 17 (.aload_n 0) 1 18 := ⟨by decide +kernel, rfl⟩
theorem dX9_note_18 : DC cX9_note 18 (.getfield 212) 3 21 := ⟨by decide +kernel, rfl⟩
theorem dX9_note_21 : DC cX9_note 21 (.aload_n 0) 1 22 := ⟨by decide +kernel, rfl⟩
theorem dX9_note_22 : DC cX9_note 22 (.getfield 209) 3 25 := ⟨by decide +kernel, rfl⟩
theorem dX9_note_25 : DC cX9_note 25 (.iastore) 1 26 := ⟨by decide +kernel, rfl⟩
theorem dX9_note_26 : DC cX9_note 26 (.aload_n 0) 1 27 := ⟨by decide +kernel, rfl⟩
theorem dX9_note_27 : DC cX9_note 27 (.getfield 41) 3 30 := ⟨by decide +kernel, rfl⟩
theorem dX9_note_30 : DC cX9_note 30 (.aload_n 0) 1 31 := ⟨by decide +kernel, rfl⟩
theorem dX9_note_31 : DC cX9_note 31 (.getfield 212) 3 34 := ⟨by decide +kernel, rfl⟩
theorem dX9_note_34 : DC cX9_note 34 (.aload_n 0) 1 35 := ⟨by decide +kernel, rfl⟩
theorem dX9_note_35 : DC cX9_note 35 (.getfield 218) 3 38 := ⟨by decide +kernel, rfl⟩
theorem dX9_note_38 : DC cX9_note 38 (.iastore) 1 39 := ⟨by decide +kernel, rfl⟩
theorem dX9_note_39 : DC cX9_note 39 (.aload_n 0) 1 40 := ⟨by decide +kernel, rfl⟩
theorem dX9_note_40 : DC cX9_note 40 (.getfield 44) 3 43 := ⟨by decide +kernel, rfl⟩
theorem dX9_note_43 : DC cX9_note 43 (.aload_n 0) 1 44 := ⟨by decide +kernel, rfl⟩
theorem dX9_note_44 : DC cX9_note 44 (.getfield 212) 3 47 := ⟨by decide +kernel, rfl⟩
theorem dX9_note_47 : DC cX9_note 47 (.iconst 0) 1 48 := ⟨by decide +kernel, rfl⟩
theorem dX9_note_48 : DC cX9_note 48 (.iastore) 1 49 := ⟨by decide +kernel, rfl⟩
theorem dX9_note_49 : DC cX9_note 49 (.aload_n 0) 1 50 := ⟨by decide +kernel, rfl⟩
theorem dX9_note_50 : DC cX9_note 50 (.getfield 47) 3 53 := ⟨by decide +kernel, rfl⟩
theorem dX9_note_53 : DC cX9_note 53 (.aload_n 0) 1 54 := ⟨by decide +kernel, rfl⟩
theorem dX9_note_54 : DC cX9_note 54 (.getfield 212) 3 57 := ⟨by decide +kernel, rfl⟩
theorem dX9_note_57 : DC cX9_note 57 (.iconst (-1)) 1 58 := ⟨by decide +kernel, rfl⟩
theorem dX9_note_58 : DC cX9_note 58 (.iastore) 1 59 := ⟨by decide +kernel, rfl⟩
theorem dX9_note_59 : DC cX9_note 59 (.aload_n 0) 1 60 := ⟨by decide +kernel, rfl⟩
theorem dX9_note_60 : DC cX9_note 60 (.getfield 50) 3 63 := ⟨by decide +kernel, rfl⟩
theorem dX9_note_63 : DC cX9_note 63 (.aload_n 0) 1 64 := ⟨by decide +kernel, rfl⟩
theorem dX9_note_64 : DC cX9_note 64 (.getfield 212) 3 67 := ⟨by decide +kernel, rfl⟩
theorem dX9_note_67 : DC cX9_note 67 (.iconst 0) 1 68 := ⟨by decide +kernel, rfl⟩
theorem dX9_note_68 : DC cX9_note 68 (.iastore) 1 69 := ⟨by decide +kernel, rfl⟩
theorem dX9_note_69 : DC cX9_note 69 (.aload_n 0) 1 70 := ⟨by decide +kernel, rfl⟩
theorem dX9_note_70 : DC cX9_note 70 (.getfield 53) 3 73 := ⟨by decide +kernel, rfl⟩
theorem dX9_note_73 : DC cX9_note 73 (.aload_n 0) 1 74 := ⟨by decide +kernel, rfl⟩
theorem dX9_note_74 : DC cX9_note 74 (.getfield 212) 3 77 := ⟨by decide +kernel, rfl⟩
theorem dX9_note_77 : DC cX9_note 77 (.iconst 0) 1 78 := ⟨by decide +kernel, rfl⟩
theorem dX9_note_78 : DC cX9_note 78 (.iastore) 1 79 := ⟨by decide +kernel, rfl⟩
theorem dX9_note_79 : DC cX9_note 79 (.aload_n 0) 1 80 := ⟨by decide +kernel, rfl⟩
theorem dX9_note_80 : DC cX9_note 80 (.getfield 80) 3 83 := ⟨by decide +kernel, rfl⟩
theorem dX9_note_83 : DC cX9_note 83 (.iconst 0) 1 84 := ⟨by decide +kernel, rfl⟩
theorem dX9_note_84 : DC cX9_note 84 (.aload_n 0) 1 85 := ⟨by decide +kernel, rfl⟩
theorem dX9_note_85 : DC cX9_note 85 (.getfield 32) 3 88 := ⟨by decide +kernel, rfl⟩
theorem dX9_note_88 : DC cX9_note 88 (.bipush 8) 2 90 := ⟨by decide +kernel, rfl⟩
theorem dX9_note_90 : DC cX9_note 90 (.aload_n 0) 1 91 := ⟨by decide +kernel, rfl⟩
theorem dX9_note_91 : DC cX9_note 91 (.getfield 212) 3 94 := ⟨by decide +kernel, rfl⟩
theorem dX9_note_94 : DC cX9_note 94 (.imul) 1 95 := ⟨by decide +kernel, rfl⟩
theorem dX9_note_95 : DC cX9_note 95 (.bipush 8) 2 97 := ⟨by decide +kernel, rfl⟩
theorem dX9_note_97 : DC cX9_note 97 (.invokestatic 136) 3 100 := ⟨by decide +kernel, rfl⟩
theorem dX9_note_100 : DC cX9_note 100 (.aload_n 0) 1 101 := ⟨by decide +kernel, rfl⟩
theorem dX9_note_101 : DC cX9_note 101 (.getfield 87) 3 104 := ⟨by decide +kernel, rfl⟩
theorem dX9_note_104 : DC cX9_note 104 (.iconst 0) 1 105 := ⟨by decide +kernel, rfl⟩
theorem dX9_note_105 : DC cX9_note 105 (.aload_n 0) 1 106 := ⟨by decide +kernel, rfl⟩
theorem dX9_note_106 : DC cX9_note 106 (.getfield 56) 3 109 := ⟨by decide +kernel, rfl⟩
theorem dX9_note_109 : DC cX9_note 109 (.bipush 25) 2 111 := ⟨by decide +kernel, rfl⟩
theorem dX9_note_111 : DC cX9_note 111 (.aload_n 0) 1 112 := ⟨by decide +kernel, rfl⟩
theorem dX9_note_112 : DC cX9_note 112 (.getfield 212) 3 115 := ⟨by decide +kernel, rfl⟩
theorem dX9_note_115 : DC cX9_note 115 (.imul) 1 116 := ⟨by decide +kernel, rfl⟩
theorem dX9_note_116 : DC cX9_note 116 (.bipush 25) 2 118 := ⟨by decide +kernel, rfl⟩
theorem dX9_note_118 : DC cX9_note 118 (.invokestatic 136) 3 121 := ⟨by decide +kernel, rfl⟩
theorem dX9_note_121 : DC cX9_note 121 (.aload_n 0) 1 122 := ⟨by decide +kernel, rfl⟩
theorem dX9_note_122 : DC cX9_note 122 (.getfield 93) 3 125 := ⟨by decide +kernel, rfl⟩
theorem dX9_note_125 : DC cX9_note 125 (.iconst 0) 1 126 := ⟨by decide +kernel, rfl⟩
theorem dX9_note_126 : DC cX9_note 126 (.aload_n 0) 1 127 := ⟨by decide +kernel, rfl⟩
theorem dX9_note_127 : DC cX9_note 127 (.getfield 59) 3 130 := ⟨by decide +kernel, rfl⟩
theorem dX9_note_130 : DC cX9_note 130 (.bipush 25) 2 132 := ⟨by decide +kernel, rfl⟩
theorem dX9_note_132 : DC cX9_note 132 (.aload_n 0) 1 133 := ⟨by decide +kernel, rfl⟩
theorem dX9_note_133 : DC cX9_note 133 (.getfield 212) 3 136 := ⟨by decide +kernel, rfl⟩
theorem dX9_note_136 : DC cX9_note 136 (.imul) 1 137 := ⟨by decide +kernel, rfl⟩
theorem dX9_note_137 : DC cX9_note 137 (.bipush 25) 2 139 := ⟨by decide +kernel, rfl⟩
theorem dX9_note_139 : DC cX9_note 139 (.invokestatic 136) 3 142 := ⟨by decide +kernel, rfl⟩
theorem dX9_note_142 : DC cX9_note 142 (.return_) 1 143 := ⟨by decide +kernel, rfl⟩
theorem dX9_votesIn_0 : DC cX9_votesIn 0 (.aload_n 0) 1 1 := ⟨by decide +kernel, rfl⟩
theorem dX9_votesIn_1 : DC cX9_votesIn 1 (.getfield 32) 3 4 := ⟨by decide +kernel, rfl⟩
theorem dX9_votesIn_4 : DC cX9_votesIn 4 (.bipush 8) 2 6 := ⟨by decide +kernel, rfl⟩
theorem dX9_votesIn_6 : DC cX9_votesIn 6 (.iload_n 1) 1 7 := ⟨by decide +kernel, rfl⟩
theorem dX9_votesIn_7 : DC cX9_votesIn 7 (.imul) 1 8 := ⟨by decide +kernel, rfl⟩
theorem dX9_votesIn_8 : DC cX9_votesIn 8 (.iload_n 2) 1 9 := ⟨by decide +kernel, rfl⟩
theorem dX9_votesIn_9 : DC cX9_votesIn 9 (.iadd) 1 10 := ⟨by decide +kernel, rfl⟩
theorem dX9_votesIn_10 : DC cX9_votesIn 10 (.iaload) 1 11 := ⟨by decide +kernel, rfl⟩
theorem dX9_votesIn_11 : DC cX9_votesIn 11 (.ireturn) 1 12 := ⟨by decide +kernel, rfl⟩
theorem dX9_foremost_0 : DC cX9_foremost 0 (.iconst 0) 1 1 := ⟨by decide +kernel, rfl⟩
theorem dX9_foremost_1 : DC cX9_foremost 1 (.istore 4) 2 3 := ⟨by decide +kernel, rfl⟩
theorem dX9_foremost_3 : DC cX9_foremost 3 (.iconst 0) 1 4 := ⟨by decide +kernel, rfl⟩
theorem dX9_foremost_4 : DC cX9_foremost 4 (.istore 5) 2 6 := ⟨by decide +kernel, rfl⟩
theorem dX9_foremost_6 : DC cX9_foremost 6 (.iconst 0) 1 7 := ⟨by decide +kernel, rfl⟩
theorem dX9_foremost_7 : DC cX9_foremost 7 (.istore 6) 2 9 := ⟨by decide +kernel, rfl⟩
theorem dX9_foremost_9 : DC cX9_foremost 9 (.iload 6) 2 11 := ⟨by decide +kernel, rfl⟩
theorem dX9_foremost_11 : DC cX9_foremost 11 (.aload_n 0) 1 12 := ⟨by decide +kernel, rfl⟩
theorem dX9_foremost_12 : DC cX9_foremost 12 (.getfield 9) 3 15 := ⟨by decide +kernel, rfl⟩
theorem dX9_foremost_15 : DC cX9_foremost 15 (.iconst 0) 1 16 := ⟨by decide +kernel, rfl⟩
theorem dX9_foremost_16 : DC cX9_foremost 16 (.iaload) 1 17 := ⟨by decide +kernel, rfl⟩
theorem dX9_foremost_17 : DC cX9_foremost 17 (.if_icmp .ge 108) 3 20 := ⟨by decide +kernel, rfl⟩
theorem dX9_foremost_20 : DC cX9_foremost 20 (.iload_n 1) 1 21 := ⟨by decide +kernel, rfl⟩
theorem dX9_foremost_21 : DC cX9_foremost 21 (.iload 6) 2 23 := ⟨by decide +kernel, rfl⟩
theorem dX9_foremost_23 : DC cX9_foremost 23 (.ishr) 1 24 := ⟨by decide +kernel, rfl⟩
theorem dX9_foremost_24 : DC cX9_foremost 24 (.iconst 1) 1 25 := ⟨by decide +kernel, rfl⟩
theorem dX9_foremost_25 : DC cX9_foremost 25 (.iand) 1 26 := ⟨by decide +kernel, rfl⟩
theorem dX9_foremost_26 : DC cX9_foremost 26 (.iconst 1) 1 27 := ⟨by decide +kernel, rfl⟩
theorem dX9_foremost_27 : DC cX9_foremost 27 (.if_icmp .ne 92) 3 30 := ⟨by decide +kernel, rfl⟩
theorem dX9_foremost_30 : DC cX9_foremost 30 (.aload_n 0) 1 31 := ⟨by decide +kernel, rfl⟩
theorem dX9_foremost_31 : DC cX9_foremost 31 (.iload_n 2) 1 32 := ⟨by decide +kernel, rfl⟩
theorem dX9_foremost_32 : DC cX9_foremost 32 (.iload 6) 2 34 := ⟨by decide +kernel, rfl⟩
theorem dX9_foremost_34 : DC cX9_foremost 34 (.invokevirtual 231) 3 37 := ⟨by decide +kernel, rfl⟩
theorem dX9_foremost_37 : DC cX9_foremost 37 (.istore 7) 2 39 := ⟨by decide +kernel, rfl⟩
theorem dX9_foremost_39 : DC cX9_foremost 39 (.iload 4) 2 41 := ⟨by decide +kernel, rfl⟩
theorem dX9_foremost_41 : DC cX9_foremost 41 (.ifCond .eq 24) 3 44 := ⟨by decide +kernel, rfl⟩
theorem dX9_foremost_44 : DC cX9_foremost 44 (.iload_n 3) 1 45 := ⟨by decide +kernel, rfl⟩
theorem dX9_foremost_45 : DC cX9_foremost 45 (.ifCond .eq 13) 3 48 := ⟨by decide +kernel, rfl⟩
theorem dX9_foremost_48 : DC cX9_foremost 48 (.iload 7) 2 50 := ⟨by decide +kernel, rfl⟩
theorem dX9_foremost_50 : DC cX9_foremost 50 (.iload 5) 2 52 := ⟨by decide +kernel, rfl⟩
theorem dX9_foremost_52 : DC cX9_foremost 52 (.if_icmp .le 17) 3 55 := ⟨by decide +kernel, rfl⟩
theorem dX9_foremost_55 : DC cX9_foremost 55 (.goto 10) 3 58 := ⟨by decide +kernel, rfl⟩
theorem dX9_foremost_58 : DC cX9_foremost 58 (.iload 7) 2 60 := ⟨by decide +kernel, rfl⟩
theorem dX9_foremost_60 : DC cX9_foremost 60 (.iload 5) 2 62 := ⟨by decide +kernel, rfl⟩
theorem dX9_foremost_62 : DC cX9_foremost 62 (.if_icmp .ge 7) 3 65 := ⟨by decide +kernel, rfl⟩
theorem dX9_foremost_65 : DC cX9_foremost 65 (.iconst 1) 1 66 := ⟨by decide +kernel, rfl⟩
theorem dX9_foremost_66 : DC cX9_foremost 66 (.goto 4) 3 69 := ⟨by decide +kernel, rfl⟩
theorem dX9_foremost_69 : DC cX9_foremost 69 (.iconst 0) 1 70 := ⟨by decide +kernel, rfl⟩
theorem dX9_foremost_70 : DC cX9_foremost 70 (.istore 8) 2 72 := ⟨by decide +kernel, rfl⟩
theorem dX9_foremost_72 : DC cX9_foremost 72 (.iload 8) 2 74 := ⟨by decide +kernel, rfl⟩
theorem dX9_foremost_74 : DC cX9_foremost 74 (.ifCond .eq 10) 3 77 := ⟨by decide +kernel, rfl⟩
theorem dX9_foremost_77 : DC cX9_foremost 77 (.iconst 1) 1 78 := ⟨by decide +kernel, rfl⟩
theorem dX9_foremost_78 : DC cX9_foremost 78 (.iload 6) 2 80 := ⟨by decide +kernel, rfl⟩
theorem dX9_foremost_80 : DC cX9_foremost 80 (.ishl) 1 81 := ⟨by decide +kernel, rfl⟩
theorem dX9_foremost_81 : DC cX9_foremost 81 (.goto 22) 3 84 := ⟨by decide +kernel, rfl⟩
theorem dX9_foremost_84 : DC cX9_foremost 84 (.iload 7) 2 86 := ⟨by decide +kernel, rfl⟩
theorem dX9_foremost_86 : DC cX9_foremost 86 (.iload 5) 2 88 := ⟨by decide +kernel, rfl⟩
theorem dX9_foremost_88 : DC cX9_foremost 88 (.if_icmp .ne 13) 3 91 := ⟨by decide +kernel, rfl⟩
theorem dX9_foremost_91 : DC cX9_foremost 91 (.iload 4) 2 93 := ⟨by decide +kernel, rfl⟩
theorem dX9_foremost_93 : DC cX9_foremost 93 (.iconst 1) 1 94 := ⟨by decide +kernel, rfl⟩
theorem dX9_foremost_94 : DC cX9_foremost 94 (.iload 6) 2 96 := ⟨by decide +kernel, rfl⟩
theorem dX9_foremost_96 : DC cX9_foremost 96 (.ishl) 1 97 := ⟨by decide +kernel, rfl⟩
theorem dX9_foremost_97 : DC cX9_foremost 97 (.ior) 1 98 := ⟨by decide +kernel, rfl⟩
theorem dX9_foremost_98 : DC cX9_foremost 98 (.goto 5) 3 101 := ⟨by decide +kernel, rfl⟩
theorem dX9_foremost_101 : DC cX9_foremost 101 (.iload 4) 2 103 := ⟨by decide +kernel, rfl⟩
theorem dX9_foremost_103 : DC cX9_foremost 103 (.istore 4) 2 105 := ⟨by decide +kernel, rfl⟩
theorem dX9_foremost_105 : DC cX9_foremost 105 (.iload 8) 2 107 := ⟨by decide +kernel, rfl⟩
theorem dX9_foremost_107 : DC cX9_foremost 107 (.ifCond .eq 8) 3 110 := ⟨by decide +kernel, rfl⟩
theorem dX9_foremost_110 : DC cX9_foremost 110 (.iload 7) 2 112 := ⟨by decide +kernel, rfl⟩
theorem dX9_foremost_112 : DC cX9_foremost 112 (.goto 5) 3 115 := ⟨by decide +kernel, rfl⟩
theorem dX9_foremost_115 : DC cX9_foremost 115 (.iload 5) 2 117 := ⟨by decide +kernel, rfl⟩
theorem dX9_foremost_117 : DC cX9_foremost 117 (.istore 5) 2 119 := ⟨by decide +kernel, rfl⟩
theorem dX9_foremost_119 : DC cX9_foremost 119 (.iinc 6 1) 3 122 := ⟨by decide +kernel, rfl⟩
theorem dX9_foremost_122 : DC cX9_foremost 122 (.goto (-113)) 3 125 := ⟨by decide +kernel, rfl⟩
theorem dX9_foremost_125 : DC cX9_foremost 125 (.iload 4) 2 127 := ⟨by decide +kernel, rfl⟩
theorem dX9_foremost_127 : DC cX9_foremost 127 (.ireturn) 1 128 := ⟨by decide +kernel, rfl⟩
theorem dX9_isOne_0 : DC cX9_isOne 0 (.iload_n 0) 1 1 := ⟨by decide +kernel, rfl⟩
theorem dX9_isOne_1 : DC cX9_isOne 1 (.iload_n 0) 1 2 := ⟨by decide +kernel, rfl⟩
theorem dX9_isOne_2 : DC cX9_isOne 2 (.iconst 1) 1 3 := ⟨by decide +kernel, rfl⟩
theorem dX9_isOne_3 : DC cX9_isOne 3 (.isub) 1 4 := ⟨by decide +kernel, rfl⟩
theorem dX9_isOne_4 : DC cX9_isOne 4 (.iand) 1 5 := ⟨by decide +kernel, rfl⟩
theorem dX9_isOne_5 : DC cX9_isOne 5 (.ifCond .ne 7) 3 8 := ⟨by decide +kernel, rfl⟩
theorem dX9_isOne_8 : DC cX9_isOne 8 (.iconst 1) 1 9 := ⟨by decide +kernel, rfl⟩
theorem dX9_isOne_9 : DC cX9_isOne 9 (.goto 4) 3 12 := ⟨by decide +kernel, rfl⟩
theorem dX9_isOne_12 : DC cX9_isOne 12 (.iconst 0) 1 13 := ⟨by decide +kernel, rfl⟩
theorem dX9_isOne_13 : DC cX9_isOne 13 (.ireturn) 1 14 := ⟨by decide +kernel, rfl⟩
theorem dX9_look_0 : DC cX9_look 0 (.aload_n 0) 1 1 := ⟨by decide +kernel, rfl⟩
theorem dX9_look_1 : DC cX9_look 1 (.iload_n 1) 1 2 := ⟨by decide +kernel, rfl⟩
theorem dX9_look_2 : DC cX9_look 2 (.aload_n 0) 1 3 := ⟨by decide +kernel, rfl⟩
theorem dX9_look_3 : DC cX9_look 3 (.getfield 212) 3 6 := ⟨by decide +kernel, rfl⟩
theorem dX9_look_6 : DC cX9_look 6 (.iload_n 2) 1 7 := ⟨by decide +kernel, rfl⟩
theorem dX9_look_7 : DC cX9_look 7 (.invokevirtual 234) 3 10 := ⟨by decide +kernel, rfl⟩
theorem dX9_look_10 : DC cX9_look 10 (.istore_n 3) 1 11 := ⟨by decide +kernel, rfl⟩
theorem dX9_look_11 : DC cX9_look 11 (.aload_n 0) 1 12 := ⟨by decide +kernel, rfl⟩
theorem dX9_look_12 : DC cX9_look 12 (.getfield 9) 3 15 := ⟨by decide +kernel, rfl⟩
theorem dX9_look_15 : DC cX9_look 15 (.iconst 5) 1 16 := ⟨by decide +kernel, rfl⟩
theorem dX9_look_16 : DC cX9_look 16 (.iaload) 1 17 := ⟨by decide +kernel, rfl⟩
theorem dX9_look_17 : DC cX9_look 17 (.ifCond .ne 7) 3 20 := ⟨by decide +kernel, rfl⟩
theorem dX9_look_20 : DC cX9_look 20 (.iconst 1) 1 21 := ⟨by decide +kernel, rfl⟩
theorem dX9_look_21 : DC cX9_look 21 (.goto 4) 3 24 := ⟨by decide +kernel, rfl⟩
theorem dX9_look_24 : DC cX9_look 24 (.iconst 0) 1 25 := ⟨by decide +kernel, rfl⟩
theorem dX9_look_25 : DC cX9_look 25 (.istore 4) 2 27 := ⟨by decide +kernel, rfl⟩
theorem dX9_look_27 : DC cX9_look 27 (.aload_n 0) 1 28 := ⟨by decide +kernel, rfl⟩
theorem dX9_look_28 : DC cX9_look 28 (.iconst (-1)) 1 29 := ⟨by decide +kernel, rfl⟩
theorem dX9_look_29 : DC cX9_look 29 (.putfield 238) 3 32 := ⟨by decide +kernel, rfl⟩
theorem dX9_look_32 : DC cX9_look 32 (.aload_n 0) 1 33 := ⟨by decide +kernel, rfl⟩
theorem dX9_look_33 : DC cX9_look 33 (.iconst 0) 1 34 := ⟨by decide +kernel, rfl⟩
theorem dX9_look_34 : DC cX9_look 34 (.putfield 241) 3 37 := ⟨by decide +kernel, rfl⟩
theorem dX9_look_37 : DC cX9_look 37 (.iconst 0) 1 38 := ⟨by decide +kernel, rfl⟩
theorem dX9_look_38 : DC cX9_look 38 (.istore 5) 2 40 := ⟨by decide +kernel, rfl⟩
theorem dX9_look_40 : DC cX9_look 40 (.iload 5) 2 42 := ⟨by decide +kernel, rfl⟩
theorem dX9_look_42 : DC cX9_look 42 (.aload_n 0) 1 43 := ⟨by decide +kernel, rfl⟩
theorem dX9_look_43 : DC cX9_look 43 (.getfield 212) 3 46 := ⟨by decide +kernel, rfl⟩
theorem dX9_look_46 : DC cX9_look 46 (.if_icmp .ge 69) 3 49 := ⟨by decide +kernel, rfl⟩
theorem dX9_look_49 : DC cX9_look 49 (.iload_n 3) 1 50 := ⟨by decide +kernel, rfl⟩
theorem dX9_look_50 : DC cX9_look 50 (.invokestatic 244) 3 53 := ⟨by decide +kernel, rfl⟩
theorem dX9_look_53 : DC cX9_look 53 (.ifCond .ne 62) 3 56 := ⟨by decide +kernel, rfl⟩
theorem dX9_look_56 : DC cX9_look 56 (.iload 4) 2 58 := ⟨by decide +kernel, rfl⟩
theorem dX9_look_58 : DC cX9_look 58 (.ifCond .eq 15) 3 61 := ⟨by decide +kernel, rfl⟩
theorem dX9_look_61 : DC cX9_look 61 (.aload_n 0) 1 62 := ⟨by decide +kernel, rfl⟩
theorem dX9_look_62 : DC cX9_look 62 (.getfield 212) 3 65 := ⟨by decide +kernel, rfl⟩
theorem dX9_look_65 : DC cX9_look 65 (.iconst 1) 1 66 := ⟨by decide +kernel, rfl⟩
theorem dX9_look_66 : DC cX9_look 66 (.isub) 1 67 := ⟨by decide +kernel, rfl⟩
theorem dX9_look_67 : DC cX9_look 67 (.iload 5) 2 69 := ⟨by decide +kernel, rfl⟩
theorem dX9_look_69 : DC cX9_look 69 (.isub) 1 70 := ⟨by decide +kernel, rfl⟩
theorem dX9_look_70 : DC cX9_look 70 (.goto 5) 3 73 := ⟨by decide +kernel, rfl⟩
theorem dX9_look_73 : DC cX9_look 73 (.iload 5) 2 75 := ⟨by decide +kernel, rfl⟩
theorem dX9_look_75 : DC cX9_look 75 (.istore 6) 2 77 := ⟨by decide +kernel, rfl⟩
theorem dX9_look_77 : DC cX9_look 77 (.aload_n 0) 1 78 := ⟨by decide +kernel, rfl⟩
theorem dX9_look_78 : DC cX9_look 78 (.iload_n 3) 1 79 := ⟨by decide +kernel, rfl⟩
theorem dX9_look_79 : DC cX9_look 79 (.iload 6) 2 81 := ⟨by decide +kernel, rfl⟩
theorem dX9_look_81 : DC cX9_look 81 (.iload_n 2) 1 82 := ⟨by decide +kernel, rfl⟩
theorem dX9_look_82 : DC cX9_look 82 (.invokevirtual 234) 3 85 := ⟨by decide +kernel, rfl⟩
theorem dX9_look_85 : DC cX9_look 85 (.istore 7) 2 87 := ⟨by decide +kernel, rfl⟩
theorem dX9_look_87 : DC cX9_look 87 (.aload_n 0) 1 88 := ⟨by decide +kernel, rfl⟩
theorem dX9_look_88 : DC cX9_look 88 (.iload 7) 2 90 := ⟨by decide +kernel, rfl⟩
theorem dX9_look_90 : DC cX9_look 90 (.iload_n 3) 1 91 := ⟨by decide +kernel, rfl⟩
theorem dX9_look_91 : DC cX9_look 91 (.if_icmp .eq 8) 3 94 := ⟨by decide +kernel, rfl⟩
theorem dX9_look_94 : DC cX9_look 94 (.iload 6) 2 96 := ⟨by decide +kernel, rfl⟩
theorem dX9_look_96 : DC cX9_look 96 (.goto 7) 3 99 := ⟨by decide +kernel, rfl⟩
theorem dX9_look_99 : DC cX9_look 99 (.aload_n 0) 1 100 := ⟨by decide +kernel, rfl⟩
theorem dX9_look_100 : DC cX9_look 100 (.getfield 238) 3 103 := ⟨by decide +kernel, rfl⟩
theorem dX9_look_103 : DC cX9_look 103 (.putfield 238) 3 106 := ⟨by decide +kernel, rfl⟩
theorem dX9_look_106 : DC cX9_look 106 (.iload 7) 2 108 := ⟨by decide +kernel, rfl⟩
theorem dX9_look_108 : DC cX9_look 108 (.istore_n 3) 1 109 := ⟨by decide +kernel, rfl⟩
theorem dX9_look_109 : DC cX9_look 109 (.iinc 5 1) 3 112 := ⟨by decide +kernel, rfl⟩
theorem dX9_look_112 : DC cX9_look 112 (.goto (-72)) 3 115 := ⟨by decide +kernel, rfl⟩
theorem dX9_look_115 : DC cX9_look 115 (.aload_n 0) 1 116 := ⟨by decide +kernel, rfl⟩
theorem dX9_look_116 : DC cX9_look 116 (.iload_n 3) 1 117 := ⟨by decide +kernel, rfl⟩
theorem dX9_look_117 : DC cX9_look 117 (.invokestatic 244) 3 120 := ⟨by decide +kernel, rfl⟩
theorem dX9_look_120 : DC cX9_look 120 (.ifCond .ne 7) 3 123 := ⟨by decide +kernel, rfl⟩
theorem dX9_look_123 : DC cX9_look 123 (.iconst 1) 1 124 := ⟨by decide +kernel, rfl⟩
theorem dX9_look_124 : DC cX9_look 124 (.goto 4) 3 127 := ⟨by decide +kernel, rfl⟩
theorem dX9_look_127 : DC cX9_look 127 (.iconst 0) 1 128 := ⟨by decide +kernel, rfl⟩
theorem dX9_look_128 : DC cX9_look 128 (.putfield 241) 3 131 := ⟨by decide +kernel, rfl⟩
theorem dX9_look_131 : DC cX9_look 131 (.iconst (-1)) 1 132 := ⟨by decide +kernel, rfl⟩
theorem dX9_look_132 : DC cX9_look 132 (.istore 5) 2 134 := ⟨by decide +kernel, rfl⟩
theorem dX9_look_134 : DC cX9_look 134 (.iconst 0) 1 135 := ⟨by decide +kernel, rfl⟩
theorem dX9_look_135 : DC cX9_look 135 (.istore 6) 2 137 := ⟨by decide +kernel, rfl⟩
theorem dX9_look_137 : DC cX9_look 137 (.iload 6) 2 139 := ⟨by decide +kernel, rfl⟩
theorem dX9_look_139 : DC cX9_look 139 (.aload_n 0) 1 140 := ⟨by decide +kernel, rfl⟩
theorem dX9_look_140 : DC cX9_look 140 (.getfield 9) 3 143 := ⟨by decide +kernel, rfl⟩
theorem dX9_look_143 : DC cX9_look 143 (.iconst 0) 1 144 := ⟨by decide +kernel, rfl⟩
theorem dX9_look_144 : DC cX9_look 144 (.iaload) 1 145 := ⟨by decide +kernel, rfl⟩
theorem dX9_look_145 : DC cX9_look 145 (.if_icmp .ge 49) 3 148 := ⟨by decide +kernel, rfl⟩
theorem dX9_look_148 : DC cX9_look 148 (.aload_n 0) 1 149 := ⟨by decide +kernel, rfl⟩
theorem dX9_look_149 : DC cX9_look 149 (.getfield 9) 3 152 := ⟨by decide +kernel, rfl⟩
theorem dX9_look_152 : DC cX9_look 152 (.bipush 7) 2 154 := ⟨by decide +kernel, rfl⟩
theorem dX9_look_154 : DC cX9_look 154 (.iload 6) 2 156 := ⟨by decide +kernel, rfl⟩
theorem dX9_look_156 : DC cX9_look 156 (.iadd) 1 157 := ⟨by decide +kernel, rfl⟩
theorem dX9_look_157 : DC cX9_look 157 (.iaload) 1 158 := ⟨by decide +kernel, rfl⟩
theorem dX9_look_158 : DC cX9_look 158 (.istore 7) 2 160 := ⟨by decide +kernel, rfl⟩
theorem dX9_look_160 : DC cX9_look 160 (.iload_n 3) 1 161 := ⟨by decide +kernel, rfl⟩
theorem dX9_look_161 : DC cX9_look 161 (.iload 7) 2 163 := ⟨by decide +kernel, rfl⟩
theorem dX9_look_163 : DC cX9_look 163 (.ishr) 1 164 := ⟨by decide +kernel, rfl⟩
theorem dX9_look_164 : DC cX9_look 164 (.iconst 1) 1 165 := ⟨by decide +kernel, rfl⟩
theorem dX9_look_165 : DC cX9_look 165 (.iand) 1 166 := ⟨by decide +kernel, rfl⟩
theorem dX9_look_166 : DC cX9_look 166 (.iconst 1) 1 167 := ⟨by decide +kernel, rfl⟩
theorem dX9_look_167 : DC cX9_look 167 (.if_icmp .ne 17) 3 170 := ⟨by decide +kernel, rfl⟩
theorem dX9_look_170 : DC cX9_look 170 (.iload 5) 2 172 := ⟨by decide +kernel, rfl⟩
theorem dX9_look_172 : DC cX9_look 172 (.ifCond .lt 7) 3 175 := ⟨by decide +kernel, rfl⟩
theorem dX9_look_175 : DC cX9_look 175 (.iload_n 2) 1 176 := ⟨by decide +kernel, rfl⟩
theorem dX9_look_176 : DC cX9_look 176 (.ifCond .ne 8) 3 179 := ⟨by decide +kernel, rfl⟩
theorem dX9_look_179 : DC cX9_look 179 (.iload 7) 2 181 := ⟨by decide +kernel, rfl⟩
theorem dX9_look_181 : DC cX9_look 181 (.goto 5) 3 184 := ⟨by decide +kernel, rfl⟩
theorem dX9_look_184 : DC cX9_look 184 (.iload 5) 2 186 := ⟨by decide +kernel, rfl⟩
theorem dX9_look_186 : DC cX9_look 186 (.istore 5) 2 188 := ⟨by decide +kernel, rfl⟩
theorem dX9_look_188 : DC cX9_look 188 (.iinc 6 1) 3 191 := ⟨by decide +kernel, rfl⟩
theorem dX9_look_191 : DC cX9_look 191 (.goto (-54)) 3 194 := ⟨by decide +kernel, rfl⟩
theorem dX9_look_194 : DC cX9_look 194 (.iload 5) 2 196 := ⟨by decide +kernel, rfl⟩
theorem dX9_look_196 : DC cX9_look 196 (.ireturn) 1 197 := ⟨by decide +kernel, rfl⟩
theorem dX9_hopeful_0 : DC cX9_hopeful 0 (.iconst 0) 1 1 := ⟨by decide +kernel, rfl⟩
theorem dX9_hopeful_1 : DC cX9_hopeful 1 (.istore_n 2) 1 2 := ⟨by decide +kernel, rfl⟩
theorem dX9_hopeful_2 : DC cX9_hopeful 2 (.iconst 0) 1 3 := ⟨by decide +kernel, rfl⟩
theorem dX9_hopeful_3 : DC cX9_hopeful 3 (.istore_n 3) 1 4 := ⟨by decide +kernel, rfl⟩
theorem dX9_hopeful_4 : DC cX9_hopeful 4 (.iload_n 3) 1 5 := ⟨by decide +kernel, rfl⟩
theorem dX9_hopeful_5 : DC cX9_hopeful 5 (.aload_n 0) 1 6 := ⟨by decide +kernel, rfl⟩
theorem dX9_hopeful_6 : DC cX9_hopeful 6 (.getfield 9) 3 9 := ⟨by decide +kernel, rfl⟩
theorem dX9_hopeful_9 : DC cX9_hopeful 9 (.iconst 0) 1 10 := ⟨by decide +kernel, rfl⟩
theorem dX9_hopeful_10 : DC cX9_hopeful 10 (.iaload) 1 11 := ⟨by decide +kernel, rfl⟩
theorem dX9_hopeful_11 : DC cX9_hopeful 11 (.if_icmp .ge 38) 3 14 := ⟨by decide +kernel, rfl⟩
theorem dX9_hopeful_14 : DC cX9_hopeful 14 (.iload_n 2) 1 15 := ⟨by decide +kernel, rfl⟩
theorem dX9_hopeful_15 : DC cX9_hopeful 15 (.aload_n 0) 1 16 := ⟨by decide +kernel, rfl⟩
theorem dX9_hopeful_16 : DC cX9_hopeful 16 (.getfield 62) 3 19 := ⟨by decide +kernel, rfl⟩
theorem dX9_hopeful_19 : DC cX9_hopeful 19 (.iload_n 3) 1 20 := ⟨by decide +kernel, rfl⟩
theorem dX9_hopeful_20 : DC cX9_hopeful 20 (.iaload) 1 21 := ⟨by decide +kernel, rfl⟩
theorem dX9_hopeful_21 : DC cX9_hopeful 21 (.ifCond .ne 19) 3 24 := ⟨by decide +kernel, rfl⟩
theorem dX9_hopeful_24 : DC cX9_hopeful 24 (.aload_n 0) 1 25 := ⟨by decide +kernel, rfl⟩
theorem dX9_hopeful_25 : DC cX9_hopeful 25 (.getfield 80) 3 28 := ⟨by decide +kernel, rfl⟩
theorem dX9_hopeful_28 : DC cX9_hopeful 28 (.iload_n 3) 1 29 := ⟨by decide +kernel, rfl⟩
theorem dX9_hopeful_29 : DC cX9_hopeful 29 (.iaload) 1 30 := ⟨by decide +kernel, rfl⟩
theorem dX9_hopeful_30 : DC cX9_hopeful 30 (.iload_n 1) 1 31 := ⟨by decide +kernel, rfl⟩
theorem dX9_hopeful_31 : DC cX9_hopeful 31 (.if_icmp .lt 9) 3 34 := ⟨by decide +kernel, rfl⟩
theorem dX9_hopeful_34 : DC cX9_hopeful 34 (.iconst 1) 1 35 := ⟨by decide +kernel, rfl⟩
theorem dX9_hopeful_35 : DC cX9_hopeful 35 (.iload_n 3) 1 36 := ⟨by decide +kernel, rfl⟩
theorem dX9_hopeful_36 : DC cX9_hopeful 36 (.ishl) 1 37 := ⟨by decide +kernel, rfl⟩
theorem dX9_hopeful_37 : DC cX9_hopeful 37 (.goto 4) 3 40 := ⟨by decide +kernel, rfl⟩
theorem dX9_hopeful_40 : DC cX9_hopeful 40 (.iconst 0) 1 41 := ⟨by decide +kernel, rfl⟩
theorem dX9_hopeful_41 : DC cX9_hopeful 41 (.ior) 1 42 := ⟨by decide +kernel, rfl⟩
theorem dX9_hopeful_42 : DC cX9_hopeful 42 (.istore_n 2) 1 43 := ⟨by decide +kernel, rfl⟩
theorem dX9_hopeful_43 : DC cX9_hopeful 43 (.iinc 3 1) 3 46 := ⟨by decide +kernel, rfl⟩
theorem dX9_hopeful_46 : DC cX9_hopeful 46 (.goto (-42)) 3 49 := ⟨by decide +kernel, rfl⟩
theorem dX9_hopeful_49 : DC cX9_hopeful 49 (.iload_n 2) 1 50 := ⟨by decide +kernel, rfl⟩
theorem dX9_hopeful_50 : DC cX9_hopeful 50 (.ireturn) 1 51 := ⟨by decide +kernel, rfl⟩
theorem dX9_bits_0 : DC cX9_bits 0 (.iconst 0) 1 1 := ⟨by decide +kernel, rfl⟩
theorem dX9_bits_1 : DC cX9_bits 1 (.istore_n 1) 1 2 := ⟨by decide +kernel, rfl⟩
theorem dX9_bits_2 : DC cX9_bits 2 (.iload_n 0) 1 3 := ⟨by decide +kernel, rfl⟩
theorem dX9_bits_3 : DC cX9_bits 3 (.istore_n 2) 1 4 := ⟨by decide +kernel, rfl⟩
theorem dX9_bits_4 : DC cX9_bits 4 (.iload_n 2) 1 5 := ⟨by decide +kernel, rfl⟩
theorem dX9_bits_5 : DC cX9_bits 5 (.ifCond .le 16) 3 8 := ⟨by decide +kernel, rfl⟩
theorem dX9_bits_8 : DC cX9_bits 8 (.iload_n 1) 1 9 := ⟨by decide +kernel, rfl⟩
theorem dX9_bits_9 : DC cX9_bits 9 (.iload_n 2) 1 10 := ⟨by decide +kernel, rfl⟩
theorem dX9_bits_10 : DC cX9_bits 10 (.iconst 1) 1 11 := ⟨by decide +kernel, rfl⟩
theorem dX9_bits_11 : DC cX9_bits 11 (.iand) 1 12 := ⟨by decide +kernel, rfl⟩
theorem dX9_bits_12 : DC cX9_bits 12 (.iadd) 1 13 := ⟨by decide +kernel, rfl⟩
theorem dX9_bits_13 : DC cX9_bits 13 (.istore_n 1) 1 14 := ⟨by decide +kernel, rfl⟩
theorem dX9_bits_14 : DC cX9_bits 14 (.iload_n 2) 1 15 := ⟨by decide +kernel, rfl⟩
theorem dX9_bits_15 : DC cX9_bits 15 (.iconst 1) 1 16 := ⟨by decide +kernel, rfl⟩
theorem dX9_bits_16 : DC cX9_bits 16 (.ishr) 1 17 := ⟨by decide +kernel, rfl⟩
theorem dX9_bits_17 : DC cX9_bits 17 (.istore_n 2) 1 18 := ⟨by decide +kernel, rfl⟩
theorem dX9_bits_18 : DC cX9_bits 18 (.goto (-14)) 3 21 := ⟨by decide +kernel, rfl⟩
theorem dX9_bits_21 : DC cX9_bits 21 (.iload_n 1) 1 22 := ⟨by decide +kernel, rfl⟩
theorem dX9_bits_22 : DC cX9_bits 22 (.ireturn) 1 23 := ⟨by decide +kernel, rfl⟩
theorem dX9_elect_0 : DC cX9_elect 0 (.aload_n 0) 1 1 := ⟨by decide +kernel, rfl⟩
theorem dX9_elect_1 : DC cX9_elect 1 (.iload_n 1) 1 2 := ⟨by decide +kernel, rfl⟩
theorem dX9_elect_2 : DC cX9_elect 2 (.iconst 1) 1 3 := ⟨by decide +kernel, rfl⟩
theorem dX9_elect_3 : DC cX9_elect 3 (.invokevirtual 247) 3 6 := ⟨by decide +kernel, rfl⟩
theorem dX9_elect_6 : DC cX9_elect 6 (.istore_n 3) 1 7 := ⟨by decide +kernel, rfl⟩
theorem dX9_elect_7 : DC cX9_elect 7 (.aload_n 0) 1 8 := ⟨by decide +kernel, rfl⟩
theorem dX9_elect_8 : DC cX9_elect 8 (.getfield 62) 3 11 := ⟨by decide +kernel, rfl⟩
theorem dX9_elect_11 : DC cX9_elect 11 (.iload_n 3) 1 12 := ⟨by decide +kernel, rfl⟩
theorem dX9_elect_12 : DC cX9_elect 12 (.iconst 1) 1 13 := ⟨by decide +kernel, rfl⟩
theorem dX9_elect_13 : DC cX9_elect 13 (.iastore) 1 14 := ⟨by decide +kernel, rfl⟩
theorem dX9_elect_14 : DC cX9_elect 14 (.aload_n 0) 1 15 := ⟨by decide +kernel, rfl⟩
theorem dX9_elect_15 : DC cX9_elect 15 (.getfield 65) 3 18 := ⟨by decide +kernel, rfl⟩
theorem dX9_elect_18 : DC cX9_elect 18 (.iload_n 3) 1 19 := ⟨by decide +kernel, rfl⟩
theorem dX9_elect_19 : DC cX9_elect 19 (.aload_n 0) 1 20 := ⟨by decide +kernel, rfl⟩
theorem dX9_elect_20 : DC cX9_elect 20 (.getfield 212) 3 23 := ⟨by decide +kernel, rfl⟩
theorem dX9_elect_23 : DC cX9_elect 23 (.iastore) 1 24 := ⟨by decide +kernel, rfl⟩
theorem dX9_elect_24 : DC cX9_elect 24 (.aload_n 0) 1 25 := ⟨by decide +kernel, rfl⟩
theorem dX9_elect_25 : DC cX9_elect 25 (.getfield 68) 3 28 := ⟨by decide +kernel, rfl⟩
theorem dX9_elect_28 : DC cX9_elect 28 (.iload_n 3) 1 29 := ⟨by decide +kernel, rfl⟩
theorem dX9_elect_29 : DC cX9_elect 29 (.aload_n 0) 1 30 := ⟨by decide +kernel, rfl⟩
theorem dX9_elect_30 : DC cX9_elect 30 (.getfield 215) 3 33 := ⟨by decide +kernel, rfl⟩
theorem dX9_elect_33 : DC cX9_elect 33 (.iastore) 1 34 := ⟨by decide +kernel, rfl⟩
theorem dX9_elect_34 : DC cX9_elect 34 (.aload_n 0) 1 35 := ⟨by decide +kernel, rfl⟩
theorem dX9_elect_35 : DC cX9_elect 35 (.getfield 71) 3 38 := ⟨by decide +kernel, rfl⟩
theorem dX9_elect_38 : DC cX9_elect 38 (.iload_n 3) 1 39 := ⟨by decide +kernel, rfl⟩
theorem dX9_elect_39 : DC cX9_elect 39 (.iload_n 2) 1 40 := ⟨by decide +kernel, rfl⟩
theorem dX9_elect_40 : DC cX9_elect 40 (.iastore) 1 41 := ⟨by decide +kernel, rfl⟩
theorem dX9_elect_41 : DC cX9_elect 41 (.aload_n 0) 1 42 := ⟨by decide +kernel, rfl⟩
theorem dX9_elect_42 : DC cX9_elect 42 (.getfield 77) 3 45 := ⟨by decide +kernel, rfl⟩
theorem dX9_elect_45 : DC cX9_elect 45 (.aload_n 0) 1 46 := ⟨by decide +kernel, rfl⟩
theorem dX9_elect_46 : DC cX9_elect 46 (.getfield 215) 3 49 := ⟨by decide +kernel, rfl⟩
theorem dX9_elect_49 : DC cX9_elect 49 (.iload_n 3) 1 50 := ⟨by decide +kernel, rfl⟩
theorem dX9_elect_50 : DC cX9_elect 50 (.iastore) 1 51 := ⟨by decide +kernel, rfl⟩
theorem dX9_elect_51 : DC cX9_elect 51 (.aload_n 0) 1 52 := ⟨by decide +kernel, rfl⟩
theorem dX9_elect_52 : DC cX9_elect 52 (.dup) 1 53 := ⟨by decide +kernel, rfl⟩
theorem dX9_elect_53 : DC cX9_elect 53 (.getfield 215) 3 56 := ⟨by decide +kernel, rfl⟩
theorem dX9_elect_56 : DC cX9_elect 56 (.iconst 1) 1 57 := ⟨by decide +kernel, rfl⟩
theorem dX9_elect_57 : DC cX9_elect 57 (.iadd) 1 58 := ⟨by decide +kernel, rfl⟩
theorem dX9_elect_58 : DC cX9_elect 58 (.putfield 215) 3 61 := ⟨by decide +kernel, rfl⟩
theorem dX9_elect_61 : DC cX9_elect 61 (.aload_n 0) 1 62 := ⟨by decide +kernel, rfl⟩
theorem dX9_elect_62 : DC cX9_elect 62 (.getfield 53) 3 65 := ⟨by decide +kernel, rfl⟩
theorem dX9_elect_65 : DC cX9_elect 65 (.aload_n 0) 1 66 := ⟨by decide +kernel, rfl⟩
theorem dX9_elect_66 : DC cX9_elect 66 (.getfield 212) 3 69 := ⟨by decide +kernel, rfl⟩
theorem dX9_elect_69 : DC cX9_elect 69 (.dup2) 1 70 := ⟨by decide +kernel, rfl⟩
theorem dX9_elect_70 : DC cX9_elect 70 (.iaload) 1 71 := ⟨by decide +kernel, rfl⟩
theorem dX9_elect_71 : DC cX9_elect 71 (.iconst 1) 1 72 := ⟨by decide +kernel, rfl⟩
theorem dX9_elect_72 : DC cX9_elect 72 (.iload_n 3) 1 73 := ⟨by decide +kernel, rfl⟩
theorem dX9_elect_73 : DC cX9_elect 73 (.ishl) 1 74 := ⟨by decide +kernel, rfl⟩
theorem dX9_elect_74 : DC cX9_elect 74 (.ior) 1 75 := ⟨by decide +kernel, rfl⟩
theorem dX9_elect_75 : DC cX9_elect 75 (.iastore) 1 76 := ⟨by decide +kernel, rfl⟩
theorem dX9_elect_76 : DC cX9_elect 76 (.return_) 1 77 := ⟨by decide +kernel, rfl⟩
theorem dX9_withSurplus_0 : DC cX9_withSurplus 0 (.iconst 0) 1 1 := ⟨by decide +kernel, rfl⟩
theorem dX9_withSurplus_1 : DC cX9_withSurplus 1 (.istore_n 1) 1 2 := ⟨by decide +kernel, rfl⟩
theorem dX9_withSurplus_2 : DC cX9_withSurplus 2 (.iconst 0) 1 3 := ⟨by decide +kernel, rfl⟩
theorem dX9_withSurplus_3 : DC cX9_withSurplus 3 (.istore_n 2) 1 4 := ⟨by decide +kernel, rfl⟩
theorem dX9_withSurplus_4 : DC cX9_withSurplus 4 (.iload_n 2) 1 5 := ⟨by decide +kernel, rfl⟩
theorem dX9_withSurplus_5 : DC cX9_withSurplus 5 (.aload_n 0) 1 6 := ⟨by decide +kernel, rfl⟩
theorem dX9_withSurplus_6 : DC cX9_withSurplus 6 (.getfield 9) 3 9 := ⟨by decide +kernel, rfl⟩
theorem dX9_withSurplus_9 : DC cX9_withSurplus 9 (.iconst 0) 1 10 := ⟨by decide +kernel, rfl⟩
theorem dX9_withSurplus_10 : DC cX9_withSurplus 10 (.iaload) 1 11 := ⟨by decide +kernel, rfl⟩
theorem dX9_withSurplus_11 : DC cX9_withSurplus 11 (.if_icmp .ge 56) 3 14 := ⟨by decide +kernel, rfl⟩
theorem dX9_withSurplus_14 : DC cX9_withSurplus 14 (.iload_n 1) 1 15 := ⟨by decide +kernel, rfl⟩
theorem dX9_withSurplus_15 : DC cX9_withSurplus 15 (.aload_n 0) 1 16 := ⟨by decide +kernel, rfl⟩
theorem dX9_withSurplus_16 : DC cX9_withSurplus 16 (.getfield 62) 3 19 := ⟨by decide +kernel, rfl⟩
theorem dX9_withSurplus_19 : DC cX9_withSurplus 19 (.iload_n 2) 1 20 := ⟨by decide +kernel, rfl⟩
theorem dX9_withSurplus_20 : DC cX9_withSurplus 20 (.iaload) 1 21 := ⟨by decide +kernel, rfl⟩
theorem dX9_withSurplus_21 : DC cX9_withSurplus 21 (.iconst 1) 1 22 := ⟨by decide +kernel, rfl⟩
theorem dX9_withSurplus_22 : DC cX9_withSurplus 22 (.if_icmp .ne 36) 3 25 := ⟨by decide +kernel, rfl⟩
theorem dX9_withSurplus_25 : DC cX9_withSurplus 25 (.aload_n 0) 1 26 := ⟨by decide +kernel, rfl⟩
theorem dX9_withSurplus_26 : DC cX9_withSurplus 26 (.getfield 83) 3 29 := ⟨by decide +kernel, rfl⟩
theorem dX9_withSurplus_29 : DC cX9_withSurplus 29 (.iload_n 2) 1 30 := ⟨by decide +kernel, rfl⟩
theorem dX9_withSurplus_30 : DC cX9_withSurplus 30 (.baload) 1 31 := ⟨by decide +kernel, rfl⟩
theorem dX9_withSurplus_31 : DC cX9_withSurplus 31 (.ifCond .ne 27) 3 34 := ⟨by decide +kernel, rfl⟩
theorem dX9_withSurplus_34 : DC cX9_withSurplus 34 (.aload_n 0) 1 35 := ⟨by decide +kernel, rfl⟩
theorem dX9_withSurplus_35 : DC cX9_withSurplus 35 (.getfield 80) 3 38 := ⟨by decide +kernel, rfl⟩
theorem dX9_withSurplus_38 : DC cX9_withSurplus 38 (.iload_n 2) 1 39 := ⟨by decide +kernel, rfl⟩
theorem dX9_withSurplus_39 : DC cX9_withSurplus 39 (.iaload) 1 40 := ⟨by decide +kernel, rfl⟩
theorem dX9_withSurplus_40 : DC cX9_withSurplus 40 (.aload_n 0) 1 41 := ⟨by decide +kernel, rfl⟩
theorem dX9_withSurplus_41 : DC cX9_withSurplus 41 (.getfield 35) 3 44 := ⟨by decide +kernel, rfl⟩
theorem dX9_withSurplus_44 : DC cX9_withSurplus 44 (.aload_n 0) 1 45 := ⟨by decide +kernel, rfl⟩
theorem dX9_withSurplus_45 : DC cX9_withSurplus 45 (.getfield 212) 3 48 := ⟨by decide +kernel, rfl⟩
theorem dX9_withSurplus_48 : DC cX9_withSurplus 48 (.iaload) 1 49 := ⟨by decide +kernel, rfl⟩
theorem dX9_withSurplus_49 : DC cX9_withSurplus 49 (.if_icmp .le 9) 3 52 := ⟨by decide +kernel, rfl⟩
theorem dX9_withSurplus_52 : DC cX9_withSurplus 52 (.iconst 1) 1 53 := ⟨by decide +kernel, rfl⟩
theorem dX9_withSurplus_53 : DC cX9_withSurplus 53 (.iload_n 2) 1 54 := ⟨by decide +kernel, rfl⟩
theorem dX9_withSurplus_54 : DC cX9_withSurplus 54 (.ishl) 1 55 := ⟨by decide +kernel, rfl⟩
theorem dX9_withSurplus_55 : DC cX9_withSurplus 55 (.goto 4) 3 58 := ⟨by decide +kernel, rfl⟩
theorem dX9_withSurplus_58 : DC cX9_withSurplus 58 (.iconst 0) 1 59 := ⟨by decide +kernel, rfl⟩
theorem dX9_withSurplus_59 : DC cX9_withSurplus 59 (.ior) 1 60 := ⟨by decide +kernel, rfl⟩
theorem dX9_withSurplus_60 : DC cX9_withSurplus 60 (.istore_n 1) 1 61 := ⟨by decide +kernel, rfl⟩
theorem dX9_withSurplus_61 : DC cX9_withSurplus 61 (.iinc 2 1) 3 64 := ⟨by decide +kernel, rfl⟩
theorem dX9_withSurplus_64 : DC cX9_withSurplus 64 (.goto (-60)) 3 67 := ⟨by decide +kernel, rfl⟩
theorem dX9_withSurplus_67 : DC cX9_withSurplus 67 (.iload_n 1) 1 68 := ⟨by decide +kernel, rfl⟩
theorem dX9_withSurplus_68 : DC cX9_withSurplus 68 (.ireturn) 1 69 := ⟨by decide +kernel, rfl⟩
theorem dX9_isOfParcel_0 : DC cX9_isOfParcel 0 (.aload_n 0) 1 1 := ⟨by decide +kernel, rfl⟩
theorem dX9_isOfParcel_1 : DC cX9_isOfParcel 1 (.getfield 87) 3 4 := ⟨by decide +kernel, rfl⟩
theorem dX9_isOfParcel_4 : DC cX9_isOfParcel 4 (.iload_n 1) 1 5 := ⟨by decide +kernel, rfl⟩
theorem dX9_isOfParcel_5 : DC cX9_isOfParcel 5 (.iaload) 1 6 := ⟨by decide +kernel, rfl⟩
theorem dX9_isOfParcel_6 : DC cX9_isOfParcel 6 (.iload_n 2) 1 7 := ⟨by decide +kernel, rfl⟩
theorem dX9_isOfParcel_7 : DC cX9_isOfParcel 7 (.if_icmp .ne 26) 3 10 := ⟨by decide +kernel, rfl⟩
theorem dX9_isOfParcel_10 : DC cX9_isOfParcel 10 (.aload_n 0) 1 11 := ⟨by decide +kernel, rfl⟩
theorem dX9_isOfParcel_11 : DC cX9_isOfParcel 11 (.getfield 9) 3 14 := ⟨by decide +kernel, rfl⟩
theorem dX9_isOfParcel_14 : DC cX9_isOfParcel 14 (.iconst 4) 1 15 := ⟨by decide +kernel, rfl⟩
theorem dX9_isOfParcel_15 : DC cX9_isOfParcel 15 (.iaload) 1 16 := ⟨by decide +kernel, rfl⟩
theorem dX9_isOfParcel_16 : DC cX9_isOfParcel 16 (.ifCond .eq 13) 3 19 := ⟨by decide +kernel, rfl⟩
theorem dX9_isOfParcel_19 : DC cX9_isOfParcel 19 (.aload_n 0) 1 20 := ⟨by decide +kernel, rfl⟩
theorem dX9_isOfParcel_20 : DC cX9_isOfParcel 20 (.getfield 96) 3 23 := ⟨by decide +kernel, rfl⟩
theorem dX9_isOfParcel_23 : DC cX9_isOfParcel 23 (.iload_n 1) 1 24 := ⟨by decide +kernel, rfl⟩
theorem dX9_isOfParcel_24 : DC cX9_isOfParcel 24 (.iaload) 1 25 := ⟨by decide +kernel, rfl⟩
theorem dX9_isOfParcel_25 : DC cX9_isOfParcel 25 (.iload_n 3) 1 26 := ⟨by decide +kernel, rfl⟩
theorem dX9_isOfParcel_26 : DC cX9_isOfParcel 26 (.if_icmp .ne 7) 3 29 := ⟨by decide +kernel, rfl⟩
theorem dX9_isOfParcel_29 : DC cX9_isOfParcel 29 (.iconst 1) 1 30 := ⟨by decide +kernel, rfl⟩
theorem dX9_isOfParcel_30 : DC cX9_isOfParcel 30 (.goto 4) 3 33 := ⟨by decide +kernel, rfl⟩
theorem dX9_isOfParcel_33 : DC cX9_isOfParcel 33 (.iconst 0) 1 34 := ⟨by decide +kernel, rfl⟩
theorem dX9_isOfParcel_34 : DC cX9_isOfParcel 34 (.ireturn) 1 35 := ⟨by decide +kernel, rfl⟩
theorem dX9_transfer_0 : DC cX9_transfer 0 (.iconst (-1)) 1 1 := ⟨by decide +kernel, rfl⟩
theorem dX9_transfer_1 : DC cX9_transfer 1 (.istore_n 2) 1 2 := ⟨by decide +kernel, rfl⟩
theorem dX9_transfer_2 : DC cX9_transfer 2 (.iconst 0) 1 3 := ⟨by decide +kernel, rfl⟩
theorem dX9_transfer_3 : DC cX9_transfer 3 (.istore_n 3) 1 4 := ⟨by decide +kernel, rfl⟩
theorem dX9_transfer_4 : DC cX9_transfer 4 (.iload_n 3) 1 5 := ⟨by decide +kernel, rfl⟩
theorem dX9_transfer_5 : DC cX9_transfer 5 (.aload_n 0) 1 6 := ⟨by decide +kernel, rfl⟩
theorem dX9_transfer_6 : DC cX9_transfer 6 (.getfield 9) 3 9 := ⟨by decide +kernel, rfl⟩
theorem dX9_transfer_9 : DC cX9_transfer 9 (.iconst 1) 1 10 := ⟨by decide +kernel, rfl⟩
theorem dX9_transfer_10 : DC cX9_transfer 10 (.iaload) 1 11 := ⟨by decide +kernel, rfl⟩
theorem dX9_transfer_11 : DC cX9_transfer 11 (.if_icmp .ge 42) 3 14 := ⟨by decide +kernel, rfl⟩
theorem dX9_transfer_14 : DC cX9_transfer 14 (.aload_n 0) 1 15 := ⟨by decide +kernel, rfl⟩
theorem dX9_transfer_15 : DC cX9_transfer 15 (.getfield 87) 3 18 := ⟨by decide +kernel, rfl⟩
theorem dX9_transfer_18 : DC cX9_transfer 18 (.iload_n 3) 1 19 := ⟨by decide +kernel, rfl⟩
theorem dX9_transfer_19 : DC cX9_transfer 19 (.iaload) 1 20 := ⟨by decide +kernel, rfl⟩
theorem dX9_transfer_20 : DC cX9_transfer 20 (.iload_n 1) 1 21 := ⟨by decide +kernel, rfl⟩
theorem dX9_transfer_21 : DC cX9_transfer 21 (.if_icmp .ne 24) 3 24 := ⟨by decide +kernel, rfl⟩
theorem dX9_transfer_24 : DC cX9_transfer 24 (.aload_n 0) 1 25 := ⟨by decide +kernel, rfl⟩
theorem dX9_transfer_25 : DC cX9_transfer 25 (.iload_n 3) 1 26 := ⟨by decide +kernel, rfl⟩
theorem dX9_transfer_26 : DC cX9_transfer 26 (.invokevirtual 203) 3 29 := ⟨by decide +kernel, rfl⟩
theorem dX9_transfer_29 : DC cX9_transfer 29 (.ifCond .le 16) 3 32 := ⟨by decide +kernel, rfl⟩
theorem dX9_transfer_32 : DC cX9_transfer 32 (.iload_n 2) 1 33 := ⟨by decide +kernel, rfl⟩
theorem dX9_transfer_33 : DC cX9_transfer 33 (.aload_n 0) 1 34 := ⟨by decide +kernel, rfl⟩
theorem dX9_transfer_34 : DC cX9_transfer 34 (.getfield 96) 3 37 := ⟨by decide +kernel, rfl⟩
theorem dX9_transfer_37 : DC cX9_transfer 37 (.iload_n 3) 1 38 := ⟨by decide +kernel, rfl⟩
theorem dX9_transfer_38 : DC cX9_transfer 38 (.iaload) 1 39 := ⟨by decide +kernel, rfl⟩
theorem dX9_transfer_39 : DC cX9_transfer 39 (.invokestatic 251) 3 42 := ⟨by decide +kernel, rfl⟩
theorem dX9_transfer_42 : DC cX9_transfer 42 (.goto 4) 3 45 := ⟨by decide +kernel, rfl⟩
theorem dX9_transfer_45 : DC cX9_transfer 45 (.iload_n 2) 1 46 := ⟨by decide +kernel, rfl⟩
theorem dX9_transfer_46 : DC cX9_transfer 46 (.istore_n 2) 1 47 := ⟨by decide +kernel, rfl⟩
theorem dX9_transfer_47 : DC cX9_transfer 47 (.iinc 3 1) 3 50 := ⟨by decide +kernel, rfl⟩
theorem dX9_transfer_50 : DC cX9_transfer 50 (.goto (-46)) 3 53 := ⟨by decide +kernel, rfl⟩
theorem dX9_transfer_53 : DC cX9_transfer 53 (.lconst 0) 1 54 := ⟨by decide +kernel, rfl⟩
theorem dX9_transfer_54 : DC cX9_transfer 54 (.lstore_n 3) 1 55 := ⟨by decide +kernel, rfl⟩
theorem dX9_transfer_55 : DC cX9_transfer 55 (.iconst 0) 1 56 := ⟨by decide +kernel, rfl⟩
theorem dX9_transfer_56 : DC cX9_transfer 56 (.istore 5) 2 58 := ⟨by decide +kernel, rfl⟩
theorem dX9_transfer_58 : DC cX9_transfer 58 (.iload 5) 2 60 := ⟨by decide +kernel, rfl⟩
theorem dX9_transfer_60 : DC cX9_transfer 60 (.aload_n 0) 1 61 := ⟨by decide +kernel, rfl⟩
theorem dX9_transfer_61 : DC cX9_transfer 61 (.getfield 9) 3 64 := ⟨by decide +kernel, rfl⟩
theorem dX9_transfer_64 : DC cX9_transfer 64 (.iconst 1) 1 65 := ⟨by decide +kernel, rfl⟩
theorem dX9_transfer_65 : DC cX9_transfer 65 (.iaload) 1 66 := ⟨by decide +kernel, rfl⟩
theorem dX9_transfer_66 : DC cX9_transfer 66 (.if_icmp .ge 43) 3 69 := ⟨by decide +kernel, rfl⟩
theorem dX9_transfer_69 : DC cX9_transfer 69 (.lload_n 3) 1 70 := ⟨by decide +kernel, rfl⟩
theorem dX9_transfer_70 : DC cX9_transfer 70 (.aload_n 0) 1 71 := ⟨by decide +kernel, rfl⟩
theorem dX9_transfer_71 : DC cX9_transfer 71 (.iload 5) 2 73 := ⟨by decide +kernel, rfl⟩
theorem dX9_transfer_73 : DC cX9_transfer 73 (.iload_n 1) 1 74 := ⟨by decide +kernel, rfl⟩
theorem dX9_transfer_74 : DC cX9_transfer 74 (.iload_n 2) 1 75 := ⟨by decide +kernel, rfl⟩
theorem dX9_transfer_75 : DC cX9_transfer 75 (.invokevirtual 256) 3 78 := ⟨by decide +kernel, rfl⟩
theorem dX9_transfer_78 : DC cX9_transfer 78 (.ifCond .eq 22) 3 81 := ⟨by decide +kernel, rfl⟩
theorem dX9_transfer_81 : DC cX9_transfer 81 (.aload_n 0) 1 82 := ⟨by decide +kernel, rfl⟩
theorem dX9_transfer_82 : DC cX9_transfer 82 (.iload 5) 2 84 := ⟨by decide +kernel, rfl⟩
theorem dX9_transfer_84 : DC cX9_transfer 84 (.invokevirtual 203) 3 87 := ⟨by decide +kernel, rfl⟩
theorem dX9_transfer_87 : DC cX9_transfer 87 (.i2l) 1 88 := ⟨by decide +kernel, rfl⟩
theorem dX9_transfer_88 : DC cX9_transfer 88 (.aload_n 0) 1 89 := ⟨by decide +kernel, rfl⟩
theorem dX9_transfer_89 : DC cX9_transfer 89 (.getfield 93) 3 92 := ⟨by decide +kernel, rfl⟩
theorem dX9_transfer_92 : DC cX9_transfer 92 (.iload 5) 2 94 := ⟨by decide +kernel, rfl⟩
theorem dX9_transfer_94 : DC cX9_transfer 94 (.iaload) 1 95 := ⟨by decide +kernel, rfl⟩
theorem dX9_transfer_95 : DC cX9_transfer 95 (.i2l) 1 96 := ⟨by decide +kernel, rfl⟩
theorem dX9_transfer_96 : DC cX9_transfer 96 (.lmul) 1 97 := ⟨by decide +kernel, rfl⟩
theorem dX9_transfer_97 : DC cX9_transfer 97 (.goto 4) 3 100 := ⟨by decide +kernel, rfl⟩
theorem dX9_transfer_100 : DC cX9_transfer 100 (.lconst 0) 1 101 := ⟨by decide +kernel, rfl⟩
theorem dX9_transfer_101 : DC cX9_transfer 101 (.ladd) 1 102 := ⟨by decide +kernel, rfl⟩
theorem dX9_transfer_102 : DC cX9_transfer 102 (.lstore_n 3) 1 103 := ⟨by decide +kernel, rfl⟩
theorem dX9_transfer_103 : DC cX9_transfer 103 (.iinc 5 1) 3 106 := ⟨by decide +kernel, rfl⟩
theorem dX9_transfer_106 : DC cX9_transfer 106 (.goto (-48)) 3 109 := ⟨by decide +kernel, rfl⟩
theorem dX9_transfer_109 : DC cX9_transfer 109 (.aload_n 0) 1 110 := ⟨by decide +kernel, rfl⟩
theorem dX9_transfer_110 : DC cX9_transfer 110 (.getfield 80) 3 113 := ⟨by decide +kernel, rfl⟩
theorem dX9_transfer_113 : DC cX9_transfer 113 (.iload_n 1) 1 114 := ⟨by decide +kernel, rfl⟩
theorem dX9_transfer_114 : DC cX9_transfer 114 (.iaload) 1 115 := ⟨by decide +kernel, rfl⟩
theorem dX9_transfer_115 : DC cX9_transfer 115 (.aload_n 0) 1 116 := ⟨by decide +kernel, rfl⟩
theorem dX9_transfer_116 : DC cX9_transfer 116 (.getfield 35) 3 119 := ⟨by decide +kernel, rfl⟩
theorem dX9_transfer_119 : DC cX9_transfer 119 (.aload_n 0) 1 120 := ⟨by decide +kernel, rfl⟩
theorem dX9_transfer_120 : DC cX9_transfer 120 (.getfield 212) 3 123 := ⟨by decide +kernel, rfl⟩
theorem dX9_transfer_123 : DC cX9_transfer 123 (.iaload) 1 124 := ⟨by decide +kernel, rfl⟩
theorem dX9_transfer_124 : DC cX9_transfer 124 (.isub) 1 125 := ⟨by decide +kernel, rfl⟩
theorem dX9_transfer_125 : DC cX9_transfer 125 (.istore 5) 2 127 := ⟨by decide +kernel, rfl⟩
theorem dX9_transfer_127 : DC cX9_transfer 127 (.iconst 0) 1 128 := ⟨by decide +kernel, rfl⟩
theorem dX9_transfer_128 : DC cX9_transfer 128 (.istore 6) 2 130 := ⟨by decide +kernel, rfl⟩
theorem dX9_transfer_130 : DC cX9_transfer 130 (.iconst 0) 1 131 := ⟨by decide +kernel, rfl⟩
theorem dX9_transfer_131 : DC cX9_transfer 131 (.istore 7) 2 133 := ⟨by decide +kernel, rfl⟩
theorem dX9_transfer_133 : DC cX9_transfer 133 (.iload 7) 2 135 := ⟨by decide +kernel, rfl⟩
theorem dX9_transfer_135 : DC cX9_transfer 135 (.aload_n 0) 1 136 := ⟨by decide +kernel, rfl⟩
theorem dX9_transfer_136 : DC cX9_transfer 136 (.getfield 9) 3 139 := ⟨by decide +kernel, rfl⟩
theorem dX9_transfer_139 : DC cX9_transfer 139 (.iconst 1) 1 140 := ⟨by decide +kernel, rfl⟩
theorem dX9_transfer_140 : DC cX9_transfer 140 (.iaload) 1 141 := ⟨by decide +kernel, rfl⟩
theorem dX9_transfer_141 : DC cX9_transfer 141 (.if_icmp .ge 103) 3 144 := ⟨by decide +kernel, rfl⟩
theorem dX9_transfer_144 : DC cX9_transfer 144 (.aload_n 0) 1 145 := ⟨by decide +kernel, rfl⟩
theorem dX9_transfer_145 : DC cX9_transfer 145 (.iload 7) 2 147 := ⟨by decide +kernel, rfl⟩
theorem dX9_transfer_147 : DC cX9_transfer 147 (.iload_n 1) 1 148 := ⟨by decide +kernel, rfl⟩
theorem dX9_transfer_148 : DC cX9_transfer 148 (.iload_n 2) 1 149 := ⟨by decide +kernel, rfl⟩
theorem dX9_transfer_149 : DC cX9_transfer 149 (.invokevirtual 256) 3 152 := ⟨by decide +kernel, rfl⟩
theorem dX9_transfer_152 : DC cX9_transfer 152 (.ifCond .eq 86) 3 155 := ⟨by decide +kernel, rfl⟩
theorem dX9_transfer_155 : DC cX9_transfer 155 (.lload_n 3) 1 156 := ⟨by decide +kernel, rfl⟩
theorem dX9_transfer_156 : DC cX9_transfer 156 (.lconst 0) 1 157 := ⟨by decide +kernel, rfl⟩
theorem dX9_transfer_157 : DC cX9_transfer 157 (.lcmp) 1 158 := ⟨by decide +kernel, rfl⟩
theorem dX9_transfer_158 : DC cX9_transfer 158 (.ifCond .ne 7) 3 161 := ⟨by decide +kernel, rfl⟩
theorem dX9_transfer_161 : DC cX9_transfer 161 (.lconst 0) 1 162 := ⟨by decide +kernel, rfl⟩
theorem dX9_transfer_162 : DC cX9_transfer 162 (.goto 17) 3 165 := ⟨by decide +kernel, rfl⟩
theorem dX9_transfer_165 : DC cX9_transfer 165 (.aload_n 0) 1 166 := ⟨by decide +kernel, rfl⟩
theorem dX9_transfer_166 : DC cX9_transfer 166 (.getfield 93) 3 169 := ⟨by decide +kernel, rfl⟩
theorem dX9_transfer_169 : DC cX9_transfer 169 (.iload 7) 2 171 := ⟨by decide +kernel, rfl⟩
theorem dX9_transfer_171 : DC cX9_transfer 171 (.iaload) 1 172 := ⟨by decide +kernel, rfl⟩
theorem dX9_transfer_172 : DC cX9_transfer 172 (.i2l) 1 173 := ⟨by decide +kernel, rfl⟩
theorem dX9_transfer_173 : DC cX9_transfer 173 (.iload 5) 2 175 := ⟨by decide +kernel, rfl⟩
theorem dX9_transfer_175 : DC cX9_transfer 175 (.i2l) 1 176 := ⟨by decide +kernel, rfl⟩
theorem dX9_transfer_176 : DC cX9_transfer 176 (.lmul) 1 177 := ⟨by decide +kernel, rfl⟩
theorem dX9_transfer_177 : DC cX9_transfer 177 (.lload_n 3) 1 178 := ⟨by decide +kernel, rfl⟩
theorem dX9_transfer_178 : DC cX9_transfer 178 (.ldiv) 1 179 := ⟨by decide +kernel, rfl⟩
theorem dX9_transfer_179 : DC cX9_transfer 179 (.lstore 8) 2 181 := ⟨by decide +kernel, rfl⟩
theorem dX9_transfer_181 : DC cX9_transfer 181 (.aload_n 0) 1 182 := ⟨by decide +kernel, rfl⟩
theorem dX9_transfer_182 : DC cX9_transfer 182 (.getfield 93) 3 185 := ⟨by decide +kernel, rfl⟩
theorem dX9_transfer_185 : DC cX9_transfer 185 (.iload 7) 2 187 := ⟨by decide +kernel, rfl⟩
theorem dX9_transfer_187 : DC cX9_transfer 187 (.aload_n 0) 1 188 := ⟨by decide +kernel, rfl⟩
theorem dX9_transfer_188 : DC cX9_transfer 188 (.getfield 93) 3 191 := ⟨by decide +kernel, rfl⟩
theorem dX9_transfer_191 : DC cX9_transfer 191 (.iload 7) 2 193 := ⟨by decide +kernel, rfl⟩
theorem dX9_transfer_193 : DC cX9_transfer 193 (.iaload) 1 194 := ⟨by decide +kernel, rfl⟩
theorem dX9_transfer_194 : DC cX9_transfer 194 (.i2l) 1 195 := ⟨by decide +kernel, rfl⟩
theorem dX9_transfer_195 : DC cX9_transfer 195 (.lload 8) 2 197 := ⟨by decide +kernel, rfl⟩
theorem dX9_transfer_197 : DC cX9_transfer 197 (.invokestatic 259) 3 200 := ⟨by decide +kernel, rfl⟩
theorem dX9_transfer_200 : DC cX9_transfer 200 (.l2i) 1 201 := ⟨by decide +kernel, rfl⟩
theorem dX9_transfer_201 : DC cX9_transfer 201 (.iastore) 1 202 := ⟨by decide +kernel, rfl⟩
theorem dX9_transfer_202 : DC cX9_transfer 202 (.iload 6) 2 204 := ⟨by decide +kernel, rfl⟩
theorem dX9_transfer_204 : DC cX9_transfer 204 (.aload_n 0) 1 205 := ⟨by decide +kernel, rfl⟩
theorem dX9_transfer_205 : DC cX9_transfer 205 (.iload 7) 2 207 := ⟨by decide +kernel, rfl⟩
theorem dX9_transfer_207 : DC cX9_transfer 207 (.invokevirtual 203) 3 210 := ⟨by decide +kernel, rfl⟩
theorem dX9_transfer_210 : DC cX9_transfer 210 (.aload_n 0) 1 211 := ⟨by decide +kernel, rfl⟩
theorem dX9_transfer_211 : DC cX9_transfer 211 (.getfield 93) 3 214 := ⟨by decide +kernel, rfl⟩
theorem dX9_transfer_214 : DC cX9_transfer 214 (.iload 7) 2 216 := ⟨by decide +kernel, rfl⟩
theorem dX9_transfer_216 : DC cX9_transfer 216 (.iaload) 1 217 := ⟨by decide +kernel, rfl⟩
theorem dX9_transfer_217 : DC cX9_transfer 217 (.imul) 1 218 := ⟨by decide +kernel, rfl⟩
theorem dX9_transfer_218 : DC cX9_transfer 218 (.iadd) 1 219 := ⟨by decide +kernel, rfl⟩
theorem dX9_transfer_219 : DC cX9_transfer 219 (.istore 6) 2 221 := ⟨by decide +kernel, rfl⟩
theorem dX9_transfer_221 : DC cX9_transfer 221 (.aload_n 0) 1 222 := ⟨by decide +kernel, rfl⟩
theorem dX9_transfer_222 : DC cX9_transfer 222 (.iload 7) 2 224 := ⟨by decide +kernel, rfl⟩
theorem dX9_transfer_224 : DC cX9_transfer 224 (.aload_n 0) 1 225 := ⟨by decide +kernel, rfl⟩
theorem dX9_transfer_225 : DC cX9_transfer 225 (.getfield 90) 3 228 := ⟨by decide +kernel, rfl⟩
theorem dX9_transfer_228 : DC cX9_transfer 228 (.iload 7) 2 230 := ⟨by decide +kernel, rfl⟩
theorem dX9_transfer_230 : DC cX9_transfer 230 (.iaload) 1 231 := ⟨by decide +kernel, rfl⟩
theorem dX9_transfer_231 : DC cX9_transfer 231 (.aload_n 0) 1 232 := ⟨by decide +kernel, rfl⟩
theorem dX9_transfer_232 : DC cX9_transfer 232 (.getfield 212) 3 235 := ⟨by decide +kernel, rfl⟩
theorem dX9_transfer_235 : DC cX9_transfer 235 (.invokevirtual 221) 3 238 := ⟨by decide +kernel, rfl⟩
theorem dX9_transfer_238 : DC cX9_transfer 238 (.iinc 7 1) 3 241 := ⟨by decide +kernel, rfl⟩
theorem dX9_transfer_241 : DC cX9_transfer 241 (.goto (-108)) 3 244 := ⟨by decide +kernel, rfl⟩
theorem dX9_transfer_244 : DC cX9_transfer 244 (.aload_n 0) 1 245 := ⟨by decide +kernel, rfl⟩
theorem dX9_transfer_245 : DC cX9_transfer 245 (.getfield 80) 3 248 := ⟨by decide +kernel, rfl⟩
theorem dX9_transfer_248 : DC cX9_transfer 248 (.iload_n 1) 1 249 := ⟨by decide +kernel, rfl⟩
theorem dX9_transfer_249 : DC cX9_transfer 249 (.aload_n 0) 1 250 := ⟨by decide +kernel, rfl⟩
theorem dX9_transfer_250 : DC cX9_transfer 250 (.getfield 35) 3 253 := ⟨by decide +kernel, rfl⟩
theorem dX9_transfer_253 : DC cX9_transfer 253 (.aload_n 0) 1 254 := ⟨by decide +kernel, rfl⟩
theorem dX9_transfer_254 : DC cX9_transfer 254 (.getfield 212) 3 257 := ⟨by decide +kernel, rfl⟩
theorem dX9_transfer_257 : DC cX9_transfer 257 (.iaload) 1 258 := ⟨by decide +kernel, rfl⟩
theorem dX9_transfer_258 : DC cX9_transfer 258 (.iastore) 1 259 := ⟨by decide +kernel, rfl⟩
theorem dX9_transfer_259 : DC cX9_transfer 259 (.aload_n 0) 1 260 := ⟨by decide +kernel, rfl⟩
theorem dX9_transfer_260 : DC cX9_transfer 260 (.getfield 83) 3 263 := ⟨by decide +kernel, rfl⟩
theorem dX9_transfer_263 : DC cX9_transfer 263 (.iload_n 1) 1 264 := ⟨by decide +kernel, rfl⟩
theorem dX9_transfer_264 : DC cX9_transfer 264 (.iconst 1) 1 265 := ⟨by decide +kernel, rfl⟩
theorem dX9_transfer_265 : DC cX9_transfer 265 (.bastore) 1 266 := ⟨by decide +kernel, rfl⟩
theorem dX9_transfer_266 : DC cX9_transfer 266 (.aload_n 0) 1 267 := ⟨by decide +kernel, rfl⟩
theorem dX9_transfer_267 : DC cX9_transfer 267 (.dup) 1 268 := ⟨by decide +kernel, rfl⟩
theorem dX9_transfer_268 : DC cX9_transfer 268 (.getfield 218) 3 271 := ⟨by decide +kernel, rfl⟩
theorem dX9_transfer_271 : DC cX9_transfer 271 (.iload 5) 2 273 := ⟨by decide +kernel, rfl⟩
theorem dX9_transfer_273 : DC cX9_transfer 273 (.iload 6) 2 275 := ⟨by decide +kernel, rfl⟩
theorem dX9_transfer_275 : DC cX9_transfer 275 (.isub) 1 276 := ⟨by decide +kernel, rfl⟩
theorem dX9_transfer_276 : DC cX9_transfer 276 (.iadd) 1 277 := ⟨by decide +kernel, rfl⟩
theorem dX9_transfer_277 : DC cX9_transfer 277 (.putfield 218) 3 280 := ⟨by decide +kernel, rfl⟩
theorem dX9_transfer_280 : DC cX9_transfer 280 (.aload_n 0) 1 281 := ⟨by decide +kernel, rfl⟩
theorem dX9_transfer_281 : DC cX9_transfer 281 (.iconst 1) 1 282 := ⟨by decide +kernel, rfl⟩
theorem dX9_transfer_282 : DC cX9_transfer 282 (.iload_n 1) 1 283 := ⟨by decide +kernel, rfl⟩
theorem dX9_transfer_283 : DC cX9_transfer 283 (.iload 6) 2 285 := ⟨by decide +kernel, rfl⟩
theorem dX9_transfer_285 : DC cX9_transfer 285 (.invokevirtual 263) 3 288 := ⟨by decide +kernel, rfl⟩
theorem dX9_transfer_288 : DC cX9_transfer 288 (.return_) 1 289 := ⟨by decide +kernel, rfl⟩
theorem dX9_exclude_0 : DC cX9_exclude 0 (.aload_n 0) 1 1 := ⟨by decide +kernel, rfl⟩
theorem dX9_exclude_1 : DC cX9_exclude 1 (.aload_n 0) 1 2 := ⟨by decide +kernel, rfl⟩
theorem dX9_exclude_2 : DC cX9_exclude 2 (.iconst 0) 1 3 := ⟨by decide +kernel, rfl⟩
theorem dX9_exclude_3 : DC cX9_exclude 3 (.invokevirtual 266) 3 6 := ⟨by decide +kernel, rfl⟩
theorem dX9_exclude_6 : DC cX9_exclude 6 (.iconst 0) 1 7 := ⟨by decide +kernel, rfl⟩
theorem dX9_exclude_7 : DC cX9_exclude 7 (.invokevirtual 247) 3 10 := ⟨by decide +kernel, rfl⟩
theorem dX9_exclude_10 : DC cX9_exclude 10 (.istore_n 1) 1 11 := ⟨by decide +kernel, rfl⟩
theorem dX9_exclude_11 : DC cX9_exclude 11 (.aload_n 0) 1 12 := ⟨by decide +kernel, rfl⟩
theorem dX9_exclude_12 : DC cX9_exclude 12 (.aload_n 0) 1 13 := ⟨by decide +kernel, rfl⟩
theorem dX9_exclude_13 : DC cX9_exclude 13 (.iconst 0) 1 14 := ⟨by decide +kernel, rfl⟩
theorem dX9_exclude_14 : DC cX9_exclude 14 (.invokevirtual 266) 3 17 := ⟨by decide +kernel, rfl⟩
theorem dX9_exclude_17 : DC cX9_exclude 17 (.aload_n 0) 1 18 := ⟨by decide +kernel, rfl⟩
theorem dX9_exclude_18 : DC cX9_exclude 18 (.getfield 212) 3 21 := ⟨by decide +kernel, rfl⟩
theorem dX9_exclude_21 : DC cX9_exclude 21 (.iconst 0) 1 22 := ⟨by decide +kernel, rfl⟩
theorem dX9_exclude_22 : DC cX9_exclude 22 (.invokevirtual 234) 3 25 := ⟨by decide +kernel, rfl⟩
theorem dX9_exclude_25 : DC cX9_exclude 25 (.invokestatic 244) 3 28 := ⟨by decide +kernel, rfl⟩
theorem dX9_exclude_28 : DC cX9_exclude 28 (.ifCond .ne 7) 3 31 := ⟨by decide +kernel, rfl⟩
theorem dX9_exclude_31 : DC cX9_exclude 31 (.iconst 1) 1 32 := ⟨by decide +kernel, rfl⟩
theorem dX9_exclude_32 : DC cX9_exclude 32 (.goto 4) 3 35 := ⟨by decide +kernel, rfl⟩
theorem dX9_exclude_35 : DC cX9_exclude 35 (.iconst 0) 1 36 := ⟨by decide +kernel, rfl⟩
theorem dX9_exclude_36 : DC cX9_exclude 36 (.istore_n 2) 1 37 := ⟨by decide +kernel, rfl⟩
theorem dX9_exclude_37 : DC cX9_exclude 37 (.aload_n 0) 1 38 := ⟨by decide +kernel, rfl⟩
theorem dX9_exclude_38 : DC cX9_exclude 38 (.getfield 62) 3 41 := ⟨by decide +kernel, rfl⟩
theorem dX9_exclude_41 : DC cX9_exclude 41 (.iload_n 1) 1 42 := ⟨by decide +kernel, rfl⟩
theorem dX9_exclude_42 : DC cX9_exclude 42 (.iconst 2) 1 43 := ⟨by decide +kernel, rfl⟩
theorem dX9_exclude_43 : DC cX9_exclude 43 (.iastore) 1 44 := ⟨by decide +kernel, rfl⟩
theorem dX9_exclude_44 : DC cX9_exclude 44 (.aload_n 0) 1 45 := ⟨by decide +kernel, rfl⟩
theorem dX9_exclude_45 : DC cX9_exclude 45 (.getfield 65) 3 48 := ⟨by decide +kernel, rfl⟩
theorem dX9_exclude_48 : DC cX9_exclude 48 (.iload_n 1) 1 49 := ⟨by decide +kernel, rfl⟩
theorem dX9_exclude_49 : DC cX9_exclude 49 (.aload_n 0) 1 50 := ⟨by decide +kernel, rfl⟩
theorem dX9_exclude_50 : DC cX9_exclude 50 (.getfield 212) 3 53 := ⟨by decide +kernel, rfl⟩
theorem dX9_exclude_53 : DC cX9_exclude 53 (.iastore) 1 54 := ⟨by decide +kernel, rfl⟩
theorem dX9_exclude_54 : DC cX9_exclude 54 (.aload_n 0) 1 55 := ⟨by decide +kernel, rfl⟩
theorem dX9_exclude_55 : DC cX9_exclude 55 (.getfield 71) 3 58 := ⟨by decide +kernel, rfl⟩
theorem dX9_exclude_58 : DC cX9_exclude 58 (.iload_n 1) 1 59 := ⟨by decide +kernel, rfl⟩
theorem dX9_exclude_59 : DC cX9_exclude 59 (.iload_n 2) 1 60 := ⟨by decide +kernel, rfl⟩
theorem dX9_exclude_60 : DC cX9_exclude 60 (.ifCond .ne 7) 3 63 := ⟨by decide +kernel, rfl⟩
theorem dX9_exclude_63 : DC cX9_exclude 63 (.iconst 3) 1 64 := ⟨by decide +kernel, rfl⟩
theorem dX9_exclude_64 : DC cX9_exclude 64 (.goto 15) 3 67 := ⟨by decide +kernel, rfl⟩
theorem dX9_exclude_67 : DC cX9_exclude 67 (.aload_n 0) 1 68 := ⟨by decide +kernel, rfl⟩
theorem dX9_exclude_68 : DC cX9_exclude 68 (.getfield 241) 3 71 := ⟨by decide +kernel, rfl⟩
theorem dX9_exclude_71 : DC cX9_exclude 71 (.ifCond .eq 7) 3 74 := ⟨by decide +kernel, rfl⟩
theorem dX9_exclude_74 : DC cX9_exclude 74 (.iconst 5) 1 75 := ⟨by decide +kernel, rfl⟩
theorem dX9_exclude_75 : DC cX9_exclude 75 (.goto 4) 3 78 := ⟨by decide +kernel, rfl⟩
theorem dX9_exclude_78 : DC cX9_exclude 78 (.iconst 4) 1 79 := ⟨by decide +kernel, rfl⟩
theorem dX9_exclude_79 : DC cX9_exclude 79 (.iastore) 1 80 := ⟨by decide +kernel, rfl⟩
theorem dX9_exclude_80 : DC cX9_exclude 80 (.aload_n 0) 1 81 := ⟨by decide +kernel, rfl⟩
theorem dX9_exclude_81 : DC cX9_exclude 81 (.getfield 74) 3 84 := ⟨by decide +kernel, rfl⟩
theorem dX9_exclude_84 : DC cX9_exclude 84 (.iload_n 1) 1 85 := ⟨by decide +kernel, rfl⟩
theorem dX9_exclude_85 : DC cX9_exclude 85 (.aload_n 0) 1 86 := ⟨by decide +kernel, rfl⟩
theorem dX9_exclude_86 : DC cX9_exclude 86 (.getfield 71) 3 89 := ⟨by decide +kernel, rfl⟩
theorem dX9_exclude_89 : DC cX9_exclude 89 (.iload_n 1) 1 90 := ⟨by decide +kernel, rfl⟩
theorem dX9_exclude_90 : DC cX9_exclude 90 (.iaload) 1 91 := ⟨by decide +kernel, rfl⟩
theorem dX9_exclude_91 : DC cX9_exclude 91 (.iconst 4) 1 92 := ⟨by decide +kernel, rfl⟩
theorem dX9_exclude_92 : DC cX9_exclude 92 (.if_icmp .ne 10) 3 95 := ⟨by decide +kernel, rfl⟩
theorem dX9_exclude_95 : DC cX9_exclude 95 (.aload_n 0) 1 96 := ⟨by decide +kernel, rfl⟩
theorem dX9_exclude_96 : DC cX9_exclude 96 (.getfield 238) 3 99 := ⟨by decide +kernel, rfl⟩
theorem dX9_exclude_99 : DC cX9_exclude 99 (.goto 4) 3 102 := ⟨by decide +kernel, rfl⟩
theorem dX9_exclude_102 : DC cX9_exclude 102 (.iconst (-1)) 1 103 := ⟨by decide +kernel, rfl⟩
theorem dX9_exclude_103 : DC cX9_exclude 103 (.iastore) 1 104 := ⟨by decide +kernel, rfl⟩
theorem dX9_exclude_104 : DC cX9_exclude 104 (.aload_n 0) 1 105 := ⟨by decide +kernel, rfl⟩
theorem dX9_exclude_105 : DC cX9_exclude 105 (.getfield 80) 3 108 := ⟨by decide +kernel, rfl⟩
theorem dX9_exclude_108 : DC cX9_exclude 108 (.iload_n 1) 1 109 := ⟨by decide +kernel, rfl⟩
theorem dX9_exclude_109 : DC cX9_exclude 109 (.iaload) 1 110 := ⟨by decide +kernel, rfl⟩
theorem dX9_exclude_110 : DC cX9_exclude 110 (.istore_n 3) 1 111 := ⟨by decide +kernel, rfl⟩
theorem dX9_exclude_111 : DC cX9_exclude 111 (.aload_n 0) 1 112 := ⟨by decide +kernel, rfl⟩
theorem dX9_exclude_112 : DC cX9_exclude 112 (.getfield 80) 3 115 := ⟨by decide +kernel, rfl⟩
theorem dX9_exclude_115 : DC cX9_exclude 115 (.iload_n 1) 1 116 := ⟨by decide +kernel, rfl⟩
theorem dX9_exclude_116 : DC cX9_exclude 116 (.iconst 0) 1 117 := ⟨by decide +kernel, rfl⟩
theorem dX9_exclude_117 : DC cX9_exclude 117 (.iastore) 1 118 := ⟨by decide +kernel, rfl⟩
theorem dX9_exclude_118 : DC cX9_exclude 118 (.iconst 0) 1 119 := ⟨by decide +kernel, rfl⟩
theorem dX9_exclude_119 : DC cX9_exclude 119 (.istore 4) 2 121 := ⟨by decide +kernel, rfl⟩
theorem dX9_exclude_121 : DC cX9_exclude 121 (.iload 4) 2 123 := ⟨by decide +kernel, rfl⟩
theorem dX9_exclude_123 : DC cX9_exclude 123 (.aload_n 0) 1 124 := ⟨by decide +kernel, rfl⟩
theorem dX9_exclude_124 : DC cX9_exclude 124 (.getfield 9) 3 127 := ⟨by decide +kernel, rfl⟩
theorem dX9_exclude_127 : DC cX9_exclude 127 (.iconst 1) 1 128 := ⟨by decide +kernel, rfl⟩
theorem dX9_exclude_128 : DC cX9_exclude 128 (.iaload) 1 129 := ⟨by decide +kernel, rfl⟩
theorem dX9_exclude_129 : DC cX9_exclude 129 (.if_icmp .ge 37) 3 132 := ⟨by decide +kernel, rfl⟩
theorem dX9_exclude_132 : DC cX9_exclude 132 (.aload_n 0) 1 133 := ⟨by decide +kernel, rfl⟩
theorem dX9_exclude_133 : DC cX9_exclude 133 (.getfield 87) 3 136 := ⟨by decide +kernel, rfl⟩
theorem dX9_exclude_136 : DC cX9_exclude 136 (.iload 4) 2 138 := ⟨by decide +kernel, rfl⟩
theorem dX9_exclude_138 : DC cX9_exclude 138 (.iaload) 1 139 := ⟨by decide +kernel, rfl⟩
theorem dX9_exclude_139 : DC cX9_exclude 139 (.iload_n 1) 1 140 := ⟨by decide +kernel, rfl⟩
theorem dX9_exclude_140 : DC cX9_exclude 140 (.if_icmp .ne 20) 3 143 := ⟨by decide +kernel, rfl⟩
theorem dX9_exclude_143 : DC cX9_exclude 143 (.aload_n 0) 1 144 := ⟨by decide +kernel, rfl⟩
theorem dX9_exclude_144 : DC cX9_exclude 144 (.iload 4) 2 146 := ⟨by decide +kernel, rfl⟩
theorem dX9_exclude_146 : DC cX9_exclude 146 (.aload_n 0) 1 147 := ⟨by decide +kernel, rfl⟩
theorem dX9_exclude_147 : DC cX9_exclude 147 (.getfield 90) 3 150 := ⟨by decide +kernel, rfl⟩
theorem dX9_exclude_150 : DC cX9_exclude 150 (.iload 4) 2 152 := ⟨by decide +kernel, rfl⟩
theorem dX9_exclude_152 : DC cX9_exclude 152 (.iaload) 1 153 := ⟨by decide +kernel, rfl⟩
theorem dX9_exclude_153 : DC cX9_exclude 153 (.aload_n 0) 1 154 := ⟨by decide +kernel, rfl⟩
theorem dX9_exclude_154 : DC cX9_exclude 154 (.getfield 212) 3 157 := ⟨by decide +kernel, rfl⟩
theorem dX9_exclude_157 : DC cX9_exclude 157 (.invokevirtual 221) 3 160 := ⟨by decide +kernel, rfl⟩
theorem dX9_exclude_160 : DC cX9_exclude 160 (.iinc 4 1) 3 163 := ⟨by decide +kernel, rfl⟩
theorem dX9_exclude_163 : DC cX9_exclude 163 (.goto (-42)) 3 166 := ⟨by decide +kernel, rfl⟩
theorem dX9_exclude_166 : DC cX9_exclude 166 (.aload_n 0) 1 167 := ⟨by decide +kernel, rfl⟩
theorem dX9_exclude_167 : DC cX9_exclude 167 (.iconst 2) 1 168 := ⟨by decide +kernel, rfl⟩
theorem dX9_exclude_168 : DC cX9_exclude 168 (.iload_n 1) 1 169 := ⟨by decide +kernel, rfl⟩
theorem dX9_exclude_169 : DC cX9_exclude 169 (.iload_n 3) 1 170 := ⟨by decide +kernel, rfl⟩
theorem dX9_exclude_170 : DC cX9_exclude 170 (.invokevirtual 263) 3 173 := ⟨by decide +kernel, rfl⟩
theorem dX9_exclude_173 : DC cX9_exclude 173 (.return_) 1 174 := ⟨by decide +kernel, rfl⟩
theorem dX9_happened_0 : DC cX9_happened 0 (.aload_n 0) 1 1 := ⟨by decide +kernel, rfl⟩
theorem dX9_happened_1 : DC cX9_happened 1 (.getfield 44) 3 4 := ⟨by decide +kernel, rfl⟩
theorem dX9_happened_4 : DC cX9_happened 4 (.aload_n 0) 1 5 := ⟨by decide +kernel, rfl⟩
theorem dX9_happened_5 : DC cX9_happened 5 (.getfield 212) 3 8 := ⟨by decide +kernel, rfl⟩
theorem dX9_happened_8 : DC cX9_happened 8 (.iload_n 1) 1 9 := ⟨by decide +kernel, rfl⟩
theorem dX9_happened_9 : DC cX9_happened 9 (.iastore) 1 10 := ⟨by decide +kernel, rfl⟩
theorem dX9_happened_10 : DC cX9_happened 10 (.aload_n 0) 1 11 := ⟨by decide +kernel, rfl⟩
theorem dX9_happened_11 : DC cX9_happened 11 (.getfield 47) 3 14 := ⟨by decide +kernel, rfl⟩
theorem dX9_happened_14 : DC cX9_happened 14 (.aload_n 0) 1 15 := ⟨by decide +kernel, rfl⟩
theorem dX9_happened_15 : DC cX9_happened 15 (.getfield 212) 3 18 := ⟨by decide +kernel, rfl⟩
theorem dX9_happened_18 : DC cX9_happened 18 (.iload_n 2) 1 19 := ⟨by decide +kernel, rfl⟩
theorem dX9_happened_19 : DC cX9_happened 19 (.iastore) 1 20 := ⟨by decide +kernel, rfl⟩
theorem dX9_happened_20 : DC cX9_happened 20 (.aload_n 0) 1 21 := ⟨by decide +kernel, rfl⟩
theorem dX9_happened_21 : DC cX9_happened 21 (.getfield 50) 3 24 := ⟨by decide +kernel, rfl⟩
theorem dX9_happened_24 : DC cX9_happened 24 (.aload_n 0) 1 25 := ⟨by decide +kernel, rfl⟩
theorem dX9_happened_25 : DC cX9_happened 25 (.getfield 212) 3 28 := ⟨by decide +kernel, rfl⟩
theorem dX9_happened_28 : DC cX9_happened 28 (.iload_n 3) 1 29 := ⟨by decide +kernel, rfl⟩
theorem dX9_happened_29 : DC cX9_happened 29 (.iastore) 1 30 := ⟨by decide +kernel, rfl⟩
theorem dX9_happened_30 : DC cX9_happened 30 (.return_) 1 31 := ⟨by decide +kernel, rfl⟩
theorem dX9_count_0 : DC cX9_count 0 (.aload_n 0) 1 1 := ⟨by decide +kernel, rfl⟩
theorem dX9_count_1 : DC cX9_count 1 (.invokevirtual 269) 3 4 := ⟨by decide +kernel, rfl⟩
theorem dX9_count_4 : DC cX9_count 4 (.iconst 1) 1 5 := ⟨by decide +kernel, rfl⟩
theorem dX9_count_5 : DC cX9_count 5 (.istore_n 1) 1 6 := ⟨by decide +kernel, rfl⟩
theorem dX9_count_6 : DC cX9_count 6 (.iload_n 1) 1 7 := ⟨by decide +kernel, rfl⟩
theorem dX9_count_7 : DC cX9_count 7 (.ifCond .eq 151) 3 10 := ⟨by decide +kernel, rfl⟩
theorem dX9_count_10 : DC cX9_count 10 (.aload_n 0) 1 11 := ⟨by decide +kernel, rfl⟩
theorem dX9_count_11 : DC cX9_count 11 (.invokevirtual 272) 3 14 := ⟨by decide +kernel, rfl⟩
theorem dX9_count_14 : DC cX9_count 14 (.aload_n 0) 1 15 := ⟨by decide +kernel, rfl⟩
theorem dX9_count_15 : DC cX9_count 15 (.getfield 35) 3 18 := ⟨by decide +kernel, rfl⟩
theorem dX9_count_18 : DC cX9_count 18 (.aload_n 0) 1 19 := ⟨by decide +kernel, rfl⟩
theorem dX9_count_19 : DC cX9_count 19 (.getfield 212) 3 22 := ⟨by decide +kernel, rfl⟩
theorem dX9_count_22 : DC cX9_count 22 (.iaload) 1 23 := ⟨by decide +kernel, rfl⟩
theorem dX9_count_23 : DC cX9_count 23 (.istore_n 2) 1 24 := ⟨by decide +kernel, rfl⟩
theorem dX9_count_24 : DC cX9_count 24 (.aload_n 0) 1 25 := ⟨by decide +kernel, rfl⟩
theorem dX9_count_25 : DC cX9_count 25 (.getfield 215) 3 28 := ⟨by decide +kernel, rfl⟩
theorem dX9_count_28 : DC cX9_count 28 (.aload_n 0) 1 29 := ⟨by decide +kernel, rfl⟩
theorem dX9_count_29 : DC cX9_count 29 (.getfield 9) 3 32 := ⟨by decide +kernel, rfl⟩
theorem dX9_count_32 : DC cX9_count 32 (.bipush 6) 2 34 := ⟨by decide +kernel, rfl⟩
theorem dX9_count_34 : DC cX9_count 34 (.iaload) 1 35 := ⟨by decide +kernel, rfl⟩
theorem dX9_count_35 : DC cX9_count 35 (.if_icmp .ge 24) 3 38 := ⟨by decide +kernel, rfl⟩
theorem dX9_count_38 : DC cX9_count 38 (.aload_n 0) 1 39 := ⟨by decide +kernel, rfl⟩
theorem dX9_count_39 : DC cX9_count 39 (.iload_n 2) 1 40 := ⟨by decide +kernel, rfl⟩
theorem dX9_count_40 : DC cX9_count 40 (.invokevirtual 266) 3 43 := ⟨by decide +kernel, rfl⟩
theorem dX9_count_43 : DC cX9_count 43 (.ifCond .eq 16) 3 46 := ⟨by decide +kernel, rfl⟩
theorem dX9_count_46 : DC cX9_count 46 (.aload_n 0) 1 47 := ⟨by decide +kernel, rfl⟩
theorem dX9_count_47 : DC cX9_count 47 (.aload_n 0) 1 48 := ⟨by decide +kernel, rfl⟩
theorem dX9_count_48 : DC cX9_count 48 (.iload_n 2) 1 49 := ⟨by decide +kernel, rfl⟩
theorem dX9_count_49 : DC cX9_count 49 (.invokevirtual 266) 3 52 := ⟨by decide +kernel, rfl⟩
theorem dX9_count_52 : DC cX9_count 52 (.iconst 1) 1 53 := ⟨by decide +kernel, rfl⟩
theorem dX9_count_53 : DC cX9_count 53 (.invokevirtual 275) 3 56 := ⟨by decide +kernel, rfl⟩
theorem dX9_count_56 : DC cX9_count 56 (.goto (-32)) 3 59 := ⟨by decide +kernel, rfl⟩
theorem dX9_count_59 : DC cX9_count 59 (.aload_n 0) 1 60 := ⟨by decide +kernel, rfl⟩
theorem dX9_count_60 : DC cX9_count 60 (.getfield 9) 3 63 := ⟨by decide +kernel, rfl⟩
theorem dX9_count_63 : DC cX9_count 63 (.bipush 6) 2 65 := ⟨by decide +kernel, rfl⟩
theorem dX9_count_65 : DC cX9_count 65 (.iaload) 1 66 := ⟨by decide +kernel, rfl⟩
theorem dX9_count_66 : DC cX9_count 66 (.aload_n 0) 1 67 := ⟨by decide +kernel, rfl⟩
theorem dX9_count_67 : DC cX9_count 67 (.getfield 215) 3 70 := ⟨by decide +kernel, rfl⟩
theorem dX9_count_70 : DC cX9_count 70 (.isub) 1 71 := ⟨by decide +kernel, rfl⟩
theorem dX9_count_71 : DC cX9_count 71 (.istore_n 3) 1 72 := ⟨by decide +kernel, rfl⟩
theorem dX9_count_72 : DC cX9_count 72 (.iload_n 3) 1 73 := ⟨by decide +kernel, rfl⟩
theorem dX9_count_73 : DC cX9_count 73 (.ifCond .eq 15) 3 76 := ⟨by decide +kernel, rfl⟩
theorem dX9_count_76 : DC cX9_count 76 (.aload_n 0) 1 77 := ⟨by decide +kernel, rfl⟩
theorem dX9_count_77 : DC cX9_count 77 (.iconst 0) 1 78 := ⟨by decide +kernel, rfl⟩
theorem dX9_count_78 : DC cX9_count 78 (.invokevirtual 266) 3 81 := ⟨by decide +kernel, rfl⟩
theorem dX9_count_81 : DC cX9_count 81 (.invokestatic 279) 3 84 := ⟨by decide +kernel, rfl⟩
theorem dX9_count_84 : DC cX9_count 84 (.iload_n 3) 1 85 := ⟨by decide +kernel, rfl⟩
theorem dX9_count_85 : DC cX9_count 85 (.if_icmp .gt 33) 3 88 := ⟨by decide +kernel, rfl⟩
theorem dX9_count_88 : DC cX9_count 88 (.iload_n 3) 1 89 := ⟨by decide +kernel, rfl⟩
theorem dX9_count_89 : DC cX9_count 89 (.ifCond .le 24) 3 92 := ⟨by decide +kernel, rfl⟩
theorem dX9_count_92 : DC cX9_count 92 (.aload_n 0) 1 93 := ⟨by decide +kernel, rfl⟩
theorem dX9_count_93 : DC cX9_count 93 (.iconst 0) 1 94 := ⟨by decide +kernel, rfl⟩
theorem dX9_count_94 : DC cX9_count 94 (.invokevirtual 266) 3 97 := ⟨by decide +kernel, rfl⟩
theorem dX9_count_97 : DC cX9_count 97 (.ifCond .eq 16) 3 100 := ⟨by decide +kernel, rfl⟩
theorem dX9_count_100 : DC cX9_count 100 (.aload_n 0) 1 101 := ⟨by decide +kernel, rfl⟩
theorem dX9_count_101 : DC cX9_count 101 (.aload_n 0) 1 102 := ⟨by decide +kernel, rfl⟩
theorem dX9_count_102 : DC cX9_count 102 (.iconst 0) 1 103 := ⟨by decide +kernel, rfl⟩
theorem dX9_count_103 : DC cX9_count 103 (.invokevirtual 266) 3 106 := ⟨by decide +kernel, rfl⟩
theorem dX9_count_106 : DC cX9_count 106 (.iconst 2) 1 107 := ⟨by decide +kernel, rfl⟩
theorem dX9_count_107 : DC cX9_count 107 (.invokevirtual 275) 3 110 := ⟨by decide +kernel, rfl⟩
theorem dX9_count_110 : DC cX9_count 110 (.goto (-22)) 3 113 := ⟨by decide +kernel, rfl⟩
theorem dX9_count_113 : DC cX9_count 113 (.iconst 0) 1 114 := ⟨by decide +kernel, rfl⟩
theorem dX9_count_114 : DC cX9_count 114 (.istore_n 1) 1 115 := ⟨by decide +kernel, rfl⟩
theorem dX9_count_115 : DC cX9_count 115 (.goto 30) 3 118 := ⟨by decide +kernel, rfl⟩
theorem dX9_count_118 : DC cX9_count 118 (.aload_n 0) 1 119 := ⟨by decide +kernel, rfl⟩
theorem dX9_count_119 : DC cX9_count 119 (.invokevirtual 282) 3 122 := ⟨by decide +kernel, rfl⟩
theorem dX9_count_122 : DC cX9_count 122 (.ifCond .eq 19) 3 125 := ⟨by decide +kernel, rfl⟩
theorem dX9_count_125 : DC cX9_count 125 (.aload_n 0) 1 126 := ⟨by decide +kernel, rfl⟩
theorem dX9_count_126 : DC cX9_count 126 (.aload_n 0) 1 127 := ⟨by decide +kernel, rfl⟩
theorem dX9_count_127 : DC cX9_count 127 (.aload_n 0) 1 128 := ⟨by decide +kernel, rfl⟩
theorem dX9_count_128 : DC cX9_count 128 (.invokevirtual 282) 3 131 := ⟨by decide +kernel, rfl⟩
theorem dX9_count_131 : DC cX9_count 131 (.iconst 1) 1 132 := ⟨by decide +kernel, rfl⟩
theorem dX9_count_132 : DC cX9_count 132 (.invokevirtual 247) 3 135 := ⟨by decide +kernel, rfl⟩
theorem dX9_count_135 : DC cX9_count 135 (.invokevirtual 285) 3 138 := ⟨by decide +kernel, rfl⟩
theorem dX9_count_138 : DC cX9_count 138 (.goto 7) 3 141 := ⟨by decide +kernel, rfl⟩
theorem dX9_count_141 : DC cX9_count 141 (.aload_n 0) 1 142 := ⟨by decide +kernel, rfl⟩
theorem dX9_count_142 : DC cX9_count 142 (.invokevirtual 288) 3 145 := ⟨by decide +kernel, rfl⟩
theorem dX9_count_145 : DC cX9_count 145 (.aload_n 0) 1 146 := ⟨by decide +kernel, rfl⟩
theorem dX9_count_146 : DC cX9_count 146 (.dup) 1 147 := ⟨by decide +kernel, rfl⟩
theorem dX9_count_147 : DC cX9_count 147 (.getfield 212) 3 150 := ⟨by decide +kernel, rfl⟩
theorem dX9_count_150 : DC cX9_count 150 (.iconst 1) 1 151 := ⟨by decide +kernel, rfl⟩
theorem dX9_count_151 : DC cX9_count 151 (.iadd) 1 152 := ⟨by decide +kernel, rfl⟩
theorem dX9_count_152 : DC cX9_count 152 (.putfield 212) 3 155 := ⟨by decide +kernel, rfl⟩
theorem dX9_count_155 : DC cX9_count 155 (.goto (-149)) 3 158 := ⟨by decide +kernel, rfl⟩
theorem dX9_count_158 : DC cX9_count 158 (.return_) 1 159 := ⟨by decide +kernel, rfl⟩
theorem dX9_know_0 : DC cX9_know 0 (.aload_n 0) 1 1 := ⟨by decide +kernel, rfl⟩
theorem dX9_know_1 : DC cX9_know 1 (.getfield 133) 3 4 := ⟨by decide +kernel, rfl⟩
theorem dX9_know_4 : DC cX9_know 4 (.ifCond .ne 12) 3 7 := ⟨by decide +kernel, rfl⟩
theorem dX9_know_7 : DC cX9_know 7 (.aload_n 0) 1 8 := ⟨by decide +kernel, rfl⟩
theorem dX9_know_8 : DC cX9_know 8 (.invokevirtual 291) 3 11 := ⟨by decide +kernel, rfl⟩
theorem dX9_know_11 : DC cX9_know 11 (.aload_n 0) 1 12 := ⟨by decide +kernel, rfl⟩
theorem dX9_know_12 : DC cX9_know 12 (.iconst 1) 1 13 := ⟨by decide +kernel, rfl⟩
theorem dX9_know_13 : DC cX9_know 13 (.putfield 133) 3 16 := ⟨by decide +kernel, rfl⟩
theorem dX9_know_16 : DC cX9_know 16 (.return_) 1 17 := ⟨by decide +kernel, rfl⟩
theorem dX9_rounds_0 : DC cX9_rounds 0 (.aload_n 0) 1 1 := ⟨by decide +kernel, rfl⟩
theorem dX9_rounds_1 : DC cX9_rounds 1 (.iconst 0) 1 2 := ⟨by decide +kernel, rfl⟩
theorem dX9_rounds_2 : DC cX9_rounds 2 (.putfield 115) 3 5 := ⟨by decide +kernel, rfl⟩
theorem dX9_rounds_5 : DC cX9_rounds 5 (.aload_n 0) 1 6 := ⟨by decide +kernel, rfl⟩
theorem dX9_rounds_6 : DC cX9_rounds 6 (.invokevirtual 294) 3 9 := ⟨by decide +kernel, rfl⟩
theorem dX9_rounds_9 : DC cX9_rounds 9 (.aload_n 0) 1 10 := ⟨by decide +kernel, rfl⟩
theorem dX9_rounds_10 : DC cX9_rounds 10 (.getfield 212) 3 13 := ⟨by decide +kernel, rfl⟩
theorem dX9_rounds_13 : DC cX9_rounds 13 (.ireturn) 1 14 := ⟨by decide +kernel, rfl⟩
theorem dX9_isRound_0 : DC cX9_isRound 0 (.aload_n 0) 1 1 := ⟨by decide +kernel, rfl⟩
theorem dX9_isRound_1 : DC cX9_isRound 1 (.invokevirtual 294) 3 4 := ⟨by decide +kernel, rfl⟩
theorem dX9_isRound_4 : DC cX9_isRound 4 (.iload_n 1) 1 5 := ⟨by decide +kernel, rfl⟩
theorem dX9_isRound_5 : DC cX9_isRound 5 (.iconst 0) 1 6 := ⟨by decide +kernel, rfl⟩
theorem dX9_isRound_6 : DC cX9_isRound 6 (.aload_n 0) 1 7 := ⟨by decide +kernel, rfl⟩
theorem dX9_isRound_7 : DC cX9_isRound 7 (.getfield 212) 3 10 := ⟨by decide +kernel, rfl⟩
theorem dX9_isRound_10 : DC cX9_isRound 10 (.iconst 1) 1 11 := ⟨by decide +kernel, rfl⟩
theorem dX9_isRound_11 : DC cX9_isRound 11 (.isub) 1 12 := ⟨by decide +kernel, rfl⟩
theorem dX9_isRound_12 : DC cX9_isRound 12 (.invokestatic 118) 3 15 := ⟨by decide +kernel, rfl⟩
theorem dX9_isRound_15 : DC cX9_isRound 15 (.ireturn) 1 16 := ⟨by decide +kernel, rfl⟩
theorem dX9_votes_0 : DC cX9_votes 0 (.aload_n 0) 1 1 := ⟨by decide +kernel, rfl⟩
theorem dX9_votes_1 : DC cX9_votes 1 (.aload_n 0) 1 2 := ⟨by decide +kernel, rfl⟩
theorem dX9_votes_2 : DC cX9_votes 2 (.iload_n 1) 1 3 := ⟨by decide +kernel, rfl⟩
theorem dX9_votes_3 : DC cX9_votes 3 (.invokevirtual 297) 3 6 := ⟨by decide +kernel, rfl⟩
theorem dX9_votes_6 : DC cX9_votes 6 (.ifCond .eq 15) 3 9 := ⟨by decide +kernel, rfl⟩
theorem dX9_votes_9 : DC cX9_votes 9 (.aload_n 0) 1 10 := ⟨by decide +kernel, rfl⟩
theorem dX9_votes_10 : DC cX9_votes 10 (.iload_n 2) 1 11 := ⟨by decide +kernel, rfl⟩
theorem dX9_votes_11 : DC cX9_votes 11 (.invokevirtual 168) 3 14 := ⟨by decide +kernel, rfl⟩
theorem dX9_votes_14 : DC cX9_votes 14 (.ifCond .eq 7) 3 17 := ⟨by decide +kernel, rfl⟩
theorem dX9_votes_17 : DC cX9_votes 17 (.iconst 0) 1 18 := ⟨by decide +kernel, rfl⟩
theorem dX9_votes_18 : DC cX9_votes 18 (.goto 4) 3 21 := ⟨by decide +kernel, rfl⟩
theorem dX9_votes_21 : DC cX9_votes 21 (.iconst 1) 1 22 := ⟨by decide +kernel, rfl⟩
theorem dX9_votes_22 : DC cX9_votes 22 (.putfield 115) 3 25 := ⟨by decide +kernel, rfl⟩
theorem dX9_votes_25 : DC cX9_votes 25 (.aload_n 0) 1 26 := ⟨by decide +kernel, rfl⟩
theorem dX9_votes_26 : DC cX9_votes 26 (.getfield 115) 3 29 := ⟨by decide +kernel, rfl⟩
theorem dX9_votes_29 : DC cX9_votes 29 (.ifCond .le 7) 3 32 := ⟨by decide +kernel, rfl⟩
theorem dX9_votes_32 : DC cX9_votes 32 (.iconst 0) 1 33 := ⟨by decide +kernel, rfl⟩
theorem dX9_votes_33 : DC cX9_votes 33 (.goto 9) 3 36 := ⟨by decide +kernel, rfl⟩
theorem dX9_votes_36 : DC cX9_votes 36 (.aload_n 0) 1 37 := ⟨by decide +kernel, rfl⟩
theorem dX9_votes_37 : DC cX9_votes 37 (.iload_n 1) 1 38 := ⟨by decide +kernel, rfl⟩
theorem dX9_votes_38 : DC cX9_votes 38 (.iload_n 2) 1 39 := ⟨by decide +kernel, rfl⟩
theorem dX9_votes_39 : DC cX9_votes 39 (.invokevirtual 231) 3 42 := ⟨by decide +kernel, rfl⟩
theorem dX9_votes_42 : DC cX9_votes 42 (.ireturn) 1 43 := ⟨by decide +kernel, rfl⟩
theorem dX9_round_0 : DC cX9_round 0 (.aload_n 0) 1 1 := ⟨by decide +kernel, rfl⟩
theorem dX9_round_1 : DC cX9_round 1 (.aload_n 0) 1 2 := ⟨by decide +kernel, rfl⟩
theorem dX9_round_2 : DC cX9_round 2 (.iload_n 1) 1 3 := ⟨by decide +kernel, rfl⟩
theorem dX9_round_3 : DC cX9_round 3 (.invokevirtual 297) 3 6 := ⟨by decide +kernel, rfl⟩
theorem dX9_round_6 : DC cX9_round 6 (.ifCond .ne 7) 3 9 := ⟨by decide +kernel, rfl⟩
theorem dX9_round_9 : DC cX9_round 9 (.iconst 1) 1 10 := ⟨by decide +kernel, rfl⟩
theorem dX9_round_10 : DC cX9_round 10 (.goto 18) 3 13 := ⟨by decide +kernel, rfl⟩
theorem dX9_round_13 : DC cX9_round 13 (.iload_n 2) 1 14 := ⟨by decide +kernel, rfl⟩
theorem dX9_round_14 : DC cX9_round 14 (.iconst 0) 1 15 := ⟨by decide +kernel, rfl⟩
theorem dX9_round_15 : DC cX9_round 15 (.bipush 6) 2 17 := ⟨by decide +kernel, rfl⟩
theorem dX9_round_17 : DC cX9_round 17 (.invokestatic 118) 3 20 := ⟨by decide +kernel, rfl⟩
theorem dX9_round_20 : DC cX9_round 20 (.ifCond .ne 7) 3 23 := ⟨by decide +kernel, rfl⟩
theorem dX9_round_23 : DC cX9_round 23 (.iconst 2) 1 24 := ⟨by decide +kernel, rfl⟩
theorem dX9_round_24 : DC cX9_round 24 (.goto 4) 3 27 := ⟨by decide +kernel, rfl⟩
theorem dX9_round_27 : DC cX9_round 27 (.iconst 0) 1 28 := ⟨by decide +kernel, rfl⟩
theorem dX9_round_28 : DC cX9_round 28 (.putfield 115) 3 31 := ⟨by decide +kernel, rfl⟩
theorem dX9_round_31 : DC cX9_round 31 (.aload_n 0) 1 32 := ⟨by decide +kernel, rfl⟩
theorem dX9_round_32 : DC cX9_round 32 (.getfield 115) 3 35 := ⟨by decide +kernel, rfl⟩
theorem dX9_round_35 : DC cX9_round 35 (.ifCond .le 5) 3 38 := ⟨by decide +kernel, rfl⟩
theorem dX9_round_38 : DC cX9_round 38 (.iconst 0) 1 39 := ⟨by decide +kernel, rfl⟩
theorem dX9_round_39 : DC cX9_round 39 (.ireturn) 1 40 := ⟨by decide +kernel, rfl⟩
theorem dX9_round_40 : DC cX9_round 40 (.iload_n 2) 1 41 := ⟨by decide +kernel, rfl⟩
theorem dX9_round_41 : DC cX9_round 41 (.tableswitch 81 0 5 #[39, 46, 53, 60, 67, 74]) 39 80 := ⟨by decide +kernel, rfl⟩
theorem dX9_round_80 : DC cX9_round 80 (.aload_n 0) 1 81 := ⟨by decide +kernel, rfl⟩
theorem dX9_round_81 : DC cX9_round 81 (.getfield 35) 3 84 := ⟨by decide +kernel, rfl⟩
theorem dX9_round_84 : DC cX9_round 84 (.iload_n 1) 1 85 := ⟨by decide +kernel, rfl⟩
theorem dX9_round_85 : DC cX9_round 85 (.iaload) 1 86 := ⟨by decide +kernel, rfl⟩
theorem dX9_round_86 : DC cX9_round 86 (.ireturn) 1 87 := ⟨by decide +kernel, rfl⟩
theorem dX9_round_87 : DC cX9_round 87 (.aload_n 0) 1 88 := ⟨by decide +kernel, rfl⟩
theorem dX9_round_88 : DC cX9_round 88 (.getfield 38) 3 91 := ⟨by decide +kernel, rfl⟩
theorem dX9_round_91 : DC cX9_round 91 (.iload_n 1) 1 92 := ⟨by decide +kernel, rfl⟩
theorem dX9_round_92 : DC cX9_round 92 (.iaload) 1 93 := ⟨by decide +kernel, rfl⟩
theorem dX9_round_93 : DC cX9_round 93 (.ireturn) 1 94 := ⟨by decide +kernel, rfl⟩
theorem dX9_round_94 : DC cX9_round 94 (.aload_n 0) 1 95 := ⟨by decide +kernel, rfl⟩
theorem dX9_round_95 : DC cX9_round 95 (.getfield 41) 3 98 := ⟨by decide +kernel, rfl⟩
theorem dX9_round_98 : DC cX9_round 98 (.iload_n 1) 1 99 := ⟨by decide +kernel, rfl⟩
theorem dX9_round_99 : DC cX9_round 99 (.iaload) 1 100 := ⟨by decide +kernel, rfl⟩
theorem dX9_round_100 : DC cX9_round 100 (.ireturn) 1 101 := ⟨by decide +kernel, rfl⟩
theorem dX9_round_101 : DC cX9_round 101 (.aload_n 0) 1 102 := ⟨by decide +kernel, rfl⟩
theorem dX9_round_102 : DC cX9_round 102 (.getfield 44) 3 105 := ⟨by decide +kernel, rfl⟩
theorem dX9_round_105 : DC cX9_round 105 (.iload_n 1) 1 106 := ⟨by decide +kernel, rfl⟩
theorem dX9_round_106 : DC cX9_round 106 (.iaload) 1 107 := ⟨by decide +kernel, rfl⟩
theorem dX9_round_107 : DC cX9_round 107 (.ireturn) 1 108 := ⟨by decide +kernel, rfl⟩
theorem dX9_round_108 : DC cX9_round 108 (.aload_n 0) 1 109 := ⟨by decide +kernel, rfl⟩
theorem dX9_round_109 : DC cX9_round 109 (.getfield 47) 3 112 := ⟨by decide +kernel, rfl⟩
theorem dX9_round_112 : DC cX9_round 112 (.iload_n 1) 1 113 := ⟨by decide +kernel, rfl⟩
theorem dX9_round_113 : DC cX9_round 113 (.iaload) 1 114 := ⟨by decide +kernel, rfl⟩
theorem dX9_round_114 : DC cX9_round 114 (.ireturn) 1 115 := ⟨by decide +kernel, rfl⟩
theorem dX9_round_115 : DC cX9_round 115 (.aload_n 0) 1 116 := ⟨by decide +kernel, rfl⟩
theorem dX9_round_116 : DC cX9_round 116 (.getfield 50) 3 119 := ⟨by decide +kernel, rfl⟩
theorem dX9_round_119 : DC cX9_round 119 (.iload_n 1) 1 120 := ⟨by decide +kernel, rfl⟩
theorem dX9_round_120 : DC cX9_round 120 (.iaload) 1 121 := ⟨by decide +kernel, rfl⟩
theorem dX9_round_121 : DC cX9_round 121 (.ireturn) 1 122 := ⟨by decide +kernel, rfl⟩
theorem dX9_round_122 : DC cX9_round 122 (.aload_n 0) 1 123 := ⟨by decide +kernel, rfl⟩
theorem dX9_round_123 : DC cX9_round 123 (.getfield 53) 3 126 := ⟨by decide +kernel, rfl⟩
theorem dX9_round_126 : DC cX9_round 126 (.iload_n 1) 1 127 := ⟨by decide +kernel, rfl⟩
theorem dX9_round_127 : DC cX9_round 127 (.iaload) 1 128 := ⟨by decide +kernel, rfl⟩
theorem dX9_round_128 : DC cX9_round 128 (.ireturn) 1 129 := ⟨by decide +kernel, rfl⟩
theorem dX9_candidate_0 : DC cX9_candidate 0 (.aload_n 0) 1 1 := ⟨by decide +kernel, rfl⟩
theorem dX9_candidate_1 : DC cX9_candidate 1 (.aload_n 0) 1 2 := ⟨by decide +kernel, rfl⟩
theorem dX9_candidate_2 : DC cX9_candidate 2 (.iload_n 1) 1 3 := ⟨by decide +kernel, rfl⟩
theorem dX9_candidate_3 : DC cX9_candidate 3 (.invokevirtual 168) 3 6 := ⟨by decide +kernel, rfl⟩
theorem dX9_candidate_6 : DC cX9_candidate 6 (.ifCond .ne 7) 3 9 := ⟨by decide +kernel, rfl⟩
theorem dX9_candidate_9 : DC cX9_candidate 9 (.iconst 1) 1 10 := ⟨by decide +kernel, rfl⟩
theorem dX9_candidate_10 : DC cX9_candidate 10 (.goto 17) 3 13 := ⟨by decide +kernel, rfl⟩
theorem dX9_candidate_13 : DC cX9_candidate 13 (.iload_n 2) 1 14 := ⟨by decide +kernel, rfl⟩
theorem dX9_candidate_14 : DC cX9_candidate 14 (.iconst 0) 1 15 := ⟨by decide +kernel, rfl⟩
theorem dX9_candidate_15 : DC cX9_candidate 15 (.iconst 5) 1 16 := ⟨by decide +kernel, rfl⟩
theorem dX9_candidate_16 : DC cX9_candidate 16 (.invokestatic 118) 3 19 := ⟨by decide +kernel, rfl⟩
theorem dX9_candidate_19 : DC cX9_candidate 19 (.ifCond .ne 7) 3 22 := ⟨by decide +kernel, rfl⟩
theorem dX9_candidate_22 : DC cX9_candidate 22 (.iconst 2) 1 23 := ⟨by decide +kernel, rfl⟩
theorem dX9_candidate_23 : DC cX9_candidate 23 (.goto 4) 3 26 := ⟨by decide +kernel, rfl⟩
theorem dX9_candidate_26 : DC cX9_candidate 26 (.iconst 0) 1 27 := ⟨by decide +kernel, rfl⟩
theorem dX9_candidate_27 : DC cX9_candidate 27 (.putfield 115) 3 30 := ⟨by decide +kernel, rfl⟩
theorem dX9_candidate_30 : DC cX9_candidate 30 (.aload_n 0) 1 31 := ⟨by decide +kernel, rfl⟩
theorem dX9_candidate_31 : DC cX9_candidate 31 (.getfield 115) 3 34 := ⟨by decide +kernel, rfl⟩
theorem dX9_candidate_34 : DC cX9_candidate 34 (.ifCond .le 5) 3 37 := ⟨by decide +kernel, rfl⟩
theorem dX9_candidate_37 : DC cX9_candidate 37 (.iconst 0) 1 38 := ⟨by decide +kernel, rfl⟩
theorem dX9_candidate_38 : DC cX9_candidate 38 (.ireturn) 1 39 := ⟨by decide +kernel, rfl⟩
theorem dX9_candidate_39 : DC cX9_candidate 39 (.aload_n 0) 1 40 := ⟨by decide +kernel, rfl⟩
theorem dX9_candidate_40 : DC cX9_candidate 40 (.invokevirtual 294) 3 43 := ⟨by decide +kernel, rfl⟩
theorem dX9_candidate_43 : DC cX9_candidate 43 (.iload_n 2) 1 44 := ⟨by decide +kernel, rfl⟩
theorem dX9_candidate_44 : DC cX9_candidate 44 (.tableswitch 71 0 4 #[36, 43, 50, 57, 64]) 36 80 := ⟨by decide +kernel, rfl⟩
theorem dX9_candidate_80 : DC cX9_candidate 80 (.aload_n 0) 1 81 := ⟨by decide +kernel, rfl⟩
theorem dX9_candidate_81 : DC cX9_candidate 81 (.getfield 62) 3 84 := ⟨by decide +kernel, rfl⟩
theorem dX9_candidate_84 : DC cX9_candidate 84 (.iload_n 1) 1 85 := ⟨by decide +kernel, rfl⟩
theorem dX9_candidate_85 : DC cX9_candidate 85 (.iaload) 1 86 := ⟨by decide +kernel, rfl⟩
theorem dX9_candidate_86 : DC cX9_candidate 86 (.ireturn) 1 87 := ⟨by decide +kernel, rfl⟩
theorem dX9_candidate_87 : DC cX9_candidate 87 (.aload_n 0) 1 88 := ⟨by decide +kernel, rfl⟩
theorem dX9_candidate_88 : DC cX9_candidate 88 (.getfield 65) 3 91 := ⟨by decide +kernel, rfl⟩
theorem dX9_candidate_91 : DC cX9_candidate 91 (.iload_n 1) 1 92 := ⟨by decide +kernel, rfl⟩
theorem dX9_candidate_92 : DC cX9_candidate 92 (.iaload) 1 93 := ⟨by decide +kernel, rfl⟩
theorem dX9_candidate_93 : DC cX9_candidate 93 (.ireturn) 1 94 := ⟨by decide +kernel, rfl⟩
theorem dX9_candidate_94 : DC cX9_candidate 94 (.aload_n 0) 1 95 := ⟨by decide +kernel, rfl⟩
theorem dX9_candidate_95 : DC cX9_candidate 95 (.getfield 68) 3 98 := ⟨by decide +kernel, rfl⟩
theorem dX9_candidate_98 : DC cX9_candidate 98 (.iload_n 1) 1 99 := ⟨by decide +kernel, rfl⟩
theorem dX9_candidate_99 : DC cX9_candidate 99 (.iaload) 1 100 := ⟨by decide +kernel, rfl⟩
theorem dX9_candidate_100 : DC cX9_candidate 100 (.ireturn) 1 101 := ⟨by decide +kernel, rfl⟩
theorem dX9_candidate_101 : DC cX9_candidate 101 (.aload_n 0) 1 102 := ⟨by decide +kernel, rfl⟩
theorem dX9_candidate_102 : DC cX9_candidate 102 (.getfield 71) 3 105 := ⟨by decide +kernel, rfl⟩
theorem dX9_candidate_105 : DC cX9_candidate 105 (.iload_n 1) 1 106 := ⟨by decide +kernel, rfl⟩
theorem dX9_candidate_106 : DC cX9_candidate 106 (.iaload) 1 107 := ⟨by decide +kernel, rfl⟩
theorem dX9_candidate_107 : DC cX9_candidate 107 (.ireturn) 1 108 := ⟨by decide +kernel, rfl⟩
theorem dX9_candidate_108 : DC cX9_candidate 108 (.aload_n 0) 1 109 := ⟨by decide +kernel, rfl⟩
theorem dX9_candidate_109 : DC cX9_candidate 109 (.getfield 74) 3 112 := ⟨by decide +kernel, rfl⟩
theorem dX9_candidate_112 : DC cX9_candidate 112 (.iload_n 1) 1 113 := ⟨by decide +kernel, rfl⟩
theorem dX9_candidate_113 : DC cX9_candidate 113 (.iaload) 1 114 := ⟨by decide +kernel, rfl⟩
theorem dX9_candidate_114 : DC cX9_candidate 114 (.ireturn) 1 115 := ⟨by decide +kernel, rfl⟩
theorem dX9_candidate_115 : DC cX9_candidate 115 (.aload_n 0) 1 116 := ⟨by decide +kernel, rfl⟩
theorem dX9_candidate_116 : DC cX9_candidate 116 (.aload_n 0) 1 117 := ⟨by decide +kernel, rfl⟩
theorem dX9_candidate_117 : DC cX9_candidate 117 (.getfield 212) 3 120 := ⟨by decide +kernel, rfl⟩
theorem dX9_candidate_120 : DC cX9_candidate 120 (.iconst 1) 1 121 := ⟨by decide +kernel, rfl⟩
theorem dX9_candidate_121 : DC cX9_candidate 121 (.isub) 1 122 := ⟨by decide +kernel, rfl⟩
theorem dX9_candidate_122 : DC cX9_candidate 122 (.iload_n 1) 1 123 := ⟨by decide +kernel, rfl⟩
theorem dX9_candidate_123 : DC cX9_candidate 123 (.invokevirtual 231) 3 126 := ⟨by decide +kernel, rfl⟩
theorem dX9_candidate_126 : DC cX9_candidate 126 (.ireturn) 1 127 := ⟨by decide +kernel, rfl⟩
theorem dX9_elected_0 : DC cX9_elected 0 (.aload_n 0) 1 1 := ⟨by decide +kernel, rfl⟩
theorem dX9_elected_1 : DC cX9_elected 1 (.invokevirtual 294) 3 4 := ⟨by decide +kernel, rfl⟩
theorem dX9_elected_4 : DC cX9_elected 4 (.aload_n 0) 1 5 := ⟨by decide +kernel, rfl⟩
theorem dX9_elected_5 : DC cX9_elected 5 (.iload_n 1) 1 6 := ⟨by decide +kernel, rfl⟩
theorem dX9_elected_6 : DC cX9_elected 6 (.iconst 0) 1 7 := ⟨by decide +kernel, rfl⟩
theorem dX9_elected_7 : DC cX9_elected 7 (.aload_n 0) 1 8 := ⟨by decide +kernel, rfl⟩
theorem dX9_elected_8 : DC cX9_elected 8 (.getfield 215) 3 11 := ⟨by decide +kernel, rfl⟩
theorem dX9_elected_11 : DC cX9_elected 11 (.iconst 1) 1 12 := ⟨by decide +kernel, rfl⟩
theorem dX9_elected_12 : DC cX9_elected 12 (.isub) 1 13 := ⟨by decide +kernel, rfl⟩
theorem dX9_elected_13 : DC cX9_elected 13 (.invokestatic 118) 3 16 := ⟨by decide +kernel, rfl⟩
theorem dX9_elected_16 : DC cX9_elected 16 (.ifCond .eq 7) 3 19 := ⟨by decide +kernel, rfl⟩
theorem dX9_elected_19 : DC cX9_elected 19 (.iconst 0) 1 20 := ⟨by decide +kernel, rfl⟩
theorem dX9_elected_20 : DC cX9_elected 20 (.goto 4) 3 23 := ⟨by decide +kernel, rfl⟩
theorem dX9_elected_23 : DC cX9_elected 23 (.iconst 1) 1 24 := ⟨by decide +kernel, rfl⟩
theorem dX9_elected_24 : DC cX9_elected 24 (.putfield 115) 3 27 := ⟨by decide +kernel, rfl⟩
theorem dX9_elected_27 : DC cX9_elected 27 (.aload_n 0) 1 28 := ⟨by decide +kernel, rfl⟩
theorem dX9_elected_28 : DC cX9_elected 28 (.getfield 115) 3 31 := ⟨by decide +kernel, rfl⟩
theorem dX9_elected_31 : DC cX9_elected 31 (.ifCond .le 7) 3 34 := ⟨by decide +kernel, rfl⟩
theorem dX9_elected_34 : DC cX9_elected 34 (.iconst 0) 1 35 := ⟨by decide +kernel, rfl⟩
theorem dX9_elected_35 : DC cX9_elected 35 (.goto 9) 3 38 := ⟨by decide +kernel, rfl⟩
theorem dX9_elected_38 : DC cX9_elected 38 (.aload_n 0) 1 39 := ⟨by decide +kernel, rfl⟩
theorem dX9_elected_39 : DC cX9_elected 39 (.getfield 77) 3 42 := ⟨by decide +kernel, rfl⟩
theorem dX9_elected_42 : DC cX9_elected 42 (.iload_n 1) 1 43 := ⟨by decide +kernel, rfl⟩
theorem dX9_elected_43 : DC cX9_elected 43 (.iaload) 1 44 := ⟨by decide +kernel, rfl⟩
theorem dX9_elected_44 : DC cX9_elected 44 (.ireturn) 1 45 := ⟨by decide +kernel, rfl⟩
theorem dX9_where_0 : DC cX9_where 0 (.aload_n 0) 1 1 := ⟨by decide +kernel, rfl⟩
theorem dX9_where_1 : DC cX9_where 1 (.aload_n 0) 1 2 := ⟨by decide +kernel, rfl⟩
theorem dX9_where_2 : DC cX9_where 2 (.iload_n 1) 1 3 := ⟨by decide +kernel, rfl⟩
theorem dX9_where_3 : DC cX9_where 3 (.invokevirtual 297) 3 6 := ⟨by decide +kernel, rfl⟩
theorem dX9_where_6 : DC cX9_where 6 (.ifCond .eq 11) 3 9 := ⟨by decide +kernel, rfl⟩
theorem dX9_where_9 : DC cX9_where 9 (.aload_n 0) 1 10 := ⟨by decide +kernel, rfl⟩
theorem dX9_where_10 : DC cX9_where 10 (.iload_n 2) 1 11 := ⟨by decide +kernel, rfl⟩
theorem dX9_where_11 : DC cX9_where 11 (.invokevirtual 161) 3 14 := ⟨by decide +kernel, rfl⟩
theorem dX9_where_14 : DC cX9_where 14 (.ifCond .ne 7) 3 17 := ⟨by decide +kernel, rfl⟩
theorem dX9_where_17 : DC cX9_where 17 (.iconst 1) 1 18 := ⟨by decide +kernel, rfl⟩
theorem dX9_where_18 : DC cX9_where 18 (.goto 17) 3 21 := ⟨by decide +kernel, rfl⟩
theorem dX9_where_21 : DC cX9_where 21 (.iload_n 3) 1 22 := ⟨by decide +kernel, rfl⟩
theorem dX9_where_22 : DC cX9_where 22 (.iconst 0) 1 23 := ⟨by decide +kernel, rfl⟩
theorem dX9_where_23 : DC cX9_where 23 (.iconst 1) 1 24 := ⟨by decide +kernel, rfl⟩
theorem dX9_where_24 : DC cX9_where 24 (.invokestatic 118) 3 27 := ⟨by decide +kernel, rfl⟩
theorem dX9_where_27 : DC cX9_where 27 (.ifCond .ne 7) 3 30 := ⟨by decide +kernel, rfl⟩
theorem dX9_where_30 : DC cX9_where 30 (.iconst 2) 1 31 := ⟨by decide +kernel, rfl⟩
theorem dX9_where_31 : DC cX9_where 31 (.goto 4) 3 34 := ⟨by decide +kernel, rfl⟩
theorem dX9_where_34 : DC cX9_where 34 (.iconst 0) 1 35 := ⟨by decide +kernel, rfl⟩
theorem dX9_where_35 : DC cX9_where 35 (.putfield 115) 3 38 := ⟨by decide +kernel, rfl⟩
theorem dX9_where_38 : DC cX9_where 38 (.aload_n 0) 1 39 := ⟨by decide +kernel, rfl⟩
theorem dX9_where_39 : DC cX9_where 39 (.getfield 115) 3 42 := ⟨by decide +kernel, rfl⟩
theorem dX9_where_42 : DC cX9_where 42 (.ifCond .le 5) 3 45 := ⟨by decide +kernel, rfl⟩
theorem dX9_where_45 : DC cX9_where 45 (.iconst 0) 1 46 := ⟨by decide +kernel, rfl⟩
theorem dX9_where_46 : DC cX9_where 46 (.ireturn) 1 47 := ⟨by decide +kernel, rfl⟩
theorem dX9_where_47 : DC cX9_where 47 (.iload_n 3) 1 48 := ⟨by decide +kernel, rfl⟩
theorem dX9_where_48 : DC cX9_where 48 (.ifCond .ne 17) 3 51 := ⟨by decide +kernel, rfl⟩
theorem dX9_where_51 : DC cX9_where 51 (.aload_n 0) 1 52 := ⟨by decide +kernel, rfl⟩
theorem dX9_where_52 : DC cX9_where 52 (.getfield 56) 3 55 := ⟨by decide +kernel, rfl⟩
theorem dX9_where_55 : DC cX9_where 55 (.bipush 25) 2 57 := ⟨by decide +kernel, rfl⟩
theorem dX9_where_57 : DC cX9_where 57 (.iload_n 1) 1 58 := ⟨by decide +kernel, rfl⟩
theorem dX9_where_58 : DC cX9_where 58 (.imul) 1 59 := ⟨by decide +kernel, rfl⟩
theorem dX9_where_59 : DC cX9_where 59 (.iload_n 2) 1 60 := ⟨by decide +kernel, rfl⟩
theorem dX9_where_60 : DC cX9_where 60 (.iadd) 1 61 := ⟨by decide +kernel, rfl⟩
theorem dX9_where_61 : DC cX9_where 61 (.iaload) 1 62 := ⟨by decide +kernel, rfl⟩
theorem dX9_where_62 : DC cX9_where 62 (.goto 14) 3 65 := ⟨by decide +kernel, rfl⟩
theorem dX9_where_65 : DC cX9_where 65 (.aload_n 0) 1 66 := ⟨by decide +kernel, rfl⟩
theorem dX9_where_66 : DC cX9_where 66 (.getfield 59) 3 69 := ⟨by decide +kernel, rfl⟩
theorem dX9_where_69 : DC cX9_where 69 (.bipush 25) 2 71 := ⟨by decide +kernel, rfl⟩
theorem dX9_where_71 : DC cX9_where 71 (.iload_n 1) 1 72 := ⟨by decide +kernel, rfl⟩
theorem dX9_where_72 : DC cX9_where 72 (.imul) 1 73 := ⟨by decide +kernel, rfl⟩
theorem dX9_where_73 : DC cX9_where 73 (.iload_n 2) 1 74 := ⟨by decide +kernel, rfl⟩
theorem dX9_where_74 : DC cX9_where 74 (.iadd) 1 75 := ⟨by decide +kernel, rfl⟩
theorem dX9_where_75 : DC cX9_where 75 (.iaload) 1 76 := ⟨by decide +kernel, rfl⟩
theorem dX9_where_76 : DC cX9_where 76 (.ireturn) 1 77 := ⟨by decide +kernel, rfl⟩
theorem dX9_share_0 : DC cX9_share 0 (.aload_n 0) 1 1 := ⟨by decide +kernel, rfl⟩
theorem dX9_share_1 : DC cX9_share 1 (.aload_n 0) 1 2 := ⟨by decide +kernel, rfl⟩
theorem dX9_share_2 : DC cX9_share 2 (.iload_n 1) 1 3 := ⟨by decide +kernel, rfl⟩
theorem dX9_share_3 : DC cX9_share 3 (.invokevirtual 297) 3 6 := ⟨by decide +kernel, rfl⟩
theorem dX9_share_6 : DC cX9_share 6 (.ifCond .eq 11) 3 9 := ⟨by decide +kernel, rfl⟩
theorem dX9_share_9 : DC cX9_share 9 (.aload_n 0) 1 10 := ⟨by decide +kernel, rfl⟩
theorem dX9_share_10 : DC cX9_share 10 (.iload_n 2) 1 11 := ⟨by decide +kernel, rfl⟩
theorem dX9_share_11 : DC cX9_share 11 (.invokevirtual 168) 3 14 := ⟨by decide +kernel, rfl⟩
theorem dX9_share_14 : DC cX9_share 14 (.ifCond .ne 7) 3 17 := ⟨by decide +kernel, rfl⟩
theorem dX9_share_17 : DC cX9_share 17 (.iconst 1) 1 18 := ⟨by decide +kernel, rfl⟩
theorem dX9_share_18 : DC cX9_share 18 (.goto 15) 3 21 := ⟨by decide +kernel, rfl⟩
theorem dX9_share_21 : DC cX9_share 21 (.aload_n 0) 1 22 := ⟨by decide +kernel, rfl⟩
theorem dX9_share_22 : DC cX9_share 22 (.invokevirtual 225) 3 25 := ⟨by decide +kernel, rfl⟩
theorem dX9_share_25 : DC cX9_share 25 (.ifCond .ne 7) 3 28 := ⟨by decide +kernel, rfl⟩
theorem dX9_share_28 : DC cX9_share 28 (.iconst 2) 1 29 := ⟨by decide +kernel, rfl⟩
theorem dX9_share_29 : DC cX9_share 29 (.goto 4) 3 32 := ⟨by decide +kernel, rfl⟩
theorem dX9_share_32 : DC cX9_share 32 (.iconst 0) 1 33 := ⟨by decide +kernel, rfl⟩
theorem dX9_share_33 : DC cX9_share 33 (.putfield 115) 3 36 := ⟨by decide +kernel, rfl⟩
theorem dX9_share_36 : DC cX9_share 36 (.aload_n 0) 1 37 := ⟨by decide +kernel, rfl⟩
theorem dX9_share_37 : DC cX9_share 37 (.getfield 115) 3 40 := ⟨by decide +kernel, rfl⟩
theorem dX9_share_40 : DC cX9_share 40 (.ifCond .le 7) 3 43 := ⟨by decide +kernel, rfl⟩
theorem dX9_share_43 : DC cX9_share 43 (.fconst 0) 1 44 := ⟨by decide +kernel, rfl⟩
theorem dX9_share_44 : DC cX9_share 44 (.goto 20) 3 47 := ⟨by decide +kernel, rfl⟩
theorem dX9_share_47 : DC cX9_share 47 (.aload_n 0) 1 48 := ⟨by decide +kernel, rfl⟩
theorem dX9_share_48 : DC cX9_share 48 (.iload_n 1) 1 49 := ⟨by decide +kernel, rfl⟩
theorem dX9_share_49 : DC cX9_share 49 (.iload_n 2) 1 50 := ⟨by decide +kernel, rfl⟩
theorem dX9_share_50 : DC cX9_share 50 (.invokevirtual 231) 3 53 := ⟨by decide +kernel, rfl⟩
theorem dX9_share_53 : DC cX9_share 53 (.i2f) 1 54 := ⟨by decide +kernel, rfl⟩
theorem dX9_share_54 : DC cX9_share 54 (.aload_n 0) 1 55 := ⟨by decide +kernel, rfl⟩
theorem dX9_share_55 : DC cX9_share 55 (.invokevirtual 225) 3 58 := ⟨by decide +kernel, rfl⟩
theorem dX9_share_58 : DC cX9_share 58 (.sipush 10000) 3 61 := ⟨by decide +kernel, rfl⟩
theorem dX9_share_61 : DC cX9_share 61 (.imul) 1 62 := ⟨by decide +kernel, rfl⟩
theorem dX9_share_62 : DC cX9_share 62 (.i2f) 1 63 := ⟨by decide +kernel, rfl⟩
theorem dX9_share_63 : DC cX9_share 63 (.fdiv) 1 64 := ⟨by decide +kernel, rfl⟩
theorem dX9_share_64 : DC cX9_share 64 (.freturn) 1 65 := ⟨by decide +kernel, rfl⟩
theorem dX9_placeOf_0 : DC cX9_placeOf 0 (.iconst 0) 1 1 := ⟨by decide +kernel, rfl⟩
theorem dX9_placeOf_1 : DC cX9_placeOf 1 (.istore_n 3) 1 2 := ⟨by decide +kernel, rfl⟩
theorem dX9_placeOf_2 : DC cX9_placeOf 2 (.iload_n 3) 1 3 := ⟨by decide +kernel, rfl⟩
theorem dX9_placeOf_3 : DC cX9_placeOf 3 (.aload_n 0) 1 4 := ⟨by decide +kernel, rfl⟩
theorem dX9_placeOf_4 : DC cX9_placeOf 4 (.iload_n 1) 1 5 := ⟨by decide +kernel, rfl⟩
theorem dX9_placeOf_5 : DC cX9_placeOf 5 (.invokevirtual 199) 3 8 := ⟨by decide +kernel, rfl⟩
theorem dX9_placeOf_8 : DC cX9_placeOf 8 (.if_icmp .ge 21) 3 11 := ⟨by decide +kernel, rfl⟩
theorem dX9_placeOf_11 : DC cX9_placeOf 11 (.aload_n 0) 1 12 := ⟨by decide +kernel, rfl⟩
theorem dX9_placeOf_12 : DC cX9_placeOf 12 (.iload_n 1) 1 13 := ⟨by decide +kernel, rfl⟩
theorem dX9_placeOf_13 : DC cX9_placeOf 13 (.iload_n 3) 1 14 := ⟨by decide +kernel, rfl⟩
theorem dX9_placeOf_14 : DC cX9_placeOf 14 (.invokevirtual 206) 3 17 := ⟨by decide +kernel, rfl⟩
theorem dX9_placeOf_17 : DC cX9_placeOf 17 (.iload_n 2) 1 18 := ⟨by decide +kernel, rfl⟩
theorem dX9_placeOf_18 : DC cX9_placeOf 18 (.if_icmp .ne 5) 3 21 := ⟨by decide +kernel, rfl⟩
theorem dX9_placeOf_21 : DC cX9_placeOf 21 (.iload_n 3) 1 22 := ⟨by decide +kernel, rfl⟩
theorem dX9_placeOf_22 : DC cX9_placeOf 22 (.ireturn) 1 23 := ⟨by decide +kernel, rfl⟩
theorem dX9_placeOf_23 : DC cX9_placeOf 23 (.iinc 3 1) 3 26 := ⟨by decide +kernel, rfl⟩
theorem dX9_placeOf_26 : DC cX9_placeOf 26 (.goto (-24)) 3 29 := ⟨by decide +kernel, rfl⟩
theorem dX9_placeOf_29 : DC cX9_placeOf 29 (.bipush 8) 2 31 := ⟨by decide +kernel, rfl⟩
theorem dX9_placeOf_31 : DC cX9_placeOf 31 (.ireturn) 1 32 := ⟨by decide +kernel, rfl⟩
theorem dX9_prefer_0 : DC cX9_prefer 0 (.iconst 0) 1 1 := ⟨by decide +kernel, rfl⟩
theorem dX9_prefer_1 : DC cX9_prefer 1 (.istore_n 3) 1 2 := ⟨by decide +kernel, rfl⟩
theorem dX9_prefer_2 : DC cX9_prefer 2 (.iconst 0) 1 3 := ⟨by decide +kernel, rfl⟩
theorem dX9_prefer_3 : DC cX9_prefer 3 (.istore 4) 2 5 := ⟨by decide +kernel, rfl⟩
theorem dX9_prefer_5 : DC cX9_prefer 5 (.iload 4) 2 7 := ⟨by decide +kernel, rfl⟩
theorem dX9_prefer_7 : DC cX9_prefer 7 (.aload_n 0) 1 8 := ⟨by decide +kernel, rfl⟩
theorem dX9_prefer_8 : DC cX9_prefer 8 (.getfield 9) 3 11 := ⟨by decide +kernel, rfl⟩
theorem dX9_prefer_11 : DC cX9_prefer 11 (.iconst 1) 1 12 := ⟨by decide +kernel, rfl⟩
theorem dX9_prefer_12 : DC cX9_prefer 12 (.iaload) 1 13 := ⟨by decide +kernel, rfl⟩
theorem dX9_prefer_13 : DC cX9_prefer 13 (.if_icmp .ge 39) 3 16 := ⟨by decide +kernel, rfl⟩
theorem dX9_prefer_16 : DC cX9_prefer 16 (.iload_n 3) 1 17 := ⟨by decide +kernel, rfl⟩
theorem dX9_prefer_17 : DC cX9_prefer 17 (.aload_n 0) 1 18 := ⟨by decide +kernel, rfl⟩
theorem dX9_prefer_18 : DC cX9_prefer 18 (.iload 4) 2 20 := ⟨by decide +kernel, rfl⟩
theorem dX9_prefer_20 : DC cX9_prefer 20 (.iload_n 1) 1 21 := ⟨by decide +kernel, rfl⟩
theorem dX9_prefer_21 : DC cX9_prefer 21 (.invokevirtual 300) 3 24 := ⟨by decide +kernel, rfl⟩
theorem dX9_prefer_24 : DC cX9_prefer 24 (.aload_n 0) 1 25 := ⟨by decide +kernel, rfl⟩
theorem dX9_prefer_25 : DC cX9_prefer 25 (.iload 4) 2 27 := ⟨by decide +kernel, rfl⟩
theorem dX9_prefer_27 : DC cX9_prefer 27 (.iload_n 2) 1 28 := ⟨by decide +kernel, rfl⟩
theorem dX9_prefer_28 : DC cX9_prefer 28 (.invokevirtual 300) 3 31 := ⟨by decide +kernel, rfl⟩
theorem dX9_prefer_31 : DC cX9_prefer 31 (.if_icmp .ge 12) 3 34 := ⟨by decide +kernel, rfl⟩
theorem dX9_prefer_34 : DC cX9_prefer 34 (.aload_n 0) 1 35 := ⟨by decide +kernel, rfl⟩
theorem dX9_prefer_35 : DC cX9_prefer 35 (.iload 4) 2 37 := ⟨by decide +kernel, rfl⟩
theorem dX9_prefer_37 : DC cX9_prefer 37 (.invokevirtual 203) 3 40 := ⟨by decide +kernel, rfl⟩
theorem dX9_prefer_40 : DC cX9_prefer 40 (.goto 4) 3 43 := ⟨by decide +kernel, rfl⟩
theorem dX9_prefer_43 : DC cX9_prefer 43 (.iconst 0) 1 44 := ⟨by decide +kernel, rfl⟩
theorem dX9_prefer_44 : DC cX9_prefer 44 (.iadd) 1 45 := ⟨by decide +kernel, rfl⟩
theorem dX9_prefer_45 : DC cX9_prefer 45 (.istore_n 3) 1 46 := ⟨by decide +kernel, rfl⟩
theorem dX9_prefer_46 : DC cX9_prefer 46 (.iinc 4 1) 3 49 := ⟨by decide +kernel, rfl⟩
theorem dX9_prefer_49 : DC cX9_prefer 49 (.goto (-44)) 3 52 := ⟨by decide +kernel, rfl⟩
theorem dX9_prefer_52 : DC cX9_prefer 52 (.iload_n 3) 1 53 := ⟨by decide +kernel, rfl⟩
theorem dX9_prefer_53 : DC cX9_prefer 53 (.ireturn) 1 54 := ⟨by decide +kernel, rfl⟩
theorem dX9_preferring_0 : DC cX9_preferring 0 (.aload_n 0) 1 1 := ⟨by decide +kernel, rfl⟩
theorem dX9_preferring_1 : DC cX9_preferring 1 (.aload_n 0) 1 2 := ⟨by decide +kernel, rfl⟩
theorem dX9_preferring_2 : DC cX9_preferring 2 (.iload_n 1) 1 3 := ⟨by decide +kernel, rfl⟩
theorem dX9_preferring_3 : DC cX9_preferring 3 (.invokevirtual 168) 3 6 := ⟨by decide +kernel, rfl⟩
theorem dX9_preferring_6 : DC cX9_preferring 6 (.ifCond .eq 15) 3 9 := ⟨by decide +kernel, rfl⟩
theorem dX9_preferring_9 : DC cX9_preferring 9 (.aload_n 0) 1 10 := ⟨by decide +kernel, rfl⟩
theorem dX9_preferring_10 : DC cX9_preferring 10 (.iload_n 2) 1 11 := ⟨by decide +kernel, rfl⟩
theorem dX9_preferring_11 : DC cX9_preferring 11 (.invokevirtual 168) 3 14 := ⟨by decide +kernel, rfl⟩
theorem dX9_preferring_14 : DC cX9_preferring 14 (.ifCond .eq 7) 3 17 := ⟨by decide +kernel, rfl⟩
theorem dX9_preferring_17 : DC cX9_preferring 17 (.iconst 0) 1 18 := ⟨by decide +kernel, rfl⟩
theorem dX9_preferring_18 : DC cX9_preferring 18 (.goto 4) 3 21 := ⟨by decide +kernel, rfl⟩
theorem dX9_preferring_21 : DC cX9_preferring 21 (.iconst 1) 1 22 := ⟨by decide +kernel, rfl⟩
theorem dX9_preferring_22 : DC cX9_preferring 22 (.putfield 115) 3 25 := ⟨by decide +kernel, rfl⟩
theorem dX9_preferring_25 : DC cX9_preferring 25 (.aload_n 0) 1 26 := ⟨by decide +kernel, rfl⟩
theorem dX9_preferring_26 : DC cX9_preferring 26 (.getfield 115) 3 29 := ⟨by decide +kernel, rfl⟩
theorem dX9_preferring_29 : DC cX9_preferring 29 (.ifCond .le 7) 3 32 := ⟨by decide +kernel, rfl⟩
theorem dX9_preferring_32 : DC cX9_preferring 32 (.iconst 0) 1 33 := ⟨by decide +kernel, rfl⟩
theorem dX9_preferring_33 : DC cX9_preferring 33 (.goto 9) 3 36 := ⟨by decide +kernel, rfl⟩
theorem dX9_preferring_36 : DC cX9_preferring 36 (.aload_n 0) 1 37 := ⟨by decide +kernel, rfl⟩
theorem dX9_preferring_37 : DC cX9_preferring 37 (.iload_n 1) 1 38 := ⟨by decide +kernel, rfl⟩
theorem dX9_preferring_38 : DC cX9_preferring 38 (.iload_n 2) 1 39 := ⟨by decide +kernel, rfl⟩
theorem dX9_preferring_39 : DC cX9_preferring 39 (.invokevirtual 303) 3 42 := ⟨by decide +kernel, rfl⟩
theorem dX9_preferring_42 : DC cX9_preferring 42 (.ireturn) 1 43 := ⟨by decide +kernel, rfl⟩
theorem dX9_beatsAll_0 : DC cX9_beatsAll 0 (.aload_n 0) 1 1 := ⟨by decide +kernel, rfl⟩
theorem dX9_beatsAll_1 : DC cX9_beatsAll 1 (.iconst 0) 1 2 := ⟨by decide +kernel, rfl⟩
theorem dX9_beatsAll_2 : DC cX9_beatsAll 2 (.putfield 115) 3 5 := ⟨by decide +kernel, rfl⟩
theorem dX9_beatsAll_5 : DC cX9_beatsAll 5 (.iconst 0) 1 6 := ⟨by decide +kernel, rfl⟩
theorem dX9_beatsAll_6 : DC cX9_beatsAll 6 (.istore_n 1) 1 7 := ⟨by decide +kernel, rfl⟩
theorem dX9_beatsAll_7 : DC cX9_beatsAll 7 (.iload_n 1) 1 8 := ⟨by decide +kernel, rfl⟩
theorem dX9_beatsAll_8 : DC cX9_beatsAll 8 (.aload_n 0) 1 9 := ⟨by decide +kernel, rfl⟩
theorem dX9_beatsAll_9 : DC cX9_beatsAll 9 (.getfield 9) 3 12 := ⟨by decide +kernel, rfl⟩
theorem dX9_beatsAll_12 : DC cX9_beatsAll 12 (.iconst 0) 1 13 := ⟨by decide +kernel, rfl⟩
theorem dX9_beatsAll_13 : DC cX9_beatsAll 13 (.iaload) 1 14 := ⟨by decide +kernel, rfl⟩
theorem dX9_beatsAll_14 : DC cX9_beatsAll 14 (.if_icmp .ge 85) 3 17 := ⟨by decide +kernel, rfl⟩
theorem dX9_beatsAll_17 : DC cX9_beatsAll 17 (.aload_n 0) 1 18 := ⟨by decide +kernel, rfl⟩
theorem dX9_beatsAll_18 : DC cX9_beatsAll 18 (.iload_n 1) 1 19 := ⟨by decide +kernel, rfl⟩
theorem dX9_beatsAll_19 : DC cX9_beatsAll 19 (.invokevirtual 196) 3 22 := ⟨by decide +kernel, rfl⟩
theorem dX9_beatsAll_22 : DC cX9_beatsAll 22 (.ifCond .ne 7) 3 25 := ⟨by decide +kernel, rfl⟩
theorem dX9_beatsAll_25 : DC cX9_beatsAll 25 (.iconst 1) 1 26 := ⟨by decide +kernel, rfl⟩
theorem dX9_beatsAll_26 : DC cX9_beatsAll 26 (.goto 4) 3 29 := ⟨by decide +kernel, rfl⟩
theorem dX9_beatsAll_29 : DC cX9_beatsAll 29 (.iconst 0) 1 30 := ⟨by decide +kernel, rfl⟩
theorem dX9_beatsAll_30 : DC cX9_beatsAll 30 (.istore_n 2) 1 31 := ⟨by decide +kernel, rfl⟩
theorem dX9_beatsAll_31 : DC cX9_beatsAll 31 (.iconst 0) 1 32 := ⟨by decide +kernel, rfl⟩
theorem dX9_beatsAll_32 : DC cX9_beatsAll 32 (.istore_n 3) 1 33 := ⟨by decide +kernel, rfl⟩
theorem dX9_beatsAll_33 : DC cX9_beatsAll 33 (.iload_n 3) 1 34 := ⟨by decide +kernel, rfl⟩
theorem dX9_beatsAll_34 : DC cX9_beatsAll 34 (.aload_n 0) 1 35 := ⟨by decide +kernel, rfl⟩
theorem dX9_beatsAll_35 : DC cX9_beatsAll 35 (.getfield 9) 3 38 := ⟨by decide +kernel, rfl⟩
theorem dX9_beatsAll_38 : DC cX9_beatsAll 38 (.iconst 0) 1 39 := ⟨by decide +kernel, rfl⟩
theorem dX9_beatsAll_39 : DC cX9_beatsAll 39 (.iaload) 1 40 := ⟨by decide +kernel, rfl⟩
theorem dX9_beatsAll_40 : DC cX9_beatsAll 40 (.if_icmp .ge 47) 3 43 := ⟨by decide +kernel, rfl⟩
theorem dX9_beatsAll_43 : DC cX9_beatsAll 43 (.iload_n 2) 1 44 := ⟨by decide +kernel, rfl⟩
theorem dX9_beatsAll_44 : DC cX9_beatsAll 44 (.ifCond .eq 43) 3 47 := ⟨by decide +kernel, rfl⟩
theorem dX9_beatsAll_47 : DC cX9_beatsAll 47 (.iload_n 3) 1 48 := ⟨by decide +kernel, rfl⟩
theorem dX9_beatsAll_48 : DC cX9_beatsAll 48 (.iload_n 1) 1 49 := ⟨by decide +kernel, rfl⟩
theorem dX9_beatsAll_49 : DC cX9_beatsAll 49 (.if_icmp .eq 26) 3 52 := ⟨by decide +kernel, rfl⟩
theorem dX9_beatsAll_52 : DC cX9_beatsAll 52 (.aload_n 0) 1 53 := ⟨by decide +kernel, rfl⟩
theorem dX9_beatsAll_53 : DC cX9_beatsAll 53 (.iload_n 3) 1 54 := ⟨by decide +kernel, rfl⟩
theorem dX9_beatsAll_54 : DC cX9_beatsAll 54 (.invokevirtual 196) 3 57 := ⟨by decide +kernel, rfl⟩
theorem dX9_beatsAll_57 : DC cX9_beatsAll 57 (.ifCond .ne 18) 3 60 := ⟨by decide +kernel, rfl⟩
theorem dX9_beatsAll_60 : DC cX9_beatsAll 60 (.aload_n 0) 1 61 := ⟨by decide +kernel, rfl⟩
theorem dX9_beatsAll_61 : DC cX9_beatsAll 61 (.iload_n 1) 1 62 := ⟨by decide +kernel, rfl⟩
theorem dX9_beatsAll_62 : DC cX9_beatsAll 62 (.iload_n 3) 1 63 := ⟨by decide +kernel, rfl⟩
theorem dX9_beatsAll_63 : DC cX9_beatsAll 63 (.invokevirtual 303) 3 66 := ⟨by decide +kernel, rfl⟩
theorem dX9_beatsAll_66 : DC cX9_beatsAll 66 (.aload_n 0) 1 67 := ⟨by decide +kernel, rfl⟩
theorem dX9_beatsAll_67 : DC cX9_beatsAll 67 (.iload_n 3) 1 68 := ⟨by decide +kernel, rfl⟩
theorem dX9_beatsAll_68 : DC cX9_beatsAll 68 (.iload_n 1) 1 69 := ⟨by decide +kernel, rfl⟩
theorem dX9_beatsAll_69 : DC cX9_beatsAll 69 (.invokevirtual 303) 3 72 := ⟨by decide +kernel, rfl⟩
theorem dX9_beatsAll_72 : DC cX9_beatsAll 72 (.if_icmp .le 7) 3 75 := ⟨by decide +kernel, rfl⟩
theorem dX9_beatsAll_75 : DC cX9_beatsAll 75 (.iconst 1) 1 76 := ⟨by decide +kernel, rfl⟩
theorem dX9_beatsAll_76 : DC cX9_beatsAll 76 (.goto 4) 3 79 := ⟨by decide +kernel, rfl⟩
theorem dX9_beatsAll_79 : DC cX9_beatsAll 79 (.iconst 0) 1 80 := ⟨by decide +kernel, rfl⟩
theorem dX9_beatsAll_80 : DC cX9_beatsAll 80 (.istore_n 2) 1 81 := ⟨by decide +kernel, rfl⟩
theorem dX9_beatsAll_81 : DC cX9_beatsAll 81 (.iinc 3 1) 3 84 := ⟨by decide +kernel, rfl⟩
theorem dX9_beatsAll_84 : DC cX9_beatsAll 84 (.goto (-51)) 3 87 := ⟨by decide +kernel, rfl⟩
theorem dX9_beatsAll_87 : DC cX9_beatsAll 87 (.iload_n 2) 1 88 := ⟨by decide +kernel, rfl⟩
theorem dX9_beatsAll_88 : DC cX9_beatsAll 88 (.ifCond .eq 5) 3 91 := ⟨by decide +kernel, rfl⟩
theorem dX9_beatsAll_91 : DC cX9_beatsAll 91 (.iload_n 1) 1 92 := ⟨by decide +kernel, rfl⟩
theorem dX9_beatsAll_92 : DC cX9_beatsAll 92 (.ireturn) 1 93 := ⟨by decide +kernel, rfl⟩
theorem dX9_beatsAll_93 : DC cX9_beatsAll 93 (.iinc 1 1) 3 96 := ⟨by decide +kernel, rfl⟩
theorem dX9_beatsAll_96 : DC cX9_beatsAll 96 (.goto (-89)) 3 99 := ⟨by decide +kernel, rfl⟩
theorem dX9_beatsAll_99 : DC cX9_beatsAll 99 (.iconst (-1)) 1 100 := ⟨by decide +kernel, rfl⟩
theorem dX9_beatsAll_100 : DC cX9_beatsAll 100 (.ireturn) 1 101 := ⟨by decide +kernel, rfl⟩
theorem dX9_points_0 : DC cX9_points 0 (.aload_n 0) 1 1 := ⟨by decide +kernel, rfl⟩
theorem dX9_points_1 : DC cX9_points 1 (.aload_n 0) 1 2 := ⟨by decide +kernel, rfl⟩
theorem dX9_points_2 : DC cX9_points 2 (.iload_n 1) 1 3 := ⟨by decide +kernel, rfl⟩
theorem dX9_points_3 : DC cX9_points 3 (.invokevirtual 168) 3 6 := ⟨by decide +kernel, rfl⟩
theorem dX9_points_6 : DC cX9_points 6 (.ifCond .eq 7) 3 9 := ⟨by decide +kernel, rfl⟩
theorem dX9_points_9 : DC cX9_points 9 (.iconst 0) 1 10 := ⟨by decide +kernel, rfl⟩
theorem dX9_points_10 : DC cX9_points 10 (.goto 4) 3 13 := ⟨by decide +kernel, rfl⟩
theorem dX9_points_13 : DC cX9_points 13 (.iconst 1) 1 14 := ⟨by decide +kernel, rfl⟩
theorem dX9_points_14 : DC cX9_points 14 (.putfield 115) 3 17 := ⟨by decide +kernel, rfl⟩
theorem dX9_points_17 : DC cX9_points 17 (.aload_n 0) 1 18 := ⟨by decide +kernel, rfl⟩
theorem dX9_points_18 : DC cX9_points 18 (.getfield 115) 3 21 := ⟨by decide +kernel, rfl⟩
theorem dX9_points_21 : DC cX9_points 21 (.ifCond .le 5) 3 24 := ⟨by decide +kernel, rfl⟩
theorem dX9_points_24 : DC cX9_points 24 (.iconst 0) 1 25 := ⟨by decide +kernel, rfl⟩
theorem dX9_points_25 : DC cX9_points 25 (.ireturn) 1 26 := ⟨by decide +kernel, rfl⟩
theorem dX9_points_26 : DC cX9_points 26 (.iconst 0) 1 27 := ⟨by decide +kernel, rfl⟩
theorem dX9_points_27 : DC cX9_points 27 (.istore_n 2) 1 28 := ⟨by decide +kernel, rfl⟩
theorem dX9_points_28 : DC cX9_points 28 (.iconst 0) 1 29 := ⟨by decide +kernel, rfl⟩
theorem dX9_points_29 : DC cX9_points 29 (.istore_n 3) 1 30 := ⟨by decide +kernel, rfl⟩
theorem dX9_points_30 : DC cX9_points 30 (.iload_n 3) 1 31 := ⟨by decide +kernel, rfl⟩
theorem dX9_points_31 : DC cX9_points 31 (.aload_n 0) 1 32 := ⟨by decide +kernel, rfl⟩
theorem dX9_points_32 : DC cX9_points 32 (.getfield 9) 3 35 := ⟨by decide +kernel, rfl⟩
theorem dX9_points_35 : DC cX9_points 35 (.iconst 0) 1 36 := ⟨by decide +kernel, rfl⟩
theorem dX9_points_36 : DC cX9_points 36 (.iaload) 1 37 := ⟨by decide +kernel, rfl⟩
theorem dX9_points_37 : DC cX9_points 37 (.if_icmp .ge 18) 3 40 := ⟨by decide +kernel, rfl⟩
theorem dX9_points_40 : DC cX9_points 40 (.iload_n 2) 1 41 := ⟨by decide +kernel, rfl⟩
theorem dX9_points_41 : DC cX9_points 41 (.aload_n 0) 1 42 := ⟨by decide +kernel, rfl⟩
theorem dX9_points_42 : DC cX9_points 42 (.iload_n 1) 1 43 := ⟨by decide +kernel, rfl⟩
theorem dX9_points_43 : DC cX9_points 43 (.iload_n 3) 1 44 := ⟨by decide +kernel, rfl⟩
theorem dX9_points_44 : DC cX9_points 44 (.invokevirtual 303) 3 47 := ⟨by decide +kernel, rfl⟩
theorem dX9_points_47 : DC cX9_points 47 (.iadd) 1 48 := ⟨by decide +kernel, rfl⟩
theorem dX9_points_48 : DC cX9_points 48 (.istore_n 2) 1 49 := ⟨by decide +kernel, rfl⟩
theorem dX9_points_49 : DC cX9_points 49 (.iinc 3 1) 3 52 := ⟨by decide +kernel, rfl⟩
theorem dX9_points_52 : DC cX9_points 52 (.goto (-22)) 3 55 := ⟨by decide +kernel, rfl⟩
theorem dX9_points_55 : DC cX9_points 55 (.iload_n 2) 1 56 := ⟨by decide +kernel, rfl⟩
theorem dX9_points_56 : DC cX9_points 56 (.ireturn) 1 57 := ⟨by decide +kernel, rfl⟩
theorem dX9_declare_0 : DC cX9_declare 0 (.aload_n 0) 1 1 := ⟨by decide +kernel, rfl⟩
theorem dX9_declare_1 : DC cX9_declare 1 (.iconst 0) 1 2 := ⟨by decide +kernel, rfl⟩
theorem dX9_declare_2 : DC cX9_declare 2 (.putfield 115) 3 5 := ⟨by decide +kernel, rfl⟩
theorem dX9_declare_5 : DC cX9_declare 5 (.aload_n 0) 1 6 := ⟨by decide +kernel, rfl⟩
theorem dX9_declare_6 : DC cX9_declare 6 (.invokevirtual 294) 3 9 := ⟨by decide +kernel, rfl⟩
theorem dX9_declare_9 : DC cX9_declare 9 (.aload_n 0) 1 10 := ⟨by decide +kernel, rfl⟩
theorem dX9_declare_10 : DC cX9_declare 10 (.iconst 1) 1 11 := ⟨by decide +kernel, rfl⟩
theorem dX9_declare_11 : DC cX9_declare 11 (.putfield 129) 3 14 := ⟨by decide +kernel, rfl⟩
theorem dX9_declare_14 : DC cX9_declare 14 (.aload_n 0) 1 15 := ⟨by decide +kernel, rfl⟩
theorem dX9_declare_15 : DC cX9_declare 15 (.aload_n 0) 1 16 := ⟨by decide +kernel, rfl⟩
theorem dX9_declare_16 : DC cX9_declare 16 (.getfield 212) 3 19 := ⟨by decide +kernel, rfl⟩
theorem dX9_declare_19 : DC cX9_declare 19 (.putfield 306) 3 22 := ⟨by decide +kernel, rfl⟩
theorem dX9_declare_22 : DC cX9_declare 22 (.aload_n 0) 1 23 := ⟨by decide +kernel, rfl⟩
theorem dX9_declare_23 : DC cX9_declare 23 (.aload_n 0) 1 24 := ⟨by decide +kernel, rfl⟩
theorem dX9_declare_24 : DC cX9_declare 24 (.getfield 215) 3 27 := ⟨by decide +kernel, rfl⟩
theorem dX9_declare_27 : DC cX9_declare 27 (.putfield 309) 3 30 := ⟨by decide +kernel, rfl⟩
theorem dX9_declare_30 : DC cX9_declare 30 (.aload_n 0) 1 31 := ⟨by decide +kernel, rfl⟩
theorem dX9_declare_31 : DC cX9_declare 31 (.getfield 32) 3 34 := ⟨by decide +kernel, rfl⟩
theorem dX9_declare_34 : DC cX9_declare 34 (.iconst 0) 1 35 := ⟨by decide +kernel, rfl⟩
theorem dX9_declare_35 : DC cX9_declare 35 (.aload_n 0) 1 36 := ⟨by decide +kernel, rfl⟩
theorem dX9_declare_36 : DC cX9_declare 36 (.getfield 99) 3 39 := ⟨by decide +kernel, rfl⟩
theorem dX9_declare_39 : DC cX9_declare 39 (.iconst 0) 1 40 := ⟨by decide +kernel, rfl⟩
theorem dX9_declare_40 : DC cX9_declare 40 (.sipush 192) 3 43 := ⟨by decide +kernel, rfl⟩
theorem dX9_declare_43 : DC cX9_declare 43 (.invokestatic 136) 3 46 := ⟨by decide +kernel, rfl⟩
theorem dX9_declare_46 : DC cX9_declare 46 (.aload_n 0) 1 47 := ⟨by decide +kernel, rfl⟩
theorem dX9_declare_47 : DC cX9_declare 47 (.getfield 62) 3 50 := ⟨by decide +kernel, rfl⟩
theorem dX9_declare_50 : DC cX9_declare 50 (.iconst 0) 1 51 := ⟨by decide +kernel, rfl⟩
theorem dX9_declare_51 : DC cX9_declare 51 (.aload_n 0) 1 52 := ⟨by decide +kernel, rfl⟩
theorem dX9_declare_52 : DC cX9_declare 52 (.getfield 102) 3 55 := ⟨by decide +kernel, rfl⟩
theorem dX9_declare_55 : DC cX9_declare 55 (.iconst 0) 1 56 := ⟨by decide +kernel, rfl⟩
theorem dX9_declare_56 : DC cX9_declare 56 (.bipush 8) 2 58 := ⟨by decide +kernel, rfl⟩
theorem dX9_declare_58 : DC cX9_declare 58 (.invokestatic 136) 3 61 := ⟨by decide +kernel, rfl⟩
theorem dX9_declare_61 : DC cX9_declare 61 (.aload_n 0) 1 62 := ⟨by decide +kernel, rfl⟩
theorem dX9_declare_62 : DC cX9_declare 62 (.getfield 77) 3 65 := ⟨by decide +kernel, rfl⟩
theorem dX9_declare_65 : DC cX9_declare 65 (.iconst 0) 1 66 := ⟨by decide +kernel, rfl⟩
theorem dX9_declare_66 : DC cX9_declare 66 (.aload_n 0) 1 67 := ⟨by decide +kernel, rfl⟩
theorem dX9_declare_67 : DC cX9_declare 67 (.getfield 105) 3 70 := ⟨by decide +kernel, rfl⟩
theorem dX9_declare_70 : DC cX9_declare 70 (.iconst 0) 1 71 := ⟨by decide +kernel, rfl⟩
theorem dX9_declare_71 : DC cX9_declare 71 (.bipush 8) 2 73 := ⟨by decide +kernel, rfl⟩
theorem dX9_declare_73 : DC cX9_declare 73 (.invokestatic 136) 3 76 := ⟨by decide +kernel, rfl⟩
theorem dX9_declare_76 : DC cX9_declare 76 (.aload_n 0) 1 77 := ⟨by decide +kernel, rfl⟩
theorem dX9_declare_77 : DC cX9_declare 77 (.getfield 215) 3 80 := ⟨by decide +kernel, rfl⟩
theorem dX9_declare_80 : DC cX9_declare 80 (.ireturn) 1 81 := ⟨by decide +kernel, rfl⟩
theorem dX9_differentStatus_0 : DC cX9_differentStatus 0 (.iconst 0) 1 1 := ⟨by decide +kernel, rfl⟩
theorem dX9_differentStatus_1 : DC cX9_differentStatus 1 (.istore_n 1) 1 2 := ⟨by decide +kernel, rfl⟩
theorem dX9_differentStatus_2 : DC cX9_differentStatus 2 (.iconst 0) 1 3 := ⟨by decide +kernel, rfl⟩
theorem dX9_differentStatus_3 : DC cX9_differentStatus 3 (.istore_n 2) 1 4 := ⟨by decide +kernel, rfl⟩
theorem dX9_differentStatus_4 : DC cX9_differentStatus 4 (.iload_n 2) 1 5 := ⟨by decide +kernel, rfl⟩
theorem dX9_differentStatus_5 : DC cX9_differentStatus 5 (.aload_n 0) 1 6 := ⟨by decide +kernel, rfl⟩
theorem dX9_differentStatus_6 : DC cX9_differentStatus 6 (.getfield 9) 3 9 := ⟨by decide +kernel, rfl⟩
theorem dX9_differentStatus_9 : DC cX9_differentStatus 9 (.iconst 0) 1 10 := ⟨by decide +kernel, rfl⟩
theorem dX9_differentStatus_10 : DC cX9_differentStatus 10 (.iaload) 1 11 := ⟨by decide +kernel, rfl⟩
theorem dX9_differentStatus_11 : DC cX9_differentStatus 11 (.if_icmp .ge 32) 3 14 := ⟨by decide +kernel, rfl⟩
theorem dX9_differentStatus_14 : DC cX9_differentStatus 14 (.iload_n 1) 1 15 := ⟨by decide +kernel, rfl⟩
theorem dX9_differentStatus_15 : DC cX9_differentStatus 15 (.aload_n 0) 1 16 := ⟨by decide +kernel, rfl⟩
theorem dX9_differentStatus_16 : DC cX9_differentStatus 16 (.getfield 62) 3 19 := ⟨by decide +kernel, rfl⟩
theorem dX9_differentStatus_19 : DC cX9_differentStatus 19 (.iload_n 2) 1 20 := ⟨by decide +kernel, rfl⟩
theorem dX9_differentStatus_20 : DC cX9_differentStatus 20 (.iaload) 1 21 := ⟨by decide +kernel, rfl⟩
theorem dX9_differentStatus_21 : DC cX9_differentStatus 21 (.aload_n 0) 1 22 := ⟨by decide +kernel, rfl⟩
theorem dX9_differentStatus_22 : DC cX9_differentStatus 22 (.getfield 102) 3 25 := ⟨by decide +kernel, rfl⟩
theorem dX9_differentStatus_25 : DC cX9_differentStatus 25 (.iload_n 2) 1 26 := ⟨by decide +kernel, rfl⟩
theorem dX9_differentStatus_26 : DC cX9_differentStatus 26 (.iaload) 1 27 := ⟨by decide +kernel, rfl⟩
theorem dX9_differentStatus_27 : DC cX9_differentStatus 27 (.if_icmp .eq 7) 3 30 := ⟨by decide +kernel, rfl⟩
theorem dX9_differentStatus_30 : DC cX9_differentStatus 30 (.iconst 1) 1 31 := ⟨by decide +kernel, rfl⟩
theorem dX9_differentStatus_31 : DC cX9_differentStatus 31 (.goto 4) 3 34 := ⟨by decide +kernel, rfl⟩
theorem dX9_differentStatus_34 : DC cX9_differentStatus 34 (.iconst 0) 1 35 := ⟨by decide +kernel, rfl⟩
theorem dX9_differentStatus_35 : DC cX9_differentStatus 35 (.iadd) 1 36 := ⟨by decide +kernel, rfl⟩
theorem dX9_differentStatus_36 : DC cX9_differentStatus 36 (.istore_n 1) 1 37 := ⟨by decide +kernel, rfl⟩
theorem dX9_differentStatus_37 : DC cX9_differentStatus 37 (.iinc 2 1) 3 40 := ⟨by decide +kernel, rfl⟩
theorem dX9_differentStatus_40 : DC cX9_differentStatus 40 (.goto (-36)) 3 43 := ⟨by decide +kernel, rfl⟩
theorem dX9_differentStatus_43 : DC cX9_differentStatus 43 (.iload_n 1) 1 44 := ⟨by decide +kernel, rfl⟩
theorem dX9_differentStatus_44 : DC cX9_differentStatus 44 (.ireturn) 1 45 := ⟨by decide +kernel, rfl⟩
theorem dX9_differentWinner_0 : DC cX9_differentWinner 0 (.aload_n 0) 1 1 := ⟨by decide +kernel, rfl⟩
theorem dX9_differentWinner_1 : DC cX9_differentWinner 1 (.getfield 215) 3 4 := ⟨by decide +kernel, rfl⟩
theorem dX9_differentWinner_4 : DC cX9_differentWinner 4 (.aload_n 0) 1 5 := ⟨by decide +kernel, rfl⟩
theorem dX9_differentWinner_5 : DC cX9_differentWinner 5 (.getfield 309) 3 8 := ⟨by decide +kernel, rfl⟩
theorem dX9_differentWinner_8 : DC cX9_differentWinner 8 (.invokestatic 312) 3 11 := ⟨by decide +kernel, rfl⟩
theorem dX9_differentWinner_11 : DC cX9_differentWinner 11 (.istore_n 1) 1 12 := ⟨by decide +kernel, rfl⟩
theorem dX9_differentWinner_12 : DC cX9_differentWinner 12 (.iconst 0) 1 13 := ⟨by decide +kernel, rfl⟩
theorem dX9_differentWinner_13 : DC cX9_differentWinner 13 (.istore_n 2) 1 14 := ⟨by decide +kernel, rfl⟩
theorem dX9_differentWinner_14 : DC cX9_differentWinner 14 (.iload_n 2) 1 15 := ⟨by decide +kernel, rfl⟩
theorem dX9_differentWinner_15 : DC cX9_differentWinner 15 (.iload_n 1) 1 16 := ⟨by decide +kernel, rfl⟩
theorem dX9_differentWinner_16 : DC cX9_differentWinner 16 (.if_icmp .ge 24) 3 19 := ⟨by decide +kernel, rfl⟩
theorem dX9_differentWinner_19 : DC cX9_differentWinner 19 (.aload_n 0) 1 20 := ⟨by decide +kernel, rfl⟩
theorem dX9_differentWinner_20 : DC cX9_differentWinner 20 (.getfield 77) 3 23 := ⟨by decide +kernel, rfl⟩
theorem dX9_differentWinner_23 : DC cX9_differentWinner 23 (.iload_n 2) 1 24 := ⟨by decide +kernel, rfl⟩
theorem dX9_differentWinner_24 : DC cX9_differentWinner 24 (.iaload) 1 25 := ⟨by decide +kernel, rfl⟩
theorem dX9_differentWinner_25 : DC cX9_differentWinner 25 (.aload_n 0) 1 26 := ⟨by decide +kernel, rfl⟩
theorem dX9_differentWinner_26 : DC cX9_differentWinner 26 (.getfield 105) 3 29 := ⟨by decide +kernel, rfl⟩
theorem dX9_differentWinner_29 : DC cX9_differentWinner 29 (.iload_n 2) 1 30 := ⟨by decide +kernel, rfl⟩
theorem dX9_differentWinner_30 : DC cX9_differentWinner 30 (.iaload) 1 31 := ⟨by decide +kernel, rfl⟩
theorem dX9_differentWinner_31 : DC cX9_differentWinner 31 (.if_icmp .ne 9) 3 34 := ⟨by decide +kernel, rfl⟩
theorem dX9_differentWinner_34 : DC cX9_differentWinner 34 (.iinc 2 1) 3 37 := ⟨by decide +kernel, rfl⟩
theorem dX9_differentWinner_37 : DC cX9_differentWinner 37 (.goto (-23)) 3 40 := ⟨by decide +kernel, rfl⟩
theorem dX9_differentWinner_40 : DC cX9_differentWinner 40 (.iload_n 2) 1 41 := ⟨by decide +kernel, rfl⟩
theorem dX9_differentWinner_41 : DC cX9_differentWinner 41 (.iload_n 1) 1 42 := ⟨by decide +kernel, rfl⟩
theorem dX9_differentWinner_42 : DC cX9_differentWinner 42 (.if_icmp .lt 14) 3 45 := ⟨by decide +kernel, rfl⟩
theorem dX9_differentWinner_45 : DC cX9_differentWinner 45 (.aload_n 0) 1 46 := ⟨by decide +kernel, rfl⟩
theorem dX9_differentWinner_46 : DC cX9_differentWinner 46 (.getfield 215) 3 49 := ⟨by decide +kernel, rfl⟩
theorem dX9_differentWinner_49 : DC cX9_differentWinner 49 (.aload_n 0) 1 50 := ⟨by decide +kernel, rfl⟩
theorem dX9_differentWinner_50 : DC cX9_differentWinner 50 (.getfield 309) 3 53 := ⟨by decide +kernel, rfl⟩
theorem dX9_differentWinner_53 : DC cX9_differentWinner 53 (.if_icmp .eq 7) 3 56 := ⟨by decide +kernel, rfl⟩
theorem dX9_differentWinner_56 : DC cX9_differentWinner 56 (.iload_n 2) 1 57 := ⟨by decide +kernel, rfl⟩
theorem dX9_differentWinner_57 : DC cX9_differentWinner 57 (.goto 4) 3 60 := ⟨by decide +kernel, rfl⟩
theorem dX9_differentWinner_60 : DC cX9_differentWinner 60 (.iconst (-1)) 1 61 := ⟨by decide +kernel, rfl⟩
theorem dX9_differentWinner_61 : DC cX9_differentWinner 61 (.ireturn) 1 62 := ⟨by decide +kernel, rfl⟩
theorem dX9_differentRound_0 : DC cX9_differentRound 0 (.aload_n 0) 1 1 := ⟨by decide +kernel, rfl⟩
theorem dX9_differentRound_1 : DC cX9_differentRound 1 (.getfield 212) 3 4 := ⟨by decide +kernel, rfl⟩
theorem dX9_differentRound_4 : DC cX9_differentRound 4 (.aload_n 0) 1 5 := ⟨by decide +kernel, rfl⟩
theorem dX9_differentRound_5 : DC cX9_differentRound 5 (.getfield 306) 3 8 := ⟨by decide +kernel, rfl⟩
theorem dX9_differentRound_8 : DC cX9_differentRound 8 (.invokestatic 312) 3 11 := ⟨by decide +kernel, rfl⟩
theorem dX9_differentRound_11 : DC cX9_differentRound 11 (.istore_n 1) 1 12 := ⟨by decide +kernel, rfl⟩
theorem dX9_differentRound_12 : DC cX9_differentRound 12 (.iconst 0) 1 13 := ⟨by decide +kernel, rfl⟩
theorem dX9_differentRound_13 : DC cX9_differentRound 13 (.istore_n 2) 1 14 := ⟨by decide +kernel, rfl⟩
theorem dX9_differentRound_14 : DC cX9_differentRound 14 (.iload_n 2) 1 15 := ⟨by decide +kernel, rfl⟩
theorem dX9_differentRound_15 : DC cX9_differentRound 15 (.bipush 8) 2 17 := ⟨by decide +kernel, rfl⟩
theorem dX9_differentRound_17 : DC cX9_differentRound 17 (.iload_n 1) 1 18 := ⟨by decide +kernel, rfl⟩
theorem dX9_differentRound_18 : DC cX9_differentRound 18 (.imul) 1 19 := ⟨by decide +kernel, rfl⟩
theorem dX9_differentRound_19 : DC cX9_differentRound 19 (.if_icmp .ge 29) 3 22 := ⟨by decide +kernel, rfl⟩
theorem dX9_differentRound_22 : DC cX9_differentRound 22 (.aload_n 0) 1 23 := ⟨by decide +kernel, rfl⟩
theorem dX9_differentRound_23 : DC cX9_differentRound 23 (.getfield 32) 3 26 := ⟨by decide +kernel, rfl⟩
theorem dX9_differentRound_26 : DC cX9_differentRound 26 (.iload_n 2) 1 27 := ⟨by decide +kernel, rfl⟩
theorem dX9_differentRound_27 : DC cX9_differentRound 27 (.iaload) 1 28 := ⟨by decide +kernel, rfl⟩
theorem dX9_differentRound_28 : DC cX9_differentRound 28 (.aload_n 0) 1 29 := ⟨by decide +kernel, rfl⟩
theorem dX9_differentRound_29 : DC cX9_differentRound 29 (.getfield 99) 3 32 := ⟨by decide +kernel, rfl⟩
theorem dX9_differentRound_32 : DC cX9_differentRound 32 (.iload_n 2) 1 33 := ⟨by decide +kernel, rfl⟩
theorem dX9_differentRound_33 : DC cX9_differentRound 33 (.iaload) 1 34 := ⟨by decide +kernel, rfl⟩
theorem dX9_differentRound_34 : DC cX9_differentRound 34 (.if_icmp .eq 8) 3 37 := ⟨by decide +kernel, rfl⟩
theorem dX9_differentRound_37 : DC cX9_differentRound 37 (.iload_n 2) 1 38 := ⟨by decide +kernel, rfl⟩
theorem dX9_differentRound_38 : DC cX9_differentRound 38 (.bipush 8) 2 40 := ⟨by decide +kernel, rfl⟩
theorem dX9_differentRound_40 : DC cX9_differentRound 40 (.idiv) 1 41 := ⟨by decide +kernel, rfl⟩
theorem dX9_differentRound_41 : DC cX9_differentRound 41 (.ireturn) 1 42 := ⟨by decide +kernel, rfl⟩
theorem dX9_differentRound_42 : DC cX9_differentRound 42 (.iinc 2 1) 3 45 := ⟨by decide +kernel, rfl⟩
theorem dX9_differentRound_45 : DC cX9_differentRound 45 (.goto (-31)) 3 48 := ⟨by decide +kernel, rfl⟩
theorem dX9_differentRound_48 : DC cX9_differentRound 48 (.aload_n 0) 1 49 := ⟨by decide +kernel, rfl⟩
theorem dX9_differentRound_49 : DC cX9_differentRound 49 (.getfield 212) 3 52 := ⟨by decide +kernel, rfl⟩
theorem dX9_differentRound_52 : DC cX9_differentRound 52 (.aload_n 0) 1 53 := ⟨by decide +kernel, rfl⟩
theorem dX9_differentRound_53 : DC cX9_differentRound 53 (.getfield 306) 3 56 := ⟨by decide +kernel, rfl⟩
theorem dX9_differentRound_56 : DC cX9_differentRound 56 (.if_icmp .eq 7) 3 59 := ⟨by decide +kernel, rfl⟩
theorem dX9_differentRound_59 : DC cX9_differentRound 59 (.iload_n 1) 1 60 := ⟨by decide +kernel, rfl⟩
theorem dX9_differentRound_60 : DC cX9_differentRound 60 (.goto 4) 3 63 := ⟨by decide +kernel, rfl⟩
theorem dX9_differentRound_63 : DC cX9_differentRound 63 (.iconst (-1)) 1 64 := ⟨by decide +kernel, rfl⟩
theorem dX9_differentRound_64 : DC cX9_differentRound 64 (.ireturn) 1 65 := ⟨by decide +kernel, rfl⟩
theorem dX9_recount_0 : DC cX9_recount 0 (.aload_n 0) 1 1 := ⟨by decide +kernel, rfl⟩
theorem dX9_recount_1 : DC cX9_recount 1 (.iload_n 1) 1 2 := ⟨by decide +kernel, rfl⟩
theorem dX9_recount_2 : DC cX9_recount 2 (.iconst 0) 1 3 := ⟨by decide +kernel, rfl⟩
theorem dX9_recount_3 : DC cX9_recount 3 (.iconst 2) 1 4 := ⟨by decide +kernel, rfl⟩
theorem dX9_recount_4 : DC cX9_recount 4 (.invokestatic 118) 3 7 := ⟨by decide +kernel, rfl⟩
theorem dX9_recount_7 : DC cX9_recount 7 (.ifCond .ne 7) 3 10 := ⟨by decide +kernel, rfl⟩
theorem dX9_recount_10 : DC cX9_recount 10 (.iconst 1) 1 11 := ⟨by decide +kernel, rfl⟩
theorem dX9_recount_11 : DC cX9_recount 11 (.goto 15) 3 14 := ⟨by decide +kernel, rfl⟩
theorem dX9_recount_14 : DC cX9_recount 14 (.aload_n 0) 1 15 := ⟨by decide +kernel, rfl⟩
theorem dX9_recount_15 : DC cX9_recount 15 (.getfield 129) 3 18 := ⟨by decide +kernel, rfl⟩
theorem dX9_recount_18 : DC cX9_recount 18 (.ifCond .ne 7) 3 21 := ⟨by decide +kernel, rfl⟩
theorem dX9_recount_21 : DC cX9_recount 21 (.iconst 2) 1 22 := ⟨by decide +kernel, rfl⟩
theorem dX9_recount_22 : DC cX9_recount 22 (.goto 4) 3 25 := ⟨by decide +kernel, rfl⟩
theorem dX9_recount_25 : DC cX9_recount 25 (.iconst 0) 1 26 := ⟨by decide +kernel, rfl⟩
theorem dX9_recount_26 : DC cX9_recount 26 (.putfield 115) 3 29 := ⟨by decide +kernel, rfl⟩
theorem dX9_recount_29 : DC cX9_recount 29 (.aload_n 0) 1 30 := ⟨by decide +kernel, rfl⟩
theorem dX9_recount_30 : DC cX9_recount 30 (.getfield 115) 3 33 := ⟨by decide +kernel, rfl⟩
theorem dX9_recount_33 : DC cX9_recount 33 (.ifCond .le 5) 3 36 := ⟨by decide +kernel, rfl⟩
theorem dX9_recount_36 : DC cX9_recount 36 (.iconst 0) 1 37 := ⟨by decide +kernel, rfl⟩
theorem dX9_recount_37 : DC cX9_recount 37 (.ireturn) 1 38 := ⟨by decide +kernel, rfl⟩
theorem dX9_recount_38 : DC cX9_recount 38 (.aload_n 0) 1 39 := ⟨by decide +kernel, rfl⟩
theorem dX9_recount_39 : DC cX9_recount 39 (.invokevirtual 294) 3 42 := ⟨by decide +kernel, rfl⟩
theorem dX9_recount_42 : DC cX9_recount 42 (.iload_n 1) 1 43 := ⟨by decide +kernel, rfl⟩
theorem dX9_recount_43 : DC cX9_recount 43 (.ifCond .ne 10) 3 46 := ⟨by decide +kernel, rfl⟩
theorem dX9_recount_46 : DC cX9_recount 46 (.aload_n 0) 1 47 := ⟨by decide +kernel, rfl⟩
theorem dX9_recount_47 : DC cX9_recount 47 (.invokevirtual 314) 3 50 := ⟨by decide +kernel, rfl⟩
theorem dX9_recount_50 : DC cX9_recount 50 (.goto 19) 3 53 := ⟨by decide +kernel, rfl⟩
theorem dX9_recount_53 : DC cX9_recount 53 (.iload_n 1) 1 54 := ⟨by decide +kernel, rfl⟩
theorem dX9_recount_54 : DC cX9_recount 54 (.iconst 1) 1 55 := ⟨by decide +kernel, rfl⟩
theorem dX9_recount_55 : DC cX9_recount 55 (.if_icmp .ne 10) 3 58 := ⟨by decide +kernel, rfl⟩
theorem dX9_recount_58 : DC cX9_recount 58 (.aload_n 0) 1 59 := ⟨by decide +kernel, rfl⟩
theorem dX9_recount_59 : DC cX9_recount 59 (.invokevirtual 317) 3 62 := ⟨by decide +kernel, rfl⟩
theorem dX9_recount_62 : DC cX9_recount 62 (.goto 7) 3 65 := ⟨by decide +kernel, rfl⟩
theorem dX9_recount_65 : DC cX9_recount 65 (.aload_n 0) 1 66 := ⟨by decide +kernel, rfl⟩
theorem dX9_recount_66 : DC cX9_recount 66 (.invokevirtual 320) 3 69 := ⟨by decide +kernel, rfl⟩
theorem dX9_recount_69 : DC cX9_recount 69 (.ireturn) 1 70 := ⟨by decide +kernel, rfl⟩
theorem dX9_needed_0 : DC cX9_needed 0 (.aload_n 0) 1 1 := ⟨by decide +kernel, rfl⟩
theorem dX9_needed_1 : DC cX9_needed 1 (.aload_n 0) 1 2 := ⟨by decide +kernel, rfl⟩
theorem dX9_needed_2 : DC cX9_needed 2 (.iload_n 1) 1 3 := ⟨by decide +kernel, rfl⟩
theorem dX9_needed_3 : DC cX9_needed 3 (.invokevirtual 168) 3 6 := ⟨by decide +kernel, rfl⟩
theorem dX9_needed_6 : DC cX9_needed 6 (.ifCond .eq 7) 3 9 := ⟨by decide +kernel, rfl⟩
theorem dX9_needed_9 : DC cX9_needed 9 (.iconst 0) 1 10 := ⟨by decide +kernel, rfl⟩
theorem dX9_needed_10 : DC cX9_needed 10 (.goto 4) 3 13 := ⟨by decide +kernel, rfl⟩
theorem dX9_needed_13 : DC cX9_needed 13 (.iconst 1) 1 14 := ⟨by decide +kernel, rfl⟩
theorem dX9_needed_14 : DC cX9_needed 14 (.putfield 115) 3 17 := ⟨by decide +kernel, rfl⟩
theorem dX9_needed_17 : DC cX9_needed 17 (.aload_n 0) 1 18 := ⟨by decide +kernel, rfl⟩
theorem dX9_needed_18 : DC cX9_needed 18 (.getfield 115) 3 21 := ⟨by decide +kernel, rfl⟩
theorem dX9_needed_21 : DC cX9_needed 21 (.ifCond .le 5) 3 24 := ⟨by decide +kernel, rfl⟩
theorem dX9_needed_24 : DC cX9_needed 24 (.iconst 0) 1 25 := ⟨by decide +kernel, rfl⟩
theorem dX9_needed_25 : DC cX9_needed 25 (.ireturn) 1 26 := ⟨by decide +kernel, rfl⟩
theorem dX9_needed_26 : DC cX9_needed 26 (.aload_n 0) 1 27 := ⟨by decide +kernel, rfl⟩
theorem dX9_needed_27 : DC cX9_needed 27 (.getfield 9) 3 30 := ⟨by decide +kernel, rfl⟩
theorem dX9_needed_30 : DC cX9_needed 30 (.iconst 1) 1 31 := ⟨by decide +kernel, rfl⟩
theorem dX9_needed_31 : DC cX9_needed 31 (.iaload) 1 32 := ⟨by decide +kernel, rfl⟩
theorem dX9_needed_32 : DC cX9_needed 32 (.istore_n 2) 1 33 := ⟨by decide +kernel, rfl⟩
theorem dX9_needed_33 : DC cX9_needed 33 (.aload_n 0) 1 34 := ⟨by decide +kernel, rfl⟩
theorem dX9_needed_34 : DC cX9_needed 34 (.getfield 9) 3 37 := ⟨by decide +kernel, rfl⟩
theorem dX9_needed_37 : DC cX9_needed 37 (.iconst 1) 1 38 := ⟨by decide +kernel, rfl⟩
theorem dX9_needed_38 : DC cX9_needed 38 (.dup2) 1 39 := ⟨by decide +kernel, rfl⟩
theorem dX9_needed_39 : DC cX9_needed 39 (.iaload) 1 40 := ⟨by decide +kernel, rfl⟩
theorem dX9_needed_40 : DC cX9_needed 40 (.iconst 1) 1 41 := ⟨by decide +kernel, rfl⟩
theorem dX9_needed_41 : DC cX9_needed 41 (.iadd) 1 42 := ⟨by decide +kernel, rfl⟩
theorem dX9_needed_42 : DC cX9_needed 42 (.iastore) 1 43 := ⟨by decide +kernel, rfl⟩
theorem dX9_needed_43 : DC cX9_needed 43 (.aload_n 0) 1 44 := ⟨by decide +kernel, rfl⟩
theorem dX9_needed_44 : DC cX9_needed 44 (.getfield 9) 3 47 := ⟨by decide +kernel, rfl⟩
theorem dX9_needed_47 : DC cX9_needed 47 (.iload_n 2) 1 48 := ⟨by decide +kernel, rfl⟩
theorem dX9_needed_48 : DC cX9_needed 48 (.iconst 1) 1 49 := ⟨by decide +kernel, rfl⟩
theorem dX9_needed_49 : DC cX9_needed 49 (.invokestatic 122) 3 52 := ⟨by decide +kernel, rfl⟩
theorem dX9_needed_52 : DC cX9_needed 52 (.iconst 1) 1 53 := ⟨by decide +kernel, rfl⟩
theorem dX9_needed_53 : DC cX9_needed 53 (.iastore) 1 54 := ⟨by decide +kernel, rfl⟩
theorem dX9_needed_54 : DC cX9_needed 54 (.aload_n 0) 1 55 := ⟨by decide +kernel, rfl⟩
theorem dX9_needed_55 : DC cX9_needed 55 (.getfield 9) 3 58 := ⟨by decide +kernel, rfl⟩
theorem dX9_needed_58 : DC cX9_needed 58 (.iload_n 2) 1 59 := ⟨by decide +kernel, rfl⟩
theorem dX9_needed_59 : DC cX9_needed 59 (.iconst 2) 1 60 := ⟨by decide +kernel, rfl⟩
theorem dX9_needed_60 : DC cX9_needed 60 (.invokestatic 122) 3 63 := ⟨by decide +kernel, rfl⟩
theorem dX9_needed_63 : DC cX9_needed 63 (.iload_n 1) 1 64 := ⟨by decide +kernel, rfl⟩
theorem dX9_needed_64 : DC cX9_needed 64 (.iastore) 1 65 := ⟨by decide +kernel, rfl⟩
theorem dX9_needed_65 : DC cX9_needed 65 (.iconst (-1)) 1 66 := ⟨by decide +kernel, rfl⟩
theorem dX9_needed_66 : DC cX9_needed 66 (.istore_n 3) 1 67 := ⟨by decide +kernel, rfl⟩
theorem dX9_needed_67 : DC cX9_needed 67 (.iconst 0) 1 68 := ⟨by decide +kernel, rfl⟩
theorem dX9_needed_68 : DC cX9_needed 68 (.istore 4) 2 70 := ⟨by decide +kernel, rfl⟩
theorem dX9_needed_70 : DC cX9_needed 70 (.iload 4) 2 72 := ⟨by decide +kernel, rfl⟩
theorem dX9_needed_72 : DC cX9_needed 72 (.bipush 60) 2 74 := ⟨by decide +kernel, rfl⟩
theorem dX9_needed_74 : DC cX9_needed 74 (.if_icmp .gt 46) 3 77 := ⟨by decide +kernel, rfl⟩
theorem dX9_needed_77 : DC cX9_needed 77 (.iload_n 3) 1 78 := ⟨by decide +kernel, rfl⟩
theorem dX9_needed_78 : DC cX9_needed 78 (.ifCond .ge 42) 3 81 := ⟨by decide +kernel, rfl⟩
theorem dX9_needed_81 : DC cX9_needed 81 (.aload_n 0) 1 82 := ⟨by decide +kernel, rfl⟩
theorem dX9_needed_82 : DC cX9_needed 82 (.getfield 9) 3 85 := ⟨by decide +kernel, rfl⟩
theorem dX9_needed_85 : DC cX9_needed 85 (.iload_n 2) 1 86 := ⟨by decide +kernel, rfl⟩
theorem dX9_needed_86 : DC cX9_needed 86 (.iconst 0) 1 87 := ⟨by decide +kernel, rfl⟩
theorem dX9_needed_87 : DC cX9_needed 87 (.invokestatic 122) 3 90 := ⟨by decide +kernel, rfl⟩
theorem dX9_needed_90 : DC cX9_needed 90 (.iload 4) 2 92 := ⟨by decide +kernel, rfl⟩
theorem dX9_needed_92 : DC cX9_needed 92 (.iastore) 1 93 := ⟨by decide +kernel, rfl⟩
theorem dX9_needed_93 : DC cX9_needed 93 (.aload_n 0) 1 94 := ⟨by decide +kernel, rfl⟩
theorem dX9_needed_94 : DC cX9_needed 94 (.invokevirtual 291) 3 97 := ⟨by decide +kernel, rfl⟩
theorem dX9_needed_97 : DC cX9_needed 97 (.aload_n 0) 1 98 := ⟨by decide +kernel, rfl⟩
theorem dX9_needed_98 : DC cX9_needed 98 (.getfield 62) 3 101 := ⟨by decide +kernel, rfl⟩
theorem dX9_needed_101 : DC cX9_needed 101 (.iload_n 1) 1 102 := ⟨by decide +kernel, rfl⟩
theorem dX9_needed_102 : DC cX9_needed 102 (.iaload) 1 103 := ⟨by decide +kernel, rfl⟩
theorem dX9_needed_103 : DC cX9_needed 103 (.iconst 1) 1 104 := ⟨by decide +kernel, rfl⟩
theorem dX9_needed_104 : DC cX9_needed 104 (.if_icmp .ne 8) 3 107 := ⟨by decide +kernel, rfl⟩
theorem dX9_needed_107 : DC cX9_needed 107 (.iload 4) 2 109 := ⟨by decide +kernel, rfl⟩
theorem dX9_needed_109 : DC cX9_needed 109 (.goto 4) 3 112 := ⟨by decide +kernel, rfl⟩
theorem dX9_needed_112 : DC cX9_needed 112 (.iconst (-1)) 1 113 := ⟨by decide +kernel, rfl⟩
theorem dX9_needed_113 : DC cX9_needed 113 (.istore_n 3) 1 114 := ⟨by decide +kernel, rfl⟩
theorem dX9_needed_114 : DC cX9_needed 114 (.iinc 4 1) 3 117 := ⟨by decide +kernel, rfl⟩
theorem dX9_needed_117 : DC cX9_needed 117 (.goto (-47)) 3 120 := ⟨by decide +kernel, rfl⟩
theorem dX9_needed_120 : DC cX9_needed 120 (.aload_n 0) 1 121 := ⟨by decide +kernel, rfl⟩
theorem dX9_needed_121 : DC cX9_needed 121 (.getfield 9) 3 124 := ⟨by decide +kernel, rfl⟩
theorem dX9_needed_124 : DC cX9_needed 124 (.iconst 1) 1 125 := ⟨by decide +kernel, rfl⟩
theorem dX9_needed_125 : DC cX9_needed 125 (.dup2) 1 126 := ⟨by decide +kernel, rfl⟩
theorem dX9_needed_126 : DC cX9_needed 126 (.iaload) 1 127 := ⟨by decide +kernel, rfl⟩
theorem dX9_needed_127 : DC cX9_needed 127 (.iconst 1) 1 128 := ⟨by decide +kernel, rfl⟩
theorem dX9_needed_128 : DC cX9_needed 128 (.isub) 1 129 := ⟨by decide +kernel, rfl⟩
theorem dX9_needed_129 : DC cX9_needed 129 (.iastore) 1 130 := ⟨by decide +kernel, rfl⟩
theorem dX9_needed_130 : DC cX9_needed 130 (.aload_n 0) 1 131 := ⟨by decide +kernel, rfl⟩
theorem dX9_needed_131 : DC cX9_needed 131 (.iconst 0) 1 132 := ⟨by decide +kernel, rfl⟩
theorem dX9_needed_132 : DC cX9_needed 132 (.putfield 133) 3 135 := ⟨by decide +kernel, rfl⟩
theorem dX9_needed_135 : DC cX9_needed 135 (.iload_n 3) 1 136 := ⟨by decide +kernel, rfl⟩
theorem dX9_needed_136 : DC cX9_needed 136 (.ireturn) 1 137 := ⟨by decide +kernel, rfl⟩
theorem dX9_undo_0 : DC cX9_undo 0 (.aload_n 0) 1 1 := ⟨by decide +kernel, rfl⟩
theorem dX9_undo_1 : DC cX9_undo 1 (.aload_n 0) 1 2 := ⟨by decide +kernel, rfl⟩
theorem dX9_undo_2 : DC cX9_undo 2 (.getfield 126) 3 5 := ⟨by decide +kernel, rfl⟩
theorem dX9_undo_5 : DC cX9_undo 5 (.ifCond .ne 7) 3 8 := ⟨by decide +kernel, rfl⟩
theorem dX9_undo_8 : DC cX9_undo 8 (.iconst 1) 1 9 := ⟨by decide +kernel, rfl⟩
theorem dX9_undo_9 : DC cX9_undo 9 (.goto 4) 3 12 := ⟨by decide +kernel, rfl⟩
theorem dX9_undo_12 : DC cX9_undo 12 (.iconst 0) 1 13 := ⟨by decide +kernel, rfl⟩
theorem dX9_undo_13 : DC cX9_undo 13 (.putfield 115) 3 16 := ⟨by decide +kernel, rfl⟩
theorem dX9_undo_16 : DC cX9_undo 16 (.aload_n 0) 1 17 := ⟨by decide +kernel, rfl⟩
theorem dX9_undo_17 : DC cX9_undo 17 (.getfield 115) 3 20 := ⟨by decide +kernel, rfl⟩
theorem dX9_undo_20 : DC cX9_undo 20 (.ifCond .le 5) 3 23 := ⟨by decide +kernel, rfl⟩
theorem dX9_undo_23 : DC cX9_undo 23 (.iconst 0) 1 24 := ⟨by decide +kernel, rfl⟩
theorem dX9_undo_24 : DC cX9_undo 24 (.ireturn) 1 25 := ⟨by decide +kernel, rfl⟩
theorem dX9_undo_25 : DC cX9_undo 25 (.aload_n 0) 1 26 := ⟨by decide +kernel, rfl⟩
theorem dX9_undo_26 : DC cX9_undo 26 (.dup) 1 27 := ⟨by decide +kernel, rfl⟩
theorem dX9_undo_27 : DC cX9_undo 27 (.getfield 126) 3 30 := ⟨by decide +kernel, rfl⟩
theorem dX9_undo_30 : DC cX9_undo 30 (.iconst 1) 1 31 := ⟨by decide +kernel, rfl⟩
theorem dX9_undo_31 : DC cX9_undo 31 (.isub) 1 32 := ⟨by decide +kernel, rfl⟩
theorem dX9_undo_32 : DC cX9_undo 32 (.putfield 126) 3 35 := ⟨by decide +kernel, rfl⟩
theorem dX9_undo_35 : DC cX9_undo 35 (.aload_n 0) 1 36 := ⟨by decide +kernel, rfl⟩
theorem dX9_undo_36 : DC cX9_undo 36 (.getfield 16) 3 39 := ⟨by decide +kernel, rfl⟩
theorem dX9_undo_39 : DC cX9_undo 39 (.sipush 265) 3 42 := ⟨by decide +kernel, rfl⟩
theorem dX9_undo_42 : DC cX9_undo 42 (.aload_n 0) 1 43 := ⟨by decide +kernel, rfl⟩
theorem dX9_undo_43 : DC cX9_undo 43 (.getfield 126) 3 46 := ⟨by decide +kernel, rfl⟩
theorem dX9_undo_46 : DC cX9_undo 46 (.imul) 1 47 := ⟨by decide +kernel, rfl⟩
theorem dX9_undo_47 : DC cX9_undo 47 (.aload_n 0) 1 48 := ⟨by decide +kernel, rfl⟩
theorem dX9_undo_48 : DC cX9_undo 48 (.getfield 9) 3 51 := ⟨by decide +kernel, rfl⟩
theorem dX9_undo_51 : DC cX9_undo 51 (.iconst 0) 1 52 := ⟨by decide +kernel, rfl⟩
theorem dX9_undo_52 : DC cX9_undo 52 (.sipush 265) 3 55 := ⟨by decide +kernel, rfl⟩
theorem dX9_undo_55 : DC cX9_undo 55 (.invokestatic 136) 3 58 := ⟨by decide +kernel, rfl⟩
theorem dX9_undo_58 : DC cX9_undo 58 (.aload_n 0) 1 59 := ⟨by decide +kernel, rfl⟩
theorem dX9_undo_59 : DC cX9_undo 59 (.iconst 0) 1 60 := ⟨by decide +kernel, rfl⟩
theorem dX9_undo_60 : DC cX9_undo 60 (.putfield 133) 3 63 := ⟨by decide +kernel, rfl⟩
theorem dX9_undo_63 : DC cX9_undo 63 (.aload_n 0) 1 64 := ⟨by decide +kernel, rfl⟩
theorem dX9_undo_64 : DC cX9_undo 64 (.getfield 126) 3 67 := ⟨by decide +kernel, rfl⟩
theorem dX9_undo_67 : DC cX9_undo 67 (.ireturn) 1 68 := ⟨by decide +kernel, rfl⟩
theorem dX9_save_0 : DC cX9_save 0 (.aload_n 0) 1 1 := ⟨by decide +kernel, rfl⟩
theorem dX9_save_1 : DC cX9_save 1 (.iconst 0) 1 2 := ⟨by decide +kernel, rfl⟩
theorem dX9_save_2 : DC cX9_save 2 (.putfield 115) 3 5 := ⟨by decide +kernel, rfl⟩
theorem dX9_save_5 : DC cX9_save 5 (.aload_n 0) 1 6 := ⟨by decide +kernel, rfl⟩
theorem dX9_save_6 : DC cX9_save 6 (.iconst 1) 1 7 := ⟨by decide +kernel, rfl⟩
theorem dX9_save_7 : DC cX9_save 7 (.putfield 323) 3 10 := ⟨by decide +kernel, rfl⟩
theorem dX9_save_10 : DC cX9_save 10 (.aload_n 0) 1 11 := ⟨by decide +kernel, rfl⟩
theorem dX9_save_11 : DC cX9_save 11 (.getfield 9) 3 14 := ⟨by decide +kernel, rfl⟩
theorem dX9_save_14 : DC cX9_save 14 (.iconst 0) 1 15 := ⟨by decide +kernel, rfl⟩
theorem dX9_save_15 : DC cX9_save 15 (.aload_n 0) 1 16 := ⟨by decide +kernel, rfl⟩
theorem dX9_save_16 : DC cX9_save 16 (.getfield 19) 3 19 := ⟨by decide +kernel, rfl⟩
theorem dX9_save_19 : DC cX9_save 19 (.iconst 0) 1 20 := ⟨by decide +kernel, rfl⟩
theorem dX9_save_20 : DC cX9_save 20 (.sipush 265) 3 23 := ⟨by decide +kernel, rfl⟩
theorem dX9_save_23 : DC cX9_save 23 (.invokestatic 136) 3 26 := ⟨by decide +kernel, rfl⟩
theorem dX9_save_26 : DC cX9_save 26 (.aload_n 0) 1 27 := ⟨by decide +kernel, rfl⟩
theorem dX9_save_27 : DC cX9_save 27 (.getfield 108) 3 30 := ⟨by decide +kernel, rfl⟩
theorem dX9_save_30 : DC cX9_save 30 (.iconst 0) 1 31 := ⟨by decide +kernel, rfl⟩
theorem dX9_save_31 : DC cX9_save 31 (.aload_n 0) 1 32 := ⟨by decide +kernel, rfl⟩
theorem dX9_save_32 : DC cX9_save 32 (.getfield 129) 3 35 := ⟨by decide +kernel, rfl⟩
theorem dX9_save_35 : DC cX9_save 35 (.ifCond .eq 7) 3 38 := ⟨by decide +kernel, rfl⟩
theorem dX9_save_38 : DC cX9_save 38 (.iconst 1) 1 39 := ⟨by decide +kernel, rfl⟩
theorem dX9_save_39 : DC cX9_save 39 (.goto 4) 3 42 := ⟨by decide +kernel, rfl⟩
theorem dX9_save_42 : DC cX9_save 42 (.iconst 0) 1 43 := ⟨by decide +kernel, rfl⟩
theorem dX9_save_43 : DC cX9_save 43 (.iastore) 1 44 := ⟨by decide +kernel, rfl⟩
theorem dX9_save_44 : DC cX9_save 44 (.aload_n 0) 1 45 := ⟨by decide +kernel, rfl⟩
theorem dX9_save_45 : DC cX9_save 45 (.getfield 108) 3 48 := ⟨by decide +kernel, rfl⟩
theorem dX9_save_48 : DC cX9_save 48 (.iconst 1) 1 49 := ⟨by decide +kernel, rfl⟩
theorem dX9_save_49 : DC cX9_save 49 (.aload_n 0) 1 50 := ⟨by decide +kernel, rfl⟩
theorem dX9_save_50 : DC cX9_save 50 (.getfield 306) 3 53 := ⟨by decide +kernel, rfl⟩
theorem dX9_save_53 : DC cX9_save 53 (.iastore) 1 54 := ⟨by decide +kernel, rfl⟩
theorem dX9_save_54 : DC cX9_save 54 (.aload_n 0) 1 55 := ⟨by decide +kernel, rfl⟩
theorem dX9_save_55 : DC cX9_save 55 (.getfield 108) 3 58 := ⟨by decide +kernel, rfl⟩
theorem dX9_save_58 : DC cX9_save 58 (.iconst 2) 1 59 := ⟨by decide +kernel, rfl⟩
theorem dX9_save_59 : DC cX9_save 59 (.aload_n 0) 1 60 := ⟨by decide +kernel, rfl⟩
theorem dX9_save_60 : DC cX9_save 60 (.getfield 309) 3 63 := ⟨by decide +kernel, rfl⟩
theorem dX9_save_63 : DC cX9_save 63 (.iastore) 1 64 := ⟨by decide +kernel, rfl⟩
theorem dX9_save_64 : DC cX9_save 64 (.aload_n 0) 1 65 := ⟨by decide +kernel, rfl⟩
theorem dX9_save_65 : DC cX9_save 65 (.getfield 99) 3 68 := ⟨by decide +kernel, rfl⟩
theorem dX9_save_68 : DC cX9_save 68 (.iconst 0) 1 69 := ⟨by decide +kernel, rfl⟩
theorem dX9_save_69 : DC cX9_save 69 (.aload_n 0) 1 70 := ⟨by decide +kernel, rfl⟩
theorem dX9_save_70 : DC cX9_save 70 (.getfield 108) 3 73 := ⟨by decide +kernel, rfl⟩
theorem dX9_save_73 : DC cX9_save 73 (.iconst 3) 1 74 := ⟨by decide +kernel, rfl⟩
theorem dX9_save_74 : DC cX9_save 74 (.sipush 192) 3 77 := ⟨by decide +kernel, rfl⟩
theorem dX9_save_77 : DC cX9_save 77 (.invokestatic 136) 3 80 := ⟨by decide +kernel, rfl⟩
theorem dX9_save_80 : DC cX9_save 80 (.aload_n 0) 1 81 := ⟨by decide +kernel, rfl⟩
theorem dX9_save_81 : DC cX9_save 81 (.getfield 102) 3 84 := ⟨by decide +kernel, rfl⟩
theorem dX9_save_84 : DC cX9_save 84 (.iconst 0) 1 85 := ⟨by decide +kernel, rfl⟩
theorem dX9_save_85 : DC cX9_save 85 (.aload_n 0) 1 86 := ⟨by decide +kernel, rfl⟩
theorem dX9_save_86 : DC cX9_save 86 (.getfield 108) 3 89 := ⟨by decide +kernel, rfl⟩
theorem dX9_save_89 : DC cX9_save 89 (.sipush 195) 3 92 := ⟨by decide +kernel, rfl⟩
theorem dX9_save_92 : DC cX9_save 92 (.bipush 8) 2 94 := ⟨by decide +kernel, rfl⟩
theorem dX9_save_94 : DC cX9_save 94 (.invokestatic 136) 3 97 := ⟨by decide +kernel, rfl⟩
theorem dX9_save_97 : DC cX9_save 97 (.aload_n 0) 1 98 := ⟨by decide +kernel, rfl⟩
theorem dX9_save_98 : DC cX9_save 98 (.getfield 105) 3 101 := ⟨by decide +kernel, rfl⟩
theorem dX9_save_101 : DC cX9_save 101 (.iconst 0) 1 102 := ⟨by decide +kernel, rfl⟩
theorem dX9_save_102 : DC cX9_save 102 (.aload_n 0) 1 103 := ⟨by decide +kernel, rfl⟩
theorem dX9_save_103 : DC cX9_save 103 (.getfield 108) 3 106 := ⟨by decide +kernel, rfl⟩
theorem dX9_save_106 : DC cX9_save 106 (.sipush 203) 3 109 := ⟨by decide +kernel, rfl⟩
theorem dX9_save_109 : DC cX9_save 109 (.bipush 8) 2 111 := ⟨by decide +kernel, rfl⟩
theorem dX9_save_111 : DC cX9_save 111 (.invokestatic 136) 3 114 := ⟨by decide +kernel, rfl⟩
theorem dX9_save_114 : DC cX9_save 114 (.aload_n 0) 1 115 := ⟨by decide +kernel, rfl⟩
theorem dX9_save_115 : DC cX9_save 115 (.getfield 9) 3 118 := ⟨by decide +kernel, rfl⟩
theorem dX9_save_118 : DC cX9_save 118 (.iconst 1) 1 119 := ⟨by decide +kernel, rfl⟩
theorem dX9_save_119 : DC cX9_save 119 (.iaload) 1 120 := ⟨by decide +kernel, rfl⟩
theorem dX9_save_120 : DC cX9_save 120 (.ireturn) 1 121 := ⟨by decide +kernel, rfl⟩
theorem dX9_restore_0 : DC cX9_restore 0 (.aload_n 0) 1 1 := ⟨by decide +kernel, rfl⟩
theorem dX9_restore_1 : DC cX9_restore 1 (.aload_n 0) 1 2 := ⟨by decide +kernel, rfl⟩
theorem dX9_restore_2 : DC cX9_restore 2 (.getfield 323) 3 5 := ⟨by decide +kernel, rfl⟩
theorem dX9_restore_5 : DC cX9_restore 5 (.ifCond .eq 7) 3 8 := ⟨by decide +kernel, rfl⟩
theorem dX9_restore_8 : DC cX9_restore 8 (.iconst 0) 1 9 := ⟨by decide +kernel, rfl⟩
theorem dX9_restore_9 : DC cX9_restore 9 (.goto 4) 3 12 := ⟨by decide +kernel, rfl⟩
theorem dX9_restore_12 : DC cX9_restore 12 (.iconst 1) 1 13 := ⟨by decide +kernel, rfl⟩
theorem dX9_restore_13 : DC cX9_restore 13 (.putfield 115) 3 16 := ⟨by decide +kernel, rfl⟩
theorem dX9_restore_16 : DC cX9_restore 16 (.aload_n 0) 1 17 := ⟨by decide +kernel, rfl⟩
theorem dX9_restore_17 : DC cX9_restore 17 (.getfield 115) 3 20 := ⟨by decide +kernel, rfl⟩
theorem dX9_restore_20 : DC cX9_restore 20 (.ifCond .le 5) 3 23 := ⟨by decide +kernel, rfl⟩
theorem dX9_restore_23 : DC cX9_restore 23 (.iconst 0) 1 24 := ⟨by decide +kernel, rfl⟩
theorem dX9_restore_24 : DC cX9_restore 24 (.ireturn) 1 25 := ⟨by decide +kernel, rfl⟩
theorem dX9_restore_25 : DC cX9_restore 25 (.aload_n 0) 1 26 := ⟨by decide +kernel, rfl⟩
theorem dX9_restore_26 : DC cX9_restore 26 (.getfield 19) 3 29 := ⟨by decide +kernel, rfl⟩
theorem dX9_restore_29 : DC cX9_restore 29 (.iconst 0) 1 30 := ⟨by decide +kernel, rfl⟩
theorem dX9_restore_30 : DC cX9_restore 30 (.aload_n 0) 1 31 := ⟨by decide +kernel, rfl⟩
theorem dX9_restore_31 : DC cX9_restore 31 (.getfield 9) 3 34 := ⟨by decide +kernel, rfl⟩
theorem dX9_restore_34 : DC cX9_restore 34 (.iconst 0) 1 35 := ⟨by decide +kernel, rfl⟩
theorem dX9_restore_35 : DC cX9_restore 35 (.sipush 265) 3 38 := ⟨by decide +kernel, rfl⟩
theorem dX9_restore_38 : DC cX9_restore 38 (.invokestatic 136) 3 41 := ⟨by decide +kernel, rfl⟩
theorem dX9_restore_41 : DC cX9_restore 41 (.aload_n 0) 1 42 := ⟨by decide +kernel, rfl⟩
theorem dX9_restore_42 : DC cX9_restore 42 (.aload_n 0) 1 43 := ⟨by decide +kernel, rfl⟩
theorem dX9_restore_43 : DC cX9_restore 43 (.getfield 108) 3 46 := ⟨by decide +kernel, rfl⟩
theorem dX9_restore_46 : DC cX9_restore 46 (.iconst 0) 1 47 := ⟨by decide +kernel, rfl⟩
theorem dX9_restore_47 : DC cX9_restore 47 (.iaload) 1 48 := ⟨by decide +kernel, rfl⟩
theorem dX9_restore_48 : DC cX9_restore 48 (.iconst 1) 1 49 := ⟨by decide +kernel, rfl⟩
theorem dX9_restore_49 : DC cX9_restore 49 (.if_icmp .ne 7) 3 52 := ⟨by decide +kernel, rfl⟩
theorem dX9_restore_52 : DC cX9_restore 52 (.iconst 1) 1 53 := ⟨by decide +kernel, rfl⟩
theorem dX9_restore_53 : DC cX9_restore 53 (.goto 4) 3 56 := ⟨by decide +kernel, rfl⟩
theorem dX9_restore_56 : DC cX9_restore 56 (.iconst 0) 1 57 := ⟨by decide +kernel, rfl⟩
theorem dX9_restore_57 : DC cX9_restore 57 (.putfield 129) 3 60 := ⟨by decide +kernel, rfl⟩
theorem dX9_restore_60 : DC cX9_restore 60 (.aload_n 0) 1 61 := ⟨by decide +kernel, rfl⟩
theorem dX9_restore_61 : DC cX9_restore 61 (.aload_n 0) 1 62 := ⟨by decide +kernel, rfl⟩
theorem dX9_restore_62 : DC cX9_restore 62 (.getfield 108) 3 65 := ⟨by decide +kernel, rfl⟩
theorem dX9_restore_65 : DC cX9_restore 65 (.iconst 1) 1 66 := ⟨by decide +kernel, rfl⟩
theorem dX9_restore_66 : DC cX9_restore 66 (.iaload) 1 67 := ⟨by decide +kernel, rfl⟩
theorem dX9_restore_67 : DC cX9_restore 67 (.putfield 306) 3 70 := ⟨by decide +kernel, rfl⟩
theorem dX9_restore_70 : DC cX9_restore 70 (.aload_n 0) 1 71 := ⟨by decide +kernel, rfl⟩
theorem dX9_restore_71 : DC cX9_restore 71 (.aload_n 0) 1 72 := ⟨by decide +kernel, rfl⟩
theorem dX9_restore_72 : DC cX9_restore 72 (.getfield 108) 3 75 := ⟨by decide +kernel, rfl⟩
theorem dX9_restore_75 : DC cX9_restore 75 (.iconst 2) 1 76 := ⟨by decide +kernel, rfl⟩
theorem dX9_restore_76 : DC cX9_restore 76 (.iaload) 1 77 := ⟨by decide +kernel, rfl⟩
theorem dX9_restore_77 : DC cX9_restore 77 (.putfield 309) 3 80 := ⟨by decide +kernel, rfl⟩
theorem dX9_restore_80 : DC cX9_restore 80 (.aload_n 0) 1 81 := ⟨by decide +kernel, rfl⟩
theorem dX9_restore_81 : DC cX9_restore 81 (.getfield 108) 3 84 := ⟨by decide +kernel, rfl⟩
theorem dX9_restore_84 : DC cX9_restore 84 (.iconst 3) 1 85 := ⟨by decide +kernel, rfl⟩
theorem dX9_restore_85 : DC cX9_restore 85 (.aload_n 0) 1 86 := ⟨by decide +kernel, rfl⟩
theorem dX9_restore_86 : DC cX9_restore 86 (.getfield 99) 3 89 := ⟨by decide +kernel, rfl⟩
theorem dX9_restore_89 : DC cX9_restore 89 (.iconst 0) 1 90 := ⟨by decide +kernel, rfl⟩
theorem dX9_restore_90 : DC cX9_restore 90 (.sipush 192) 3 93 := ⟨by decide +kernel, rfl⟩
theorem dX9_restore_93 : DC cX9_restore 93 (.invokestatic 136) 3 96 := ⟨by decide +kernel, rfl⟩
theorem dX9_restore_96 : DC cX9_restore 96 (.aload_n 0) 1 97 := ⟨by decide +kernel, rfl⟩
theorem dX9_restore_97 : DC cX9_restore 97 (.getfield 108) 3 100 := ⟨by decide +kernel, rfl⟩
theorem dX9_restore_100 : DC cX9_restore 100 (.sipush 195) 3 103 := ⟨by decide +kernel, rfl⟩
theorem dX9_restore_103 : DC cX9_restore 103 (.aload_n 0) 1 104 := ⟨by decide +kernel, rfl⟩
theorem dX9_restore_104 : DC cX9_restore 104 (.getfield 102) 3 107 := ⟨by decide +kernel, rfl⟩
theorem dX9_restore_107 : DC cX9_restore 107 (.iconst 0) 1 108 := ⟨by decide +kernel, rfl⟩
theorem dX9_restore_108 : DC cX9_restore 108 (.bipush 8) 2 110 := ⟨by decide +kernel, rfl⟩
theorem dX9_restore_110 : DC cX9_restore 110 (.invokestatic 136) 3 113 := ⟨by decide +kernel, rfl⟩
theorem dX9_restore_113 : DC cX9_restore 113 (.aload_n 0) 1 114 := ⟨by decide +kernel, rfl⟩
theorem dX9_restore_114 : DC cX9_restore 114 (.getfield 108) 3 117 := ⟨by decide +kernel, rfl⟩
theorem dX9_restore_117 : DC cX9_restore 117 (.sipush 203) 3 120 := ⟨by decide +kernel, rfl⟩
theorem dX9_restore_120 : DC cX9_restore 120 (.aload_n 0) 1 121 := ⟨by decide +kernel, rfl⟩
theorem dX9_restore_121 : DC cX9_restore 121 (.getfield 105) 3 124 := ⟨by decide +kernel, rfl⟩
theorem dX9_restore_124 : DC cX9_restore 124 (.iconst 0) 1 125 := ⟨by decide +kernel, rfl⟩
theorem dX9_restore_125 : DC cX9_restore 125 (.bipush 8) 2 127 := ⟨by decide +kernel, rfl⟩
theorem dX9_restore_127 : DC cX9_restore 127 (.invokestatic 136) 3 130 := ⟨by decide +kernel, rfl⟩
theorem dX9_restore_130 : DC cX9_restore 130 (.aload_n 0) 1 131 := ⟨by decide +kernel, rfl⟩
theorem dX9_restore_131 : DC cX9_restore 131 (.iconst 0) 1 132 := ⟨by decide +kernel, rfl⟩
theorem dX9_restore_132 : DC cX9_restore 132 (.putfield 126) 3 135 := ⟨by decide +kernel, rfl⟩
theorem dX9_restore_135 : DC cX9_restore 135 (.aload_n 0) 1 136 := ⟨by decide +kernel, rfl⟩
theorem dX9_restore_136 : DC cX9_restore 136 (.iconst 0) 1 137 := ⟨by decide +kernel, rfl⟩
theorem dX9_restore_137 : DC cX9_restore 137 (.putfield 133) 3 140 := ⟨by decide +kernel, rfl⟩
theorem dX9_restore_140 : DC cX9_restore 140 (.aload_n 0) 1 141 := ⟨by decide +kernel, rfl⟩
theorem dX9_restore_141 : DC cX9_restore 141 (.getfield 9) 3 144 := ⟨by decide +kernel, rfl⟩
theorem dX9_restore_144 : DC cX9_restore 144 (.iconst 1) 1 145 := ⟨by decide +kernel, rfl⟩
theorem dX9_restore_145 : DC cX9_restore 145 (.iaload) 1 146 := ⟨by decide +kernel, rfl⟩
theorem dX9_restore_146 : DC cX9_restore 146 (.ireturn) 1 147 := ⟨by decide +kernel, rfl⟩
theorem dX9_count__0 : DC cX9_count_ 0 (.iload_n 1) 1 1 := ⟨by decide +kernel, rfl⟩
theorem dX9_count__1 : DC cX9_count_ 1 (.iconst 0) 1 2 := ⟨by decide +kernel, rfl⟩
theorem dX9_count__2 : DC cX9_count_ 2 (.bipush 6) 2 4 := ⟨by decide +kernel, rfl⟩
theorem dX9_count__4 : DC cX9_count_ 4 (.invokestatic 118) 3 7 := ⟨by decide +kernel, rfl⟩
theorem dX9_count__7 : DC cX9_count_ 7 (.ifCond .ne 33) 3 10 := ⟨by decide +kernel, rfl⟩
theorem dX9_count__10 : DC cX9_count_ 10 (.iload_n 1) 1 11 := ⟨by decide +kernel, rfl⟩
theorem dX9_count__11 : DC cX9_count_ 11 (.bipush 10) 2 13 := ⟨by decide +kernel, rfl⟩
theorem dX9_count__13 : DC cX9_count_ 13 (.bipush 13) 2 15 := ⟨by decide +kernel, rfl⟩
theorem dX9_count__15 : DC cX9_count_ 15 (.invokestatic 118) 3 18 := ⟨by decide +kernel, rfl⟩
theorem dX9_count__18 : DC cX9_count_ 18 (.ifCond .ne 22) 3 21 := ⟨by decide +kernel, rfl⟩
theorem dX9_count__21 : DC cX9_count_ 21 (.iload_n 1) 1 22 := ⟨by decide +kernel, rfl⟩
theorem dX9_count__22 : DC cX9_count_ 22 (.bipush 20) 2 24 := ⟨by decide +kernel, rfl⟩
theorem dX9_count__24 : DC cX9_count_ 24 (.if_icmp .lt 20) 3 27 := ⟨by decide +kernel, rfl⟩
theorem dX9_count__27 : DC cX9_count_ 27 (.iload_n 1) 1 28 := ⟨by decide +kernel, rfl⟩
theorem dX9_count__28 : DC cX9_count_ 28 (.bipush 20) 2 30 := ⟨by decide +kernel, rfl⟩
theorem dX9_count__30 : DC cX9_count_ 30 (.isub) 1 31 := ⟨by decide +kernel, rfl⟩
theorem dX9_count__31 : DC cX9_count_ 31 (.aload_n 0) 1 32 := ⟨by decide +kernel, rfl⟩
theorem dX9_count__32 : DC cX9_count_ 32 (.getfield 9) 3 35 := ⟨by decide +kernel, rfl⟩
theorem dX9_count__35 : DC cX9_count_ 35 (.iconst 0) 1 36 := ⟨by decide +kernel, rfl⟩
theorem dX9_count__36 : DC cX9_count_ 36 (.iaload) 1 37 := ⟨by decide +kernel, rfl⟩
theorem dX9_count__37 : DC cX9_count_ 37 (.if_icmp .ge 7) 3 40 := ⟨by decide +kernel, rfl⟩
theorem dX9_count__40 : DC cX9_count_ 40 (.iconst 1) 1 41 := ⟨by decide +kernel, rfl⟩
theorem dX9_count__41 : DC cX9_count_ 41 (.goto 4) 3 44 := ⟨by decide +kernel, rfl⟩
theorem dX9_count__44 : DC cX9_count_ 44 (.iconst 0) 1 45 := ⟨by decide +kernel, rfl⟩
theorem dX9_count__45 : DC cX9_count_ 45 (.istore_n 2) 1 46 := ⟨by decide +kernel, rfl⟩
theorem dX9_count__46 : DC cX9_count_ 46 (.aload_n 0) 1 47 := ⟨by decide +kernel, rfl⟩
theorem dX9_count__47 : DC cX9_count_ 47 (.iload_n 2) 1 48 := ⟨by decide +kernel, rfl⟩
theorem dX9_count__48 : DC cX9_count_ 48 (.ifCond .eq 7) 3 51 := ⟨by decide +kernel, rfl⟩
theorem dX9_count__51 : DC cX9_count_ 51 (.iconst 0) 1 52 := ⟨by decide +kernel, rfl⟩
theorem dX9_count__52 : DC cX9_count_ 52 (.goto 4) 3 55 := ⟨by decide +kernel, rfl⟩
theorem dX9_count__55 : DC cX9_count_ 55 (.iconst 1) 1 56 := ⟨by decide +kernel, rfl⟩
theorem dX9_count__56 : DC cX9_count_ 56 (.putfield 115) 3 59 := ⟨by decide +kernel, rfl⟩
theorem dX9_count__59 : DC cX9_count_ 59 (.aload_n 0) 1 60 := ⟨by decide +kernel, rfl⟩
theorem dX9_count__60 : DC cX9_count_ 60 (.getfield 115) 3 63 := ⟨by decide +kernel, rfl⟩
theorem dX9_count__63 : DC cX9_count_ 63 (.ifCond .le 5) 3 66 := ⟨by decide +kernel, rfl⟩
theorem dX9_count__66 : DC cX9_count_ 66 (.iconst 0) 1 67 := ⟨by decide +kernel, rfl⟩
theorem dX9_count__67 : DC cX9_count_ 67 (.ireturn) 1 68 := ⟨by decide +kernel, rfl⟩
theorem dX9_count__68 : DC cX9_count_ 68 (.iload_n 1) 1 69 := ⟨by decide +kernel, rfl⟩
theorem dX9_count__69 : DC cX9_count_ 69 (.tableswitch 91 0 6 #[43, 50, 57, 62, 71, 81, 86]) 43 112 := ⟨by decide +kernel, rfl⟩
theorem dX9_count__112 : DC cX9_count_ 112 (.aload_n 0) 1 113 := ⟨by decide +kernel, rfl⟩
theorem dX9_count__113 : DC cX9_count_ 113 (.getfield 9) 3 116 := ⟨by decide +kernel, rfl⟩
theorem dX9_count__116 : DC cX9_count_ 116 (.iconst 0) 1 117 := ⟨by decide +kernel, rfl⟩
theorem dX9_count__117 : DC cX9_count_ 117 (.iaload) 1 118 := ⟨by decide +kernel, rfl⟩
theorem dX9_count__118 : DC cX9_count_ 118 (.ireturn) 1 119 := ⟨by decide +kernel, rfl⟩
theorem dX9_count__119 : DC cX9_count_ 119 (.aload_n 0) 1 120 := ⟨by decide +kernel, rfl⟩
theorem dX9_count__120 : DC cX9_count_ 120 (.getfield 9) 3 123 := ⟨by decide +kernel, rfl⟩
theorem dX9_count__123 : DC cX9_count_ 123 (.iconst 1) 1 124 := ⟨by decide +kernel, rfl⟩
theorem dX9_count__124 : DC cX9_count_ 124 (.iaload) 1 125 := ⟨by decide +kernel, rfl⟩
theorem dX9_count__125 : DC cX9_count_ 125 (.ireturn) 1 126 := ⟨by decide +kernel, rfl⟩
theorem dX9_count__126 : DC cX9_count_ 126 (.aload_n 0) 1 127 := ⟨by decide +kernel, rfl⟩
theorem dX9_count__127 : DC cX9_count_ 127 (.invokevirtual 225) 3 130 := ⟨by decide +kernel, rfl⟩
theorem dX9_count__130 : DC cX9_count_ 130 (.ireturn) 1 131 := ⟨by decide +kernel, rfl⟩
theorem dX9_count__131 : DC cX9_count_ 131 (.aload_n 0) 1 132 := ⟨by decide +kernel, rfl⟩
theorem dX9_count__132 : DC cX9_count_ 132 (.invokevirtual 294) 3 135 := ⟨by decide +kernel, rfl⟩
theorem dX9_count__135 : DC cX9_count_ 135 (.aload_n 0) 1 136 := ⟨by decide +kernel, rfl⟩
theorem dX9_count__136 : DC cX9_count_ 136 (.getfield 215) 3 139 := ⟨by decide +kernel, rfl⟩
theorem dX9_count__139 : DC cX9_count_ 139 (.ireturn) 1 140 := ⟨by decide +kernel, rfl⟩
theorem dX9_count__140 : DC cX9_count_ 140 (.aload_n 0) 1 141 := ⟨by decide +kernel, rfl⟩
theorem dX9_count__141 : DC cX9_count_ 141 (.getfield 9) 3 144 := ⟨by decide +kernel, rfl⟩
theorem dX9_count__144 : DC cX9_count_ 144 (.iconst 2) 1 145 := ⟨by decide +kernel, rfl⟩
theorem dX9_count__145 : DC cX9_count_ 145 (.iaload) 1 146 := ⟨by decide +kernel, rfl⟩
theorem dX9_count__146 : DC cX9_count_ 146 (.invokestatic 279) 3 149 := ⟨by decide +kernel, rfl⟩
theorem dX9_count__149 : DC cX9_count_ 149 (.ireturn) 1 150 := ⟨by decide +kernel, rfl⟩
theorem dX9_count__150 : DC cX9_count_ 150 (.aload_n 0) 1 151 := ⟨by decide +kernel, rfl⟩
theorem dX9_count__151 : DC cX9_count_ 151 (.getfield 126) 3 154 := ⟨by decide +kernel, rfl⟩
theorem dX9_count__154 : DC cX9_count_ 154 (.ireturn) 1 155 := ⟨by decide +kernel, rfl⟩
theorem dX9_count__155 : DC cX9_count_ 155 (.aload_n 0) 1 156 := ⟨by decide +kernel, rfl⟩
theorem dX9_count__156 : DC cX9_count_ 156 (.getfield 142) 3 159 := ⟨by decide +kernel, rfl⟩
theorem dX9_count__159 : DC cX9_count_ 159 (.ireturn) 1 160 := ⟨by decide +kernel, rfl⟩
theorem dX9_count__160 : DC cX9_count_ 160 (.iload_n 1) 1 161 := ⟨by decide +kernel, rfl⟩
theorem dX9_count__161 : DC cX9_count_ 161 (.bipush 20) 2 163 := ⟨by decide +kernel, rfl⟩
theorem dX9_count__163 : DC cX9_count_ 163 (.if_icmp .ge 17) 3 166 := ⟨by decide +kernel, rfl⟩
theorem dX9_count__166 : DC cX9_count_ 166 (.aload_n 0) 1 167 := ⟨by decide +kernel, rfl⟩
theorem dX9_count__167 : DC cX9_count_ 167 (.getfield 9) 3 170 := ⟨by decide +kernel, rfl⟩
theorem dX9_count__170 : DC cX9_count_ 170 (.iconst 3) 1 171 := ⟨by decide +kernel, rfl⟩
theorem dX9_count__171 : DC cX9_count_ 171 (.iload_n 1) 1 172 := ⟨by decide +kernel, rfl⟩
theorem dX9_count__172 : DC cX9_count_ 172 (.iadd) 1 173 := ⟨by decide +kernel, rfl⟩
theorem dX9_count__173 : DC cX9_count_ 173 (.bipush 10) 2 175 := ⟨by decide +kernel, rfl⟩
theorem dX9_count__175 : DC cX9_count_ 175 (.isub) 1 176 := ⟨by decide +kernel, rfl⟩
theorem dX9_count__176 : DC cX9_count_ 176 (.iaload) 1 177 := ⟨by decide +kernel, rfl⟩
theorem dX9_count__177 : DC cX9_count_ 177 (.goto 15) 3 180 := ⟨by decide +kernel, rfl⟩
theorem dX9_count__180 : DC cX9_count_ 180 (.aload_n 0) 1 181 := ⟨by decide +kernel, rfl⟩
theorem dX9_count__181 : DC cX9_count_ 181 (.getfield 9) 3 184 := ⟨by decide +kernel, rfl⟩
theorem dX9_count__184 : DC cX9_count_ 184 (.bipush 7) 2 186 := ⟨by decide +kernel, rfl⟩
theorem dX9_count__186 : DC cX9_count_ 186 (.iload_n 1) 1 187 := ⟨by decide +kernel, rfl⟩
theorem dX9_count__187 : DC cX9_count_ 187 (.iadd) 1 188 := ⟨by decide +kernel, rfl⟩
theorem dX9_count__188 : DC cX9_count_ 188 (.bipush 20) 2 190 := ⟨by decide +kernel, rfl⟩
theorem dX9_count__190 : DC cX9_count_ 190 (.isub) 1 191 := ⟨by decide +kernel, rfl⟩
theorem dX9_count__191 : DC cX9_count_ 191 (.iaload) 1 192 := ⟨by decide +kernel, rfl⟩
theorem dX9_count__192 : DC cX9_count_ 192 (.ireturn) 1 193 := ⟨by decide +kernel, rfl⟩
end
section
theorem dJ6_bitCount_0f7a4_0 : DC cJ6_bitCount_0f7a4 0 (.iload_n 0) 1 1 := ⟨by decide +kernel, rfl⟩
theorem dJ6_bitCount_0f7a4_1 : DC cJ6_bitCount_0f7a4 1 (.iload_n 0) 1 2 := ⟨by decide +kernel, rfl⟩
theorem dJ6_bitCount_0f7a4_2 : DC cJ6_bitCount_0f7a4 2 (.iconst 1) 1 3 := ⟨by decide +kernel, rfl⟩
theorem dJ6_bitCount_0f7a4_3 : DC cJ6_bitCount_0f7a4 3 (.iushr) 1 4 := ⟨by decide +kernel, rfl⟩
theorem dJ6_bitCount_0f7a4_4 : DC cJ6_bitCount_0f7a4 4 (.ldc_w 265) 3 7 := ⟨by decide +kernel, rfl⟩
theorem dJ6_bitCount_0f7a4_7 : DC cJ6_bitCount_0f7a4 7 (.iand) 1 8 := ⟨by decide +kernel, rfl⟩
theorem dJ6_bitCount_0f7a4_8 : DC cJ6_bitCount_0f7a4 8 (.isub) 1 9 := ⟨by decide +kernel, rfl⟩
theorem dJ6_bitCount_0f7a4_9 : DC cJ6_bitCount_0f7a4 9 (.istore_n 0) 1 10 := ⟨by decide +kernel, rfl⟩
theorem dJ6_bitCount_0f7a4_10 : DC cJ6_bitCount_0f7a4 10 (.iload_n 0) 1 11 := ⟨by decide +kernel, rfl⟩
theorem dJ6_bitCount_0f7a4_11 : DC cJ6_bitCount_0f7a4 11 (.ldc_w 266) 3 14 := ⟨by decide +kernel, rfl⟩
theorem dJ6_bitCount_0f7a4_14 : DC cJ6_bitCount_0f7a4 14 (.iand) 1 15 := ⟨by decide +kernel, rfl⟩
theorem dJ6_bitCount_0f7a4_15 : DC cJ6_bitCount_0f7a4 15 (.iload_n 0) 1 16 := ⟨by decide +kernel, rfl⟩
theorem dJ6_bitCount_0f7a4_16 : DC cJ6_bitCount_0f7a4 16 (.iconst 2) 1 17 := ⟨by decide +kernel, rfl⟩
theorem dJ6_bitCount_0f7a4_17 : DC cJ6_bitCount_0f7a4 17 (.iushr) 1 18 := ⟨by decide +kernel, rfl⟩
theorem dJ6_bitCount_0f7a4_18 : DC cJ6_bitCount_0f7a4 18 (.ldc_w 266) 3 21 := ⟨by decide +kernel, rfl⟩
theorem dJ6_bitCount_0f7a4_21 : DC cJ6_bitCount_0f7a4 21 (.iand) 1 22 := ⟨by decide +kernel, rfl⟩
theorem dJ6_bitCount_0f7a4_22 : DC cJ6_bitCount_0f7a4 22 (.iadd) 1 23 := ⟨by decide +kernel, rfl⟩
theorem dJ6_bitCount_0f7a4_23 : DC cJ6_bitCount_0f7a4 23 (.istore_n 0) 1 24 := ⟨by decide +kernel, rfl⟩
theorem dJ6_bitCount_0f7a4_24 : DC cJ6_bitCount_0f7a4 24 (.iload_n 0) 1 25 := ⟨by decide +kernel, rfl⟩
theorem dJ6_bitCount_0f7a4_25 : DC cJ6_bitCount_0f7a4 25 (.iload_n 0) 1 26 := ⟨by decide +kernel, rfl⟩
theorem dJ6_bitCount_0f7a4_26 : DC cJ6_bitCount_0f7a4 26 (.iconst 4) 1 27 := ⟨by decide +kernel, rfl⟩
theorem dJ6_bitCount_0f7a4_27 : DC cJ6_bitCount_0f7a4 27 (.iushr) 1 28 := ⟨by decide +kernel, rfl⟩
theorem dJ6_bitCount_0f7a4_28 : DC cJ6_bitCount_0f7a4 28 (.iadd) 1 29 := ⟨by decide +kernel, rfl⟩
theorem dJ6_bitCount_0f7a4_29 : DC cJ6_bitCount_0f7a4 29 (.ldc_w 267) 3 32 := ⟨by decide +kernel, rfl⟩
theorem dJ6_bitCount_0f7a4_32 : DC cJ6_bitCount_0f7a4 32 (.iand) 1 33 := ⟨by decide +kernel, rfl⟩
theorem dJ6_bitCount_0f7a4_33 : DC cJ6_bitCount_0f7a4 33 (.istore_n 0) 1 34 := ⟨by decide +kernel, rfl⟩
theorem dJ6_bitCount_0f7a4_34 : DC cJ6_bitCount_0f7a4 34 (.iload_n 0) 1 35 := ⟨by decide +kernel, rfl⟩
theorem dJ6_bitCount_0f7a4_35 : DC cJ6_bitCount_0f7a4 35 (.iload_n 0) 1 36 := ⟨by decide +kernel, rfl⟩
theorem dJ6_bitCount_0f7a4_36 : DC cJ6_bitCount_0f7a4 36 (.bipush 8) 2 38 := ⟨by decide +kernel, rfl⟩
theorem dJ6_bitCount_0f7a4_38 : DC cJ6_bitCount_0f7a4 38 (.iushr) 1 39 := ⟨by decide +kernel, rfl⟩
theorem dJ6_bitCount_0f7a4_39 : DC cJ6_bitCount_0f7a4 39 (.iadd) 1 40 := ⟨by decide +kernel, rfl⟩
theorem dJ6_bitCount_0f7a4_40 : DC cJ6_bitCount_0f7a4 40 (.istore_n 0) 1 41 := ⟨by decide +kernel, rfl⟩
theorem dJ6_bitCount_0f7a4_41 : DC cJ6_bitCount_0f7a4 41 (.iload_n 0) 1 42 := ⟨by decide +kernel, rfl⟩
theorem dJ6_bitCount_0f7a4_42 : DC cJ6_bitCount_0f7a4 42 (.iload_n 0) 1 43 := ⟨by decide +kernel, rfl⟩
theorem dJ6_bitCount_0f7a4_43 : DC cJ6_bitCount_0f7a4 43 (.bipush 16) 2 45 := ⟨by decide +kernel, rfl⟩
theorem dJ6_bitCount_0f7a4_45 : DC cJ6_bitCount_0f7a4 45 (.iushr) 1 46 := ⟨by decide +kernel, rfl⟩
theorem dJ6_bitCount_0f7a4_46 : DC cJ6_bitCount_0f7a4 46 (.iadd) 1 47 := ⟨by decide +kernel, rfl⟩
theorem dJ6_bitCount_0f7a4_47 : DC cJ6_bitCount_0f7a4 47 (.istore_n 0) 1 48 := ⟨by decide +kernel, rfl⟩
theorem dJ6_bitCount_0f7a4_48 : DC cJ6_bitCount_0f7a4 48 (.iload_n 0) 1 49 := ⟨by decide +kernel, rfl⟩
theorem dJ6_bitCount_0f7a4_49 : DC cJ6_bitCount_0f7a4 49 (.bipush 63) 2 51 := ⟨by decide +kernel, rfl⟩
theorem dJ6_bitCount_0f7a4_51 : DC cJ6_bitCount_0f7a4 51 (.iand) 1 52 := ⟨by decide +kernel, rfl⟩
theorem dJ6_bitCount_0f7a4_52 : DC cJ6_bitCount_0f7a4 52 (.ireturn) 1 53 := ⟨by decide +kernel, rfl⟩
theorem dJ9_max_7cf53_0 : DC cJ9_max_7cf53 0 (.iload_n 0) 1 1 := ⟨by decide +kernel, rfl⟩
theorem dJ9_max_7cf53_1 : DC cJ9_max_7cf53 1 (.iload_n 1) 1 2 := ⟨by decide +kernel, rfl⟩
theorem dJ9_max_7cf53_2 : DC cJ9_max_7cf53 2 (.if_icmp .lt 7) 3 5 := ⟨by decide +kernel, rfl⟩
theorem dJ9_max_7cf53_5 : DC cJ9_max_7cf53 5 (.iload_n 0) 1 6 := ⟨by decide +kernel, rfl⟩
theorem dJ9_max_7cf53_6 : DC cJ9_max_7cf53 6 (.goto 4) 3 9 := ⟨by decide +kernel, rfl⟩
theorem dJ9_max_7cf53_9 : DC cJ9_max_7cf53 9 (.iload_n 1) 1 10 := ⟨by decide +kernel, rfl⟩
theorem dJ9_max_7cf53_10 : DC cJ9_max_7cf53 10 (.ireturn) 1 11 := ⟨by decide +kernel, rfl⟩
theorem dJ9_min_7cf53_0 : DC cJ9_min_7cf53 0 (.iload_n 0) 1 1 := ⟨by decide +kernel, rfl⟩
theorem dJ9_min_7cf53_1 : DC cJ9_min_7cf53 1 (.iload_n 1) 1 2 := ⟨by decide +kernel, rfl⟩
theorem dJ9_min_7cf53_2 : DC cJ9_min_7cf53 2 (.if_icmp .gt 7) 3 5 := ⟨by decide +kernel, rfl⟩
theorem dJ9_min_7cf53_5 : DC cJ9_min_7cf53 5 (.iload_n 0) 1 6 := ⟨by decide +kernel, rfl⟩
theorem dJ9_min_7cf53_6 : DC cJ9_min_7cf53 6 (.goto 4) 3 9 := ⟨by decide +kernel, rfl⟩
theorem dJ9_min_7cf53_9 : DC cJ9_min_7cf53 9 (.iload_n 1) 1 10 := ⟨by decide +kernel, rfl⟩
theorem dJ9_min_7cf53_10 : DC cJ9_min_7cf53 10 (.ireturn) 1 11 := ⟨by decide +kernel, rfl⟩
theorem dJ9_min_f86c9_0 : DC cJ9_min_f86c9 0 (.lload_n 0) 1 1 := ⟨by decide +kernel, rfl⟩
theorem dJ9_min_f86c9_1 : DC cJ9_min_f86c9 1 (.lload_n 2) 1 2 := ⟨by decide +kernel, rfl⟩
theorem dJ9_min_f86c9_2 : DC cJ9_min_f86c9 2 (.lcmp) 1 3 := ⟨by decide +kernel, rfl⟩
theorem dJ9_min_f86c9_3 : DC cJ9_min_f86c9 3 (.ifCond .gt 7) 3 6 := ⟨by decide +kernel, rfl⟩
theorem dJ9_min_f86c9_6 : DC cJ9_min_f86c9 6 (.lload_n 0) 1 7 := ⟨by decide +kernel, rfl⟩
theorem dJ9_min_f86c9_7 : DC cJ9_min_f86c9 7 (.goto 4) 3 10 := ⟨by decide +kernel, rfl⟩
theorem dJ9_min_f86c9_10 : DC cJ9_min_f86c9 10 (.lload_n 2) 1 11 := ⟨by decide +kernel, rfl⟩
theorem dJ9_min_f86c9_11 : DC cJ9_min_f86c9 11 (.lreturn) 1 12 := ⟨by decide +kernel, rfl⟩
theorem dL_begin_0 : DC cL_begin 0 (.aload_n 3) 1 1 := ⟨by decide +kernel, rfl⟩
theorem dL_begin_1 : DC cL_begin 1 (.iconst 0) 1 2 := ⟨by decide +kernel, rfl⟩
theorem dL_begin_2 : DC cL_begin 2 (.aload_n 0) 1 3 := ⟨by decide +kernel, rfl⟩
theorem dL_begin_3 : DC cL_begin 3 (.iload_n 1) 1 4 := ⟨by decide +kernel, rfl⟩
theorem dL_begin_4 : DC cL_begin 4 (.iload_n 2) 1 5 := ⟨by decide +kernel, rfl⟩
theorem dL_begin_5 : DC cL_begin 5 (.invokevirtual 7) 3 8 := ⟨by decide +kernel, rfl⟩
theorem dL_begin_8 : DC cL_begin 8 (.i2l) 1 9 := ⟨by decide +kernel, rfl⟩
theorem dL_begin_9 : DC cL_begin 9 (.lastore) 1 10 := ⟨by decide +kernel, rfl⟩
theorem dL_begin_10 : DC cL_begin 10 (.goto 7) 3 13 := ⟨by decide +kernel, rfl⟩
theorem dL_begin_13 : DC cL_begin 13 (.astore 4) 2 15 := ⟨by decide +kernel, rfl⟩
theorem dL_begin_15 : DC cL_begin 15 (.iconst 1) 1 16 := ⟨by decide +kernel, rfl⟩
theorem dL_begin_16 : DC cL_begin 16 (.ireturn) 1 17 := ⟨by decide +kernel, rfl⟩
theorem dL_begin_17 : DC cL_begin 17 (.iconst 0) 1 18 := ⟨by decide +kernel, rfl⟩
theorem dL_begin_18 : DC cL_begin 18 (.ireturn) 1 19 := ⟨by decide +kernel, rfl⟩
theorem dL_append_0 : DC cL_append 0 (.aload_n 2) 1 1 := ⟨by decide +kernel, rfl⟩
theorem dL_append_1 : DC cL_append 1 (.iconst 0) 1 2 := ⟨by decide +kernel, rfl⟩
theorem dL_append_2 : DC cL_append 2 (.aload_n 0) 1 3 := ⟨by decide +kernel, rfl⟩
theorem dL_append_3 : DC cL_append 3 (.iload_n 1) 1 4 := ⟨by decide +kernel, rfl⟩
theorem dL_append_4 : DC cL_append 4 (.invokevirtual 15) 3 7 := ⟨by decide +kernel, rfl⟩
theorem dL_append_7 : DC cL_append 7 (.i2l) 1 8 := ⟨by decide +kernel, rfl⟩
theorem dL_append_8 : DC cL_append 8 (.lastore) 1 9 := ⟨by decide +kernel, rfl⟩
theorem dL_append_9 : DC cL_append 9 (.goto 9) 3 12 := ⟨by decide +kernel, rfl⟩
theorem dL_append_12 : DC cL_append 12 (.astore_n 3) 1 13 := ⟨by decide +kernel, rfl⟩
theorem dL_append_13 : DC cL_append 13 (.iconst 1) 1 14 := ⟨by decide +kernel, rfl⟩
theorem dL_append_14 : DC cL_append 14 (.ireturn) 1 15 := ⟨by decide +kernel, rfl⟩
theorem dL_append_15 : DC cL_append 15 (.astore_n 3) 1 16 := ⟨by decide +kernel, rfl⟩
theorem dL_append_16 : DC cL_append 16 (.iconst 2) 1 17 := ⟨by decide +kernel, rfl⟩
theorem dL_append_17 : DC cL_append 17 (.ireturn) 1 18 := ⟨by decide +kernel, rfl⟩
theorem dL_append_18 : DC cL_append 18 (.iconst 0) 1 19 := ⟨by decide +kernel, rfl⟩
theorem dL_append_19 : DC cL_append 19 (.ireturn) 1 20 := ⟨by decide +kernel, rfl⟩
theorem dL_execute_0 : DC cL_execute 0 (.aload_n 1) 1 1 := ⟨by decide +kernel, rfl⟩
theorem dL_execute_1 : DC cL_execute 1 (.iconst 0) 1 2 := ⟨by decide +kernel, rfl⟩
theorem dL_execute_2 : DC cL_execute 2 (.aload_n 0) 1 3 := ⟨by decide +kernel, rfl⟩
theorem dL_execute_3 : DC cL_execute 3 (.invokevirtual 21) 3 6 := ⟨by decide +kernel, rfl⟩
theorem dL_execute_6 : DC cL_execute 6 (.i2l) 1 7 := ⟨by decide +kernel, rfl⟩
theorem dL_execute_7 : DC cL_execute 7 (.lastore) 1 8 := ⟨by decide +kernel, rfl⟩
theorem dL_execute_8 : DC cL_execute 8 (.goto 6) 3 11 := ⟨by decide +kernel, rfl⟩
theorem dL_execute_11 : DC cL_execute 11 (.astore_n 2) 1 12 := ⟨by decide +kernel, rfl⟩
theorem dL_execute_12 : DC cL_execute 12 (.iconst 1) 1 13 := ⟨by decide +kernel, rfl⟩
theorem dL_execute_13 : DC cL_execute 13 (.ireturn) 1 14 := ⟨by decide +kernel, rfl⟩
theorem dL_execute_14 : DC cL_execute 14 (.iconst 0) 1 15 := ⟨by decide +kernel, rfl⟩
theorem dL_execute_15 : DC cL_execute 15 (.ireturn) 1 16 := ⟨by decide +kernel, rfl⟩
theorem dL_set_0 : DC cL_set 0 (.aload_n 3) 1 1 := ⟨by decide +kernel, rfl⟩
theorem dL_set_1 : DC cL_set 1 (.iconst 0) 1 2 := ⟨by decide +kernel, rfl⟩
theorem dL_set_2 : DC cL_set 2 (.aload_n 0) 1 3 := ⟨by decide +kernel, rfl⟩
theorem dL_set_3 : DC cL_set 3 (.iload_n 1) 1 4 := ⟨by decide +kernel, rfl⟩
theorem dL_set_4 : DC cL_set 4 (.iload_n 2) 1 5 := ⟨by decide +kernel, rfl⟩
theorem dL_set_5 : DC cL_set 5 (.invokevirtual 25) 3 8 := ⟨by decide +kernel, rfl⟩
theorem dL_set_8 : DC cL_set 8 (.i2l) 1 9 := ⟨by decide +kernel, rfl⟩
theorem dL_set_9 : DC cL_set 9 (.lastore) 1 10 := ⟨by decide +kernel, rfl⟩
theorem dL_set_10 : DC cL_set 10 (.goto 7) 3 13 := ⟨by decide +kernel, rfl⟩
theorem dL_set_13 : DC cL_set 13 (.astore 4) 2 15 := ⟨by decide +kernel, rfl⟩
theorem dL_set_15 : DC cL_set 15 (.iconst 1) 1 16 := ⟨by decide +kernel, rfl⟩
theorem dL_set_16 : DC cL_set 16 (.ireturn) 1 17 := ⟨by decide +kernel, rfl⟩
theorem dL_set_17 : DC cL_set 17 (.iconst 0) 1 18 := ⟨by decide +kernel, rfl⟩
theorem dL_set_18 : DC cL_set 18 (.ireturn) 1 19 := ⟨by decide +kernel, rfl⟩
theorem dL_withdraw_0 : DC cL_withdraw 0 (.aload_n 2) 1 1 := ⟨by decide +kernel, rfl⟩
theorem dL_withdraw_1 : DC cL_withdraw 1 (.iconst 0) 1 2 := ⟨by decide +kernel, rfl⟩
theorem dL_withdraw_2 : DC cL_withdraw 2 (.aload_n 0) 1 3 := ⟨by decide +kernel, rfl⟩
theorem dL_withdraw_3 : DC cL_withdraw 3 (.iload_n 1) 1 4 := ⟨by decide +kernel, rfl⟩
theorem dL_withdraw_4 : DC cL_withdraw 4 (.invokevirtual 28) 3 7 := ⟨by decide +kernel, rfl⟩
theorem dL_withdraw_7 : DC cL_withdraw 7 (.ifCond .eq 7) 3 10 := ⟨by decide +kernel, rfl⟩
theorem dL_withdraw_10 : DC cL_withdraw 10 (.lconst 1) 1 11 := ⟨by decide +kernel, rfl⟩
theorem dL_withdraw_11 : DC cL_withdraw 11 (.goto 4) 3 14 := ⟨by decide +kernel, rfl⟩
theorem dL_withdraw_14 : DC cL_withdraw 14 (.lconst 0) 1 15 := ⟨by decide +kernel, rfl⟩
theorem dL_withdraw_15 : DC cL_withdraw 15 (.lastore) 1 16 := ⟨by decide +kernel, rfl⟩
theorem dL_withdraw_16 : DC cL_withdraw 16 (.goto 6) 3 19 := ⟨by decide +kernel, rfl⟩
theorem dL_withdraw_19 : DC cL_withdraw 19 (.astore_n 3) 1 20 := ⟨by decide +kernel, rfl⟩
theorem dL_withdraw_20 : DC cL_withdraw 20 (.iconst 1) 1 21 := ⟨by decide +kernel, rfl⟩
theorem dL_withdraw_21 : DC cL_withdraw 21 (.ireturn) 1 22 := ⟨by decide +kernel, rfl⟩
theorem dL_withdraw_22 : DC cL_withdraw 22 (.iconst 0) 1 23 := ⟨by decide +kernel, rfl⟩
theorem dL_withdraw_23 : DC cL_withdraw 23 (.ireturn) 1 24 := ⟨by decide +kernel, rfl⟩
theorem dL_pile_0 : DC cL_pile 0 (.aload_n 3) 1 1 := ⟨by decide +kernel, rfl⟩
theorem dL_pile_1 : DC cL_pile 1 (.iconst 0) 1 2 := ⟨by decide +kernel, rfl⟩
theorem dL_pile_2 : DC cL_pile 2 (.aload_n 0) 1 3 := ⟨by decide +kernel, rfl⟩
theorem dL_pile_3 : DC cL_pile 3 (.iload_n 1) 1 4 := ⟨by decide +kernel, rfl⟩
theorem dL_pile_4 : DC cL_pile 4 (.iload_n 2) 1 5 := ⟨by decide +kernel, rfl⟩
theorem dL_pile_5 : DC cL_pile 5 (.invokevirtual 34) 3 8 := ⟨by decide +kernel, rfl⟩
theorem dL_pile_8 : DC cL_pile 8 (.i2l) 1 9 := ⟨by decide +kernel, rfl⟩
theorem dL_pile_9 : DC cL_pile 9 (.lastore) 1 10 := ⟨by decide +kernel, rfl⟩
theorem dL_pile_10 : DC cL_pile 10 (.goto 11) 3 13 := ⟨by decide +kernel, rfl⟩
theorem dL_pile_13 : DC cL_pile 13 (.astore 4) 2 15 := ⟨by decide +kernel, rfl⟩
theorem dL_pile_15 : DC cL_pile 15 (.iconst 1) 1 16 := ⟨by decide +kernel, rfl⟩
theorem dL_pile_16 : DC cL_pile 16 (.ireturn) 1 17 := ⟨by decide +kernel, rfl⟩
theorem dL_pile_17 : DC cL_pile 17 (.astore 4) 2 19 := ⟨by decide +kernel, rfl⟩
theorem dL_pile_19 : DC cL_pile 19 (.iconst 2) 1 20 := ⟨by decide +kernel, rfl⟩
theorem dL_pile_20 : DC cL_pile 20 (.ireturn) 1 21 := ⟨by decide +kernel, rfl⟩
theorem dL_pile_21 : DC cL_pile 21 (.iconst 0) 1 22 := ⟨by decide +kernel, rfl⟩
theorem dL_pile_22 : DC cL_pile 22 (.ireturn) 1 23 := ⟨by decide +kernel, rfl⟩
theorem dL_character_0 : DC cL_character 0 (.aload_n 3) 1 1 := ⟨by decide +kernel, rfl⟩
theorem dL_character_1 : DC cL_character 1 (.iconst 0) 1 2 := ⟨by decide +kernel, rfl⟩
theorem dL_character_2 : DC cL_character 2 (.aload_n 0) 1 3 := ⟨by decide +kernel, rfl⟩
theorem dL_character_3 : DC cL_character 3 (.iload_n 1) 1 4 := ⟨by decide +kernel, rfl⟩
theorem dL_character_4 : DC cL_character 4 (.iload_n 2) 1 5 := ⟨by decide +kernel, rfl⟩
theorem dL_character_5 : DC cL_character 5 (.invokevirtual 37) 3 8 := ⟨by decide +kernel, rfl⟩
theorem dL_character_8 : DC cL_character 8 (.i2l) 1 9 := ⟨by decide +kernel, rfl⟩
theorem dL_character_9 : DC cL_character 9 (.lastore) 1 10 := ⟨by decide +kernel, rfl⟩
theorem dL_character_10 : DC cL_character 10 (.goto 7) 3 13 := ⟨by decide +kernel, rfl⟩
theorem dL_character_13 : DC cL_character 13 (.astore 4) 2 15 := ⟨by decide +kernel, rfl⟩
theorem dL_character_15 : DC cL_character 15 (.iconst 1) 1 16 := ⟨by decide +kernel, rfl⟩
theorem dL_character_16 : DC cL_character 16 (.ireturn) 1 17 := ⟨by decide +kernel, rfl⟩
theorem dL_character_17 : DC cL_character 17 (.iconst 0) 1 18 := ⟨by decide +kernel, rfl⟩
theorem dL_character_18 : DC cL_character 18 (.ireturn) 1 19 := ⟨by decide +kernel, rfl⟩
theorem dL_votes_0 : DC cL_votes 0 (.aload_n 3) 1 1 := ⟨by decide +kernel, rfl⟩
theorem dL_votes_1 : DC cL_votes 1 (.iconst 0) 1 2 := ⟨by decide +kernel, rfl⟩
theorem dL_votes_2 : DC cL_votes 2 (.aload_n 0) 1 3 := ⟨by decide +kernel, rfl⟩
theorem dL_votes_3 : DC cL_votes 3 (.iload_n 1) 1 4 := ⟨by decide +kernel, rfl⟩
theorem dL_votes_4 : DC cL_votes 4 (.iload_n 2) 1 5 := ⟨by decide +kernel, rfl⟩
theorem dL_votes_5 : DC cL_votes 5 (.invokevirtual 40) 3 8 := ⟨by decide +kernel, rfl⟩
theorem dL_votes_8 : DC cL_votes 8 (.i2l) 1 9 := ⟨by decide +kernel, rfl⟩
theorem dL_votes_9 : DC cL_votes 9 (.lastore) 1 10 := ⟨by decide +kernel, rfl⟩
theorem dL_votes_10 : DC cL_votes 10 (.goto 7) 3 13 := ⟨by decide +kernel, rfl⟩
theorem dL_votes_13 : DC cL_votes 13 (.astore 4) 2 15 := ⟨by decide +kernel, rfl⟩
theorem dL_votes_15 : DC cL_votes 15 (.iconst 1) 1 16 := ⟨by decide +kernel, rfl⟩
theorem dL_votes_16 : DC cL_votes 16 (.ireturn) 1 17 := ⟨by decide +kernel, rfl⟩
theorem dL_votes_17 : DC cL_votes 17 (.iconst 0) 1 18 := ⟨by decide +kernel, rfl⟩
theorem dL_votes_18 : DC cL_votes 18 (.ireturn) 1 19 := ⟨by decide +kernel, rfl⟩
theorem dL_round_0 : DC cL_round 0 (.aload_n 3) 1 1 := ⟨by decide +kernel, rfl⟩
theorem dL_round_1 : DC cL_round 1 (.iconst 0) 1 2 := ⟨by decide +kernel, rfl⟩
theorem dL_round_2 : DC cL_round 2 (.aload_n 0) 1 3 := ⟨by decide +kernel, rfl⟩
theorem dL_round_3 : DC cL_round 3 (.iload_n 1) 1 4 := ⟨by decide +kernel, rfl⟩
theorem dL_round_4 : DC cL_round 4 (.iload_n 2) 1 5 := ⟨by decide +kernel, rfl⟩
theorem dL_round_5 : DC cL_round 5 (.invokevirtual 43) 3 8 := ⟨by decide +kernel, rfl⟩
theorem dL_round_8 : DC cL_round 8 (.i2l) 1 9 := ⟨by decide +kernel, rfl⟩
theorem dL_round_9 : DC cL_round 9 (.lastore) 1 10 := ⟨by decide +kernel, rfl⟩
theorem dL_round_10 : DC cL_round 10 (.goto 11) 3 13 := ⟨by decide +kernel, rfl⟩
theorem dL_round_13 : DC cL_round 13 (.astore 4) 2 15 := ⟨by decide +kernel, rfl⟩
theorem dL_round_15 : DC cL_round 15 (.iconst 1) 1 16 := ⟨by decide +kernel, rfl⟩
theorem dL_round_16 : DC cL_round 16 (.ireturn) 1 17 := ⟨by decide +kernel, rfl⟩
theorem dL_round_17 : DC cL_round 17 (.astore 4) 2 19 := ⟨by decide +kernel, rfl⟩
theorem dL_round_19 : DC cL_round 19 (.iconst 2) 1 20 := ⟨by decide +kernel, rfl⟩
theorem dL_round_20 : DC cL_round 20 (.ireturn) 1 21 := ⟨by decide +kernel, rfl⟩
theorem dL_round_21 : DC cL_round 21 (.iconst 0) 1 22 := ⟨by decide +kernel, rfl⟩
theorem dL_round_22 : DC cL_round 22 (.ireturn) 1 23 := ⟨by decide +kernel, rfl⟩
theorem dL_candidate_0 : DC cL_candidate 0 (.aload_n 3) 1 1 := ⟨by decide +kernel, rfl⟩
theorem dL_candidate_1 : DC cL_candidate 1 (.iconst 0) 1 2 := ⟨by decide +kernel, rfl⟩
theorem dL_candidate_2 : DC cL_candidate 2 (.aload_n 0) 1 3 := ⟨by decide +kernel, rfl⟩
theorem dL_candidate_3 : DC cL_candidate 3 (.iload_n 1) 1 4 := ⟨by decide +kernel, rfl⟩
theorem dL_candidate_4 : DC cL_candidate 4 (.iload_n 2) 1 5 := ⟨by decide +kernel, rfl⟩
theorem dL_candidate_5 : DC cL_candidate 5 (.invokevirtual 46) 3 8 := ⟨by decide +kernel, rfl⟩
theorem dL_candidate_8 : DC cL_candidate 8 (.i2l) 1 9 := ⟨by decide +kernel, rfl⟩
theorem dL_candidate_9 : DC cL_candidate 9 (.lastore) 1 10 := ⟨by decide +kernel, rfl⟩
theorem dL_candidate_10 : DC cL_candidate 10 (.goto 11) 3 13 := ⟨by decide +kernel, rfl⟩
theorem dL_candidate_13 : DC cL_candidate 13 (.astore 4) 2 15 := ⟨by decide +kernel, rfl⟩
theorem dL_candidate_15 : DC cL_candidate 15 (.iconst 1) 1 16 := ⟨by decide +kernel, rfl⟩
theorem dL_candidate_16 : DC cL_candidate 16 (.ireturn) 1 17 := ⟨by decide +kernel, rfl⟩
theorem dL_candidate_17 : DC cL_candidate 17 (.astore 4) 2 19 := ⟨by decide +kernel, rfl⟩
theorem dL_candidate_19 : DC cL_candidate 19 (.iconst 2) 1 20 := ⟨by decide +kernel, rfl⟩
theorem dL_candidate_20 : DC cL_candidate 20 (.ireturn) 1 21 := ⟨by decide +kernel, rfl⟩
theorem dL_candidate_21 : DC cL_candidate 21 (.iconst 0) 1 22 := ⟨by decide +kernel, rfl⟩
theorem dL_candidate_22 : DC cL_candidate 22 (.ireturn) 1 23 := ⟨by decide +kernel, rfl⟩
theorem dL_elected_0 : DC cL_elected 0 (.aload_n 2) 1 1 := ⟨by decide +kernel, rfl⟩
theorem dL_elected_1 : DC cL_elected 1 (.iconst 0) 1 2 := ⟨by decide +kernel, rfl⟩
theorem dL_elected_2 : DC cL_elected 2 (.aload_n 0) 1 3 := ⟨by decide +kernel, rfl⟩
theorem dL_elected_3 : DC cL_elected 3 (.iload_n 1) 1 4 := ⟨by decide +kernel, rfl⟩
theorem dL_elected_4 : DC cL_elected 4 (.invokevirtual 49) 3 7 := ⟨by decide +kernel, rfl⟩
theorem dL_elected_7 : DC cL_elected 7 (.i2l) 1 8 := ⟨by decide +kernel, rfl⟩
theorem dL_elected_8 : DC cL_elected 8 (.lastore) 1 9 := ⟨by decide +kernel, rfl⟩
theorem dL_elected_9 : DC cL_elected 9 (.goto 6) 3 12 := ⟨by decide +kernel, rfl⟩
theorem dL_elected_12 : DC cL_elected 12 (.astore_n 3) 1 13 := ⟨by decide +kernel, rfl⟩
theorem dL_elected_13 : DC cL_elected 13 (.iconst 1) 1 14 := ⟨by decide +kernel, rfl⟩
theorem dL_elected_14 : DC cL_elected 14 (.ireturn) 1 15 := ⟨by decide +kernel, rfl⟩
theorem dL_elected_15 : DC cL_elected 15 (.iconst 0) 1 16 := ⟨by decide +kernel, rfl⟩
theorem dL_elected_16 : DC cL_elected 16 (.ireturn) 1 17 := ⟨by decide +kernel, rfl⟩
theorem dL_where_0 : DC cL_where 0 (.aload 4) 2 2 := ⟨by decide +kernel, rfl⟩
theorem dL_where_2 : DC cL_where 2 (.iconst 0) 1 3 := ⟨by decide +kernel, rfl⟩
theorem dL_where_3 : DC cL_where 3 (.aload_n 0) 1 4 := ⟨by decide +kernel, rfl⟩
theorem dL_where_4 : DC cL_where 4 (.iload_n 1) 1 5 := ⟨by decide +kernel, rfl⟩
theorem dL_where_5 : DC cL_where 5 (.iload_n 2) 1 6 := ⟨by decide +kernel, rfl⟩
theorem dL_where_6 : DC cL_where 6 (.iload_n 3) 1 7 := ⟨by decide +kernel, rfl⟩
theorem dL_where_7 : DC cL_where 7 (.invokevirtual 54) 3 10 := ⟨by decide +kernel, rfl⟩
theorem dL_where_10 : DC cL_where 10 (.i2l) 1 11 := ⟨by decide +kernel, rfl⟩
theorem dL_where_11 : DC cL_where 11 (.lastore) 1 12 := ⟨by decide +kernel, rfl⟩
theorem dL_where_12 : DC cL_where 12 (.goto 11) 3 15 := ⟨by decide +kernel, rfl⟩
theorem dL_where_15 : DC cL_where 15 (.astore 5) 2 17 := ⟨by decide +kernel, rfl⟩
theorem dL_where_17 : DC cL_where 17 (.iconst 1) 1 18 := ⟨by decide +kernel, rfl⟩
theorem dL_where_18 : DC cL_where 18 (.ireturn) 1 19 := ⟨by decide +kernel, rfl⟩
theorem dL_where_19 : DC cL_where 19 (.astore 5) 2 21 := ⟨by decide +kernel, rfl⟩
theorem dL_where_21 : DC cL_where 21 (.iconst 2) 1 22 := ⟨by decide +kernel, rfl⟩
theorem dL_where_22 : DC cL_where 22 (.ireturn) 1 23 := ⟨by decide +kernel, rfl⟩
theorem dL_where_23 : DC cL_where 23 (.iconst 0) 1 24 := ⟨by decide +kernel, rfl⟩
theorem dL_where_24 : DC cL_where 24 (.ireturn) 1 25 := ⟨by decide +kernel, rfl⟩
theorem dL_share_0 : DC cL_share 0 (.aload_n 3) 1 1 := ⟨by decide +kernel, rfl⟩
theorem dL_share_1 : DC cL_share 1 (.iconst 0) 1 2 := ⟨by decide +kernel, rfl⟩
theorem dL_share_2 : DC cL_share 2 (.aload_n 0) 1 3 := ⟨by decide +kernel, rfl⟩
theorem dL_share_3 : DC cL_share 3 (.iload_n 1) 1 4 := ⟨by decide +kernel, rfl⟩
theorem dL_share_4 : DC cL_share 4 (.iload_n 2) 1 5 := ⟨by decide +kernel, rfl⟩
theorem dL_share_5 : DC cL_share 5 (.invokevirtual 58) 3 8 := ⟨by decide +kernel, rfl⟩
theorem dL_share_8 : DC cL_share 8 (.f2d) 1 9 := ⟨by decide +kernel, rfl⟩
theorem dL_share_9 : DC cL_share 9 (.dastore) 1 10 := ⟨by decide +kernel, rfl⟩
theorem dL_share_10 : DC cL_share 10 (.goto 11) 3 13 := ⟨by decide +kernel, rfl⟩
theorem dL_share_13 : DC cL_share 13 (.astore 4) 2 15 := ⟨by decide +kernel, rfl⟩
theorem dL_share_15 : DC cL_share 15 (.iconst 1) 1 16 := ⟨by decide +kernel, rfl⟩
theorem dL_share_16 : DC cL_share 16 (.ireturn) 1 17 := ⟨by decide +kernel, rfl⟩
theorem dL_share_17 : DC cL_share 17 (.astore 4) 2 19 := ⟨by decide +kernel, rfl⟩
theorem dL_share_19 : DC cL_share 19 (.iconst 2) 1 20 := ⟨by decide +kernel, rfl⟩
theorem dL_share_20 : DC cL_share 20 (.ireturn) 1 21 := ⟨by decide +kernel, rfl⟩
theorem dL_share_21 : DC cL_share 21 (.iconst 0) 1 22 := ⟨by decide +kernel, rfl⟩
theorem dL_share_22 : DC cL_share 22 (.ireturn) 1 23 := ⟨by decide +kernel, rfl⟩
theorem dL_preferring_0 : DC cL_preferring 0 (.aload_n 3) 1 1 := ⟨by decide +kernel, rfl⟩
theorem dL_preferring_1 : DC cL_preferring 1 (.iconst 0) 1 2 := ⟨by decide +kernel, rfl⟩
theorem dL_preferring_2 : DC cL_preferring 2 (.aload_n 0) 1 3 := ⟨by decide +kernel, rfl⟩
theorem dL_preferring_3 : DC cL_preferring 3 (.iload_n 1) 1 4 := ⟨by decide +kernel, rfl⟩
theorem dL_preferring_4 : DC cL_preferring 4 (.iload_n 2) 1 5 := ⟨by decide +kernel, rfl⟩
theorem dL_preferring_5 : DC cL_preferring 5 (.invokevirtual 64) 3 8 := ⟨by decide +kernel, rfl⟩
theorem dL_preferring_8 : DC cL_preferring 8 (.i2l) 1 9 := ⟨by decide +kernel, rfl⟩
theorem dL_preferring_9 : DC cL_preferring 9 (.lastore) 1 10 := ⟨by decide +kernel, rfl⟩
theorem dL_preferring_10 : DC cL_preferring 10 (.goto 7) 3 13 := ⟨by decide +kernel, rfl⟩
theorem dL_preferring_13 : DC cL_preferring 13 (.astore 4) 2 15 := ⟨by decide +kernel, rfl⟩
theorem dL_preferring_15 : DC cL_preferring 15 (.iconst 1) 1 16 := ⟨by decide +kernel, rfl⟩
theorem dL_preferring_16 : DC cL_preferring 16 (.ireturn) 1 17 := ⟨by decide +kernel, rfl⟩
theorem dL_preferring_17 : DC cL_preferring 17 (.iconst 0) 1 18 := ⟨by decide +kernel, rfl⟩
theorem dL_preferring_18 : DC cL_preferring 18 (.ireturn) 1 19 := ⟨by decide +kernel, rfl⟩
theorem dL_points_0 : DC cL_points 0 (.aload_n 2) 1 1 := ⟨by decide +kernel, rfl⟩
theorem dL_points_1 : DC cL_points 1 (.iconst 0) 1 2 := ⟨by decide +kernel, rfl⟩
theorem dL_points_2 : DC cL_points 2 (.aload_n 0) 1 3 := ⟨by decide +kernel, rfl⟩
theorem dL_points_3 : DC cL_points 3 (.iload_n 1) 1 4 := ⟨by decide +kernel, rfl⟩
theorem dL_points_4 : DC cL_points 4 (.invokevirtual 67) 3 7 := ⟨by decide +kernel, rfl⟩
theorem dL_points_7 : DC cL_points 7 (.i2l) 1 8 := ⟨by decide +kernel, rfl⟩
theorem dL_points_8 : DC cL_points 8 (.lastore) 1 9 := ⟨by decide +kernel, rfl⟩
theorem dL_points_9 : DC cL_points 9 (.goto 6) 3 12 := ⟨by decide +kernel, rfl⟩
theorem dL_points_12 : DC cL_points 12 (.astore_n 3) 1 13 := ⟨by decide +kernel, rfl⟩
theorem dL_points_13 : DC cL_points 13 (.iconst 1) 1 14 := ⟨by decide +kernel, rfl⟩
theorem dL_points_14 : DC cL_points 14 (.ireturn) 1 15 := ⟨by decide +kernel, rfl⟩
theorem dL_points_15 : DC cL_points 15 (.iconst 0) 1 16 := ⟨by decide +kernel, rfl⟩
theorem dL_points_16 : DC cL_points 16 (.ireturn) 1 17 := ⟨by decide +kernel, rfl⟩
theorem dL_recount_0 : DC cL_recount 0 (.aload_n 2) 1 1 := ⟨by decide +kernel, rfl⟩
theorem dL_recount_1 : DC cL_recount 1 (.iconst 0) 1 2 := ⟨by decide +kernel, rfl⟩
theorem dL_recount_2 : DC cL_recount 2 (.aload_n 0) 1 3 := ⟨by decide +kernel, rfl⟩
theorem dL_recount_3 : DC cL_recount 3 (.iload_n 1) 1 4 := ⟨by decide +kernel, rfl⟩
theorem dL_recount_4 : DC cL_recount 4 (.invokevirtual 70) 3 7 := ⟨by decide +kernel, rfl⟩
theorem dL_recount_7 : DC cL_recount 7 (.i2l) 1 8 := ⟨by decide +kernel, rfl⟩
theorem dL_recount_8 : DC cL_recount 8 (.lastore) 1 9 := ⟨by decide +kernel, rfl⟩
theorem dL_recount_9 : DC cL_recount 9 (.goto 9) 3 12 := ⟨by decide +kernel, rfl⟩
theorem dL_recount_12 : DC cL_recount 12 (.astore_n 3) 1 13 := ⟨by decide +kernel, rfl⟩
theorem dL_recount_13 : DC cL_recount 13 (.iconst 1) 1 14 := ⟨by decide +kernel, rfl⟩
theorem dL_recount_14 : DC cL_recount 14 (.ireturn) 1 15 := ⟨by decide +kernel, rfl⟩
theorem dL_recount_15 : DC cL_recount 15 (.astore_n 3) 1 16 := ⟨by decide +kernel, rfl⟩
theorem dL_recount_16 : DC cL_recount 16 (.iconst 2) 1 17 := ⟨by decide +kernel, rfl⟩
theorem dL_recount_17 : DC cL_recount 17 (.ireturn) 1 18 := ⟨by decide +kernel, rfl⟩
theorem dL_recount_18 : DC cL_recount 18 (.iconst 0) 1 19 := ⟨by decide +kernel, rfl⟩
theorem dL_recount_19 : DC cL_recount 19 (.ireturn) 1 20 := ⟨by decide +kernel, rfl⟩
theorem dL_needed_0 : DC cL_needed 0 (.aload_n 2) 1 1 := ⟨by decide +kernel, rfl⟩
theorem dL_needed_1 : DC cL_needed 1 (.iconst 0) 1 2 := ⟨by decide +kernel, rfl⟩
theorem dL_needed_2 : DC cL_needed 2 (.aload_n 0) 1 3 := ⟨by decide +kernel, rfl⟩
theorem dL_needed_3 : DC cL_needed 3 (.iload_n 1) 1 4 := ⟨by decide +kernel, rfl⟩
theorem dL_needed_4 : DC cL_needed 4 (.invokevirtual 73) 3 7 := ⟨by decide +kernel, rfl⟩
theorem dL_needed_7 : DC cL_needed 7 (.i2l) 1 8 := ⟨by decide +kernel, rfl⟩
theorem dL_needed_8 : DC cL_needed 8 (.lastore) 1 9 := ⟨by decide +kernel, rfl⟩
theorem dL_needed_9 : DC cL_needed 9 (.goto 6) 3 12 := ⟨by decide +kernel, rfl⟩
theorem dL_needed_12 : DC cL_needed 12 (.astore_n 3) 1 13 := ⟨by decide +kernel, rfl⟩
theorem dL_needed_13 : DC cL_needed 13 (.iconst 1) 1 14 := ⟨by decide +kernel, rfl⟩
theorem dL_needed_14 : DC cL_needed 14 (.ireturn) 1 15 := ⟨by decide +kernel, rfl⟩
theorem dL_needed_15 : DC cL_needed 15 (.iconst 0) 1 16 := ⟨by decide +kernel, rfl⟩
theorem dL_needed_16 : DC cL_needed 16 (.ireturn) 1 17 := ⟨by decide +kernel, rfl⟩
theorem dL_undo_0 : DC cL_undo 0 (.aload_n 1) 1 1 := ⟨by decide +kernel, rfl⟩
theorem dL_undo_1 : DC cL_undo 1 (.iconst 0) 1 2 := ⟨by decide +kernel, rfl⟩
theorem dL_undo_2 : DC cL_undo 2 (.aload_n 0) 1 3 := ⟨by decide +kernel, rfl⟩
theorem dL_undo_3 : DC cL_undo 3 (.invokevirtual 76) 3 6 := ⟨by decide +kernel, rfl⟩
theorem dL_undo_6 : DC cL_undo 6 (.i2l) 1 7 := ⟨by decide +kernel, rfl⟩
theorem dL_undo_7 : DC cL_undo 7 (.lastore) 1 8 := ⟨by decide +kernel, rfl⟩
theorem dL_undo_8 : DC cL_undo 8 (.goto 6) 3 11 := ⟨by decide +kernel, rfl⟩
theorem dL_undo_11 : DC cL_undo 11 (.astore_n 2) 1 12 := ⟨by decide +kernel, rfl⟩
theorem dL_undo_12 : DC cL_undo 12 (.iconst 1) 1 13 := ⟨by decide +kernel, rfl⟩
theorem dL_undo_13 : DC cL_undo 13 (.ireturn) 1 14 := ⟨by decide +kernel, rfl⟩
theorem dL_undo_14 : DC cL_undo 14 (.iconst 0) 1 15 := ⟨by decide +kernel, rfl⟩
theorem dL_undo_15 : DC cL_undo 15 (.ireturn) 1 16 := ⟨by decide +kernel, rfl⟩
theorem dL_restore_0 : DC cL_restore 0 (.aload_n 1) 1 1 := ⟨by decide +kernel, rfl⟩
theorem dL_restore_1 : DC cL_restore 1 (.iconst 0) 1 2 := ⟨by decide +kernel, rfl⟩
theorem dL_restore_2 : DC cL_restore 2 (.aload_n 0) 1 3 := ⟨by decide +kernel, rfl⟩
theorem dL_restore_3 : DC cL_restore 3 (.invokevirtual 79) 3 6 := ⟨by decide +kernel, rfl⟩
theorem dL_restore_6 : DC cL_restore 6 (.i2l) 1 7 := ⟨by decide +kernel, rfl⟩
theorem dL_restore_7 : DC cL_restore 7 (.lastore) 1 8 := ⟨by decide +kernel, rfl⟩
theorem dL_restore_8 : DC cL_restore 8 (.goto 6) 3 11 := ⟨by decide +kernel, rfl⟩
theorem dL_restore_11 : DC cL_restore 11 (.astore_n 2) 1 12 := ⟨by decide +kernel, rfl⟩
theorem dL_restore_12 : DC cL_restore 12 (.iconst 1) 1 13 := ⟨by decide +kernel, rfl⟩
theorem dL_restore_13 : DC cL_restore 13 (.ireturn) 1 14 := ⟨by decide +kernel, rfl⟩
theorem dL_restore_14 : DC cL_restore 14 (.iconst 0) 1 15 := ⟨by decide +kernel, rfl⟩
theorem dL_restore_15 : DC cL_restore 15 (.ireturn) 1 16 := ⟨by decide +kernel, rfl⟩
theorem dL_count_0 : DC cL_count 0 (.aload_n 2) 1 1 := ⟨by decide +kernel, rfl⟩
theorem dL_count_1 : DC cL_count 1 (.iconst 0) 1 2 := ⟨by decide +kernel, rfl⟩
theorem dL_count_2 : DC cL_count 2 (.aload_n 0) 1 3 := ⟨by decide +kernel, rfl⟩
theorem dL_count_3 : DC cL_count 3 (.iload_n 1) 1 4 := ⟨by decide +kernel, rfl⟩
theorem dL_count_4 : DC cL_count 4 (.invokevirtual 82) 3 7 := ⟨by decide +kernel, rfl⟩
theorem dL_count_7 : DC cL_count 7 (.i2l) 1 8 := ⟨by decide +kernel, rfl⟩
theorem dL_count_8 : DC cL_count 8 (.lastore) 1 9 := ⟨by decide +kernel, rfl⟩
theorem dL_count_9 : DC cL_count 9 (.goto 6) 3 12 := ⟨by decide +kernel, rfl⟩
theorem dL_count_12 : DC cL_count 12 (.astore_n 3) 1 13 := ⟨by decide +kernel, rfl⟩
theorem dL_count_13 : DC cL_count 13 (.iconst 1) 1 14 := ⟨by decide +kernel, rfl⟩
theorem dL_count_14 : DC cL_count 14 (.ireturn) 1 15 := ⟨by decide +kernel, rfl⟩
theorem dL_count_15 : DC cL_count 15 (.iconst 0) 1 16 := ⟨by decide +kernel, rfl⟩
theorem dL_count_16 : DC cL_count 16 (.ireturn) 1 17 := ⟨by decide +kernel, rfl⟩
theorem dL_law_0 : DC cL_law 0 (.new 8) 3 3 := ⟨by decide +kernel, rfl⟩
theorem dL_law_3 : DC cL_law 3 (.dup) 1 4 := ⟨by decide +kernel, rfl⟩
theorem dL_law_4 : DC cL_law 4 (.invokespecial 85) 3 7 := ⟨by decide +kernel, rfl⟩
theorem dL_law_7 : DC cL_law 7 (.astore_n 1) 1 8 := ⟨by decide +kernel, rfl⟩
theorem dL_law_8 : DC cL_law 8 (.new 86) 3 11 := ⟨by decide +kernel, rfl⟩
theorem dL_law_11 : DC cL_law 11 (.dup) 1 12 := ⟨by decide +kernel, rfl⟩
theorem dL_law_12 : DC cL_law 12 (.invokespecial 88) 3 15 := ⟨by decide +kernel, rfl⟩
theorem dL_law_15 : DC cL_law 15 (.astore_n 2) 1 16 := ⟨by decide +kernel, rfl⟩
theorem dL_law_16 : DC cL_law 16 (.iconst 1) 1 17 := ⟨by decide +kernel, rfl⟩
theorem dL_law_17 : DC cL_law 17 (.newarray .long) 2 19 := ⟨by decide +kernel, rfl⟩
theorem dL_law_19 : DC cL_law 19 (.astore_n 3) 1 20 := ⟨by decide +kernel, rfl⟩
theorem dL_law_20 : DC cL_law 20 (.iconst 1) 1 21 := ⟨by decide +kernel, rfl⟩
theorem dL_law_21 : DC cL_law 21 (.newarray .double) 2 23 := ⟨by decide +kernel, rfl⟩
theorem dL_law_23 : DC cL_law 23 (.astore 4) 2 25 := ⟨by decide +kernel, rfl⟩
theorem dL_law_25 : DC cL_law 25 (.iconst 0) 1 26 := ⟨by decide +kernel, rfl⟩
theorem dL_law_26 : DC cL_law 26 (.istore 5) 2 28 := ⟨by decide +kernel, rfl⟩
theorem dL_law_28 : DC cL_law 28 (.iload 5) 2 30 := ⟨by decide +kernel, rfl⟩
theorem dL_law_30 : DC cL_law 30 (.aload_n 0) 1 31 := ⟨by decide +kernel, rfl⟩
theorem dL_law_31 : DC cL_law 31 (.arraylength) 1 32 := ⟨by decide +kernel, rfl⟩
theorem dL_law_32 : DC cL_law 32 (.iconst 4) 1 33 := ⟨by decide +kernel, rfl⟩
theorem dL_law_33 : DC cL_law 33 (.isub) 1 34 := ⟨by decide +kernel, rfl⟩
theorem dL_law_34 : DC cL_law 34 (.if_icmp .gt 1442) 3 37 := ⟨by decide +kernel, rfl⟩
theorem dL_law_37 : DC cL_law 37 (.aload_n 0) 1 38 := ⟨by decide +kernel, rfl⟩
theorem dL_law_38 : DC cL_law 38 (.iload 5) 2 40 := ⟨by decide +kernel, rfl⟩
theorem dL_law_40 : DC cL_law 40 (.iaload) 1 41 := ⟨by decide +kernel, rfl⟩
theorem dL_law_41 : DC cL_law 41 (.bipush 31) 2 43 := ⟨by decide +kernel, rfl⟩
theorem dL_law_43 : DC cL_law 43 (.iand) 1 44 := ⟨by decide +kernel, rfl⟩
theorem dL_law_44 : DC cL_law 44 (.tableswitch 1426 0 24 #[116, 184, 240, 284, 297, 365, 428, 496, 564, 577, 645, 713, 781, 837, 917, 1007, 1075, 1088, 1144, 1157, 1213, 1269, 1313, 1326, 1370]) 116 160 := ⟨by decide +kernel, rfl⟩
theorem dL_law_160 : DC cL_law 160 (.aload_n 1) 1 161 := ⟨by decide +kernel, rfl⟩
theorem dL_law_161 : DC cL_law 161 (.aload_n 0) 1 162 := ⟨by decide +kernel, rfl⟩
theorem dL_law_162 : DC cL_law 162 (.iload 5) 2 164 := ⟨by decide +kernel, rfl⟩
theorem dL_law_164 : DC cL_law 164 (.iconst 1) 1 165 := ⟨by decide +kernel, rfl⟩
theorem dL_law_165 : DC cL_law 165 (.iadd) 1 166 := ⟨by decide +kernel, rfl⟩
theorem dL_law_166 : DC cL_law 166 (.iaload) 1 167 := ⟨by decide +kernel, rfl⟩
theorem dL_law_167 : DC cL_law 167 (.aload_n 0) 1 168 := ⟨by decide +kernel, rfl⟩
theorem dL_law_168 : DC cL_law 168 (.iload 5) 2 170 := ⟨by decide +kernel, rfl⟩
theorem dL_law_170 : DC cL_law 170 (.iconst 2) 1 171 := ⟨by decide +kernel, rfl⟩
theorem dL_law_171 : DC cL_law 171 (.iadd) 1 172 := ⟨by decide +kernel, rfl⟩
theorem dL_law_172 : DC cL_law 172 (.iaload) 1 173 := ⟨by decide +kernel, rfl⟩
theorem dL_law_173 : DC cL_law 173 (.aload_n 3) 1 174 := ⟨by decide +kernel, rfl⟩
theorem dL_law_174 : DC cL_law 174 (.invokestatic 89) 3 177 := ⟨by decide +kernel, rfl⟩
theorem dL_law_177 : DC cL_law 177 (.istore 6) 2 179 := ⟨by decide +kernel, rfl⟩
theorem dL_law_179 : DC cL_law 179 (.aload_n 2) 1 180 := ⟨by decide +kernel, rfl⟩
theorem dL_law_180 : DC cL_law 180 (.aload_n 0) 1 181 := ⟨by decide +kernel, rfl⟩
theorem dL_law_181 : DC cL_law 181 (.iload 5) 2 183 := ⟨by decide +kernel, rfl⟩
theorem dL_law_183 : DC cL_law 183 (.iconst 1) 1 184 := ⟨by decide +kernel, rfl⟩
theorem dL_law_184 : DC cL_law 184 (.iadd) 1 185 := ⟨by decide +kernel, rfl⟩
theorem dL_law_185 : DC cL_law 185 (.iaload) 1 186 := ⟨by decide +kernel, rfl⟩
theorem dL_law_186 : DC cL_law 186 (.aload_n 0) 1 187 := ⟨by decide +kernel, rfl⟩
theorem dL_law_187 : DC cL_law 187 (.iload 5) 2 189 := ⟨by decide +kernel, rfl⟩
theorem dL_law_189 : DC cL_law 189 (.iconst 2) 1 190 := ⟨by decide +kernel, rfl⟩
theorem dL_law_190 : DC cL_law 190 (.iadd) 1 191 := ⟨by decide +kernel, rfl⟩
theorem dL_law_191 : DC cL_law 191 (.iaload) 1 192 := ⟨by decide +kernel, rfl⟩
theorem dL_law_192 : DC cL_law 192 (.invokevirtual 94) 3 195 := ⟨by decide +kernel, rfl⟩
theorem dL_law_195 : DC cL_law 195 (.istore 7) 2 197 := ⟨by decide +kernel, rfl⟩
theorem dL_law_197 : DC cL_law 197 (.aload_n 2) 1 198 := ⟨by decide +kernel, rfl⟩
theorem dL_law_198 : DC cL_law 198 (.invokevirtual 95) 3 201 := ⟨by decide +kernel, rfl⟩
theorem dL_law_201 : DC cL_law 201 (.iload 6) 2 203 := ⟨by decide +kernel, rfl⟩
theorem dL_law_203 : DC cL_law 203 (.if_icmp .eq 5) 3 206 := ⟨by decide +kernel, rfl⟩
theorem dL_law_206 : DC cL_law 206 (.iconst 0) 1 207 := ⟨by decide +kernel, rfl⟩
theorem dL_law_207 : DC cL_law 207 (.ireturn) 1 208 := ⟨by decide +kernel, rfl⟩
theorem dL_law_208 : DC cL_law 208 (.iload 6) 2 210 := ⟨by decide +kernel, rfl⟩
theorem dL_law_210 : DC cL_law 210 (.ifCond .ne 15) 3 213 := ⟨by decide +kernel, rfl⟩
theorem dL_law_213 : DC cL_law 213 (.aload_n 3) 1 214 := ⟨by decide +kernel, rfl⟩
theorem dL_law_214 : DC cL_law 214 (.iconst 0) 1 215 := ⟨by decide +kernel, rfl⟩
theorem dL_law_215 : DC cL_law 215 (.laload) 1 216 := ⟨by decide +kernel, rfl⟩
theorem dL_law_216 : DC cL_law 216 (.iload 7) 2 218 := ⟨by decide +kernel, rfl⟩
theorem dL_law_218 : DC cL_law 218 (.i2l) 1 219 := ⟨by decide +kernel, rfl⟩
theorem dL_law_219 : DC cL_law 219 (.lcmp) 1 220 := ⟨by decide +kernel, rfl⟩
theorem dL_law_220 : DC cL_law 220 (.ifCond .eq 5) 3 223 := ⟨by decide +kernel, rfl⟩
theorem dL_law_223 : DC cL_law 223 (.iconst 0) 1 224 := ⟨by decide +kernel, rfl⟩
theorem dL_law_224 : DC cL_law 224 (.ireturn) 1 225 := ⟨by decide +kernel, rfl⟩
theorem dL_law_225 : DC cL_law 225 (.goto 1245) 3 228 := ⟨by decide +kernel, rfl⟩
theorem dL_law_228 : DC cL_law 228 (.aload_n 1) 1 229 := ⟨by decide +kernel, rfl⟩
theorem dL_law_229 : DC cL_law 229 (.aload_n 0) 1 230 := ⟨by decide +kernel, rfl⟩
theorem dL_law_230 : DC cL_law 230 (.iload 5) 2 232 := ⟨by decide +kernel, rfl⟩
theorem dL_law_232 : DC cL_law 232 (.iconst 1) 1 233 := ⟨by decide +kernel, rfl⟩
theorem dL_law_233 : DC cL_law 233 (.iadd) 1 234 := ⟨by decide +kernel, rfl⟩
theorem dL_law_234 : DC cL_law 234 (.iaload) 1 235 := ⟨by decide +kernel, rfl⟩
theorem dL_law_235 : DC cL_law 235 (.aload_n 3) 1 236 := ⟨by decide +kernel, rfl⟩
theorem dL_law_236 : DC cL_law 236 (.invokestatic 98) 3 239 := ⟨by decide +kernel, rfl⟩
theorem dL_law_239 : DC cL_law 239 (.istore 6) 2 241 := ⟨by decide +kernel, rfl⟩
theorem dL_law_241 : DC cL_law 241 (.aload_n 2) 1 242 := ⟨by decide +kernel, rfl⟩
theorem dL_law_242 : DC cL_law 242 (.aload_n 0) 1 243 := ⟨by decide +kernel, rfl⟩
theorem dL_law_243 : DC cL_law 243 (.iload 5) 2 245 := ⟨by decide +kernel, rfl⟩
theorem dL_law_245 : DC cL_law 245 (.iconst 1) 1 246 := ⟨by decide +kernel, rfl⟩
theorem dL_law_246 : DC cL_law 246 (.iadd) 1 247 := ⟨by decide +kernel, rfl⟩
theorem dL_law_247 : DC cL_law 247 (.iaload) 1 248 := ⟨by decide +kernel, rfl⟩
theorem dL_law_248 : DC cL_law 248 (.invokevirtual 101) 3 251 := ⟨by decide +kernel, rfl⟩
theorem dL_law_251 : DC cL_law 251 (.istore 7) 2 253 := ⟨by decide +kernel, rfl⟩
theorem dL_law_253 : DC cL_law 253 (.aload_n 2) 1 254 := ⟨by decide +kernel, rfl⟩
theorem dL_law_254 : DC cL_law 254 (.invokevirtual 95) 3 257 := ⟨by decide +kernel, rfl⟩
theorem dL_law_257 : DC cL_law 257 (.iload 6) 2 259 := ⟨by decide +kernel, rfl⟩
theorem dL_law_259 : DC cL_law 259 (.if_icmp .eq 5) 3 262 := ⟨by decide +kernel, rfl⟩
theorem dL_law_262 : DC cL_law 262 (.iconst 0) 1 263 := ⟨by decide +kernel, rfl⟩
theorem dL_law_263 : DC cL_law 263 (.ireturn) 1 264 := ⟨by decide +kernel, rfl⟩
theorem dL_law_264 : DC cL_law 264 (.iload 6) 2 266 := ⟨by decide +kernel, rfl⟩
theorem dL_law_266 : DC cL_law 266 (.ifCond .ne 15) 3 269 := ⟨by decide +kernel, rfl⟩
theorem dL_law_269 : DC cL_law 269 (.aload_n 3) 1 270 := ⟨by decide +kernel, rfl⟩
theorem dL_law_270 : DC cL_law 270 (.iconst 0) 1 271 := ⟨by decide +kernel, rfl⟩
theorem dL_law_271 : DC cL_law 271 (.laload) 1 272 := ⟨by decide +kernel, rfl⟩
theorem dL_law_272 : DC cL_law 272 (.iload 7) 2 274 := ⟨by decide +kernel, rfl⟩
theorem dL_law_274 : DC cL_law 274 (.i2l) 1 275 := ⟨by decide +kernel, rfl⟩
theorem dL_law_275 : DC cL_law 275 (.lcmp) 1 276 := ⟨by decide +kernel, rfl⟩
theorem dL_law_276 : DC cL_law 276 (.ifCond .eq 5) 3 279 := ⟨by decide +kernel, rfl⟩
theorem dL_law_279 : DC cL_law 279 (.iconst 0) 1 280 := ⟨by decide +kernel, rfl⟩
theorem dL_law_280 : DC cL_law 280 (.ireturn) 1 281 := ⟨by decide +kernel, rfl⟩
theorem dL_law_281 : DC cL_law 281 (.goto 1189) 3 284 := ⟨by decide +kernel, rfl⟩
theorem dL_law_284 : DC cL_law 284 (.aload_n 1) 1 285 := ⟨by decide +kernel, rfl⟩
theorem dL_law_285 : DC cL_law 285 (.aload_n 3) 1 286 := ⟨by decide +kernel, rfl⟩
theorem dL_law_286 : DC cL_law 286 (.invokestatic 102) 3 289 := ⟨by decide +kernel, rfl⟩
theorem dL_law_289 : DC cL_law 289 (.istore 6) 2 291 := ⟨by decide +kernel, rfl⟩
theorem dL_law_291 : DC cL_law 291 (.aload_n 2) 1 292 := ⟨by decide +kernel, rfl⟩
theorem dL_law_292 : DC cL_law 292 (.invokevirtual 105) 3 295 := ⟨by decide +kernel, rfl⟩
theorem dL_law_295 : DC cL_law 295 (.istore 7) 2 297 := ⟨by decide +kernel, rfl⟩
theorem dL_law_297 : DC cL_law 297 (.aload_n 2) 1 298 := ⟨by decide +kernel, rfl⟩
theorem dL_law_298 : DC cL_law 298 (.invokevirtual 95) 3 301 := ⟨by decide +kernel, rfl⟩
theorem dL_law_301 : DC cL_law 301 (.iload 6) 2 303 := ⟨by decide +kernel, rfl⟩
theorem dL_law_303 : DC cL_law 303 (.if_icmp .eq 5) 3 306 := ⟨by decide +kernel, rfl⟩
theorem dL_law_306 : DC cL_law 306 (.iconst 0) 1 307 := ⟨by decide +kernel, rfl⟩
theorem dL_law_307 : DC cL_law 307 (.ireturn) 1 308 := ⟨by decide +kernel, rfl⟩
theorem dL_law_308 : DC cL_law 308 (.iload 6) 2 310 := ⟨by decide +kernel, rfl⟩
theorem dL_law_310 : DC cL_law 310 (.ifCond .ne 15) 3 313 := ⟨by decide +kernel, rfl⟩
theorem dL_law_313 : DC cL_law 313 (.aload_n 3) 1 314 := ⟨by decide +kernel, rfl⟩
theorem dL_law_314 : DC cL_law 314 (.iconst 0) 1 315 := ⟨by decide +kernel, rfl⟩
theorem dL_law_315 : DC cL_law 315 (.laload) 1 316 := ⟨by decide +kernel, rfl⟩
theorem dL_law_316 : DC cL_law 316 (.iload 7) 2 318 := ⟨by decide +kernel, rfl⟩
theorem dL_law_318 : DC cL_law 318 (.i2l) 1 319 := ⟨by decide +kernel, rfl⟩
theorem dL_law_319 : DC cL_law 319 (.lcmp) 1 320 := ⟨by decide +kernel, rfl⟩
theorem dL_law_320 : DC cL_law 320 (.ifCond .eq 5) 3 323 := ⟨by decide +kernel, rfl⟩
theorem dL_law_323 : DC cL_law 323 (.iconst 0) 1 324 := ⟨by decide +kernel, rfl⟩
theorem dL_law_324 : DC cL_law 324 (.ireturn) 1 325 := ⟨by decide +kernel, rfl⟩
theorem dL_law_325 : DC cL_law 325 (.goto 1145) 3 328 := ⟨by decide +kernel, rfl⟩
theorem dL_law_328 : DC cL_law 328 (.aload_n 1) 1 329 := ⟨by decide +kernel, rfl⟩
theorem dL_law_329 : DC cL_law 329 (.invokevirtual 106) 3 332 := ⟨by decide +kernel, rfl⟩
theorem dL_law_332 : DC cL_law 332 (.aload_n 2) 1 333 := ⟨by decide +kernel, rfl⟩
theorem dL_law_333 : DC cL_law 333 (.invokevirtual 109) 3 336 := ⟨by decide +kernel, rfl⟩
theorem dL_law_336 : DC cL_law 336 (.if_icmp .eq 1134) 3 339 := ⟨by decide +kernel, rfl⟩
theorem dL_law_339 : DC cL_law 339 (.iconst 0) 1 340 := ⟨by decide +kernel, rfl⟩
theorem dL_law_340 : DC cL_law 340 (.ireturn) 1 341 := ⟨by decide +kernel, rfl⟩
theorem dL_law_341 : DC cL_law 341 (.aload_n 1) 1 342 := ⟨by decide +kernel, rfl⟩
theorem dL_law_342 : DC cL_law 342 (.aload_n 0) 1 343 := ⟨by decide +kernel, rfl⟩
theorem dL_law_343 : DC cL_law 343 (.iload 5) 2 345 := ⟨by decide +kernel, rfl⟩
theorem dL_law_345 : DC cL_law 345 (.iconst 1) 1 346 := ⟨by decide +kernel, rfl⟩
theorem dL_law_346 : DC cL_law 346 (.iadd) 1 347 := ⟨by decide +kernel, rfl⟩
theorem dL_law_347 : DC cL_law 347 (.iaload) 1 348 := ⟨by decide +kernel, rfl⟩
theorem dL_law_348 : DC cL_law 348 (.aload_n 0) 1 349 := ⟨by decide +kernel, rfl⟩
theorem dL_law_349 : DC cL_law 349 (.iload 5) 2 351 := ⟨by decide +kernel, rfl⟩
theorem dL_law_351 : DC cL_law 351 (.iconst 2) 1 352 := ⟨by decide +kernel, rfl⟩
theorem dL_law_352 : DC cL_law 352 (.iadd) 1 353 := ⟨by decide +kernel, rfl⟩
theorem dL_law_353 : DC cL_law 353 (.iaload) 1 354 := ⟨by decide +kernel, rfl⟩
theorem dL_law_354 : DC cL_law 354 (.aload_n 3) 1 355 := ⟨by decide +kernel, rfl⟩
theorem dL_law_355 : DC cL_law 355 (.invokestatic 110) 3 358 := ⟨by decide +kernel, rfl⟩
theorem dL_law_358 : DC cL_law 358 (.istore 6) 2 360 := ⟨by decide +kernel, rfl⟩
theorem dL_law_360 : DC cL_law 360 (.aload_n 2) 1 361 := ⟨by decide +kernel, rfl⟩
theorem dL_law_361 : DC cL_law 361 (.aload_n 0) 1 362 := ⟨by decide +kernel, rfl⟩
theorem dL_law_362 : DC cL_law 362 (.iload 5) 2 364 := ⟨by decide +kernel, rfl⟩
theorem dL_law_364 : DC cL_law 364 (.iconst 1) 1 365 := ⟨by decide +kernel, rfl⟩
theorem dL_law_365 : DC cL_law 365 (.iadd) 1 366 := ⟨by decide +kernel, rfl⟩
theorem dL_law_366 : DC cL_law 366 (.iaload) 1 367 := ⟨by decide +kernel, rfl⟩
theorem dL_law_367 : DC cL_law 367 (.aload_n 0) 1 368 := ⟨by decide +kernel, rfl⟩
theorem dL_law_368 : DC cL_law 368 (.iload 5) 2 370 := ⟨by decide +kernel, rfl⟩
theorem dL_law_370 : DC cL_law 370 (.iconst 2) 1 371 := ⟨by decide +kernel, rfl⟩
theorem dL_law_371 : DC cL_law 371 (.iadd) 1 372 := ⟨by decide +kernel, rfl⟩
theorem dL_law_372 : DC cL_law 372 (.iaload) 1 373 := ⟨by decide +kernel, rfl⟩
theorem dL_law_373 : DC cL_law 373 (.invokevirtual 112) 3 376 := ⟨by decide +kernel, rfl⟩
theorem dL_law_376 : DC cL_law 376 (.istore 7) 2 378 := ⟨by decide +kernel, rfl⟩
theorem dL_law_378 : DC cL_law 378 (.aload_n 2) 1 379 := ⟨by decide +kernel, rfl⟩
theorem dL_law_379 : DC cL_law 379 (.invokevirtual 95) 3 382 := ⟨by decide +kernel, rfl⟩
theorem dL_law_382 : DC cL_law 382 (.iload 6) 2 384 := ⟨by decide +kernel, rfl⟩
theorem dL_law_384 : DC cL_law 384 (.if_icmp .eq 5) 3 387 := ⟨by decide +kernel, rfl⟩
theorem dL_law_387 : DC cL_law 387 (.iconst 0) 1 388 := ⟨by decide +kernel, rfl⟩
theorem dL_law_388 : DC cL_law 388 (.ireturn) 1 389 := ⟨by decide +kernel, rfl⟩
theorem dL_law_389 : DC cL_law 389 (.iload 6) 2 391 := ⟨by decide +kernel, rfl⟩
theorem dL_law_391 : DC cL_law 391 (.ifCond .ne 15) 3 394 := ⟨by decide +kernel, rfl⟩
theorem dL_law_394 : DC cL_law 394 (.aload_n 3) 1 395 := ⟨by decide +kernel, rfl⟩
theorem dL_law_395 : DC cL_law 395 (.iconst 0) 1 396 := ⟨by decide +kernel, rfl⟩
theorem dL_law_396 : DC cL_law 396 (.laload) 1 397 := ⟨by decide +kernel, rfl⟩
theorem dL_law_397 : DC cL_law 397 (.iload 7) 2 399 := ⟨by decide +kernel, rfl⟩
theorem dL_law_399 : DC cL_law 399 (.i2l) 1 400 := ⟨by decide +kernel, rfl⟩
theorem dL_law_400 : DC cL_law 400 (.lcmp) 1 401 := ⟨by decide +kernel, rfl⟩
theorem dL_law_401 : DC cL_law 401 (.ifCond .eq 5) 3 404 := ⟨by decide +kernel, rfl⟩
theorem dL_law_404 : DC cL_law 404 (.iconst 0) 1 405 := ⟨by decide +kernel, rfl⟩
theorem dL_law_405 : DC cL_law 405 (.ireturn) 1 406 := ⟨by decide +kernel, rfl⟩
theorem dL_law_406 : DC cL_law 406 (.goto 1064) 3 409 := ⟨by decide +kernel, rfl⟩
theorem dL_law_409 : DC cL_law 409 (.aload_n 1) 1 410 := ⟨by decide +kernel, rfl⟩
theorem dL_law_410 : DC cL_law 410 (.aload_n 0) 1 411 := ⟨by decide +kernel, rfl⟩
theorem dL_law_411 : DC cL_law 411 (.iload 5) 2 413 := ⟨by decide +kernel, rfl⟩
theorem dL_law_413 : DC cL_law 413 (.iconst 1) 1 414 := ⟨by decide +kernel, rfl⟩
theorem dL_law_414 : DC cL_law 414 (.iadd) 1 415 := ⟨by decide +kernel, rfl⟩
theorem dL_law_415 : DC cL_law 415 (.iaload) 1 416 := ⟨by decide +kernel, rfl⟩
theorem dL_law_416 : DC cL_law 416 (.aload_n 3) 1 417 := ⟨by decide +kernel, rfl⟩
theorem dL_law_417 : DC cL_law 417 (.invokestatic 113) 3 420 := ⟨by decide +kernel, rfl⟩
theorem dL_law_420 : DC cL_law 420 (.istore 6) 2 422 := ⟨by decide +kernel, rfl⟩
theorem dL_law_422 : DC cL_law 422 (.aload_n 2) 1 423 := ⟨by decide +kernel, rfl⟩
theorem dL_law_423 : DC cL_law 423 (.aload_n 0) 1 424 := ⟨by decide +kernel, rfl⟩
theorem dL_law_424 : DC cL_law 424 (.iload 5) 2 426 := ⟨by decide +kernel, rfl⟩
theorem dL_law_426 : DC cL_law 426 (.iconst 1) 1 427 := ⟨by decide +kernel, rfl⟩
theorem dL_law_427 : DC cL_law 427 (.iadd) 1 428 := ⟨by decide +kernel, rfl⟩
theorem dL_law_428 : DC cL_law 428 (.iaload) 1 429 := ⟨by decide +kernel, rfl⟩
theorem dL_law_429 : DC cL_law 429 (.invokevirtual 115) 3 432 := ⟨by decide +kernel, rfl⟩
theorem dL_law_432 : DC cL_law 432 (.istore 7) 2 434 := ⟨by decide +kernel, rfl⟩
theorem dL_law_434 : DC cL_law 434 (.aload_n 2) 1 435 := ⟨by decide +kernel, rfl⟩
theorem dL_law_435 : DC cL_law 435 (.invokevirtual 95) 3 438 := ⟨by decide +kernel, rfl⟩
theorem dL_law_438 : DC cL_law 438 (.iload 6) 2 440 := ⟨by decide +kernel, rfl⟩
theorem dL_law_440 : DC cL_law 440 (.if_icmp .eq 5) 3 443 := ⟨by decide +kernel, rfl⟩
theorem dL_law_443 : DC cL_law 443 (.iconst 0) 1 444 := ⟨by decide +kernel, rfl⟩
theorem dL_law_444 : DC cL_law 444 (.ireturn) 1 445 := ⟨by decide +kernel, rfl⟩
theorem dL_law_445 : DC cL_law 445 (.iload 6) 2 447 := ⟨by decide +kernel, rfl⟩
theorem dL_law_447 : DC cL_law 447 (.ifCond .ne 22) 3 450 := ⟨by decide +kernel, rfl⟩
theorem dL_law_450 : DC cL_law 450 (.aload_n 3) 1 451 := ⟨by decide +kernel, rfl⟩
theorem dL_law_451 : DC cL_law 451 (.iconst 0) 1 452 := ⟨by decide +kernel, rfl⟩
theorem dL_law_452 : DC cL_law 452 (.laload) 1 453 := ⟨by decide +kernel, rfl⟩
theorem dL_law_453 : DC cL_law 453 (.iload 7) 2 455 := ⟨by decide +kernel, rfl⟩
theorem dL_law_455 : DC cL_law 455 (.ifCond .eq 7) 3 458 := ⟨by decide +kernel, rfl⟩
theorem dL_law_458 : DC cL_law 458 (.lconst 1) 1 459 := ⟨by decide +kernel, rfl⟩
theorem dL_law_459 : DC cL_law 459 (.goto 4) 3 462 := ⟨by decide +kernel, rfl⟩
theorem dL_law_462 : DC cL_law 462 (.lconst 0) 1 463 := ⟨by decide +kernel, rfl⟩
theorem dL_law_463 : DC cL_law 463 (.lcmp) 1 464 := ⟨by decide +kernel, rfl⟩
theorem dL_law_464 : DC cL_law 464 (.ifCond .eq 5) 3 467 := ⟨by decide +kernel, rfl⟩
theorem dL_law_467 : DC cL_law 467 (.iconst 0) 1 468 := ⟨by decide +kernel, rfl⟩
theorem dL_law_468 : DC cL_law 468 (.ireturn) 1 469 := ⟨by decide +kernel, rfl⟩
theorem dL_law_469 : DC cL_law 469 (.goto 1001) 3 472 := ⟨by decide +kernel, rfl⟩
theorem dL_law_472 : DC cL_law 472 (.aload_n 1) 1 473 := ⟨by decide +kernel, rfl⟩
theorem dL_law_473 : DC cL_law 473 (.aload_n 0) 1 474 := ⟨by decide +kernel, rfl⟩
theorem dL_law_474 : DC cL_law 474 (.iload 5) 2 476 := ⟨by decide +kernel, rfl⟩
theorem dL_law_476 : DC cL_law 476 (.iconst 1) 1 477 := ⟨by decide +kernel, rfl⟩
theorem dL_law_477 : DC cL_law 477 (.iadd) 1 478 := ⟨by decide +kernel, rfl⟩
theorem dL_law_478 : DC cL_law 478 (.iaload) 1 479 := ⟨by decide +kernel, rfl⟩
theorem dL_law_479 : DC cL_law 479 (.aload_n 0) 1 480 := ⟨by decide +kernel, rfl⟩
theorem dL_law_480 : DC cL_law 480 (.iload 5) 2 482 := ⟨by decide +kernel, rfl⟩
theorem dL_law_482 : DC cL_law 482 (.iconst 2) 1 483 := ⟨by decide +kernel, rfl⟩
theorem dL_law_483 : DC cL_law 483 (.iadd) 1 484 := ⟨by decide +kernel, rfl⟩
theorem dL_law_484 : DC cL_law 484 (.iaload) 1 485 := ⟨by decide +kernel, rfl⟩
theorem dL_law_485 : DC cL_law 485 (.aload_n 3) 1 486 := ⟨by decide +kernel, rfl⟩
theorem dL_law_486 : DC cL_law 486 (.invokestatic 116) 3 489 := ⟨by decide +kernel, rfl⟩
theorem dL_law_489 : DC cL_law 489 (.istore 6) 2 491 := ⟨by decide +kernel, rfl⟩
theorem dL_law_491 : DC cL_law 491 (.aload_n 2) 1 492 := ⟨by decide +kernel, rfl⟩
theorem dL_law_492 : DC cL_law 492 (.aload_n 0) 1 493 := ⟨by decide +kernel, rfl⟩
theorem dL_law_493 : DC cL_law 493 (.iload 5) 2 495 := ⟨by decide +kernel, rfl⟩
theorem dL_law_495 : DC cL_law 495 (.iconst 1) 1 496 := ⟨by decide +kernel, rfl⟩
theorem dL_law_496 : DC cL_law 496 (.iadd) 1 497 := ⟨by decide +kernel, rfl⟩
theorem dL_law_497 : DC cL_law 497 (.iaload) 1 498 := ⟨by decide +kernel, rfl⟩
theorem dL_law_498 : DC cL_law 498 (.aload_n 0) 1 499 := ⟨by decide +kernel, rfl⟩
theorem dL_law_499 : DC cL_law 499 (.iload 5) 2 501 := ⟨by decide +kernel, rfl⟩
theorem dL_law_501 : DC cL_law 501 (.iconst 2) 1 502 := ⟨by decide +kernel, rfl⟩
theorem dL_law_502 : DC cL_law 502 (.iadd) 1 503 := ⟨by decide +kernel, rfl⟩
theorem dL_law_503 : DC cL_law 503 (.iaload) 1 504 := ⟨by decide +kernel, rfl⟩
theorem dL_law_504 : DC cL_law 504 (.invokevirtual 118) 3 507 := ⟨by decide +kernel, rfl⟩
theorem dL_law_507 : DC cL_law 507 (.istore 7) 2 509 := ⟨by decide +kernel, rfl⟩
theorem dL_law_509 : DC cL_law 509 (.aload_n 2) 1 510 := ⟨by decide +kernel, rfl⟩
theorem dL_law_510 : DC cL_law 510 (.invokevirtual 95) 3 513 := ⟨by decide +kernel, rfl⟩
theorem dL_law_513 : DC cL_law 513 (.iload 6) 2 515 := ⟨by decide +kernel, rfl⟩
theorem dL_law_515 : DC cL_law 515 (.if_icmp .eq 5) 3 518 := ⟨by decide +kernel, rfl⟩
theorem dL_law_518 : DC cL_law 518 (.iconst 0) 1 519 := ⟨by decide +kernel, rfl⟩
theorem dL_law_519 : DC cL_law 519 (.ireturn) 1 520 := ⟨by decide +kernel, rfl⟩
theorem dL_law_520 : DC cL_law 520 (.iload 6) 2 522 := ⟨by decide +kernel, rfl⟩
theorem dL_law_522 : DC cL_law 522 (.ifCond .ne 15) 3 525 := ⟨by decide +kernel, rfl⟩
theorem dL_law_525 : DC cL_law 525 (.aload_n 3) 1 526 := ⟨by decide +kernel, rfl⟩
theorem dL_law_526 : DC cL_law 526 (.iconst 0) 1 527 := ⟨by decide +kernel, rfl⟩
theorem dL_law_527 : DC cL_law 527 (.laload) 1 528 := ⟨by decide +kernel, rfl⟩
theorem dL_law_528 : DC cL_law 528 (.iload 7) 2 530 := ⟨by decide +kernel, rfl⟩
theorem dL_law_530 : DC cL_law 530 (.i2l) 1 531 := ⟨by decide +kernel, rfl⟩
theorem dL_law_531 : DC cL_law 531 (.lcmp) 1 532 := ⟨by decide +kernel, rfl⟩
theorem dL_law_532 : DC cL_law 532 (.ifCond .eq 5) 3 535 := ⟨by decide +kernel, rfl⟩
theorem dL_law_535 : DC cL_law 535 (.iconst 0) 1 536 := ⟨by decide +kernel, rfl⟩
theorem dL_law_536 : DC cL_law 536 (.ireturn) 1 537 := ⟨by decide +kernel, rfl⟩
theorem dL_law_537 : DC cL_law 537 (.goto 933) 3 540 := ⟨by decide +kernel, rfl⟩
theorem dL_law_540 : DC cL_law 540 (.aload_n 1) 1 541 := ⟨by decide +kernel, rfl⟩
theorem dL_law_541 : DC cL_law 541 (.aload_n 0) 1 542 := ⟨by decide +kernel, rfl⟩
theorem dL_law_542 : DC cL_law 542 (.iload 5) 2 544 := ⟨by decide +kernel, rfl⟩
theorem dL_law_544 : DC cL_law 544 (.iconst 1) 1 545 := ⟨by decide +kernel, rfl⟩
theorem dL_law_545 : DC cL_law 545 (.iadd) 1 546 := ⟨by decide +kernel, rfl⟩
theorem dL_law_546 : DC cL_law 546 (.iaload) 1 547 := ⟨by decide +kernel, rfl⟩
theorem dL_law_547 : DC cL_law 547 (.aload_n 0) 1 548 := ⟨by decide +kernel, rfl⟩
theorem dL_law_548 : DC cL_law 548 (.iload 5) 2 550 := ⟨by decide +kernel, rfl⟩
theorem dL_law_550 : DC cL_law 550 (.iconst 2) 1 551 := ⟨by decide +kernel, rfl⟩
theorem dL_law_551 : DC cL_law 551 (.iadd) 1 552 := ⟨by decide +kernel, rfl⟩
theorem dL_law_552 : DC cL_law 552 (.iaload) 1 553 := ⟨by decide +kernel, rfl⟩
theorem dL_law_553 : DC cL_law 553 (.aload_n 3) 1 554 := ⟨by decide +kernel, rfl⟩
theorem dL_law_554 : DC cL_law 554 (.invokestatic 119) 3 557 := ⟨by decide +kernel, rfl⟩
theorem dL_law_557 : DC cL_law 557 (.istore 6) 2 559 := ⟨by decide +kernel, rfl⟩
theorem dL_law_559 : DC cL_law 559 (.aload_n 2) 1 560 := ⟨by decide +kernel, rfl⟩
theorem dL_law_560 : DC cL_law 560 (.aload_n 0) 1 561 := ⟨by decide +kernel, rfl⟩
theorem dL_law_561 : DC cL_law 561 (.iload 5) 2 563 := ⟨by decide +kernel, rfl⟩
theorem dL_law_563 : DC cL_law 563 (.iconst 1) 1 564 := ⟨by decide +kernel, rfl⟩
theorem dL_law_564 : DC cL_law 564 (.iadd) 1 565 := ⟨by decide +kernel, rfl⟩
theorem dL_law_565 : DC cL_law 565 (.iaload) 1 566 := ⟨by decide +kernel, rfl⟩
theorem dL_law_566 : DC cL_law 566 (.aload_n 0) 1 567 := ⟨by decide +kernel, rfl⟩
theorem dL_law_567 : DC cL_law 567 (.iload 5) 2 569 := ⟨by decide +kernel, rfl⟩
theorem dL_law_569 : DC cL_law 569 (.iconst 2) 1 570 := ⟨by decide +kernel, rfl⟩
theorem dL_law_570 : DC cL_law 570 (.iadd) 1 571 := ⟨by decide +kernel, rfl⟩
theorem dL_law_571 : DC cL_law 571 (.iaload) 1 572 := ⟨by decide +kernel, rfl⟩
theorem dL_law_572 : DC cL_law 572 (.invokevirtual 121) 3 575 := ⟨by decide +kernel, rfl⟩
theorem dL_law_575 : DC cL_law 575 (.istore 7) 2 577 := ⟨by decide +kernel, rfl⟩
theorem dL_law_577 : DC cL_law 577 (.aload_n 2) 1 578 := ⟨by decide +kernel, rfl⟩
theorem dL_law_578 : DC cL_law 578 (.invokevirtual 95) 3 581 := ⟨by decide +kernel, rfl⟩
theorem dL_law_581 : DC cL_law 581 (.iload 6) 2 583 := ⟨by decide +kernel, rfl⟩
theorem dL_law_583 : DC cL_law 583 (.if_icmp .eq 5) 3 586 := ⟨by decide +kernel, rfl⟩
theorem dL_law_586 : DC cL_law 586 (.iconst 0) 1 587 := ⟨by decide +kernel, rfl⟩
theorem dL_law_587 : DC cL_law 587 (.ireturn) 1 588 := ⟨by decide +kernel, rfl⟩
theorem dL_law_588 : DC cL_law 588 (.iload 6) 2 590 := ⟨by decide +kernel, rfl⟩
theorem dL_law_590 : DC cL_law 590 (.ifCond .ne 15) 3 593 := ⟨by decide +kernel, rfl⟩
theorem dL_law_593 : DC cL_law 593 (.aload_n 3) 1 594 := ⟨by decide +kernel, rfl⟩
theorem dL_law_594 : DC cL_law 594 (.iconst 0) 1 595 := ⟨by decide +kernel, rfl⟩
theorem dL_law_595 : DC cL_law 595 (.laload) 1 596 := ⟨by decide +kernel, rfl⟩
theorem dL_law_596 : DC cL_law 596 (.iload 7) 2 598 := ⟨by decide +kernel, rfl⟩
theorem dL_law_598 : DC cL_law 598 (.i2l) 1 599 := ⟨by decide +kernel, rfl⟩
theorem dL_law_599 : DC cL_law 599 (.lcmp) 1 600 := ⟨by decide +kernel, rfl⟩
theorem dL_law_600 : DC cL_law 600 (.ifCond .eq 5) 3 603 := ⟨by decide +kernel, rfl⟩
theorem dL_law_603 : DC cL_law 603 (.iconst 0) 1 604 := ⟨by decide +kernel, rfl⟩
theorem dL_law_604 : DC cL_law 604 (.ireturn) 1 605 := ⟨by decide +kernel, rfl⟩
theorem dL_law_605 : DC cL_law 605 (.goto 865) 3 608 := ⟨by decide +kernel, rfl⟩
theorem dL_law_608 : DC cL_law 608 (.aload_n 1) 1 609 := ⟨by decide +kernel, rfl⟩
theorem dL_law_609 : DC cL_law 609 (.invokevirtual 122) 3 612 := ⟨by decide +kernel, rfl⟩
theorem dL_law_612 : DC cL_law 612 (.aload_n 2) 1 613 := ⟨by decide +kernel, rfl⟩
theorem dL_law_613 : DC cL_law 613 (.invokevirtual 125) 3 616 := ⟨by decide +kernel, rfl⟩
theorem dL_law_616 : DC cL_law 616 (.if_icmp .eq 854) 3 619 := ⟨by decide +kernel, rfl⟩
theorem dL_law_619 : DC cL_law 619 (.iconst 0) 1 620 := ⟨by decide +kernel, rfl⟩
theorem dL_law_620 : DC cL_law 620 (.ireturn) 1 621 := ⟨by decide +kernel, rfl⟩
theorem dL_law_621 : DC cL_law 621 (.aload_n 1) 1 622 := ⟨by decide +kernel, rfl⟩
theorem dL_law_622 : DC cL_law 622 (.aload_n 0) 1 623 := ⟨by decide +kernel, rfl⟩
theorem dL_law_623 : DC cL_law 623 (.iload 5) 2 625 := ⟨by decide +kernel, rfl⟩
theorem dL_law_625 : DC cL_law 625 (.iconst 1) 1 626 := ⟨by decide +kernel, rfl⟩
theorem dL_law_626 : DC cL_law 626 (.iadd) 1 627 := ⟨by decide +kernel, rfl⟩
theorem dL_law_627 : DC cL_law 627 (.iaload) 1 628 := ⟨by decide +kernel, rfl⟩
theorem dL_law_628 : DC cL_law 628 (.aload_n 0) 1 629 := ⟨by decide +kernel, rfl⟩
theorem dL_law_629 : DC cL_law 629 (.iload 5) 2 631 := ⟨by decide +kernel, rfl⟩
theorem dL_law_631 : DC cL_law 631 (.iconst 2) 1 632 := ⟨by decide +kernel, rfl⟩
theorem dL_law_632 : DC cL_law 632 (.iadd) 1 633 := ⟨by decide +kernel, rfl⟩
theorem dL_law_633 : DC cL_law 633 (.iaload) 1 634 := ⟨by decide +kernel, rfl⟩
theorem dL_law_634 : DC cL_law 634 (.aload_n 3) 1 635 := ⟨by decide +kernel, rfl⟩
theorem dL_law_635 : DC cL_law 635 (.invokestatic 126) 3 638 := ⟨by decide +kernel, rfl⟩
theorem dL_law_638 : DC cL_law 638 (.istore 6) 2 640 := ⟨by decide +kernel, rfl⟩
theorem dL_law_640 : DC cL_law 640 (.aload_n 2) 1 641 := ⟨by decide +kernel, rfl⟩
theorem dL_law_641 : DC cL_law 641 (.aload_n 0) 1 642 := ⟨by decide +kernel, rfl⟩
theorem dL_law_642 : DC cL_law 642 (.iload 5) 2 644 := ⟨by decide +kernel, rfl⟩
theorem dL_law_644 : DC cL_law 644 (.iconst 1) 1 645 := ⟨by decide +kernel, rfl⟩
theorem dL_law_645 : DC cL_law 645 (.iadd) 1 646 := ⟨by decide +kernel, rfl⟩
theorem dL_law_646 : DC cL_law 646 (.iaload) 1 647 := ⟨by decide +kernel, rfl⟩
theorem dL_law_647 : DC cL_law 647 (.aload_n 0) 1 648 := ⟨by decide +kernel, rfl⟩
theorem dL_law_648 : DC cL_law 648 (.iload 5) 2 650 := ⟨by decide +kernel, rfl⟩
theorem dL_law_650 : DC cL_law 650 (.iconst 2) 1 651 := ⟨by decide +kernel, rfl⟩
theorem dL_law_651 : DC cL_law 651 (.iadd) 1 652 := ⟨by decide +kernel, rfl⟩
theorem dL_law_652 : DC cL_law 652 (.iaload) 1 653 := ⟨by decide +kernel, rfl⟩
theorem dL_law_653 : DC cL_law 653 (.invokevirtual 128) 3 656 := ⟨by decide +kernel, rfl⟩
theorem dL_law_656 : DC cL_law 656 (.istore 7) 2 658 := ⟨by decide +kernel, rfl⟩
theorem dL_law_658 : DC cL_law 658 (.aload_n 2) 1 659 := ⟨by decide +kernel, rfl⟩
theorem dL_law_659 : DC cL_law 659 (.invokevirtual 95) 3 662 := ⟨by decide +kernel, rfl⟩
theorem dL_law_662 : DC cL_law 662 (.iload 6) 2 664 := ⟨by decide +kernel, rfl⟩
theorem dL_law_664 : DC cL_law 664 (.if_icmp .eq 5) 3 667 := ⟨by decide +kernel, rfl⟩
theorem dL_law_667 : DC cL_law 667 (.iconst 0) 1 668 := ⟨by decide +kernel, rfl⟩
theorem dL_law_668 : DC cL_law 668 (.ireturn) 1 669 := ⟨by decide +kernel, rfl⟩
theorem dL_law_669 : DC cL_law 669 (.iload 6) 2 671 := ⟨by decide +kernel, rfl⟩
theorem dL_law_671 : DC cL_law 671 (.ifCond .ne 15) 3 674 := ⟨by decide +kernel, rfl⟩
theorem dL_law_674 : DC cL_law 674 (.aload_n 3) 1 675 := ⟨by decide +kernel, rfl⟩
theorem dL_law_675 : DC cL_law 675 (.iconst 0) 1 676 := ⟨by decide +kernel, rfl⟩
theorem dL_law_676 : DC cL_law 676 (.laload) 1 677 := ⟨by decide +kernel, rfl⟩
theorem dL_law_677 : DC cL_law 677 (.iload 7) 2 679 := ⟨by decide +kernel, rfl⟩
theorem dL_law_679 : DC cL_law 679 (.i2l) 1 680 := ⟨by decide +kernel, rfl⟩
theorem dL_law_680 : DC cL_law 680 (.lcmp) 1 681 := ⟨by decide +kernel, rfl⟩
theorem dL_law_681 : DC cL_law 681 (.ifCond .eq 5) 3 684 := ⟨by decide +kernel, rfl⟩
theorem dL_law_684 : DC cL_law 684 (.iconst 0) 1 685 := ⟨by decide +kernel, rfl⟩
theorem dL_law_685 : DC cL_law 685 (.ireturn) 1 686 := ⟨by decide +kernel, rfl⟩
theorem dL_law_686 : DC cL_law 686 (.goto 784) 3 689 := ⟨by decide +kernel, rfl⟩
theorem dL_law_689 : DC cL_law 689 (.aload_n 1) 1 690 := ⟨by decide +kernel, rfl⟩
theorem dL_law_690 : DC cL_law 690 (.aload_n 0) 1 691 := ⟨by decide +kernel, rfl⟩
theorem dL_law_691 : DC cL_law 691 (.iload 5) 2 693 := ⟨by decide +kernel, rfl⟩
theorem dL_law_693 : DC cL_law 693 (.iconst 1) 1 694 := ⟨by decide +kernel, rfl⟩
theorem dL_law_694 : DC cL_law 694 (.iadd) 1 695 := ⟨by decide +kernel, rfl⟩
theorem dL_law_695 : DC cL_law 695 (.iaload) 1 696 := ⟨by decide +kernel, rfl⟩
theorem dL_law_696 : DC cL_law 696 (.aload_n 0) 1 697 := ⟨by decide +kernel, rfl⟩
theorem dL_law_697 : DC cL_law 697 (.iload 5) 2 699 := ⟨by decide +kernel, rfl⟩
theorem dL_law_699 : DC cL_law 699 (.iconst 2) 1 700 := ⟨by decide +kernel, rfl⟩
theorem dL_law_700 : DC cL_law 700 (.iadd) 1 701 := ⟨by decide +kernel, rfl⟩
theorem dL_law_701 : DC cL_law 701 (.iaload) 1 702 := ⟨by decide +kernel, rfl⟩
theorem dL_law_702 : DC cL_law 702 (.aload_n 3) 1 703 := ⟨by decide +kernel, rfl⟩
theorem dL_law_703 : DC cL_law 703 (.invokestatic 129) 3 706 := ⟨by decide +kernel, rfl⟩
theorem dL_law_706 : DC cL_law 706 (.istore 6) 2 708 := ⟨by decide +kernel, rfl⟩
theorem dL_law_708 : DC cL_law 708 (.aload_n 2) 1 709 := ⟨by decide +kernel, rfl⟩
theorem dL_law_709 : DC cL_law 709 (.aload_n 0) 1 710 := ⟨by decide +kernel, rfl⟩
theorem dL_law_710 : DC cL_law 710 (.iload 5) 2 712 := ⟨by decide +kernel, rfl⟩
theorem dL_law_712 : DC cL_law 712 (.iconst 1) 1 713 := ⟨by decide +kernel, rfl⟩
theorem dL_law_713 : DC cL_law 713 (.iadd) 1 714 := ⟨by decide +kernel, rfl⟩
theorem dL_law_714 : DC cL_law 714 (.iaload) 1 715 := ⟨by decide +kernel, rfl⟩
theorem dL_law_715 : DC cL_law 715 (.aload_n 0) 1 716 := ⟨by decide +kernel, rfl⟩
theorem dL_law_716 : DC cL_law 716 (.iload 5) 2 718 := ⟨by decide +kernel, rfl⟩
theorem dL_law_718 : DC cL_law 718 (.iconst 2) 1 719 := ⟨by decide +kernel, rfl⟩
theorem dL_law_719 : DC cL_law 719 (.iadd) 1 720 := ⟨by decide +kernel, rfl⟩
theorem dL_law_720 : DC cL_law 720 (.iaload) 1 721 := ⟨by decide +kernel, rfl⟩
theorem dL_law_721 : DC cL_law 721 (.invokevirtual 131) 3 724 := ⟨by decide +kernel, rfl⟩
theorem dL_law_724 : DC cL_law 724 (.istore 7) 2 726 := ⟨by decide +kernel, rfl⟩
theorem dL_law_726 : DC cL_law 726 (.aload_n 2) 1 727 := ⟨by decide +kernel, rfl⟩
theorem dL_law_727 : DC cL_law 727 (.invokevirtual 95) 3 730 := ⟨by decide +kernel, rfl⟩
theorem dL_law_730 : DC cL_law 730 (.iload 6) 2 732 := ⟨by decide +kernel, rfl⟩
theorem dL_law_732 : DC cL_law 732 (.if_icmp .eq 5) 3 735 := ⟨by decide +kernel, rfl⟩
theorem dL_law_735 : DC cL_law 735 (.iconst 0) 1 736 := ⟨by decide +kernel, rfl⟩
theorem dL_law_736 : DC cL_law 736 (.ireturn) 1 737 := ⟨by decide +kernel, rfl⟩
theorem dL_law_737 : DC cL_law 737 (.iload 6) 2 739 := ⟨by decide +kernel, rfl⟩
theorem dL_law_739 : DC cL_law 739 (.ifCond .ne 15) 3 742 := ⟨by decide +kernel, rfl⟩
theorem dL_law_742 : DC cL_law 742 (.aload_n 3) 1 743 := ⟨by decide +kernel, rfl⟩
theorem dL_law_743 : DC cL_law 743 (.iconst 0) 1 744 := ⟨by decide +kernel, rfl⟩
theorem dL_law_744 : DC cL_law 744 (.laload) 1 745 := ⟨by decide +kernel, rfl⟩
theorem dL_law_745 : DC cL_law 745 (.iload 7) 2 747 := ⟨by decide +kernel, rfl⟩
theorem dL_law_747 : DC cL_law 747 (.i2l) 1 748 := ⟨by decide +kernel, rfl⟩
theorem dL_law_748 : DC cL_law 748 (.lcmp) 1 749 := ⟨by decide +kernel, rfl⟩
theorem dL_law_749 : DC cL_law 749 (.ifCond .eq 5) 3 752 := ⟨by decide +kernel, rfl⟩
theorem dL_law_752 : DC cL_law 752 (.iconst 0) 1 753 := ⟨by decide +kernel, rfl⟩
theorem dL_law_753 : DC cL_law 753 (.ireturn) 1 754 := ⟨by decide +kernel, rfl⟩
theorem dL_law_754 : DC cL_law 754 (.goto 716) 3 757 := ⟨by decide +kernel, rfl⟩
theorem dL_law_757 : DC cL_law 757 (.aload_n 1) 1 758 := ⟨by decide +kernel, rfl⟩
theorem dL_law_758 : DC cL_law 758 (.aload_n 0) 1 759 := ⟨by decide +kernel, rfl⟩
theorem dL_law_759 : DC cL_law 759 (.iload 5) 2 761 := ⟨by decide +kernel, rfl⟩
theorem dL_law_761 : DC cL_law 761 (.iconst 1) 1 762 := ⟨by decide +kernel, rfl⟩
theorem dL_law_762 : DC cL_law 762 (.iadd) 1 763 := ⟨by decide +kernel, rfl⟩
theorem dL_law_763 : DC cL_law 763 (.iaload) 1 764 := ⟨by decide +kernel, rfl⟩
theorem dL_law_764 : DC cL_law 764 (.aload_n 0) 1 765 := ⟨by decide +kernel, rfl⟩
theorem dL_law_765 : DC cL_law 765 (.iload 5) 2 767 := ⟨by decide +kernel, rfl⟩
theorem dL_law_767 : DC cL_law 767 (.iconst 2) 1 768 := ⟨by decide +kernel, rfl⟩
theorem dL_law_768 : DC cL_law 768 (.iadd) 1 769 := ⟨by decide +kernel, rfl⟩
theorem dL_law_769 : DC cL_law 769 (.iaload) 1 770 := ⟨by decide +kernel, rfl⟩
theorem dL_law_770 : DC cL_law 770 (.aload_n 3) 1 771 := ⟨by decide +kernel, rfl⟩
theorem dL_law_771 : DC cL_law 771 (.invokestatic 132) 3 774 := ⟨by decide +kernel, rfl⟩
theorem dL_law_774 : DC cL_law 774 (.istore 6) 2 776 := ⟨by decide +kernel, rfl⟩
theorem dL_law_776 : DC cL_law 776 (.aload_n 2) 1 777 := ⟨by decide +kernel, rfl⟩
theorem dL_law_777 : DC cL_law 777 (.aload_n 0) 1 778 := ⟨by decide +kernel, rfl⟩
theorem dL_law_778 : DC cL_law 778 (.iload 5) 2 780 := ⟨by decide +kernel, rfl⟩
theorem dL_law_780 : DC cL_law 780 (.iconst 1) 1 781 := ⟨by decide +kernel, rfl⟩
theorem dL_law_781 : DC cL_law 781 (.iadd) 1 782 := ⟨by decide +kernel, rfl⟩
theorem dL_law_782 : DC cL_law 782 (.iaload) 1 783 := ⟨by decide +kernel, rfl⟩
theorem dL_law_783 : DC cL_law 783 (.aload_n 0) 1 784 := ⟨by decide +kernel, rfl⟩
theorem dL_law_784 : DC cL_law 784 (.iload 5) 2 786 := ⟨by decide +kernel, rfl⟩
theorem dL_law_786 : DC cL_law 786 (.iconst 2) 1 787 := ⟨by decide +kernel, rfl⟩
theorem dL_law_787 : DC cL_law 787 (.iadd) 1 788 := ⟨by decide +kernel, rfl⟩
theorem dL_law_788 : DC cL_law 788 (.iaload) 1 789 := ⟨by decide +kernel, rfl⟩
theorem dL_law_789 : DC cL_law 789 (.invokevirtual 134) 3 792 := ⟨by decide +kernel, rfl⟩
theorem dL_law_792 : DC cL_law 792 (.istore 7) 2 794 := ⟨by decide +kernel, rfl⟩
theorem dL_law_794 : DC cL_law 794 (.aload_n 2) 1 795 := ⟨by decide +kernel, rfl⟩
theorem dL_law_795 : DC cL_law 795 (.invokevirtual 95) 3 798 := ⟨by decide +kernel, rfl⟩
theorem dL_law_798 : DC cL_law 798 (.iload 6) 2 800 := ⟨by decide +kernel, rfl⟩
theorem dL_law_800 : DC cL_law 800 (.if_icmp .eq 5) 3 803 := ⟨by decide +kernel, rfl⟩
theorem dL_law_803 : DC cL_law 803 (.iconst 0) 1 804 := ⟨by decide +kernel, rfl⟩
theorem dL_law_804 : DC cL_law 804 (.ireturn) 1 805 := ⟨by decide +kernel, rfl⟩
theorem dL_law_805 : DC cL_law 805 (.iload 6) 2 807 := ⟨by decide +kernel, rfl⟩
theorem dL_law_807 : DC cL_law 807 (.ifCond .ne 15) 3 810 := ⟨by decide +kernel, rfl⟩
theorem dL_law_810 : DC cL_law 810 (.aload_n 3) 1 811 := ⟨by decide +kernel, rfl⟩
theorem dL_law_811 : DC cL_law 811 (.iconst 0) 1 812 := ⟨by decide +kernel, rfl⟩
theorem dL_law_812 : DC cL_law 812 (.laload) 1 813 := ⟨by decide +kernel, rfl⟩
theorem dL_law_813 : DC cL_law 813 (.iload 7) 2 815 := ⟨by decide +kernel, rfl⟩
theorem dL_law_815 : DC cL_law 815 (.i2l) 1 816 := ⟨by decide +kernel, rfl⟩
theorem dL_law_816 : DC cL_law 816 (.lcmp) 1 817 := ⟨by decide +kernel, rfl⟩
theorem dL_law_817 : DC cL_law 817 (.ifCond .eq 5) 3 820 := ⟨by decide +kernel, rfl⟩
theorem dL_law_820 : DC cL_law 820 (.iconst 0) 1 821 := ⟨by decide +kernel, rfl⟩
theorem dL_law_821 : DC cL_law 821 (.ireturn) 1 822 := ⟨by decide +kernel, rfl⟩
theorem dL_law_822 : DC cL_law 822 (.goto 648) 3 825 := ⟨by decide +kernel, rfl⟩
theorem dL_law_825 : DC cL_law 825 (.aload_n 1) 1 826 := ⟨by decide +kernel, rfl⟩
theorem dL_law_826 : DC cL_law 826 (.aload_n 0) 1 827 := ⟨by decide +kernel, rfl⟩
theorem dL_law_827 : DC cL_law 827 (.iload 5) 2 829 := ⟨by decide +kernel, rfl⟩
theorem dL_law_829 : DC cL_law 829 (.iconst 1) 1 830 := ⟨by decide +kernel, rfl⟩
theorem dL_law_830 : DC cL_law 830 (.iadd) 1 831 := ⟨by decide +kernel, rfl⟩
theorem dL_law_831 : DC cL_law 831 (.iaload) 1 832 := ⟨by decide +kernel, rfl⟩
theorem dL_law_832 : DC cL_law 832 (.aload_n 3) 1 833 := ⟨by decide +kernel, rfl⟩
theorem dL_law_833 : DC cL_law 833 (.invokestatic 135) 3 836 := ⟨by decide +kernel, rfl⟩
theorem dL_law_836 : DC cL_law 836 (.istore 6) 2 838 := ⟨by decide +kernel, rfl⟩
theorem dL_law_838 : DC cL_law 838 (.aload_n 2) 1 839 := ⟨by decide +kernel, rfl⟩
theorem dL_law_839 : DC cL_law 839 (.aload_n 0) 1 840 := ⟨by decide +kernel, rfl⟩
theorem dL_law_840 : DC cL_law 840 (.iload 5) 2 842 := ⟨by decide +kernel, rfl⟩
theorem dL_law_842 : DC cL_law 842 (.iconst 1) 1 843 := ⟨by decide +kernel, rfl⟩
theorem dL_law_843 : DC cL_law 843 (.iadd) 1 844 := ⟨by decide +kernel, rfl⟩
theorem dL_law_844 : DC cL_law 844 (.iaload) 1 845 := ⟨by decide +kernel, rfl⟩
theorem dL_law_845 : DC cL_law 845 (.invokevirtual 137) 3 848 := ⟨by decide +kernel, rfl⟩
theorem dL_law_848 : DC cL_law 848 (.istore 7) 2 850 := ⟨by decide +kernel, rfl⟩
theorem dL_law_850 : DC cL_law 850 (.aload_n 2) 1 851 := ⟨by decide +kernel, rfl⟩
theorem dL_law_851 : DC cL_law 851 (.invokevirtual 95) 3 854 := ⟨by decide +kernel, rfl⟩
theorem dL_law_854 : DC cL_law 854 (.iload 6) 2 856 := ⟨by decide +kernel, rfl⟩
theorem dL_law_856 : DC cL_law 856 (.if_icmp .eq 5) 3 859 := ⟨by decide +kernel, rfl⟩
theorem dL_law_859 : DC cL_law 859 (.iconst 0) 1 860 := ⟨by decide +kernel, rfl⟩
theorem dL_law_860 : DC cL_law 860 (.ireturn) 1 861 := ⟨by decide +kernel, rfl⟩
theorem dL_law_861 : DC cL_law 861 (.iload 6) 2 863 := ⟨by decide +kernel, rfl⟩
theorem dL_law_863 : DC cL_law 863 (.ifCond .ne 15) 3 866 := ⟨by decide +kernel, rfl⟩
theorem dL_law_866 : DC cL_law 866 (.aload_n 3) 1 867 := ⟨by decide +kernel, rfl⟩
theorem dL_law_867 : DC cL_law 867 (.iconst 0) 1 868 := ⟨by decide +kernel, rfl⟩
theorem dL_law_868 : DC cL_law 868 (.laload) 1 869 := ⟨by decide +kernel, rfl⟩
theorem dL_law_869 : DC cL_law 869 (.iload 7) 2 871 := ⟨by decide +kernel, rfl⟩
theorem dL_law_871 : DC cL_law 871 (.i2l) 1 872 := ⟨by decide +kernel, rfl⟩
theorem dL_law_872 : DC cL_law 872 (.lcmp) 1 873 := ⟨by decide +kernel, rfl⟩
theorem dL_law_873 : DC cL_law 873 (.ifCond .eq 5) 3 876 := ⟨by decide +kernel, rfl⟩
theorem dL_law_876 : DC cL_law 876 (.iconst 0) 1 877 := ⟨by decide +kernel, rfl⟩
theorem dL_law_877 : DC cL_law 877 (.ireturn) 1 878 := ⟨by decide +kernel, rfl⟩
theorem dL_law_878 : DC cL_law 878 (.goto 592) 3 881 := ⟨by decide +kernel, rfl⟩
theorem dL_law_881 : DC cL_law 881 (.aload_n 1) 1 882 := ⟨by decide +kernel, rfl⟩
theorem dL_law_882 : DC cL_law 882 (.aload_n 0) 1 883 := ⟨by decide +kernel, rfl⟩
theorem dL_law_883 : DC cL_law 883 (.iload 5) 2 885 := ⟨by decide +kernel, rfl⟩
theorem dL_law_885 : DC cL_law 885 (.iconst 1) 1 886 := ⟨by decide +kernel, rfl⟩
theorem dL_law_886 : DC cL_law 886 (.iadd) 1 887 := ⟨by decide +kernel, rfl⟩
theorem dL_law_887 : DC cL_law 887 (.iaload) 1 888 := ⟨by decide +kernel, rfl⟩
theorem dL_law_888 : DC cL_law 888 (.aload_n 0) 1 889 := ⟨by decide +kernel, rfl⟩
theorem dL_law_889 : DC cL_law 889 (.iload 5) 2 891 := ⟨by decide +kernel, rfl⟩
theorem dL_law_891 : DC cL_law 891 (.iconst 2) 1 892 := ⟨by decide +kernel, rfl⟩
theorem dL_law_892 : DC cL_law 892 (.iadd) 1 893 := ⟨by decide +kernel, rfl⟩
theorem dL_law_893 : DC cL_law 893 (.iaload) 1 894 := ⟨by decide +kernel, rfl⟩
theorem dL_law_894 : DC cL_law 894 (.aload_n 0) 1 895 := ⟨by decide +kernel, rfl⟩
theorem dL_law_895 : DC cL_law 895 (.iload 5) 2 897 := ⟨by decide +kernel, rfl⟩
theorem dL_law_897 : DC cL_law 897 (.iconst 3) 1 898 := ⟨by decide +kernel, rfl⟩
theorem dL_law_898 : DC cL_law 898 (.iadd) 1 899 := ⟨by decide +kernel, rfl⟩
theorem dL_law_899 : DC cL_law 899 (.iaload) 1 900 := ⟨by decide +kernel, rfl⟩
theorem dL_law_900 : DC cL_law 900 (.aload_n 3) 1 901 := ⟨by decide +kernel, rfl⟩
theorem dL_law_901 : DC cL_law 901 (.invokestatic 138) 3 904 := ⟨by decide +kernel, rfl⟩
theorem dL_law_904 : DC cL_law 904 (.istore 6) 2 906 := ⟨by decide +kernel, rfl⟩
theorem dL_law_906 : DC cL_law 906 (.aload_n 2) 1 907 := ⟨by decide +kernel, rfl⟩
theorem dL_law_907 : DC cL_law 907 (.aload_n 0) 1 908 := ⟨by decide +kernel, rfl⟩
theorem dL_law_908 : DC cL_law 908 (.iload 5) 2 910 := ⟨by decide +kernel, rfl⟩
theorem dL_law_910 : DC cL_law 910 (.iconst 1) 1 911 := ⟨by decide +kernel, rfl⟩
theorem dL_law_911 : DC cL_law 911 (.iadd) 1 912 := ⟨by decide +kernel, rfl⟩
theorem dL_law_912 : DC cL_law 912 (.iaload) 1 913 := ⟨by decide +kernel, rfl⟩
theorem dL_law_913 : DC cL_law 913 (.aload_n 0) 1 914 := ⟨by decide +kernel, rfl⟩
theorem dL_law_914 : DC cL_law 914 (.iload 5) 2 916 := ⟨by decide +kernel, rfl⟩
theorem dL_law_916 : DC cL_law 916 (.iconst 2) 1 917 := ⟨by decide +kernel, rfl⟩
theorem dL_law_917 : DC cL_law 917 (.iadd) 1 918 := ⟨by decide +kernel, rfl⟩
theorem dL_law_918 : DC cL_law 918 (.iaload) 1 919 := ⟨by decide +kernel, rfl⟩
theorem dL_law_919 : DC cL_law 919 (.aload_n 0) 1 920 := ⟨by decide +kernel, rfl⟩
theorem dL_law_920 : DC cL_law 920 (.iload 5) 2 922 := ⟨by decide +kernel, rfl⟩
theorem dL_law_922 : DC cL_law 922 (.iconst 3) 1 923 := ⟨by decide +kernel, rfl⟩
theorem dL_law_923 : DC cL_law 923 (.iadd) 1 924 := ⟨by decide +kernel, rfl⟩
theorem dL_law_924 : DC cL_law 924 (.iaload) 1 925 := ⟨by decide +kernel, rfl⟩
theorem dL_law_925 : DC cL_law 925 (.invokevirtual 141) 3 928 := ⟨by decide +kernel, rfl⟩
theorem dL_law_928 : DC cL_law 928 (.istore 7) 2 930 := ⟨by decide +kernel, rfl⟩
theorem dL_law_930 : DC cL_law 930 (.aload_n 2) 1 931 := ⟨by decide +kernel, rfl⟩
theorem dL_law_931 : DC cL_law 931 (.invokevirtual 95) 3 934 := ⟨by decide +kernel, rfl⟩
theorem dL_law_934 : DC cL_law 934 (.iload 6) 2 936 := ⟨by decide +kernel, rfl⟩
theorem dL_law_936 : DC cL_law 936 (.if_icmp .eq 5) 3 939 := ⟨by decide +kernel, rfl⟩
theorem dL_law_939 : DC cL_law 939 (.iconst 0) 1 940 := ⟨by decide +kernel, rfl⟩
theorem dL_law_940 : DC cL_law 940 (.ireturn) 1 941 := ⟨by decide +kernel, rfl⟩
theorem dL_law_941 : DC cL_law 941 (.iload 6) 2 943 := ⟨by decide +kernel, rfl⟩
theorem dL_law_943 : DC cL_law 943 (.ifCond .ne 15) 3 946 := ⟨by decide +kernel, rfl⟩
theorem dL_law_946 : DC cL_law 946 (.aload_n 3) 1 947 := ⟨by decide +kernel, rfl⟩
theorem dL_law_947 : DC cL_law 947 (.iconst 0) 1 948 := ⟨by decide +kernel, rfl⟩
theorem dL_law_948 : DC cL_law 948 (.laload) 1 949 := ⟨by decide +kernel, rfl⟩
theorem dL_law_949 : DC cL_law 949 (.iload 7) 2 951 := ⟨by decide +kernel, rfl⟩
theorem dL_law_951 : DC cL_law 951 (.i2l) 1 952 := ⟨by decide +kernel, rfl⟩
theorem dL_law_952 : DC cL_law 952 (.lcmp) 1 953 := ⟨by decide +kernel, rfl⟩
theorem dL_law_953 : DC cL_law 953 (.ifCond .eq 5) 3 956 := ⟨by decide +kernel, rfl⟩
theorem dL_law_956 : DC cL_law 956 (.iconst 0) 1 957 := ⟨by decide +kernel, rfl⟩
theorem dL_law_957 : DC cL_law 957 (.ireturn) 1 958 := ⟨by decide +kernel, rfl⟩
theorem dL_law_958 : DC cL_law 958 (.goto 512) 3 961 := ⟨by decide +kernel, rfl⟩
theorem dL_law_961 : DC cL_law 961 (.aload_n 1) 1 962 := ⟨by decide +kernel, rfl⟩
theorem dL_law_962 : DC cL_law 962 (.aload_n 0) 1 963 := ⟨by decide +kernel, rfl⟩
theorem dL_law_963 : DC cL_law 963 (.iload 5) 2 965 := ⟨by decide +kernel, rfl⟩
theorem dL_law_965 : DC cL_law 965 (.iconst 1) 1 966 := ⟨by decide +kernel, rfl⟩
theorem dL_law_966 : DC cL_law 966 (.iadd) 1 967 := ⟨by decide +kernel, rfl⟩
theorem dL_law_967 : DC cL_law 967 (.iaload) 1 968 := ⟨by decide +kernel, rfl⟩
theorem dL_law_968 : DC cL_law 968 (.aload_n 0) 1 969 := ⟨by decide +kernel, rfl⟩
theorem dL_law_969 : DC cL_law 969 (.iload 5) 2 971 := ⟨by decide +kernel, rfl⟩
theorem dL_law_971 : DC cL_law 971 (.iconst 2) 1 972 := ⟨by decide +kernel, rfl⟩
theorem dL_law_972 : DC cL_law 972 (.iadd) 1 973 := ⟨by decide +kernel, rfl⟩
theorem dL_law_973 : DC cL_law 973 (.iaload) 1 974 := ⟨by decide +kernel, rfl⟩
theorem dL_law_974 : DC cL_law 974 (.aload 4) 2 976 := ⟨by decide +kernel, rfl⟩
theorem dL_law_976 : DC cL_law 976 (.invokestatic 142) 3 979 := ⟨by decide +kernel, rfl⟩
theorem dL_law_979 : DC cL_law 979 (.istore 6) 2 981 := ⟨by decide +kernel, rfl⟩
theorem dL_law_981 : DC cL_law 981 (.aload_n 2) 1 982 := ⟨by decide +kernel, rfl⟩
theorem dL_law_982 : DC cL_law 982 (.aload_n 0) 1 983 := ⟨by decide +kernel, rfl⟩
theorem dL_law_983 : DC cL_law 983 (.iload 5) 2 985 := ⟨by decide +kernel, rfl⟩
theorem dL_law_985 : DC cL_law 985 (.iconst 1) 1 986 := ⟨by decide +kernel, rfl⟩
theorem dL_law_986 : DC cL_law 986 (.iadd) 1 987 := ⟨by decide +kernel, rfl⟩
theorem dL_law_987 : DC cL_law 987 (.iaload) 1 988 := ⟨by decide +kernel, rfl⟩
theorem dL_law_988 : DC cL_law 988 (.aload_n 0) 1 989 := ⟨by decide +kernel, rfl⟩
theorem dL_law_989 : DC cL_law 989 (.iload 5) 2 991 := ⟨by decide +kernel, rfl⟩
theorem dL_law_991 : DC cL_law 991 (.iconst 2) 1 992 := ⟨by decide +kernel, rfl⟩
theorem dL_law_992 : DC cL_law 992 (.iadd) 1 993 := ⟨by decide +kernel, rfl⟩
theorem dL_law_993 : DC cL_law 993 (.iaload) 1 994 := ⟨by decide +kernel, rfl⟩
theorem dL_law_994 : DC cL_law 994 (.invokevirtual 145) 3 997 := ⟨by decide +kernel, rfl⟩
theorem dL_law_997 : DC cL_law 997 (.fstore 7) 2 999 := ⟨by decide +kernel, rfl⟩
theorem dL_law_999 : DC cL_law 999 (.aload_n 2) 1 1000 := ⟨by decide +kernel, rfl⟩
theorem dL_law_1000 : DC cL_law 1000 (.invokevirtual 95) 3 1003 := ⟨by decide +kernel, rfl⟩
theorem dL_law_1003 : DC cL_law 1003 (.iload 6) 2 1005 := ⟨by decide +kernel, rfl⟩
theorem dL_law_1005 : DC cL_law 1005 (.if_icmp .eq 5) 3 1008 := ⟨by decide +kernel, rfl⟩
theorem dL_law_1008 : DC cL_law 1008 (.iconst 0) 1 1009 := ⟨by decide +kernel, rfl⟩
theorem dL_law_1009 : DC cL_law 1009 (.ireturn) 1 1010 := ⟨by decide +kernel, rfl⟩
theorem dL_law_1010 : DC cL_law 1010 (.iload 6) 2 1012 := ⟨by decide +kernel, rfl⟩
theorem dL_law_1012 : DC cL_law 1012 (.ifCond .ne 36) 3 1015 := ⟨by decide +kernel, rfl⟩
theorem dL_law_1015 : DC cL_law 1015 (.aload 4) 2 1017 := ⟨by decide +kernel, rfl⟩
theorem dL_law_1017 : DC cL_law 1017 (.iconst 0) 1 1018 := ⟨by decide +kernel, rfl⟩
theorem dL_law_1018 : DC cL_law 1018 (.daload) 1 1019 := ⟨by decide +kernel, rfl⟩
theorem dL_law_1019 : DC cL_law 1019 (.fload 7) 2 1021 := ⟨by decide +kernel, rfl⟩
theorem dL_law_1021 : DC cL_law 1021 (.f2d) 1 1022 := ⟨by decide +kernel, rfl⟩
theorem dL_law_1022 : DC cL_law 1022 (.dcmp .l) 1 1023 := ⟨by decide +kernel, rfl⟩
theorem dL_law_1023 : DC cL_law 1023 (.ifCond .eq 25) 3 1026 := ⟨by decide +kernel, rfl⟩
theorem dL_law_1026 : DC cL_law 1026 (.aload 4) 2 1028 := ⟨by decide +kernel, rfl⟩
theorem dL_law_1028 : DC cL_law 1028 (.iconst 0) 1 1029 := ⟨by decide +kernel, rfl⟩
theorem dL_law_1029 : DC cL_law 1029 (.daload) 1 1030 := ⟨by decide +kernel, rfl⟩
theorem dL_law_1030 : DC cL_law 1030 (.aload 4) 2 1032 := ⟨by decide +kernel, rfl⟩
theorem dL_law_1032 : DC cL_law 1032 (.iconst 0) 1 1033 := ⟨by decide +kernel, rfl⟩
theorem dL_law_1033 : DC cL_law 1033 (.daload) 1 1034 := ⟨by decide +kernel, rfl⟩
theorem dL_law_1034 : DC cL_law 1034 (.dcmp .l) 1 1035 := ⟨by decide +kernel, rfl⟩
theorem dL_law_1035 : DC cL_law 1035 (.ifCond .eq 11) 3 1038 := ⟨by decide +kernel, rfl⟩
theorem dL_law_1038 : DC cL_law 1038 (.fload 7) 2 1040 := ⟨by decide +kernel, rfl⟩
theorem dL_law_1040 : DC cL_law 1040 (.fload 7) 2 1042 := ⟨by decide +kernel, rfl⟩
theorem dL_law_1042 : DC cL_law 1042 (.fcmp .l) 1 1043 := ⟨by decide +kernel, rfl⟩
theorem dL_law_1043 : DC cL_law 1043 (.ifCond .ne 5) 3 1046 := ⟨by decide +kernel, rfl⟩
theorem dL_law_1046 : DC cL_law 1046 (.iconst 0) 1 1047 := ⟨by decide +kernel, rfl⟩
theorem dL_law_1047 : DC cL_law 1047 (.ireturn) 1 1048 := ⟨by decide +kernel, rfl⟩
theorem dL_law_1048 : DC cL_law 1048 (.goto 422) 3 1051 := ⟨by decide +kernel, rfl⟩
theorem dL_law_1051 : DC cL_law 1051 (.aload_n 1) 1 1052 := ⟨by decide +kernel, rfl⟩
theorem dL_law_1052 : DC cL_law 1052 (.aload_n 0) 1 1053 := ⟨by decide +kernel, rfl⟩
theorem dL_law_1053 : DC cL_law 1053 (.iload 5) 2 1055 := ⟨by decide +kernel, rfl⟩
theorem dL_law_1055 : DC cL_law 1055 (.iconst 1) 1 1056 := ⟨by decide +kernel, rfl⟩
theorem dL_law_1056 : DC cL_law 1056 (.iadd) 1 1057 := ⟨by decide +kernel, rfl⟩
theorem dL_law_1057 : DC cL_law 1057 (.iaload) 1 1058 := ⟨by decide +kernel, rfl⟩
theorem dL_law_1058 : DC cL_law 1058 (.aload_n 0) 1 1059 := ⟨by decide +kernel, rfl⟩
theorem dL_law_1059 : DC cL_law 1059 (.iload 5) 2 1061 := ⟨by decide +kernel, rfl⟩
theorem dL_law_1061 : DC cL_law 1061 (.iconst 2) 1 1062 := ⟨by decide +kernel, rfl⟩
theorem dL_law_1062 : DC cL_law 1062 (.iadd) 1 1063 := ⟨by decide +kernel, rfl⟩
theorem dL_law_1063 : DC cL_law 1063 (.iaload) 1 1064 := ⟨by decide +kernel, rfl⟩
theorem dL_law_1064 : DC cL_law 1064 (.aload_n 3) 1 1065 := ⟨by decide +kernel, rfl⟩
theorem dL_law_1065 : DC cL_law 1065 (.invokestatic 146) 3 1068 := ⟨by decide +kernel, rfl⟩
theorem dL_law_1068 : DC cL_law 1068 (.istore 6) 2 1070 := ⟨by decide +kernel, rfl⟩
theorem dL_law_1070 : DC cL_law 1070 (.aload_n 2) 1 1071 := ⟨by decide +kernel, rfl⟩
theorem dL_law_1071 : DC cL_law 1071 (.aload_n 0) 1 1072 := ⟨by decide +kernel, rfl⟩
theorem dL_law_1072 : DC cL_law 1072 (.iload 5) 2 1074 := ⟨by decide +kernel, rfl⟩
theorem dL_law_1074 : DC cL_law 1074 (.iconst 1) 1 1075 := ⟨by decide +kernel, rfl⟩
theorem dL_law_1075 : DC cL_law 1075 (.iadd) 1 1076 := ⟨by decide +kernel, rfl⟩
theorem dL_law_1076 : DC cL_law 1076 (.iaload) 1 1077 := ⟨by decide +kernel, rfl⟩
theorem dL_law_1077 : DC cL_law 1077 (.aload_n 0) 1 1078 := ⟨by decide +kernel, rfl⟩
theorem dL_law_1078 : DC cL_law 1078 (.iload 5) 2 1080 := ⟨by decide +kernel, rfl⟩
theorem dL_law_1080 : DC cL_law 1080 (.iconst 2) 1 1081 := ⟨by decide +kernel, rfl⟩
theorem dL_law_1081 : DC cL_law 1081 (.iadd) 1 1082 := ⟨by decide +kernel, rfl⟩
theorem dL_law_1082 : DC cL_law 1082 (.iaload) 1 1083 := ⟨by decide +kernel, rfl⟩
theorem dL_law_1083 : DC cL_law 1083 (.invokevirtual 148) 3 1086 := ⟨by decide +kernel, rfl⟩
theorem dL_law_1086 : DC cL_law 1086 (.istore 7) 2 1088 := ⟨by decide +kernel, rfl⟩
theorem dL_law_1088 : DC cL_law 1088 (.aload_n 2) 1 1089 := ⟨by decide +kernel, rfl⟩
theorem dL_law_1089 : DC cL_law 1089 (.invokevirtual 95) 3 1092 := ⟨by decide +kernel, rfl⟩
theorem dL_law_1092 : DC cL_law 1092 (.iload 6) 2 1094 := ⟨by decide +kernel, rfl⟩
theorem dL_law_1094 : DC cL_law 1094 (.if_icmp .eq 5) 3 1097 := ⟨by decide +kernel, rfl⟩
theorem dL_law_1097 : DC cL_law 1097 (.iconst 0) 1 1098 := ⟨by decide +kernel, rfl⟩
theorem dL_law_1098 : DC cL_law 1098 (.ireturn) 1 1099 := ⟨by decide +kernel, rfl⟩
theorem dL_law_1099 : DC cL_law 1099 (.iload 6) 2 1101 := ⟨by decide +kernel, rfl⟩
theorem dL_law_1101 : DC cL_law 1101 (.ifCond .ne 15) 3 1104 := ⟨by decide +kernel, rfl⟩
theorem dL_law_1104 : DC cL_law 1104 (.aload_n 3) 1 1105 := ⟨by decide +kernel, rfl⟩
theorem dL_law_1105 : DC cL_law 1105 (.iconst 0) 1 1106 := ⟨by decide +kernel, rfl⟩
theorem dL_law_1106 : DC cL_law 1106 (.laload) 1 1107 := ⟨by decide +kernel, rfl⟩
theorem dL_law_1107 : DC cL_law 1107 (.iload 7) 2 1109 := ⟨by decide +kernel, rfl⟩
theorem dL_law_1109 : DC cL_law 1109 (.i2l) 1 1110 := ⟨by decide +kernel, rfl⟩
theorem dL_law_1110 : DC cL_law 1110 (.lcmp) 1 1111 := ⟨by decide +kernel, rfl⟩
theorem dL_law_1111 : DC cL_law 1111 (.ifCond .eq 5) 3 1114 := ⟨by decide +kernel, rfl⟩
theorem dL_law_1114 : DC cL_law 1114 (.iconst 0) 1 1115 := ⟨by decide +kernel, rfl⟩
theorem dL_law_1115 : DC cL_law 1115 (.ireturn) 1 1116 := ⟨by decide +kernel, rfl⟩
theorem dL_law_1116 : DC cL_law 1116 (.goto 354) 3 1119 := ⟨by decide +kernel, rfl⟩
theorem dL_law_1119 : DC cL_law 1119 (.aload_n 1) 1 1120 := ⟨by decide +kernel, rfl⟩
theorem dL_law_1120 : DC cL_law 1120 (.invokevirtual 149) 3 1123 := ⟨by decide +kernel, rfl⟩
theorem dL_law_1123 : DC cL_law 1123 (.aload_n 2) 1 1124 := ⟨by decide +kernel, rfl⟩
theorem dL_law_1124 : DC cL_law 1124 (.invokevirtual 152) 3 1127 := ⟨by decide +kernel, rfl⟩
theorem dL_law_1127 : DC cL_law 1127 (.if_icmp .eq 343) 3 1130 := ⟨by decide +kernel, rfl⟩
theorem dL_law_1130 : DC cL_law 1130 (.iconst 0) 1 1131 := ⟨by decide +kernel, rfl⟩
theorem dL_law_1131 : DC cL_law 1131 (.ireturn) 1 1132 := ⟨by decide +kernel, rfl⟩
theorem dL_law_1132 : DC cL_law 1132 (.aload_n 1) 1 1133 := ⟨by decide +kernel, rfl⟩
theorem dL_law_1133 : DC cL_law 1133 (.aload_n 0) 1 1134 := ⟨by decide +kernel, rfl⟩
theorem dL_law_1134 : DC cL_law 1134 (.iload 5) 2 1136 := ⟨by decide +kernel, rfl⟩
theorem dL_law_1136 : DC cL_law 1136 (.iconst 1) 1 1137 := ⟨by decide +kernel, rfl⟩
theorem dL_law_1137 : DC cL_law 1137 (.iadd) 1 1138 := ⟨by decide +kernel, rfl⟩
theorem dL_law_1138 : DC cL_law 1138 (.iaload) 1 1139 := ⟨by decide +kernel, rfl⟩
theorem dL_law_1139 : DC cL_law 1139 (.aload_n 3) 1 1140 := ⟨by decide +kernel, rfl⟩
theorem dL_law_1140 : DC cL_law 1140 (.invokestatic 153) 3 1143 := ⟨by decide +kernel, rfl⟩
theorem dL_law_1143 : DC cL_law 1143 (.istore 6) 2 1145 := ⟨by decide +kernel, rfl⟩
theorem dL_law_1145 : DC cL_law 1145 (.aload_n 2) 1 1146 := ⟨by decide +kernel, rfl⟩
theorem dL_law_1146 : DC cL_law 1146 (.aload_n 0) 1 1147 := ⟨by decide +kernel, rfl⟩
theorem dL_law_1147 : DC cL_law 1147 (.iload 5) 2 1149 := ⟨by decide +kernel, rfl⟩
theorem dL_law_1149 : DC cL_law 1149 (.iconst 1) 1 1150 := ⟨by decide +kernel, rfl⟩
theorem dL_law_1150 : DC cL_law 1150 (.iadd) 1 1151 := ⟨by decide +kernel, rfl⟩
theorem dL_law_1151 : DC cL_law 1151 (.iaload) 1 1152 := ⟨by decide +kernel, rfl⟩
theorem dL_law_1152 : DC cL_law 1152 (.invokevirtual 155) 3 1155 := ⟨by decide +kernel, rfl⟩
theorem dL_law_1155 : DC cL_law 1155 (.istore 7) 2 1157 := ⟨by decide +kernel, rfl⟩
theorem dL_law_1157 : DC cL_law 1157 (.aload_n 2) 1 1158 := ⟨by decide +kernel, rfl⟩
theorem dL_law_1158 : DC cL_law 1158 (.invokevirtual 95) 3 1161 := ⟨by decide +kernel, rfl⟩
theorem dL_law_1161 : DC cL_law 1161 (.iload 6) 2 1163 := ⟨by decide +kernel, rfl⟩
theorem dL_law_1163 : DC cL_law 1163 (.if_icmp .eq 5) 3 1166 := ⟨by decide +kernel, rfl⟩
theorem dL_law_1166 : DC cL_law 1166 (.iconst 0) 1 1167 := ⟨by decide +kernel, rfl⟩
theorem dL_law_1167 : DC cL_law 1167 (.ireturn) 1 1168 := ⟨by decide +kernel, rfl⟩
theorem dL_law_1168 : DC cL_law 1168 (.iload 6) 2 1170 := ⟨by decide +kernel, rfl⟩
theorem dL_law_1170 : DC cL_law 1170 (.ifCond .ne 15) 3 1173 := ⟨by decide +kernel, rfl⟩
theorem dL_law_1173 : DC cL_law 1173 (.aload_n 3) 1 1174 := ⟨by decide +kernel, rfl⟩
theorem dL_law_1174 : DC cL_law 1174 (.iconst 0) 1 1175 := ⟨by decide +kernel, rfl⟩
theorem dL_law_1175 : DC cL_law 1175 (.laload) 1 1176 := ⟨by decide +kernel, rfl⟩
theorem dL_law_1176 : DC cL_law 1176 (.iload 7) 2 1178 := ⟨by decide +kernel, rfl⟩
theorem dL_law_1178 : DC cL_law 1178 (.i2l) 1 1179 := ⟨by decide +kernel, rfl⟩
theorem dL_law_1179 : DC cL_law 1179 (.lcmp) 1 1180 := ⟨by decide +kernel, rfl⟩
theorem dL_law_1180 : DC cL_law 1180 (.ifCond .eq 5) 3 1183 := ⟨by decide +kernel, rfl⟩
theorem dL_law_1183 : DC cL_law 1183 (.iconst 0) 1 1184 := ⟨by decide +kernel, rfl⟩
theorem dL_law_1184 : DC cL_law 1184 (.ireturn) 1 1185 := ⟨by decide +kernel, rfl⟩
theorem dL_law_1185 : DC cL_law 1185 (.goto 285) 3 1188 := ⟨by decide +kernel, rfl⟩
theorem dL_law_1188 : DC cL_law 1188 (.aload_n 1) 1 1189 := ⟨by decide +kernel, rfl⟩
theorem dL_law_1189 : DC cL_law 1189 (.invokevirtual 156) 3 1192 := ⟨by decide +kernel, rfl⟩
theorem dL_law_1192 : DC cL_law 1192 (.aload_n 2) 1 1193 := ⟨by decide +kernel, rfl⟩
theorem dL_law_1193 : DC cL_law 1193 (.invokevirtual 159) 3 1196 := ⟨by decide +kernel, rfl⟩
theorem dL_law_1196 : DC cL_law 1196 (.if_icmp .eq 274) 3 1199 := ⟨by decide +kernel, rfl⟩
theorem dL_law_1199 : DC cL_law 1199 (.iconst 0) 1 1200 := ⟨by decide +kernel, rfl⟩
theorem dL_law_1200 : DC cL_law 1200 (.ireturn) 1 1201 := ⟨by decide +kernel, rfl⟩
theorem dL_law_1201 : DC cL_law 1201 (.aload_n 1) 1 1202 := ⟨by decide +kernel, rfl⟩
theorem dL_law_1202 : DC cL_law 1202 (.aload_n 0) 1 1203 := ⟨by decide +kernel, rfl⟩
theorem dL_law_1203 : DC cL_law 1203 (.iload 5) 2 1205 := ⟨by decide +kernel, rfl⟩
theorem dL_law_1205 : DC cL_law 1205 (.iconst 1) 1 1206 := ⟨by decide +kernel, rfl⟩
theorem dL_law_1206 : DC cL_law 1206 (.iadd) 1 1207 := ⟨by decide +kernel, rfl⟩
theorem dL_law_1207 : DC cL_law 1207 (.iaload) 1 1208 := ⟨by decide +kernel, rfl⟩
theorem dL_law_1208 : DC cL_law 1208 (.aload_n 3) 1 1209 := ⟨by decide +kernel, rfl⟩
theorem dL_law_1209 : DC cL_law 1209 (.invokestatic 160) 3 1212 := ⟨by decide +kernel, rfl⟩
theorem dL_law_1212 : DC cL_law 1212 (.istore 6) 2 1214 := ⟨by decide +kernel, rfl⟩
theorem dL_law_1214 : DC cL_law 1214 (.aload_n 2) 1 1215 := ⟨by decide +kernel, rfl⟩
theorem dL_law_1215 : DC cL_law 1215 (.aload_n 0) 1 1216 := ⟨by decide +kernel, rfl⟩
theorem dL_law_1216 : DC cL_law 1216 (.iload 5) 2 1218 := ⟨by decide +kernel, rfl⟩
theorem dL_law_1218 : DC cL_law 1218 (.iconst 1) 1 1219 := ⟨by decide +kernel, rfl⟩
theorem dL_law_1219 : DC cL_law 1219 (.iadd) 1 1220 := ⟨by decide +kernel, rfl⟩
theorem dL_law_1220 : DC cL_law 1220 (.iaload) 1 1221 := ⟨by decide +kernel, rfl⟩
theorem dL_law_1221 : DC cL_law 1221 (.invokevirtual 162) 3 1224 := ⟨by decide +kernel, rfl⟩
theorem dL_law_1224 : DC cL_law 1224 (.istore 7) 2 1226 := ⟨by decide +kernel, rfl⟩
theorem dL_law_1226 : DC cL_law 1226 (.aload_n 2) 1 1227 := ⟨by decide +kernel, rfl⟩
theorem dL_law_1227 : DC cL_law 1227 (.invokevirtual 95) 3 1230 := ⟨by decide +kernel, rfl⟩
theorem dL_law_1230 : DC cL_law 1230 (.iload 6) 2 1232 := ⟨by decide +kernel, rfl⟩
theorem dL_law_1232 : DC cL_law 1232 (.if_icmp .eq 5) 3 1235 := ⟨by decide +kernel, rfl⟩
theorem dL_law_1235 : DC cL_law 1235 (.iconst 0) 1 1236 := ⟨by decide +kernel, rfl⟩
theorem dL_law_1236 : DC cL_law 1236 (.ireturn) 1 1237 := ⟨by decide +kernel, rfl⟩
theorem dL_law_1237 : DC cL_law 1237 (.iload 6) 2 1239 := ⟨by decide +kernel, rfl⟩
theorem dL_law_1239 : DC cL_law 1239 (.ifCond .ne 15) 3 1242 := ⟨by decide +kernel, rfl⟩
theorem dL_law_1242 : DC cL_law 1242 (.aload_n 3) 1 1243 := ⟨by decide +kernel, rfl⟩
theorem dL_law_1243 : DC cL_law 1243 (.iconst 0) 1 1244 := ⟨by decide +kernel, rfl⟩
theorem dL_law_1244 : DC cL_law 1244 (.laload) 1 1245 := ⟨by decide +kernel, rfl⟩
theorem dL_law_1245 : DC cL_law 1245 (.iload 7) 2 1247 := ⟨by decide +kernel, rfl⟩
theorem dL_law_1247 : DC cL_law 1247 (.i2l) 1 1248 := ⟨by decide +kernel, rfl⟩
theorem dL_law_1248 : DC cL_law 1248 (.lcmp) 1 1249 := ⟨by decide +kernel, rfl⟩
theorem dL_law_1249 : DC cL_law 1249 (.ifCond .eq 5) 3 1252 := ⟨by decide +kernel, rfl⟩
theorem dL_law_1252 : DC cL_law 1252 (.iconst 0) 1 1253 := ⟨by decide +kernel, rfl⟩
theorem dL_law_1253 : DC cL_law 1253 (.ireturn) 1 1254 := ⟨by decide +kernel, rfl⟩
theorem dL_law_1254 : DC cL_law 1254 (.goto 216) 3 1257 := ⟨by decide +kernel, rfl⟩
theorem dL_law_1257 : DC cL_law 1257 (.aload_n 1) 1 1258 := ⟨by decide +kernel, rfl⟩
theorem dL_law_1258 : DC cL_law 1258 (.aload_n 0) 1 1259 := ⟨by decide +kernel, rfl⟩
theorem dL_law_1259 : DC cL_law 1259 (.iload 5) 2 1261 := ⟨by decide +kernel, rfl⟩
theorem dL_law_1261 : DC cL_law 1261 (.iconst 1) 1 1262 := ⟨by decide +kernel, rfl⟩
theorem dL_law_1262 : DC cL_law 1262 (.iadd) 1 1263 := ⟨by decide +kernel, rfl⟩
theorem dL_law_1263 : DC cL_law 1263 (.iaload) 1 1264 := ⟨by decide +kernel, rfl⟩
theorem dL_law_1264 : DC cL_law 1264 (.aload_n 3) 1 1265 := ⟨by decide +kernel, rfl⟩
theorem dL_law_1265 : DC cL_law 1265 (.invokestatic 163) 3 1268 := ⟨by decide +kernel, rfl⟩
theorem dL_law_1268 : DC cL_law 1268 (.istore 6) 2 1270 := ⟨by decide +kernel, rfl⟩
theorem dL_law_1270 : DC cL_law 1270 (.aload_n 2) 1 1271 := ⟨by decide +kernel, rfl⟩
theorem dL_law_1271 : DC cL_law 1271 (.aload_n 0) 1 1272 := ⟨by decide +kernel, rfl⟩
theorem dL_law_1272 : DC cL_law 1272 (.iload 5) 2 1274 := ⟨by decide +kernel, rfl⟩
theorem dL_law_1274 : DC cL_law 1274 (.iconst 1) 1 1275 := ⟨by decide +kernel, rfl⟩
theorem dL_law_1275 : DC cL_law 1275 (.iadd) 1 1276 := ⟨by decide +kernel, rfl⟩
theorem dL_law_1276 : DC cL_law 1276 (.iaload) 1 1277 := ⟨by decide +kernel, rfl⟩
theorem dL_law_1277 : DC cL_law 1277 (.invokevirtual 165) 3 1280 := ⟨by decide +kernel, rfl⟩
theorem dL_law_1280 : DC cL_law 1280 (.istore 7) 2 1282 := ⟨by decide +kernel, rfl⟩
theorem dL_law_1282 : DC cL_law 1282 (.aload_n 2) 1 1283 := ⟨by decide +kernel, rfl⟩
theorem dL_law_1283 : DC cL_law 1283 (.invokevirtual 95) 3 1286 := ⟨by decide +kernel, rfl⟩
theorem dL_law_1286 : DC cL_law 1286 (.iload 6) 2 1288 := ⟨by decide +kernel, rfl⟩
theorem dL_law_1288 : DC cL_law 1288 (.if_icmp .eq 5) 3 1291 := ⟨by decide +kernel, rfl⟩
theorem dL_law_1291 : DC cL_law 1291 (.iconst 0) 1 1292 := ⟨by decide +kernel, rfl⟩
theorem dL_law_1292 : DC cL_law 1292 (.ireturn) 1 1293 := ⟨by decide +kernel, rfl⟩
theorem dL_law_1293 : DC cL_law 1293 (.iload 6) 2 1295 := ⟨by decide +kernel, rfl⟩
theorem dL_law_1295 : DC cL_law 1295 (.ifCond .ne 15) 3 1298 := ⟨by decide +kernel, rfl⟩
theorem dL_law_1298 : DC cL_law 1298 (.aload_n 3) 1 1299 := ⟨by decide +kernel, rfl⟩
theorem dL_law_1299 : DC cL_law 1299 (.iconst 0) 1 1300 := ⟨by decide +kernel, rfl⟩
theorem dL_law_1300 : DC cL_law 1300 (.laload) 1 1301 := ⟨by decide +kernel, rfl⟩
theorem dL_law_1301 : DC cL_law 1301 (.iload 7) 2 1303 := ⟨by decide +kernel, rfl⟩
theorem dL_law_1303 : DC cL_law 1303 (.i2l) 1 1304 := ⟨by decide +kernel, rfl⟩
theorem dL_law_1304 : DC cL_law 1304 (.lcmp) 1 1305 := ⟨by decide +kernel, rfl⟩
theorem dL_law_1305 : DC cL_law 1305 (.ifCond .eq 5) 3 1308 := ⟨by decide +kernel, rfl⟩
theorem dL_law_1308 : DC cL_law 1308 (.iconst 0) 1 1309 := ⟨by decide +kernel, rfl⟩
theorem dL_law_1309 : DC cL_law 1309 (.ireturn) 1 1310 := ⟨by decide +kernel, rfl⟩
theorem dL_law_1310 : DC cL_law 1310 (.goto 160) 3 1313 := ⟨by decide +kernel, rfl⟩
theorem dL_law_1313 : DC cL_law 1313 (.aload_n 1) 1 1314 := ⟨by decide +kernel, rfl⟩
theorem dL_law_1314 : DC cL_law 1314 (.aload_n 3) 1 1315 := ⟨by decide +kernel, rfl⟩
theorem dL_law_1315 : DC cL_law 1315 (.invokestatic 166) 3 1318 := ⟨by decide +kernel, rfl⟩
theorem dL_law_1318 : DC cL_law 1318 (.istore 6) 2 1320 := ⟨by decide +kernel, rfl⟩
theorem dL_law_1320 : DC cL_law 1320 (.aload_n 2) 1 1321 := ⟨by decide +kernel, rfl⟩
theorem dL_law_1321 : DC cL_law 1321 (.invokevirtual 168) 3 1324 := ⟨by decide +kernel, rfl⟩
theorem dL_law_1324 : DC cL_law 1324 (.istore 7) 2 1326 := ⟨by decide +kernel, rfl⟩
theorem dL_law_1326 : DC cL_law 1326 (.aload_n 2) 1 1327 := ⟨by decide +kernel, rfl⟩
theorem dL_law_1327 : DC cL_law 1327 (.invokevirtual 95) 3 1330 := ⟨by decide +kernel, rfl⟩
theorem dL_law_1330 : DC cL_law 1330 (.iload 6) 2 1332 := ⟨by decide +kernel, rfl⟩
theorem dL_law_1332 : DC cL_law 1332 (.if_icmp .eq 5) 3 1335 := ⟨by decide +kernel, rfl⟩
theorem dL_law_1335 : DC cL_law 1335 (.iconst 0) 1 1336 := ⟨by decide +kernel, rfl⟩
theorem dL_law_1336 : DC cL_law 1336 (.ireturn) 1 1337 := ⟨by decide +kernel, rfl⟩
theorem dL_law_1337 : DC cL_law 1337 (.iload 6) 2 1339 := ⟨by decide +kernel, rfl⟩
theorem dL_law_1339 : DC cL_law 1339 (.ifCond .ne 15) 3 1342 := ⟨by decide +kernel, rfl⟩
theorem dL_law_1342 : DC cL_law 1342 (.aload_n 3) 1 1343 := ⟨by decide +kernel, rfl⟩
theorem dL_law_1343 : DC cL_law 1343 (.iconst 0) 1 1344 := ⟨by decide +kernel, rfl⟩
theorem dL_law_1344 : DC cL_law 1344 (.laload) 1 1345 := ⟨by decide +kernel, rfl⟩
theorem dL_law_1345 : DC cL_law 1345 (.iload 7) 2 1347 := ⟨by decide +kernel, rfl⟩
theorem dL_law_1347 : DC cL_law 1347 (.i2l) 1 1348 := ⟨by decide +kernel, rfl⟩
theorem dL_law_1348 : DC cL_law 1348 (.lcmp) 1 1349 := ⟨by decide +kernel, rfl⟩
theorem dL_law_1349 : DC cL_law 1349 (.ifCond .eq 5) 3 1352 := ⟨by decide +kernel, rfl⟩
theorem dL_law_1352 : DC cL_law 1352 (.iconst 0) 1 1353 := ⟨by decide +kernel, rfl⟩
theorem dL_law_1353 : DC cL_law 1353 (.ireturn) 1 1354 := ⟨by decide +kernel, rfl⟩
theorem dL_law_1354 : DC cL_law 1354 (.goto 116) 3 1357 := ⟨by decide +kernel, rfl⟩
theorem dL_law_1357 : DC cL_law 1357 (.aload_n 1) 1 1358 := ⟨by decide +kernel, rfl⟩
theorem dL_law_1358 : DC cL_law 1358 (.invokevirtual 169) 3 1361 := ⟨by decide +kernel, rfl⟩
theorem dL_law_1361 : DC cL_law 1361 (.aload_n 2) 1 1362 := ⟨by decide +kernel, rfl⟩
theorem dL_law_1362 : DC cL_law 1362 (.invokevirtual 172) 3 1365 := ⟨by decide +kernel, rfl⟩
theorem dL_law_1365 : DC cL_law 1365 (.if_icmp .eq 105) 3 1368 := ⟨by decide +kernel, rfl⟩
theorem dL_law_1368 : DC cL_law 1368 (.iconst 0) 1 1369 := ⟨by decide +kernel, rfl⟩
theorem dL_law_1369 : DC cL_law 1369 (.ireturn) 1 1370 := ⟨by decide +kernel, rfl⟩
theorem dL_law_1370 : DC cL_law 1370 (.aload_n 1) 1 1371 := ⟨by decide +kernel, rfl⟩
theorem dL_law_1371 : DC cL_law 1371 (.aload_n 3) 1 1372 := ⟨by decide +kernel, rfl⟩
theorem dL_law_1372 : DC cL_law 1372 (.invokestatic 173) 3 1375 := ⟨by decide +kernel, rfl⟩
theorem dL_law_1375 : DC cL_law 1375 (.istore 6) 2 1377 := ⟨by decide +kernel, rfl⟩
theorem dL_law_1377 : DC cL_law 1377 (.aload_n 2) 1 1378 := ⟨by decide +kernel, rfl⟩
theorem dL_law_1378 : DC cL_law 1378 (.invokevirtual 175) 3 1381 := ⟨by decide +kernel, rfl⟩
theorem dL_law_1381 : DC cL_law 1381 (.istore 7) 2 1383 := ⟨by decide +kernel, rfl⟩
theorem dL_law_1383 : DC cL_law 1383 (.aload_n 2) 1 1384 := ⟨by decide +kernel, rfl⟩
theorem dL_law_1384 : DC cL_law 1384 (.invokevirtual 95) 3 1387 := ⟨by decide +kernel, rfl⟩
theorem dL_law_1387 : DC cL_law 1387 (.iload 6) 2 1389 := ⟨by decide +kernel, rfl⟩
theorem dL_law_1389 : DC cL_law 1389 (.if_icmp .eq 5) 3 1392 := ⟨by decide +kernel, rfl⟩
theorem dL_law_1392 : DC cL_law 1392 (.iconst 0) 1 1393 := ⟨by decide +kernel, rfl⟩
theorem dL_law_1393 : DC cL_law 1393 (.ireturn) 1 1394 := ⟨by decide +kernel, rfl⟩
theorem dL_law_1394 : DC cL_law 1394 (.iload 6) 2 1396 := ⟨by decide +kernel, rfl⟩
theorem dL_law_1396 : DC cL_law 1396 (.ifCond .ne 15) 3 1399 := ⟨by decide +kernel, rfl⟩
theorem dL_law_1399 : DC cL_law 1399 (.aload_n 3) 1 1400 := ⟨by decide +kernel, rfl⟩
theorem dL_law_1400 : DC cL_law 1400 (.iconst 0) 1 1401 := ⟨by decide +kernel, rfl⟩
theorem dL_law_1401 : DC cL_law 1401 (.laload) 1 1402 := ⟨by decide +kernel, rfl⟩
theorem dL_law_1402 : DC cL_law 1402 (.iload 7) 2 1404 := ⟨by decide +kernel, rfl⟩
theorem dL_law_1404 : DC cL_law 1404 (.i2l) 1 1405 := ⟨by decide +kernel, rfl⟩
theorem dL_law_1405 : DC cL_law 1405 (.lcmp) 1 1406 := ⟨by decide +kernel, rfl⟩
theorem dL_law_1406 : DC cL_law 1406 (.ifCond .eq 5) 3 1409 := ⟨by decide +kernel, rfl⟩
theorem dL_law_1409 : DC cL_law 1409 (.iconst 0) 1 1410 := ⟨by decide +kernel, rfl⟩
theorem dL_law_1410 : DC cL_law 1410 (.ireturn) 1 1411 := ⟨by decide +kernel, rfl⟩
theorem dL_law_1411 : DC cL_law 1411 (.goto 59) 3 1414 := ⟨by decide +kernel, rfl⟩
theorem dL_law_1414 : DC cL_law 1414 (.aload_n 1) 1 1415 := ⟨by decide +kernel, rfl⟩
theorem dL_law_1415 : DC cL_law 1415 (.aload_n 0) 1 1416 := ⟨by decide +kernel, rfl⟩
theorem dL_law_1416 : DC cL_law 1416 (.iload 5) 2 1418 := ⟨by decide +kernel, rfl⟩
theorem dL_law_1418 : DC cL_law 1418 (.iconst 1) 1 1419 := ⟨by decide +kernel, rfl⟩
theorem dL_law_1419 : DC cL_law 1419 (.iadd) 1 1420 := ⟨by decide +kernel, rfl⟩
theorem dL_law_1420 : DC cL_law 1420 (.iaload) 1 1421 := ⟨by decide +kernel, rfl⟩
theorem dL_law_1421 : DC cL_law 1421 (.aload_n 3) 1 1422 := ⟨by decide +kernel, rfl⟩
theorem dL_law_1422 : DC cL_law 1422 (.invokestatic 176) 3 1425 := ⟨by decide +kernel, rfl⟩
theorem dL_law_1425 : DC cL_law 1425 (.istore 6) 2 1427 := ⟨by decide +kernel, rfl⟩
theorem dL_law_1427 : DC cL_law 1427 (.aload_n 2) 1 1428 := ⟨by decide +kernel, rfl⟩
theorem dL_law_1428 : DC cL_law 1428 (.aload_n 0) 1 1429 := ⟨by decide +kernel, rfl⟩
theorem dL_law_1429 : DC cL_law 1429 (.iload 5) 2 1431 := ⟨by decide +kernel, rfl⟩
theorem dL_law_1431 : DC cL_law 1431 (.iconst 1) 1 1432 := ⟨by decide +kernel, rfl⟩
theorem dL_law_1432 : DC cL_law 1432 (.iadd) 1 1433 := ⟨by decide +kernel, rfl⟩
theorem dL_law_1433 : DC cL_law 1433 (.iaload) 1 1434 := ⟨by decide +kernel, rfl⟩
theorem dL_law_1434 : DC cL_law 1434 (.invokevirtual 178) 3 1437 := ⟨by decide +kernel, rfl⟩
theorem dL_law_1437 : DC cL_law 1437 (.istore 7) 2 1439 := ⟨by decide +kernel, rfl⟩
theorem dL_law_1439 : DC cL_law 1439 (.aload_n 2) 1 1440 := ⟨by decide +kernel, rfl⟩
theorem dL_law_1440 : DC cL_law 1440 (.invokevirtual 95) 3 1443 := ⟨by decide +kernel, rfl⟩
theorem dL_law_1443 : DC cL_law 1443 (.iload 6) 2 1445 := ⟨by decide +kernel, rfl⟩
theorem dL_law_1445 : DC cL_law 1445 (.if_icmp .eq 5) 3 1448 := ⟨by decide +kernel, rfl⟩
theorem dL_law_1448 : DC cL_law 1448 (.iconst 0) 1 1449 := ⟨by decide +kernel, rfl⟩
theorem dL_law_1449 : DC cL_law 1449 (.ireturn) 1 1450 := ⟨by decide +kernel, rfl⟩
theorem dL_law_1450 : DC cL_law 1450 (.iload 6) 2 1452 := ⟨by decide +kernel, rfl⟩
theorem dL_law_1452 : DC cL_law 1452 (.ifCond .ne 15) 3 1455 := ⟨by decide +kernel, rfl⟩
theorem dL_law_1455 : DC cL_law 1455 (.aload_n 3) 1 1456 := ⟨by decide +kernel, rfl⟩
theorem dL_law_1456 : DC cL_law 1456 (.iconst 0) 1 1457 := ⟨by decide +kernel, rfl⟩
theorem dL_law_1457 : DC cL_law 1457 (.laload) 1 1458 := ⟨by decide +kernel, rfl⟩
theorem dL_law_1458 : DC cL_law 1458 (.iload 7) 2 1460 := ⟨by decide +kernel, rfl⟩
theorem dL_law_1460 : DC cL_law 1460 (.i2l) 1 1461 := ⟨by decide +kernel, rfl⟩
theorem dL_law_1461 : DC cL_law 1461 (.lcmp) 1 1462 := ⟨by decide +kernel, rfl⟩
theorem dL_law_1462 : DC cL_law 1462 (.ifCond .eq 5) 3 1465 := ⟨by decide +kernel, rfl⟩
theorem dL_law_1465 : DC cL_law 1465 (.iconst 0) 1 1466 := ⟨by decide +kernel, rfl⟩
theorem dL_law_1466 : DC cL_law 1466 (.ireturn) 1 1467 := ⟨by decide +kernel, rfl⟩
theorem dL_law_1467 : DC cL_law 1467 (.goto 3) 3 1470 := ⟨by decide +kernel, rfl⟩
theorem dL_law_1470 : DC cL_law 1470 (.iinc 5 4) 3 1473 := ⟨by decide +kernel, rfl⟩
theorem dL_law_1473 : DC cL_law 1473 (.goto (-1445)) 3 1476 := ⟨by decide +kernel, rfl⟩
theorem dL_law_1476 : DC cL_law 1476 (.iconst 1) 1 1477 := ⟨by decide +kernel, rfl⟩
theorem dL_law_1477 : DC cL_law 1477 (.ireturn) 1 1478 := ⟨by decide +kernel, rfl⟩
end
section
/-! THE FRAME, A: a small machine over a layout that only grows, with whole numbers in its cells; its picture in the heap -/
abbrev GV : Type := va_G × (Nat → ClassId) × Nat × Nat × Nat × (Nat → Int32)
abbrev SS : Type := List (Nat × Nat) × (Nat → Nat → Option Nat) × Bool
abbrev II : Type := Nat → Nat → Int
abbrev XX : Type := (Nat → Nat → Int64) × (Nat → Nat → UInt64)
/-- a method: class, name, descriptor, code, locals, return type, handlers -/
abbrev MT : Type := String × String × String × ByteArray × Nat × Option FieldType × List (Nat × Nat × Nat × Nat)
abbrev mOwn (mt : MT) : String := mt.1
abbrev mNm (mt : MT) : String := mt.2.1
abbrev mDs (mt : MT) : String := mt.2.2.1
abbrev mCc (mt : MT) : ByteArray := mt.2.2.2.1
abbrev mNL (mt : MT) : Nat := mt.2.2.2.2.1
abbrev mRt (mt : MT) : Option FieldType := mt.2.2.2.2.2.1
abbrev mHh (mt : MT) : List (Nat × Nat × Nat × Nat) := mt.2.2.2.2.2.2
abbrev mY (mt : MT) : MethodName := ⟨mOwn mt, mNm mt, mDs mt⟩
abbrev gO (g : GV) : Nat := g.2.2.1
abbrev gB (g : GV) : Nat := g.2.2.2.1
abbrev gL (g : GV) : Nat := g.2.2.2.2.1
abbrev gXs (g : GV) : Nat → Int32 := g.2.2.2.2.2
def ii (z : Int) : Int32 := Int32.ofInt z
/-- the address of a cell: 999999 is the script -/
def ad (g : GV) (a : Nat) : Nat := if a = 999999 then gB g else gO g + a
def tv (g : GV) : Value → Value
  | .ref a => .ref (ad g a)
  | v => v
def rfT : List (List Bool) := [[true, true, false, false], [true, true, true, true, true, true, true, true, true, true, false, false, false, false, false, false], [false, true, false, true, false, true, true, true], [true, true, true], [true, false], [false, false, true, true, true], [true, true, true, true, true, true, true, true, true], [true, true, false, false, false, false], [true, true, true, true, true, true, true, true, true, true, false, false, false, false], [true, true, true, false, true, false, false, true, false, false, false, false, true, false, false, false, true, true, true, true, true, true, true, true, true, true, true, true, true, true, true, true, false, true, true, true, true, true, true, false, false, false, false, false, false, false, true, true, true, true]]
/-- whether a field of a class is a reference -/
def rf (c j : Nat) : Bool := (rfT.getD c []).getD j false
def fvl (g : GV) (S : SS) (I : II) (k t j : Nat) : Value := if rf t j = true then va_rf ((S.2.1 k j).map (ad g)) else .int (ii (I k j))
def ent (g : GV) (S : SS) (I : II) (X : XX) (k : Nat) (q : Nat × Nat) : va_E :=
  if q.1 < 20 then .inr (q.1, (List.range q.2).map (fvl g S I k q.1))
  else if q.1 < 22 then .inl (g.2.1 q.1, q.2, .inl (fun j => ii (I k j)))
  else if q.1 < 24 then .inl (g.2.1 q.1, q.2, .inr (.inr (.inr (.inr (fun j => (S.2.1 k j).map (ad g))))))
  else if q.1 = 24 then .inl (g.2.1 24, q.2, .inr (.inl (X.1 k)))
  else .inl (g.2.1 25, q.2, .inr (.inr (.inr (.inl (X.2 k)))))
def wld (g : GV) (S : SS) (I : II) (X : XX) : va_W := S.1.mapIdx (fun k q => (gO g + k, ent g S I X k q))
abbrev tysG (g : GV) : List (ClassId × FieldType) := [(g.2.1 20, .int), (g.2.1 21, .boolean), (g.2.1 22, .array .int), (g.2.1 23, .object RX2), (g.2.1 24, .long), (g.2.1 25, .double)]
def gA (g : GV) : Nat → Prop := fun q => gO g ≤ q
def Sim (g : GV) (S : SS) (I : II) (X : XX) (H : Heap) : Prop := va_P g.1 gCl (wld g S I X) H ∧ S.1.length < 900000 ∧ (S.2.2 = true → H.size = gO g + S.1.length)
theorem wld_at {g : GV} {S : SS} {I : II} {X : XX} {a : Nat} {q : Nat × Nat} (h : S.1[a]? = some q) : (wld g S I X)[a]? = some (gO g + a, ent g S I X a q) := by
  unfold wld
  rw [List.getElem?_mapIdx, h]
  rfl
theorem wld_none {g : GV} {S : SS} {I : II} {X : XX} {a : Nat} {x : Nat × va_E} (h : (wld g S I X)[a]? = some x) : ∃ q, S.1[a]? = some q ∧ x = (gO g + a, ent g S I X a q) := by
  unfold wld at h
  rw [List.getElem?_mapIdx] at h
  cases hq : S.1[a]? with
  | none => rw [hq] at h; cases h
  | some q => rw [hq] at h; exact ⟨q, rfl, (Option.some.inj h).symm⟩
theorem wld_D (g : GV) (S : SS) (I : II) (X : XX) : va_D (gA g) (wld g S I X) := by
  refine ⟨fun i j p q hi hj hpq => ?_, fun k q hk => ?_⟩
  · obtain ⟨_, _, rfl⟩ := wld_none hi
    obtain ⟨_, _, rfl⟩ := wld_none hj
    have : gO g + i = gO g + j := hpq
    omega
  · obtain ⟨_, _, rfl⟩ := wld_none hk
    exact Nat.le_add_right _ _
theorem wld_set {g : GV} {S S2 : SS} {I I2 : II} {X X2 : XX} {a : Nat} {q : Nat × Nat} {E : va_E} (hs : S2.1 = S.1) (h : S.1[a]? = some q) (hE : ent g S2 I2 X2 a q = E) (ho : ∀ j, j ≠ a → ∀ r, ent g S2 I2 X2 j r = ent g S I X j r) : (wld g S I X).set a (gO g + a, E) = wld g S2 I2 X2 := by
  apply List.ext_getElem?
  intro j
  rw [List.getElem?_set]
  unfold wld
  rw [hs, List.getElem?_mapIdx, List.getElem?_mapIdx]
  by_cases hj : a = j
  · subst hj
    rw [if_pos rfl, h]
    have hl : a < (List.mapIdx (fun k q => (gO g + k, ent g S I X k q)) S.1).length := by
      rw [List.length_mapIdx]
      exact (List.getElem?_eq_some_iff.mp h).1
    rw [if_pos hl, Option.map_some, hE]
  · rw [if_neg hj]
    cases hq : S.1[j]? with
    | none => rfl
    | some r => rw [Option.map_some, Option.map_some, ho j (fun e => hj e.symm) r]
theorem wld_push {g : GV} {S S2 : SS} {I : II} {X : XX} {q : Nat × Nat} {E : va_E} (hs : S2.1 = S.1 ++ [q]) (hp : S2.2.1 = S.2.1) (hE : ent g S I X S.1.length q = E) : wld g S I X ++ [(gO g + S.1.length, E)] = wld g S2 I X := by
  have he : ∀ k r, ent g S2 I X k r = ent g S I X k r := fun k r => by
    unfold ent fvl
    rw [hp]
  unfold wld
  rw [hs, List.mapIdx_append]
  congr 1
  · apply List.mapIdx_eq_mapIdx_iff.mpr
    intro k hk
    rw [he]
  · simp only [List.mapIdx_cons, List.mapIdx_nil, Nat.zero_add]
    rw [he, hE]
/-- one cell's number set -/
def up (I : II) (a k : Nat) (z : Int) : II := fun b => if b = a then (fun j => if j = k then z else I a j) else I b
theorem up_ne {I : II} {a k b : Nat} {z : Int} (h : b ≠ a) : up I a k z b = I b := if_neg h
theorem up_at {I : II} {a k : Nat} {z : Int} : up I a k z a = fun j => if j = k then z else I a j := if_pos rfl
theorem up_eq {I : II} {a k : Nat} {z : Int} : up I a k z a k = z := by rw [up_at]; exact if_pos rfl
theorem up_nk {I : II} {a k j : Nat} {z : Int} (h : j ≠ k) : up I a k z a j = I a j := by rw [up_at]; exact if_neg h
def upP (P : Nat → Nat → Option Nat) (a k : Nat) (z : Option Nat) : Nat → Nat → Option Nat := fun b => if b = a then (fun j => if j = k then z else P a j) else P b
theorem ent_I {g : GV} {S S2 : SS} {I I2 : II} {X X2 : XX} {j : Nat} (h1 : S2.2.1 j = S.2.1 j) (h2 : I2 j = I j) (h3 : X2.1 j = X.1 j) (h4 : X2.2 j = X.2 j) (r : Nat × Nat) : ent g S2 I2 X2 j r = ent g S I X j r := by
  unfold ent fvl
  rw [h1, h2, h3, h4]
theorem fvl_set {g : GV} {S S2 : SS} {I I2 : II} {a t n k : Nat} (ho : ∀ j, j ≠ k → fvl g S2 I2 a t j = fvl g S I a t j) : ((List.range n).map (fvl g S I a t)).set k (fvl g S2 I2 a t k) = (List.range n).map (fvl g S2 I2 a t) := by
  apply List.ext_getElem?
  intro j
  rw [List.getElem?_set, List.getElem?_map, List.getElem?_map, List.length_map, List.length_range]
  by_cases hj : k = j
  · subst hj
    rw [if_pos rfl]
    by_cases hk : k < n
    · rw [if_pos hk, List.getElem?_range hk, Option.map_some]
    · rw [if_neg hk, List.getElem?_eq_none (by rw [List.length_range]; omega)]
      rfl
  · rw [if_neg hj]
    by_cases hk : j < n
    · rw [List.getElem?_range hk, Option.map_some, Option.map_some, ho j (fun e => hj e.symm)]
    · rw [List.getElem?_eq_none (by rw [List.length_range]; omega)]
      rfl
/-- the locals -/
def lvl (g : GV) : Nat → List (Option Value) → List (Nat × Value)
  | _, [] => []
  | i, none :: r => lvl g (i + 1) r
  | i, some v :: r => (i, tv g v) :: lvl g (i + 1) r
theorem lvl_mem {g : GV} : ∀ (ls : List (Option Value)) (n j : Nat) (u : Value), ls[j]? = some (some u) → (n + j, tv g u) ∈ lvl g n ls
  | [], _, _, _, h => by simp at h
  | none :: r, n, 0, u, h => by simp at h
  | none :: r, n, j + 1, u, h => by
    have h2 := lvl_mem (g := g) r (n + 1) j u (by simpa using h)
    rw [show n + (j + 1) = n + 1 + j by omega]
    exact h2
  | some v :: r, n, 0, u, h => by
    have : v = u := by simpa using h
    subst this
    exact List.mem_cons_self
  | some v :: r, n, j + 1, u, h => by
    have h2 := lvl_mem (g := g) r (n + 1) j u (by simpa using h)
    rw [show n + (j + 1) = n + 1 + j by omega]
    exact List.mem_cons_of_mem _ h2
def LH (g : GV) (lsA : Array Slot) (nL : Nat) (ls : List (Option Value)) : Prop := lsA.size = nL ∧ lv_wf lsA ∧ (∀ (i : Nat) (u : Value), ls[i]? = some (some u) → lsA[i]? = some (.val (tv g u))) ∧ ls.length = nL
theorem lvl_of {g : GV} : ∀ (ls : List (Option Value)) (n : Nat) (q : Nat × Value), q ∈ lvl g n ls → ∃ (j : Nat) (u : Value), ls[j]? = some (some u) ∧ q = (n + j, tv g u)
  | [], _, _, h => by cases h
  | none :: r, n, q, h => by
    obtain ⟨j, u, h1, h2⟩ := lvl_of (g := g) r (n + 1) q h
    exact ⟨j + 1, u, by simpa using h1, by rw [h2]; congr 1; omega⟩
  | some v :: r, n, q, h => by
    rcases List.mem_cons.mp h with h | h
    · exact ⟨0, v, rfl, h⟩
    · obtain ⟨j, u, h1, h2⟩ := lvl_of (g := g) r (n + 1) q h
      exact ⟨j + 1, u, by simpa using h1, by rw [h2]; congr 1; omega⟩
theorem LH_has {g : GV} {lsA : Array Slot} {nL : Nat} {ls : List (Option Value)} (h : LH g lsA nL ls) : lv_has lsA nL (lvl g 0 ls) := by
  refine ⟨h.1, h.2.1, fun q hq => ?_⟩
  obtain ⟨j, u, h1, h2⟩ := lvl_of ls 0 q hq
  rw [h2, Nat.zero_add]
  exact h.2.2.1 j u h1
theorem LH_of {g : GV} {lsA : Array Slot} {nL : Nat} {lv : List (Nat × Value)} {ls : List (Option Value)} (h : lv_has lsA nL lv) (hn : ls.length = nL) (hm : ∀ (i : Nat) (u : Value), ls[i]? = some (some u) → (i, tv g u) ∈ lv) : LH g lsA nL ls := ⟨h.1, h.2.1, fun i u hu => h.2.2 _ (hm i u hu), hn⟩
theorem LH_sub {g : GV} {lsA : Array Slot} {nL : Nat} {ls ls2 : List (Option Value)} (h : LH g lsA nL ls) (hs : ∀ (i : Nat) (u : Value), ls2[i]? = some (some u) → ls[i]? = some (some u)) (hn : ls2.length = ls.length) : LH g lsA nL ls2 := ⟨h.1, h.2.1, fun i u hu => h.2.2.1 i u (hs i u hu), hn.trans h.2.2.2⟩
theorem tv_cat (g : GV) (v : Value) : (tv g v).category = v.category := by cases v <;> rfl
/-- a store of one word into the locals: nothing of two words may end there -/
theorem LH_st {g : GV} {lsA lsB : Array Slot} {nL i : Nat} {v : Value} {ls : List (Option Value)} (h : LH g lsA nL ls) (hp : ∀ u, i ≠ 0 → ls[i - 1]? = some (some u) → u.category = 1)
    (hB : lv_has lsB nL ((i, tv g v) :: (lvl g 0 ls).filter (fun q => !(q.1 == i) && !(q.1 + 1 == i && q.2.category == 2)))) : LH g lsB nL (ls.set i (some v)) := by
  refine LH_of hB (by rw [List.length_set]; exact h.2.2.2) fun j u hu => ?_
  rw [List.getElem?_set] at hu
  by_cases hj : i = j
  · subst hj
    rw [if_pos rfl] at hu
    split at hu
    · cases hu
      exact List.mem_cons_self
    · cases hu
  · rw [if_neg hj] at hu
    refine List.mem_cons_of_mem _ (List.mem_filter.mpr ⟨?_, ?_⟩)
    · have := lvl_mem (g := g) ls 0 j u hu
      rwa [Nat.zero_add] at this
    · have h1 : (j == i) = false := by simpa using fun e => hj e.symm
      by_cases h2 : j + 1 = i
      · have hc := hp u (by omega) (by rw [← h2]; simpa using hu)
        simp [h1, h2, tv_cat, hc]
      · simp [h1, h2]
/-- a store of two words -/
theorem LH_st2 {g : GV} {lsA lsB : Array Slot} {nL i : Nat} {v : Value} {ls : List (Option Value)} (h : LH g lsA nL ls) (hp : ∀ u, i ≠ 0 → ls[i - 1]? = some (some u) → u.category = 1)
    (hB : lv_has lsB nL ((i, tv g v) :: (lvl g 0 ls).filter (fun q => !(q.1 == i) && (!(q.1 == i + 1) && !(q.1 + 1 == i && q.2.category == 2))))) : LH g lsB nL ((ls.set i (some v)).set (i + 1) none) := by
  refine LH_of hB (by rw [List.length_set, List.length_set]; exact h.2.2.2) fun j u hu => ?_
  rw [List.getElem?_set] at hu
  by_cases hj1 : i + 1 = j
  · subst hj1
    rw [if_pos rfl] at hu
    split at hu <;> cases hu
  · rw [if_neg hj1, List.getElem?_set] at hu
    by_cases hj : i = j
    · subst hj
      rw [if_pos rfl] at hu
      split at hu
      · cases hu
        exact List.mem_cons_self
      · cases hu
    · rw [if_neg hj] at hu
      refine List.mem_cons_of_mem _ (List.mem_filter.mpr ⟨?_, ?_⟩)
      · have := lvl_mem (g := g) ls 0 j u hu
        rwa [Nat.zero_add] at this
      · have h1 : (j == i) = false := by simpa using fun e => hj e.symm
        have h3 : (j == i + 1) = false := by simpa using fun e => hj1 e.symm
        by_cases h2 : j + 1 = i
        · have hc := hp u (by omega) (by rw [← h2]; simpa using hu)
          simp [h1, h3, h2, tv_cat, hc]
        · simp [h1, h3, h2]
end
section
/-! THE FRAME, B: what stands at a method's start, contracts, the judgement V -/
def lw_nb : Cond → Bool
  | .castable .. => true
  | .methodLinkNest .. => true
  | .arrayOver _ => true
  | _ => false
theorem nb_warm {w : Cond} (h : lw_nb w = true) {s U : State} (hW : s.WarmedH U.vm) (hb : w.before #[] s = true) : w.before #[] U = true := by
  cases w <;> first | exact va_Nw.warmC hW hb | exact va_Nw.warmM hW hb | skip
  all_goals first | (cases h; done) | skip
  rename_i ty
  have h2 := Cond.arrayOver_setVmC (args := #[]) hW.alike ty
  rw [hb] at h2
  exact h2
def lw_good : List Cond := lw_tbl.filter goodWord
theorem lw_good_in : ∀ w ∈ lw_good, w ∈ lw_tbl := fun _ h => (List.mem_filter.mp h).1
theorem lw_good_ok : ∀ w ∈ lw_good, goodWord w = true := fun _ h => (List.mem_filter.mp h).2
/-- the word w stands in the tables at place i, and is a good one -/
def atT (i : Nat) (w : Cond) : Bool := decide (lw_tbl[i]? = some w) && goodWord w
theorem atT_in {w : Cond} (i : Nat) (h : atT i w = true) : w ∈ lw_good := by
  unfold atT at h
  simp only [Bool.and_eq_true, decide_eq_true_eq] at h
  exact List.mem_filter.mpr ⟨List.mem_of_getElem? h.1, h.2⟩
def St (g : GV) (s : State) (H : Heap) : Prop := va_K g.1 gCl (tysG g) s ∧ va_X (gB g) (gL g) (gXs g) s H ∧ gB g < gO g ∧ gO g ≤ H.size ∧ vx_Zq Bundle.tN "UNASSIGNED_STACK" Bundle.steD (gA g) s H ∧ vx_Zq Bundle.tN "SUPPRESSED_SENTINEL" Bundle.listD (gA g) s H ∧ (∀ w ∈ lw_tbl, lw_nb w = true → w.before #[] s = true) ∧ ∀ (own : String) (k : Nat) (tx : String), Cond.stringRef own k tx ∈ lw_tbl → ∃ sa : Nat, vk_R own k tx sa s
theorem St_call {g : GV} {s U : State} {H : Heap} {locs : List Loc} (h : St g s s.heap) (hS : va_S (gA g) s.heap H locs) (hU : U.heap = H) (hW : s.WarmedH U.vm) : St g U U.heap := by
  obtain ⟨h1, h2, h3, h4, h5, h6, h7, h8⟩ := h
  have hb : H[gB g]? = s.heap[gB g]? := hS.2.1 (gB g) (Nat.lt_of_lt_of_le h3 h4) (Nat.not_le.mpr h3)
  rw [hU]
  refine ⟨va_K.moved hW.alike h1, va_X.moved hW.alike (h2.kept hb), h3, Nat.le_trans h4 hS.1, vx_Zq.moved hW.alike (h5.kept hS.2.1), vx_Zq.moved hW.alike (h6.kept hS.2.1), fun w hw hn => nb_warm hn hW (h7 w hw hn), fun own k tx hw => ?_⟩
  obtain ⟨sa, hsa⟩ := h8 own k tx hw
  exact ⟨sa, vk_R.warm hW hsa⟩
abbrev QQ : Type := (Option Value ⊕ String) → SS → II → XX → Prop
def QR (g : GV) (Q : QQ) : Array Value → State → Outcome → State → Prop := fun _ st o t => ∃ (v : Option Value) (S : SS) (I : II) (X : XX), o = .returned (v.map (tv g)) ∧ Q (.inl v) S I X ∧ Sim g S I X t.heap ∧ va_F (gA g) st t
def QX (g : GV) (Q : QQ) : String → State → State → Prop := fun E st t => ∃ (S : SS) (I : II) (X : XX), Q (.inr E) S I X ∧ Sim g S I X t.heap ∧ va_F (gA g) st t
def wsM (mt : MT) : List Cond := match mHh mt with
  | [] => Cond.code (mY mt) (mCc mt) (mNL mt) (mRt mt) :: lw_good
  | hh => Cond.codeWith (mY mt) (mCc mt) (mNL mt) (mRt mt) hh :: lw_good
def PcM (g : GV) (av : List Value) (S : SS) (I : II) (X : XX) : Array Value → State → Prop := va_Pc (av.map (tv g)) (fun U => St g U U.heap ∧ Sim g S I X U.heap)
/-- a method's contract: from these arguments and cells it ends with Q; at most mc cells of ms slots are new -/
def CT (l : Launch) (g : GV) (mt : MT) (dp mc ms : Nat) (av : List Value) (S : SS) (I : II) (X : XX) (Q : QQ) : Prop :=
  vx_Met l (mY mt) (wsM mt) ({ frames := dp, cells := mc, slots := ms, locals := 100 * dp }) (PcM g av S I X) (QR g Q) (QX g Q) mc ms (gA g)
theorem PcM_blind (g : GV) (av : List Value) (S : SS) (I : II) (X : XX) : FrameBlind (PcM g av S I X) := by
  intro a U f mk h
  obtain ⟨h1, h2, h3⟩ := h
  have hh : (U.calling f mk a).heap = U.heap := rfl
  refine ⟨h1, St_call h2 (va_S.rf (A := gA g)) hh (State.WarmedH.refl U), ?_⟩
  rw [hh]
  exact h3
def Ctx (l : Launch) (g : GV) (mt : MT) (p : Program) (s : State) (m : MethodId) (args : Array Value) (meth : Method) (c : Code) : Prop :=
  p.tables.exec = Jvm.exec ∧ c.code = mCc mt ∧ meth.sig.returnType = mRt mt ∧ c.maxLocals = mNL mt ∧ s.vm.findClass (mOwn mt) = some m.cls ∧ (∀ w ∈ lw_good, w.before args s = true) ∧ meth.locks = false ∧ c.exceptionTable.toList = tableOf (mHh mt) ∧ meth.name = mNm mt ∧ l.stackTraces = false ∧ St g s s.heap
def VX (l : Launch) (g : GV) (mt : MT) (dp bc bs : Nat) (ls : List (Option Value)) (S : SS) (I : II) (X : XX) (p : Program) (s : State) (m : MethodId) (args : Array Value) (meth : Method) (c : Code) (H : Heap) (locs : List Loc) (cells slots : Nat) (R : Room) (lsA : Array Slot) : Prop :=
  Ctx l g mt p s m args meth c ∧ (dp ≤ R.frames ∧ 100 * dp ≤ R.locals) ∧ (cells + bc ≤ R.cells ∧ slots + bs ≤ R.slots) ∧ Sim g S I X H ∧ va_S (gA g) s.heap H locs ∧ LH g lsA (mNL mt) ls
abbrev ZZ : Type := List Frame → Array Value → State → Nat → Nat → State → Prop
/-- from this place of the method, with these locals, this stack and these cells, it comes to its end -/
def V (l : Launch) (g : GV) (mt : MT) (dp : Nat) (Z : ZZ) (bc bs pc : Nat) (ls : List (Option Value)) (st : List Value) (S : SS) (I : II) (X : XX) : Prop :=
  ∀ (p : Program) (e : Env) (s : State) (m : MethodId) (args : Array Value) (below : List Frame) (meth : Method) (c : Code) (H : Heap) (locs : List Loc) (cells slots : Nat) (R : Room) (lsA : Array Slot),
    VX l g mt dp bc bs ls S I X p s m args meth c H locs cells slots R lsA →
    W p l e R s m args below meth c H locs cells slots (Z below args s R.cells R.slots) (F0 m pc lsA (st.map (tv g)))
def Zm (g : GV) (Q : QQ) : ZZ := fun below args s mc ms => vx_MQ below (QR g Q) (QX g Q) args s mc ms (gA g)
/-- the locals at a method's start -/
def elA : List Value → List (Option Value)
  | [] => []
  | v :: r => some v :: (if v.category = 2 then none :: elA r else elA r)
def entL (av : List Value) (n : Nat) : List (Option Value) := elA av ++ List.replicate (n - (elA av).length) none
theorem elA_mem {g : GV} : ∀ (av : List Value) (n i : Nat) (u : Value), (elA av)[i]? = some (some u) → (n + i, tv g u) ∈ lv_args n (av.map (tv g))
  | [], _, _, _, h => by simp [elA] at h
  | v :: r, n, 0, u, h => by
    have h2 : v = u := by simpa [elA] using h
    subst h2
    exact List.mem_cons_self
  | v :: r, n, i + 1, u, h => by
    refine List.mem_cons_of_mem _ ?_
    show (n + (i + 1), tv g u) ∈ lv_args (if (tv g v).category = 2 then n + 2 else n + 1) (r.map (tv g))
    rw [tv_cat]
    by_cases hc : v.category = 2
    · rw [if_pos hc]
      have h3 : (none :: elA r)[i]? = some (some u) := by simpa [elA, hc] using h
      cases i with
      | zero => simp at h3
      | succ i =>
        have h4 := elA_mem (g := g) r (n + 2) i u (by simpa using h3)
        rw [show n + (i + 1 + 1) = n + 2 + i by omega]
        exact h4
    · rw [if_neg hc]
      have h3 : (elA r)[i]? = some (some u) := by simpa [elA, hc] using h
      have h4 := elA_mem (g := g) r (n + 1) i u h3
      rw [show n + (i + 1) = n + 1 + i by omega]
      exact h4
theorem elA_len (av : List Value) (g : GV) : (lg_sl (av.map (tv g))).length = (elA av).length := by
  induction av with
  | nil => rfl
  | cons v r ih =>
    show (lg_sl (tv g v :: r.map (tv g))).length = _
    have h1 : (lg_sl (tv g v :: r.map (tv g))).length = (if v.category = 2 then 2 else 1) + (lg_sl (r.map (tv g))).length := by
      cases v <;> simp [lg_sl, tv, Value.category] <;> omega
    rw [h1, ih]
    by_cases hc : v.category = 2
    · simp [elA, hc]; omega
    · simp [elA, hc]; omega
theorem v_start {l : Launch} {g : GV} {mt : MT} {dp mc ms : Nat} {av : List Value} {S : SS} {I : II} {X : XX} {Q : QQ} {ls : List (Option Value)} (hfl : l.stackTraces = false) (hh : mHh mt = []) (hp : plainName (mOwn mt) = true) (hn : (elA av).length ≤ mNL mt) (hls : entL av (mNL mt) = ls)
    (k : V l g mt dp (Zm g Q) mc ms 0 ls [] S I X) : CT l g mt dp mc ms av S I X Q := by
  have hw : wsM mt = Cond.code (mY mt) (mCc mt) (mNL mt) (mRt mt) :: lw_good := by
    unfold wsM
    rw [hh]
  refine vx_ofW (cc := mCc mt) (maxL := mNL mt) (ret := mRt mt) (ws' := lw_good) hp hw ?_
  intro p e s m args below meth c s₁ B hml hx hv
  obtain ⟨rfl, hSt, hSim⟩ := hv
  have hts := atoms_spec (ws := wsM mt) B.pre
  have hl := lv_entry (av.map (tv g)) (n := mNL mt) (by rw [elA_len]; exact hn)
  rw [lg_entry_eq]
  generalize (lg_sl (av.map (tv g)) ++ List.replicate (mNL mt - (lg_sl (av.map (tv g))).length) Slot.unset).toArray = lsA at hl ⊢
  refine k p e s m _ below meth c s.heap [] 0 0 _ lsA ⟨⟨B.exec, B.bytes, B.returns, hml, findClass_of_methodNamed B.named, fun w h => hts w (by rw [hw]; exact List.mem_cons_of_mem _ h), B.notSynchronized, ?_, (name_of_methodNamed B.named B.method).1, hfl, hSt⟩, ⟨Nat.le_refl _, Nat.le_refl _⟩, ⟨Nat.le_of_eq (Nat.zero_add _), Nat.le_of_eq (Nat.zero_add _)⟩, hSim, va_S.rf, ?_⟩
  · rw [hh]
    cases ht : c.exceptionTable.toList with
    | nil => rfl
    | cons x r => exact (hx x (by rw [ht]; exact List.mem_cons_self)).elim
  · refine LH_of hl (by rw [← hls]; unfold entL; rw [List.length_append, List.length_replicate]; omega) fun i u hu => ?_
    rw [← hls] at hu
    unfold entL at hu
    have h0 : i < (elA av).length := by
      rcases Nat.lt_or_ge i (elA av).length with h | h
      · exact h
      · rw [List.getElem?_append_right h] at hu
        have := List.eq_of_mem_replicate (List.mem_of_getElem? hu)
        cases this
    rw [List.getElem?_append_left h0] at hu
    have := elA_mem (g := g) av 0 i u hu
    rwa [Nat.zero_add] at this
end
section
/-! THE FRAME, C: numbers; one row an instruction (printed by a program of this repository) -/
theorem ii_add (a b : Int) : ii (a + b) = ii a + ii b := Int32.ofInt_add a b
theorem ii_sub (a b : Int) : ii (a - b) = ii a - ii b := Int32.ofInt_sub a b
theorem ii_mul (a b : Int) : ii (a * b) = ii a * ii b := Int32.ofInt_mul a b
theorem ii_of (x : Int32) : ii x.toInt = x := Int32.ofInt_toInt x
theorem ii_toInt {z : Int} (h : -2147483648 ≤ z ∧ z < 2147483648) : (ii z).toInt = z := Int32.toInt_ofInt_of_le (by omega) (by omega)
theorem ii_lt {a b : Int} (ha : -2147483648 ≤ a ∧ a < 2147483648) (hb : -2147483648 ≤ b ∧ b < 2147483648) : ii a < ii b ↔ a < b := by
  rw [Int32.lt_iff_toInt_lt, ii_toInt ha, ii_toInt hb]
theorem ii_le {a b : Int} (ha : -2147483648 ≤ a ∧ a < 2147483648) (hb : -2147483648 ≤ b ∧ b < 2147483648) : ii a ≤ ii b ↔ a ≤ b := by
  rw [Int32.le_iff_toInt_le, ii_toInt ha, ii_toInt hb]
theorem ii_eq {a b : Int} (ha : -2147483648 ≤ a ∧ a < 2147483648) (hb : -2147483648 ≤ b ∧ b < 2147483648) : ii a = ii b ↔ a = b := by
  rw [← Int32.toInt_inj, ii_toInt ha, ii_toInt hb]
theorem ii_0 : (0 : Int32) = ii 0 := by decide
theorem ii_rng (x : Int32) : -2147483648 ≤ x.toInt ∧ x.toInt < 2147483648 := ⟨Int32.le_toInt x, Int32.toInt_lt x⟩
def jj (z : Int) : Int64 := Int64.ofInt z
theorem jj_add (a b : Int) : jj (a + b) = jj a + jj b := Int64.ofInt_add a b
theorem jj_mul (a b : Int) : jj (a * b) = jj a * jj b := Int64.ofInt_mul a b
theorem jj_toInt {z : Int} (h : -9223372036854775808 ≤ z ∧ z < 9223372036854775808) : (jj z).toInt = z := Int64.toInt_ofInt_of_le (by omega) (by omega)
theorem jj_of {z : Int} (h : -2147483648 ≤ z ∧ z < 2147483648) : (ii z).toInt64 = jj z := by
  rw [← Int64.toInt_inj, Int32.toInt_toInt64, ii_toInt h, jj_toInt (by omega)]
theorem jj_i {z : Int} (h : -2147483648 ≤ z ∧ z < 2147483648) : (jj z).toInt32 = ii z := by
  rw [← jj_of h, Int32.toInt32_toInt64]
theorem jj_lt {a b : Int} (ha : -9223372036854775808 ≤ a ∧ a < 9223372036854775808) (hb : -9223372036854775808 ≤ b ∧ b < 9223372036854775808) : jj a < jj b ↔ a < b := by
  rw [Int64.lt_iff_toInt_lt, jj_toInt ha, jj_toInt hb]
theorem jj_eq {a b : Int} (ha : -9223372036854775808 ≤ a ∧ a < 9223372036854775808) (hb : -9223372036854775808 ≤ b ∧ b < 9223372036854775808) : jj a = jj b ↔ a = b := by
  rw [← Int64.toInt_inj, jj_toInt ha, jj_toInt hb]
theorem ii_ix {z : Int} {j : Nat} (h : z = (j : Int)) (hj : j < 2147483648) : (ii z).toNatClampNeg = j := by
  show (ii z).toInt.toNat = j
  rw [ii_toInt (by omega), h]
  rfl
theorem ii_in {z : Int} {j n : Nat} (h : z = (j : Int)) (hj : j < n) (hn : n ≤ 2147483648) : vp_in (ii z) n := by
  intro q
  rw [ii_ix h (by omega)] at q
  rcases q with q | q
  · rw [Int32.lt_iff_toInt_lt, ii_toInt (by omega)] at q
    have : (0 : Int32).toInt = 0 := by decide
    omega
  · omega
def okc : Option Value → Bool
  | some v => v.category == 1
  | none => true
theorem okc_p {ls : List (Option Value)} {i : Nat} {a : Option Value} (ha : ls[i - 1]? = some a) (hc : okc a = true) : ∀ u, i ≠ 0 → ls[i - 1]? = some (some u) → u.category = 1 := by
  intro u _ hu
  have h := ha.symm.trans hu
  cases h
  simpa [okc] using hc
theorem LH_len {g : GV} {lsA : Array Slot} {nL : Nat} {ls : List (Option Value)} (h : LH g lsA nL ls) (i : Nat) (hi : i < ls.length) : i < nL := h.2.2.2 ▸ hi
section FC
variable {l : Launch} {g : GV} {mt : MT} {dp bc bs pc pc2 : Nat} {Z : ZZ} {ls : List (Option Value)} {st : List Value} {S : SS} {I : II} {X : XX}
theorem v_iload_n {kx : Fin 4} {x : Int32} (hd : DC (mCc mt) pc (.iload_n kx) 1 pc2) (hl : ls[(kx : Nat)]? = some (some (.int x))) (k : V l g mt dp Z bc bs pc2 ls (.int x :: st) S I X) : V l g mt dp Z bc bs pc ls (st) S I X := by
  obtain ⟨hd1, rfl⟩ := hd
  intro p e s m args below meth c H locs cells slots R lsA hv
  exact lv_iload_n hv.1.1 hv.1.2.1 hd1 rfl (hv.2.2.2.2.2.2.2.1 _ _ hl) (k p e s m args below meth c H locs cells slots R lsA hv)
theorem v_iload {ix : Nat} {x : Int32} (hd : DC (mCc mt) pc (.iload ix) 2 pc2) (hl : ls[ix]? = some (some (.int x))) (k : V l g mt dp Z bc bs pc2 ls (.int x :: st) S I X) : V l g mt dp Z bc bs pc ls (st) S I X := by
  obtain ⟨hd1, rfl⟩ := hd
  intro p e s m args below meth c H locs cells slots R lsA hv
  exact lv_iload hv.1.1 hv.1.2.1 hd1 (hv.2.2.2.2.2.2.2.1 _ _ hl) (k p e s m args below meth c H locs cells slots R lsA hv)
theorem v_aload_n {kx : Fin 4} {x : Nat} (hd : DC (mCc mt) pc (.aload_n kx) 1 pc2) (hl : ls[(kx : Nat)]? = some (some (.ref x))) (k : V l g mt dp Z bc bs pc2 ls (.ref x :: st) S I X) : V l g mt dp Z bc bs pc ls (st) S I X := by
  obtain ⟨hd1, rfl⟩ := hd
  intro p e s m args below meth c H locs cells slots R lsA hv
  exact lv_aload_n hv.1.1 hv.1.2.1 hd1 rfl (hv.2.2.2.2.2.2.2.1 _ _ hl) (k p e s m args below meth c H locs cells slots R lsA hv)
theorem v_aload {ix : Nat} {x : Nat} (hd : DC (mCc mt) pc (.aload ix) 2 pc2) (hl : ls[ix]? = some (some (.ref x))) (k : V l g mt dp Z bc bs pc2 ls (.ref x :: st) S I X) : V l g mt dp Z bc bs pc ls (st) S I X := by
  obtain ⟨hd1, rfl⟩ := hd
  intro p e s m args below meth c H locs cells slots R lsA hv
  exact lv_aload hv.1.1 hv.1.2.1 hd1 (hv.2.2.2.2.2.2.2.1 _ _ hl) (k p e s m args below meth c H locs cells slots R lsA hv)
theorem v_lload_n {kx : Fin 4} {x : Int64} (hd : DC (mCc mt) pc (.lload_n kx) 1 pc2) (hl : ls[(kx : Nat)]? = some (some (.long x))) (k : V l g mt dp Z bc bs pc2 ls (.long x :: st) S I X) : V l g mt dp Z bc bs pc ls (st) S I X := by
  obtain ⟨hd1, rfl⟩ := hd
  intro p e s m args below meth c H locs cells slots R lsA hv
  exact lv_lload_n hv.1.1 hv.1.2.1 hd1 rfl (hv.2.2.2.2.2.2.2.1 _ _ hl) (k p e s m args below meth c H locs cells slots R lsA hv)
theorem v_lload {ix : Nat} {x : Int64} (hd : DC (mCc mt) pc (.lload ix) 2 pc2) (hl : ls[ix]? = some (some (.long x))) (k : V l g mt dp Z bc bs pc2 ls (.long x :: st) S I X) : V l g mt dp Z bc bs pc ls (st) S I X := by
  obtain ⟨hd1, rfl⟩ := hd
  intro p e s m args below meth c H locs cells slots R lsA hv
  exact lv_lload hv.1.1 hv.1.2.1 hd1 (hv.2.2.2.2.2.2.2.1 _ _ hl) (k p e s m args below meth c H locs cells slots R lsA hv)
theorem v_fload {ix : Nat} {x : UInt32} (hd : DC (mCc mt) pc (.fload ix) 2 pc2) (hl : ls[ix]? = some (some (.float x))) (k : V l g mt dp Z bc bs pc2 ls (.float x :: st) S I X) : V l g mt dp Z bc bs pc ls (st) S I X := by
  obtain ⟨hd1, rfl⟩ := hd
  intro p e s m args below meth c H locs cells slots R lsA hv
  exact lv_fload hv.1.1 hv.1.2.1 hd1 (hv.2.2.2.2.2.2.2.1 _ _ hl) (k p e s m args below meth c H locs cells slots R lsA hv)
theorem v_iconst {n : Int} (hd : DC (mCc mt) pc (.iconst n) 1 pc2) (k : V l g mt dp Z bc bs pc2 ls (.int (ii n) :: st) S I X) : V l g mt dp Z bc bs pc ls (st) S I X := by
  obtain ⟨hd1, rfl⟩ := hd
  intro p e s m args below meth c H locs cells slots R lsA hv
  exact lv_iconst hv.1.1 hv.1.2.1 hd1 rfl (k p e s m args below meth c H locs cells slots R lsA hv)
theorem v_bipush {n : Int} (hd : DC (mCc mt) pc (.bipush n) 2 pc2) (hc : (Int8.ofInt n).toInt32 = ii n) (k : V l g mt dp Z bc bs pc2 ls (.int (ii n) :: st) S I X) : V l g mt dp Z bc bs pc ls (st) S I X := by
  obtain ⟨hd1, rfl⟩ := hd
  intro p e s m args below meth c H locs cells slots R lsA hv
  exact lv_bipush hv.1.1 hv.1.2.1 hd1 hc (k p e s m args below meth c H locs cells slots R lsA hv)
theorem v_sipush {n : Int} (hd : DC (mCc mt) pc (.sipush n) 3 pc2) (hc : (Int16.ofInt n).toInt32 = ii n) (k : V l g mt dp Z bc bs pc2 ls (.int (ii n) :: st) S I X) : V l g mt dp Z bc bs pc ls (st) S I X := by
  obtain ⟨hd1, rfl⟩ := hd
  intro p e s m args below meth c H locs cells slots R lsA hv
  exact lv_sipush hv.1.1 hv.1.2.1 hd1 hc (k p e s m args below meth c H locs cells slots R lsA hv)
theorem v_lconst {n : Fin 2} {v : Int64} (hd : DC (mCc mt) pc (.lconst n) 1 pc2) (hc : Int64.ofNat (n : Nat) = v) (k : V l g mt dp Z bc bs pc2 ls (.long v :: st) S I X) : V l g mt dp Z bc bs pc ls (st) S I X := by
  obtain ⟨hd1, rfl⟩ := hd
  intro p e s m args below meth c H locs cells slots R lsA hv
  exact lv_lconst hv.1.1 hv.1.2.1 hd1 hc (k p e s m args below meth c H locs cells slots R lsA hv)
theorem v_fconst0 (hd : DC (mCc mt) pc (.fconst 0) 1 pc2) (k : V l g mt dp Z bc bs pc2 ls (.float FP.fconst0 :: st) S I X) : V l g mt dp Z bc bs pc ls (st) S I X := by
  obtain ⟨hd1, rfl⟩ := hd
  intro p e s m args below meth c H locs cells slots R lsA hv
  exact lv_fconst0 hv.1.1 hv.1.2.1 hd1 (k p e s m args below meth c H locs cells slots R lsA hv)
theorem v_ldc {ix : Nat} {v : Int32} (hd : DC (mCc mt) pc (.ldc ix) 2 pc2) (hw : Cond.constant (mOwn mt) ix v ∈ lw_good) (k : V l g mt dp Z bc bs pc2 ls (.int v :: st) S I X) : V l g mt dp Z bc bs pc ls (st) S I X := by
  obtain ⟨hd1, rfl⟩ := hd
  intro p e s m args below meth c H locs cells slots R lsA hv
  exact lv_ldc hv.1.1 hv.1.2.1 hv.1.2.2.2.2.1 (hv.1.2.2.2.2.2.1 _ hw) hd1 (k p e s m args below meth c H locs cells slots R lsA hv)
theorem v_ldcw {ix : Nat} {v : Int32} (hd : DC (mCc mt) pc (.ldc_w ix) 3 pc2) (hw : Cond.constant (mOwn mt) ix v ∈ lw_good) (k : V l g mt dp Z bc bs pc2 ls (.int v :: st) S I X) : V l g mt dp Z bc bs pc ls (st) S I X := by
  obtain ⟨hd1, rfl⟩ := hd
  intro p e s m args below meth c H locs cells slots R lsA hv
  exact lv_ldcw hv.1.1 hv.1.2.1 hv.1.2.2.2.2.1 (hv.1.2.2.2.2.2.1 _ hw) hd1 (k p e s m args below meth c H locs cells slots R lsA hv)
theorem v_iadd {a b : Int} (hd : DC (mCc mt) pc (.iadd) 1 pc2) (k : V l g mt dp Z bc bs pc2 ls (.int (ii (a + b)) :: st) S I X) : V l g mt dp Z bc bs pc ls (.int (ii b) :: .int (ii a) :: st) S I X := by
  obtain ⟨hd1, rfl⟩ := hd
  intro p e s m args below meth c H locs cells slots R lsA hv
  exact lv_iadd hv.1.1 hv.1.2.1 hd1 (by rw [← ii_add]; exact k p e s m args below meth c H locs cells slots R lsA hv)
theorem v_isub {a b : Int} (hd : DC (mCc mt) pc (.isub) 1 pc2) (k : V l g mt dp Z bc bs pc2 ls (.int (ii (a - b)) :: st) S I X) : V l g mt dp Z bc bs pc ls (.int (ii b) :: .int (ii a) :: st) S I X := by
  obtain ⟨hd1, rfl⟩ := hd
  intro p e s m args below meth c H locs cells slots R lsA hv
  exact lv_isub hv.1.1 hv.1.2.1 hd1 (by rw [← ii_sub]; exact k p e s m args below meth c H locs cells slots R lsA hv)
theorem v_imul {a b : Int} (hd : DC (mCc mt) pc (.imul) 1 pc2) (k : V l g mt dp Z bc bs pc2 ls (.int (ii (a * b)) :: st) S I X) : V l g mt dp Z bc bs pc ls (.int (ii b) :: .int (ii a) :: st) S I X := by
  obtain ⟨hd1, rfl⟩ := hd
  intro p e s m args below meth c H locs cells slots R lsA hv
  exact lv_imul hv.1.1 hv.1.2.1 hd1 (by rw [← ii_mul]; exact k p e s m args below meth c H locs cells slots R lsA hv)
theorem v_ladd {a b : Int} (hd : DC (mCc mt) pc (.ladd) 1 pc2) (k : V l g mt dp Z bc bs pc2 ls (.long (jj (a + b)) :: st) S I X) : V l g mt dp Z bc bs pc ls (.long (jj b) :: .long (jj a) :: st) S I X := by
  obtain ⟨hd1, rfl⟩ := hd
  intro p e s m args below meth c H locs cells slots R lsA hv
  exact lv_ladd hv.1.1 hv.1.2.1 hd1 (by rw [← jj_add]; exact k p e s m args below meth c H locs cells slots R lsA hv)
theorem v_lmul {a b : Int} (hd : DC (mCc mt) pc (.lmul) 1 pc2) (k : V l g mt dp Z bc bs pc2 ls (.long (jj (a * b)) :: st) S I X) : V l g mt dp Z bc bs pc ls (.long (jj b) :: .long (jj a) :: st) S I X := by
  obtain ⟨hd1, rfl⟩ := hd
  intro p e s m args below meth c H locs cells slots R lsA hv
  exact lv_lmul hv.1.1 hv.1.2.1 hd1 (by rw [← jj_mul]; exact k p e s m args below meth c H locs cells slots R lsA hv)
theorem v_iand {x y : Int32} {z : Int} (hd : DC (mCc mt) pc (.iand) 1 pc2) (hz : x &&& y = ii z) (k : V l g mt dp Z bc bs pc2 ls (.int (ii z) :: st) S I X) : V l g mt dp Z bc bs pc ls (.int y :: .int x :: st) S I X := by
  obtain ⟨hd1, rfl⟩ := hd
  intro p e s m args below meth c H locs cells slots R lsA hv
  exact lv_iand hv.1.1 hv.1.2.1 hd1 (by rw [hz]; exact k p e s m args below meth c H locs cells slots R lsA hv)
theorem v_ior {x y : Int32} {z : Int} (hd : DC (mCc mt) pc (.ior) 1 pc2) (hz : x ||| y = ii z) (k : V l g mt dp Z bc bs pc2 ls (.int (ii z) :: st) S I X) : V l g mt dp Z bc bs pc ls (.int y :: .int x :: st) S I X := by
  obtain ⟨hd1, rfl⟩ := hd
  intro p e s m args below meth c H locs cells slots R lsA hv
  exact lv_ior hv.1.1 hv.1.2.1 hd1 (by rw [hz]; exact k p e s m args below meth c H locs cells slots R lsA hv)
theorem v_ixor {x y : Int32} {z : Int} (hd : DC (mCc mt) pc (.ixor) 1 pc2) (hz : x ^^^ y = ii z) (k : V l g mt dp Z bc bs pc2 ls (.int (ii z) :: st) S I X) : V l g mt dp Z bc bs pc ls (.int y :: .int x :: st) S I X := by
  obtain ⟨hd1, rfl⟩ := hd
  intro p e s m args below meth c H locs cells slots R lsA hv
  exact lv_ixor hv.1.1 hv.1.2.1 hd1 (by rw [hz]; exact k p e s m args below meth c H locs cells slots R lsA hv)
theorem v_ishl {x y : Int32} {z : Int} (hd : DC (mCc mt) pc (.ishl) 1 pc2) (hz : x <<< (y &&& 31) = ii z) (k : V l g mt dp Z bc bs pc2 ls (.int (ii z) :: st) S I X) : V l g mt dp Z bc bs pc ls (.int y :: .int x :: st) S I X := by
  obtain ⟨hd1, rfl⟩ := hd
  intro p e s m args below meth c H locs cells slots R lsA hv
  exact lv_ishl hv.1.1 hv.1.2.1 hd1 (by rw [hz]; exact k p e s m args below meth c H locs cells slots R lsA hv)
theorem v_ishr {x y : Int32} {z : Int} (hd : DC (mCc mt) pc (.ishr) 1 pc2) (hz : x >>> (y &&& 31) = ii z) (k : V l g mt dp Z bc bs pc2 ls (.int (ii z) :: st) S I X) : V l g mt dp Z bc bs pc ls (.int y :: .int x :: st) S I X := by
  obtain ⟨hd1, rfl⟩ := hd
  intro p e s m args below meth c H locs cells slots R lsA hv
  exact lv_ishr hv.1.1 hv.1.2.1 hd1 (by rw [hz]; exact k p e s m args below meth c H locs cells slots R lsA hv)
theorem v_iushr {x y : Int32} {z : Int} (hd : DC (mCc mt) pc (.iushr) 1 pc2) (hz : (x.toUInt32 >>> (y.toUInt32 &&& Int32.toUInt32 31)).toInt32 = ii z) (k : V l g mt dp Z bc bs pc2 ls (.int (ii z) :: st) S I X) : V l g mt dp Z bc bs pc ls (.int y :: .int x :: st) S I X := by
  obtain ⟨hd1, rfl⟩ := hd
  intro p e s m args below meth c H locs cells slots R lsA hv
  exact lv_iushr hv.1.1 hv.1.2.1 hd1 hz (k p e s m args below meth c H locs cells slots R lsA hv)
theorem v_idiv {x y : Int32} {z : Int} (hd : DC (mCc mt) pc (.idiv) 1 pc2) (hn : ¬ y = 0) (hz : x / y = ii z) (k : V l g mt dp Z bc bs pc2 ls (.int (ii z) :: st) S I X) : V l g mt dp Z bc bs pc ls (.int y :: .int x :: st) S I X := by
  obtain ⟨hd1, rfl⟩ := hd
  intro p e s m args below meth c H locs cells slots R lsA hv
  exact lv_idiv hv.1.1 hv.1.2.1 hd1 hn (by rw [hz]; exact k p e s m args below meth c H locs cells slots R lsA hv)
theorem v_irem {x y : Int32} {z : Int} (hd : DC (mCc mt) pc (.irem) 1 pc2) (hn : ¬ y = 0) (hz : x - x / y * y = ii z) (k : V l g mt dp Z bc bs pc2 ls (.int (ii z) :: st) S I X) : V l g mt dp Z bc bs pc ls (.int y :: .int x :: st) S I X := by
  obtain ⟨hd1, rfl⟩ := hd
  intro p e s m args below meth c H locs cells slots R lsA hv
  exact lv_irem hv.1.1 hv.1.2.1 hd1 hn (by rw [hz]; exact k p e s m args below meth c H locs cells slots R lsA hv)
theorem v_ldiv {x y : Int64} {z : Int} (hd : DC (mCc mt) pc (.ldiv) 1 pc2) (hn : ¬ y = 0) (hz : x / y = jj z) (k : V l g mt dp Z bc bs pc2 ls (.long (jj z) :: st) S I X) : V l g mt dp Z bc bs pc ls (.long y :: .long x :: st) S I X := by
  obtain ⟨hd1, rfl⟩ := hd
  intro p e s m args below meth c H locs cells slots R lsA hv
  exact lv_ldiv hv.1.1 hv.1.2.1 hd1 hn (by rw [hz]; exact k p e s m args below meth c H locs cells slots R lsA hv)
theorem v_lcmp {x y : Int64} {z : Int} (hd : DC (mCc mt) pc (.lcmp) 1 pc2) (hz : lg_cmp x y = ii z) (k : V l g mt dp Z bc bs pc2 ls (.int (ii z) :: st) S I X) : V l g mt dp Z bc bs pc ls (.long y :: .long x :: st) S I X := by
  obtain ⟨hd1, rfl⟩ := hd
  intro p e s m args below meth c H locs cells slots R lsA hv
  exact W.lcmp hv.1.1 hv.1.2.1 hd1 (by rw [hz]; exact k p e s m args below meth c H locs cells slots R lsA hv)
theorem v_i2l {z : Int} (hd : DC (mCc mt) pc (.i2l) 1 pc2) (k : V l g mt dp Z bc bs pc2 ls (.long (jj z) :: st) S I X) (hr : -2147483648 ≤ z ∧ z < 2147483648 := by omega) : V l g mt dp Z bc bs pc ls (.int (ii z) :: st) S I X := by
  obtain ⟨hd1, rfl⟩ := hd
  intro p e s m args below meth c H locs cells slots R lsA hv
  exact lv_i2l hv.1.1 hv.1.2.1 hd1 (jj_of hr) (k p e s m args below meth c H locs cells slots R lsA hv)
theorem v_l2i {z : Int} (hd : DC (mCc mt) pc (.l2i) 1 pc2) (k : V l g mt dp Z bc bs pc2 ls (.int (ii z) :: st) S I X) (hr : -2147483648 ≤ z ∧ z < 2147483648 := by omega) : V l g mt dp Z bc bs pc ls (.long (jj z) :: st) S I X := by
  obtain ⟨hd1, rfl⟩ := hd
  intro p e s m args below meth c H locs cells slots R lsA hv
  exact lv_l2i hv.1.1 hv.1.2.1 hd1 (jj_i hr) (k p e s m args below meth c H locs cells slots R lsA hv)
theorem v_i2f {x : Int32} (hd : DC (mCc mt) pc (.i2f) 1 pc2) (k : V l g mt dp Z bc bs pc2 ls (.float (FP.i2f x) :: st) S I X) : V l g mt dp Z bc bs pc ls (.int x :: st) S I X := by
  obtain ⟨hd1, rfl⟩ := hd
  intro p e s m args below meth c H locs cells slots R lsA hv
  exact lv_i2f hv.1.1 hv.1.2.1 hd1 (k p e s m args below meth c H locs cells slots R lsA hv)
theorem v_f2d {x : UInt32} (hd : DC (mCc mt) pc (.f2d) 1 pc2) (hn : vf_n64 (FP.f2d x)) (k : V l g mt dp Z bc bs pc2 ls (.double (FP.f2d x) :: st) S I X) : V l g mt dp Z bc bs pc ls (.float x :: st) S I X := by
  obtain ⟨hd1, rfl⟩ := hd
  intro p e s m args below meth c H locs cells slots R lsA hv
  exact lv_f2d hv.1.1 hv.1.2.1 hd1 hn (k p e s m args below meth c H locs cells slots R lsA hv)
theorem v_fdiv {x y : UInt32} (hd : DC (mCc mt) pc (.fdiv) 1 pc2) (hn : vf_n32 (FP.fdiv x y)) (k : V l g mt dp Z bc bs pc2 ls (.float (FP.fdiv x y) :: st) S I X) : V l g mt dp Z bc bs pc ls (.float y :: .float x :: st) S I X := by
  obtain ⟨hd1, rfl⟩ := hd
  intro p e s m args below meth c H locs cells slots R lsA hv
  exact lv_fdiv hv.1.1 hv.1.2.1 hd1 hn (k p e s m args below meth c H locs cells slots R lsA hv)
theorem v_fcmp {x y : UInt32} {op : CmpOp} (hd : DC (mCc mt) pc (.fcmp op) 1 pc2) (k : V l g mt dp Z bc bs pc2 ls (.int (Op.cmpValue (FP.fcmp x y) op) :: st) S I X) : V l g mt dp Z bc bs pc ls (.float y :: .float x :: st) S I X := by
  obtain ⟨hd1, rfl⟩ := hd
  intro p e s m args below meth c H locs cells slots R lsA hv
  exact lv_fcmp hv.1.1 hv.1.2.1 hd1 (k p e s m args below meth c H locs cells slots R lsA hv)
theorem v_dcmp {x y : UInt64} {op : CmpOp} (hd : DC (mCc mt) pc (.dcmp op) 1 pc2) (k : V l g mt dp Z bc bs pc2 ls (.int (Op.cmpValue (FP.dcmp x y) op) :: st) S I X) : V l g mt dp Z bc bs pc ls (.double y :: .double x :: st) S I X := by
  obtain ⟨hd1, rfl⟩ := hd
  intro p e s m args below meth c H locs cells slots R lsA hv
  exact lv_dcmp hv.1.1 hv.1.2.1 hd1 (k p e s m args below meth c H locs cells slots R lsA hv)
theorem v_dup {v : Value} (hd : DC (mCc mt) pc (.dup) 1 pc2) (hc : v.category = 1) (k : V l g mt dp Z bc bs pc2 ls (v :: v :: st) S I X) : V l g mt dp Z bc bs pc ls (v :: st) S I X := by
  obtain ⟨hd1, rfl⟩ := hd
  intro p e s m args below meth c H locs cells slots R lsA hv
  exact lv_dup hv.1.1 hv.1.2.1 hd1 ((tv_cat g v).trans hc) (k p e s m args below meth c H locs cells slots R lsA hv)
theorem v_pop {v : Value} (hd : DC (mCc mt) pc (.pop) 1 pc2) (hc : v.category = 1) (k : V l g mt dp Z bc bs pc2 ls (st) S I X) : V l g mt dp Z bc bs pc ls (v :: st) S I X := by
  obtain ⟨hd1, rfl⟩ := hd
  intro p e s m args below meth c H locs cells slots R lsA hv
  exact lv_pop hv.1.1 hv.1.2.1 hd1 ((tv_cat g v).trans hc) (k p e s m args below meth c H locs cells slots R lsA hv)
theorem v_dup2 {v u : Value} (hd : DC (mCc mt) pc (.dup2) 1 pc2) (hc : v.category = 1) (hu : u.category = 1) (k : V l g mt dp Z bc bs pc2 ls (v :: u :: v :: u :: st) S I X) : V l g mt dp Z bc bs pc ls (v :: u :: st) S I X := by
  obtain ⟨hd1, rfl⟩ := hd
  intro p e s m args below meth c H locs cells slots R lsA hv
  exact lv_dup2_11 hv.1.1 hv.1.2.1 hd1 ((tv_cat g v).trans hc) ((tv_cat g u).trans hu) (k p e s m args below meth c H locs cells slots R lsA hv)
theorem v_istn0 {x : Int32} {b : Option Value} {t : List (Option Value)} (hd : DC (mCc mt) pc (.istore_n 0) 1 pc2) (k : V l g mt dp Z bc bs pc2 (some (.int x) :: t) st S I X) : V l g mt dp Z bc bs pc (b :: t) (.int x :: st) S I X := by
  obtain ⟨hd1, rfl⟩ := hd
  intro p e s m args below meth c H locs cells slots R lsA hv
  refine lv_istore_n (i := 0) hv.1.1 hv.1.2.1 hd1 rfl (LH_has hv.2.2.2.2.2) (LH_len hv.2.2.2.2.2 0 (by simp only [List.length_cons]; omega)) rfl (fun lsB hB => ?_)
  exact k p e s m args below meth c H locs cells slots R lsB ⟨hv.1, hv.2.1, hv.2.2.1, hv.2.2.2.1, hv.2.2.2.2.1, LH_st (i := 0) (v := .int x) hv.2.2.2.2.2 (fun u h => absurd rfl h) hB⟩
theorem v_astn0 {x : Nat} {b : Option Value} {t : List (Option Value)} (hd : DC (mCc mt) pc (.astore_n 0) 1 pc2) (k : V l g mt dp Z bc bs pc2 (some (.ref x) :: t) st S I X) : V l g mt dp Z bc bs pc (b :: t) (.ref x :: st) S I X := by
  obtain ⟨hd1, rfl⟩ := hd
  intro p e s m args below meth c H locs cells slots R lsA hv
  refine lv_astore_n (i := 0) hv.1.1 hv.1.2.1 hd1 rfl (LH_has hv.2.2.2.2.2) (LH_len hv.2.2.2.2.2 0 (by simp only [List.length_cons]; omega)) rfl (fun lsB hB => ?_)
  exact k p e s m args below meth c H locs cells slots R lsB ⟨hv.1, hv.2.1, hv.2.2.1, hv.2.2.2.1, hv.2.2.2.2.1, LH_st (i := 0) (v := .ref x) hv.2.2.2.2.2 (fun u h => absurd rfl h) hB⟩
theorem v_lstn0 {x : Int64} {b b2 : Option Value} {t : List (Option Value)} (hd : DC (mCc mt) pc (.lstore_n 0) 1 pc2) (k : V l g mt dp Z bc bs pc2 (some (.long x) :: none :: t) st S I X) : V l g mt dp Z bc bs pc (b :: b2 :: t) (.long x :: st) S I X := by
  obtain ⟨hd1, rfl⟩ := hd
  intro p e s m args below meth c H locs cells slots R lsA hv
  refine lv_lstore_n (i := 0) hv.1.1 hv.1.2.1 hd1 rfl (LH_has hv.2.2.2.2.2) (LH_len hv.2.2.2.2.2 1 (by simp only [List.length_cons]; omega)) rfl (fun lsB hB => ?_)
  exact k p e s m args below meth c H locs cells slots R lsB ⟨hv.1, hv.2.1, hv.2.2.1, hv.2.2.2.1, hv.2.2.2.2.1, LH_st2 (i := 0) (v := .long x) hv.2.2.2.2.2 (fun u h => absurd rfl h) hB⟩
theorem v_ist0 {x : Int32} {b : Option Value} {t : List (Option Value)} (hd : DC (mCc mt) pc (.istore 0) 2 pc2) (k : V l g mt dp Z bc bs pc2 (some (.int x) :: t) st S I X) : V l g mt dp Z bc bs pc (b :: t) (.int x :: st) S I X := by
  obtain ⟨hd1, rfl⟩ := hd
  intro p e s m args below meth c H locs cells slots R lsA hv
  refine lv_istore (i := 0) hv.1.1 hv.1.2.1 hd1 (LH_has hv.2.2.2.2.2) (LH_len hv.2.2.2.2.2 0 (by simp only [List.length_cons]; omega)) rfl (fun lsB hB => ?_)
  exact k p e s m args below meth c H locs cells slots R lsB ⟨hv.1, hv.2.1, hv.2.2.1, hv.2.2.2.1, hv.2.2.2.2.1, LH_st (i := 0) (v := .int x) hv.2.2.2.2.2 (fun u h => absurd rfl h) hB⟩
theorem v_ast0 {x : Nat} {b : Option Value} {t : List (Option Value)} (hd : DC (mCc mt) pc (.astore 0) 2 pc2) (k : V l g mt dp Z bc bs pc2 (some (.ref x) :: t) st S I X) : V l g mt dp Z bc bs pc (b :: t) (.ref x :: st) S I X := by
  obtain ⟨hd1, rfl⟩ := hd
  intro p e s m args below meth c H locs cells slots R lsA hv
  refine lv_astore (i := 0) hv.1.1 hv.1.2.1 hd1 (LH_has hv.2.2.2.2.2) (LH_len hv.2.2.2.2.2 0 (by simp only [List.length_cons]; omega)) rfl (fun lsB hB => ?_)
  exact k p e s m args below meth c H locs cells slots R lsB ⟨hv.1, hv.2.1, hv.2.2.1, hv.2.2.2.1, hv.2.2.2.2.1, LH_st (i := 0) (v := .ref x) hv.2.2.2.2.2 (fun u h => absurd rfl h) hB⟩
theorem v_fst0 {x : UInt32} {b : Option Value} {t : List (Option Value)} (hd : DC (mCc mt) pc (.fstore 0) 2 pc2) (k : V l g mt dp Z bc bs pc2 (some (.float x) :: t) st S I X) : V l g mt dp Z bc bs pc (b :: t) (.float x :: st) S I X := by
  obtain ⟨hd1, rfl⟩ := hd
  intro p e s m args below meth c H locs cells slots R lsA hv
  refine lv_fstore (i := 0) hv.1.1 hv.1.2.1 hd1 (LH_has hv.2.2.2.2.2) (LH_len hv.2.2.2.2.2 0 (by simp only [List.length_cons]; omega)) rfl (fun lsB hB => ?_)
  exact k p e s m args below meth c H locs cells slots R lsB ⟨hv.1, hv.2.1, hv.2.2.1, hv.2.2.2.1, hv.2.2.2.2.1, LH_st (i := 0) (v := .float x) hv.2.2.2.2.2 (fun u h => absurd rfl h) hB⟩
theorem v_lst0 {x : Int64} {b b2 : Option Value} {t : List (Option Value)} (hd : DC (mCc mt) pc (.lstore 0) 2 pc2) (k : V l g mt dp Z bc bs pc2 (some (.long x) :: none :: t) st S I X) : V l g mt dp Z bc bs pc (b :: b2 :: t) (.long x :: st) S I X := by
  obtain ⟨hd1, rfl⟩ := hd
  intro p e s m args below meth c H locs cells slots R lsA hv
  refine lv_lstore (i := 0) hv.1.1 hv.1.2.1 hd1 (LH_has hv.2.2.2.2.2) (LH_len hv.2.2.2.2.2 1 (by simp only [List.length_cons]; omega)) rfl (fun lsB hB => ?_)
  exact k p e s m args below meth c H locs cells slots R lsB ⟨hv.1, hv.2.1, hv.2.2.1, hv.2.2.2.1, hv.2.2.2.2.1, LH_st2 (i := 0) (v := .long x) hv.2.2.2.2.2 (fun u h => absurd rfl h) hB⟩
theorem v_iinc0 {z n : Int} {t : List (Option Value)} (hd : DC (mCc mt) pc (.iinc 0 n) 3 pc2) (k : V l g mt dp Z bc bs pc2 (some (.int (ii (z + n))) :: t) st S I X) : V l g mt dp Z bc bs pc (some (.int (ii z)) :: t) st S I X := by
  obtain ⟨hd1, rfl⟩ := hd
  intro p e s m args below meth c H locs cells slots R lsA hv
  obtain ⟨kx, hk⟩ := List.getElem?_of_mem (lvl_mem (g := g) (some (.int (ii z)) :: t) 0 0 (.int (ii z)) rfl)
  refine lv_iinc (i := 0) (k := kx) hv.1.1 hv.1.2.1 hd1 (LH_has hv.2.2.2.2.2) hk (ii_add z n).symm (LH_len hv.2.2.2.2.2 0 (by simp only [List.length_cons]; omega)) rfl (fun lsB hB => ?_)
  exact k p e s m args below meth c H locs cells slots R lsB ⟨hv.1, hv.2.1, hv.2.2.1, hv.2.2.2.1, hv.2.2.2.2.1, LH_st (i := 0) (v := .int (ii (z + n))) hv.2.2.2.2.2 (fun u h => absurd rfl h) hB⟩
theorem v_istn1 {x : Int32} {a0 b : Option Value} {t : List (Option Value)} (hd : DC (mCc mt) pc (.istore_n 1) 1 pc2) (hc : okc a0 = true) (k : V l g mt dp Z bc bs pc2 (a0 :: some (.int x) :: t) st S I X) : V l g mt dp Z bc bs pc (a0 :: b :: t) (.int x :: st) S I X := by
  obtain ⟨hd1, rfl⟩ := hd
  intro p e s m args below meth c H locs cells slots R lsA hv
  refine lv_istore_n (i := 1) hv.1.1 hv.1.2.1 hd1 rfl (LH_has hv.2.2.2.2.2) (LH_len hv.2.2.2.2.2 1 (by simp only [List.length_cons]; omega)) rfl (fun lsB hB => ?_)
  exact k p e s m args below meth c H locs cells slots R lsB ⟨hv.1, hv.2.1, hv.2.2.1, hv.2.2.2.1, hv.2.2.2.2.1, LH_st (i := 1) (v := .int x) hv.2.2.2.2.2 (okc_p (a := a0) rfl hc) hB⟩
theorem v_astn1 {x : Nat} {a0 b : Option Value} {t : List (Option Value)} (hd : DC (mCc mt) pc (.astore_n 1) 1 pc2) (hc : okc a0 = true) (k : V l g mt dp Z bc bs pc2 (a0 :: some (.ref x) :: t) st S I X) : V l g mt dp Z bc bs pc (a0 :: b :: t) (.ref x :: st) S I X := by
  obtain ⟨hd1, rfl⟩ := hd
  intro p e s m args below meth c H locs cells slots R lsA hv
  refine lv_astore_n (i := 1) hv.1.1 hv.1.2.1 hd1 rfl (LH_has hv.2.2.2.2.2) (LH_len hv.2.2.2.2.2 1 (by simp only [List.length_cons]; omega)) rfl (fun lsB hB => ?_)
  exact k p e s m args below meth c H locs cells slots R lsB ⟨hv.1, hv.2.1, hv.2.2.1, hv.2.2.2.1, hv.2.2.2.2.1, LH_st (i := 1) (v := .ref x) hv.2.2.2.2.2 (okc_p (a := a0) rfl hc) hB⟩
theorem v_lstn1 {x : Int64} {a0 b b2 : Option Value} {t : List (Option Value)} (hd : DC (mCc mt) pc (.lstore_n 1) 1 pc2) (hc : okc a0 = true) (k : V l g mt dp Z bc bs pc2 (a0 :: some (.long x) :: none :: t) st S I X) : V l g mt dp Z bc bs pc (a0 :: b :: b2 :: t) (.long x :: st) S I X := by
  obtain ⟨hd1, rfl⟩ := hd
  intro p e s m args below meth c H locs cells slots R lsA hv
  refine lv_lstore_n (i := 1) hv.1.1 hv.1.2.1 hd1 rfl (LH_has hv.2.2.2.2.2) (LH_len hv.2.2.2.2.2 2 (by simp only [List.length_cons]; omega)) rfl (fun lsB hB => ?_)
  exact k p e s m args below meth c H locs cells slots R lsB ⟨hv.1, hv.2.1, hv.2.2.1, hv.2.2.2.1, hv.2.2.2.2.1, LH_st2 (i := 1) (v := .long x) hv.2.2.2.2.2 (okc_p (a := a0) rfl hc) hB⟩
theorem v_ist1 {x : Int32} {a0 b : Option Value} {t : List (Option Value)} (hd : DC (mCc mt) pc (.istore 1) 2 pc2) (hc : okc a0 = true) (k : V l g mt dp Z bc bs pc2 (a0 :: some (.int x) :: t) st S I X) : V l g mt dp Z bc bs pc (a0 :: b :: t) (.int x :: st) S I X := by
  obtain ⟨hd1, rfl⟩ := hd
  intro p e s m args below meth c H locs cells slots R lsA hv
  refine lv_istore (i := 1) hv.1.1 hv.1.2.1 hd1 (LH_has hv.2.2.2.2.2) (LH_len hv.2.2.2.2.2 1 (by simp only [List.length_cons]; omega)) rfl (fun lsB hB => ?_)
  exact k p e s m args below meth c H locs cells slots R lsB ⟨hv.1, hv.2.1, hv.2.2.1, hv.2.2.2.1, hv.2.2.2.2.1, LH_st (i := 1) (v := .int x) hv.2.2.2.2.2 (okc_p (a := a0) rfl hc) hB⟩
theorem v_ast1 {x : Nat} {a0 b : Option Value} {t : List (Option Value)} (hd : DC (mCc mt) pc (.astore 1) 2 pc2) (hc : okc a0 = true) (k : V l g mt dp Z bc bs pc2 (a0 :: some (.ref x) :: t) st S I X) : V l g mt dp Z bc bs pc (a0 :: b :: t) (.ref x :: st) S I X := by
  obtain ⟨hd1, rfl⟩ := hd
  intro p e s m args below meth c H locs cells slots R lsA hv
  refine lv_astore (i := 1) hv.1.1 hv.1.2.1 hd1 (LH_has hv.2.2.2.2.2) (LH_len hv.2.2.2.2.2 1 (by simp only [List.length_cons]; omega)) rfl (fun lsB hB => ?_)
  exact k p e s m args below meth c H locs cells slots R lsB ⟨hv.1, hv.2.1, hv.2.2.1, hv.2.2.2.1, hv.2.2.2.2.1, LH_st (i := 1) (v := .ref x) hv.2.2.2.2.2 (okc_p (a := a0) rfl hc) hB⟩
theorem v_fst1 {x : UInt32} {a0 b : Option Value} {t : List (Option Value)} (hd : DC (mCc mt) pc (.fstore 1) 2 pc2) (hc : okc a0 = true) (k : V l g mt dp Z bc bs pc2 (a0 :: some (.float x) :: t) st S I X) : V l g mt dp Z bc bs pc (a0 :: b :: t) (.float x :: st) S I X := by
  obtain ⟨hd1, rfl⟩ := hd
  intro p e s m args below meth c H locs cells slots R lsA hv
  refine lv_fstore (i := 1) hv.1.1 hv.1.2.1 hd1 (LH_has hv.2.2.2.2.2) (LH_len hv.2.2.2.2.2 1 (by simp only [List.length_cons]; omega)) rfl (fun lsB hB => ?_)
  exact k p e s m args below meth c H locs cells slots R lsB ⟨hv.1, hv.2.1, hv.2.2.1, hv.2.2.2.1, hv.2.2.2.2.1, LH_st (i := 1) (v := .float x) hv.2.2.2.2.2 (okc_p (a := a0) rfl hc) hB⟩
theorem v_lst1 {x : Int64} {a0 b b2 : Option Value} {t : List (Option Value)} (hd : DC (mCc mt) pc (.lstore 1) 2 pc2) (hc : okc a0 = true) (k : V l g mt dp Z bc bs pc2 (a0 :: some (.long x) :: none :: t) st S I X) : V l g mt dp Z bc bs pc (a0 :: b :: b2 :: t) (.long x :: st) S I X := by
  obtain ⟨hd1, rfl⟩ := hd
  intro p e s m args below meth c H locs cells slots R lsA hv
  refine lv_lstore (i := 1) hv.1.1 hv.1.2.1 hd1 (LH_has hv.2.2.2.2.2) (LH_len hv.2.2.2.2.2 2 (by simp only [List.length_cons]; omega)) rfl (fun lsB hB => ?_)
  exact k p e s m args below meth c H locs cells slots R lsB ⟨hv.1, hv.2.1, hv.2.2.1, hv.2.2.2.1, hv.2.2.2.2.1, LH_st2 (i := 1) (v := .long x) hv.2.2.2.2.2 (okc_p (a := a0) rfl hc) hB⟩
theorem v_iinc1 {z n : Int} {a0 : Option Value} {t : List (Option Value)} (hd : DC (mCc mt) pc (.iinc 1 n) 3 pc2) (hc : okc a0 = true) (k : V l g mt dp Z bc bs pc2 (a0 :: some (.int (ii (z + n))) :: t) st S I X) : V l g mt dp Z bc bs pc (a0 :: some (.int (ii z)) :: t) st S I X := by
  obtain ⟨hd1, rfl⟩ := hd
  intro p e s m args below meth c H locs cells slots R lsA hv
  obtain ⟨kx, hk⟩ := List.getElem?_of_mem (lvl_mem (g := g) (a0 :: some (.int (ii z)) :: t) 0 1 (.int (ii z)) rfl)
  refine lv_iinc (i := 1) (k := kx) hv.1.1 hv.1.2.1 hd1 (LH_has hv.2.2.2.2.2) hk (ii_add z n).symm (LH_len hv.2.2.2.2.2 1 (by simp only [List.length_cons]; omega)) rfl (fun lsB hB => ?_)
  exact k p e s m args below meth c H locs cells slots R lsB ⟨hv.1, hv.2.1, hv.2.2.1, hv.2.2.2.1, hv.2.2.2.2.1, LH_st (i := 1) (v := .int (ii (z + n))) hv.2.2.2.2.2 (okc_p (a := a0) rfl hc) hB⟩
theorem v_istn2 {x : Int32} {a0 a1 b : Option Value} {t : List (Option Value)} (hd : DC (mCc mt) pc (.istore_n 2) 1 pc2) (hc : okc a1 = true) (k : V l g mt dp Z bc bs pc2 (a0 :: a1 :: some (.int x) :: t) st S I X) : V l g mt dp Z bc bs pc (a0 :: a1 :: b :: t) (.int x :: st) S I X := by
  obtain ⟨hd1, rfl⟩ := hd
  intro p e s m args below meth c H locs cells slots R lsA hv
  refine lv_istore_n (i := 2) hv.1.1 hv.1.2.1 hd1 rfl (LH_has hv.2.2.2.2.2) (LH_len hv.2.2.2.2.2 2 (by simp only [List.length_cons]; omega)) rfl (fun lsB hB => ?_)
  exact k p e s m args below meth c H locs cells slots R lsB ⟨hv.1, hv.2.1, hv.2.2.1, hv.2.2.2.1, hv.2.2.2.2.1, LH_st (i := 2) (v := .int x) hv.2.2.2.2.2 (okc_p (a := a1) rfl hc) hB⟩
theorem v_astn2 {x : Nat} {a0 a1 b : Option Value} {t : List (Option Value)} (hd : DC (mCc mt) pc (.astore_n 2) 1 pc2) (hc : okc a1 = true) (k : V l g mt dp Z bc bs pc2 (a0 :: a1 :: some (.ref x) :: t) st S I X) : V l g mt dp Z bc bs pc (a0 :: a1 :: b :: t) (.ref x :: st) S I X := by
  obtain ⟨hd1, rfl⟩ := hd
  intro p e s m args below meth c H locs cells slots R lsA hv
  refine lv_astore_n (i := 2) hv.1.1 hv.1.2.1 hd1 rfl (LH_has hv.2.2.2.2.2) (LH_len hv.2.2.2.2.2 2 (by simp only [List.length_cons]; omega)) rfl (fun lsB hB => ?_)
  exact k p e s m args below meth c H locs cells slots R lsB ⟨hv.1, hv.2.1, hv.2.2.1, hv.2.2.2.1, hv.2.2.2.2.1, LH_st (i := 2) (v := .ref x) hv.2.2.2.2.2 (okc_p (a := a1) rfl hc) hB⟩
theorem v_lstn2 {x : Int64} {a0 a1 b b2 : Option Value} {t : List (Option Value)} (hd : DC (mCc mt) pc (.lstore_n 2) 1 pc2) (hc : okc a1 = true) (k : V l g mt dp Z bc bs pc2 (a0 :: a1 :: some (.long x) :: none :: t) st S I X) : V l g mt dp Z bc bs pc (a0 :: a1 :: b :: b2 :: t) (.long x :: st) S I X := by
  obtain ⟨hd1, rfl⟩ := hd
  intro p e s m args below meth c H locs cells slots R lsA hv
  refine lv_lstore_n (i := 2) hv.1.1 hv.1.2.1 hd1 rfl (LH_has hv.2.2.2.2.2) (LH_len hv.2.2.2.2.2 3 (by simp only [List.length_cons]; omega)) rfl (fun lsB hB => ?_)
  exact k p e s m args below meth c H locs cells slots R lsB ⟨hv.1, hv.2.1, hv.2.2.1, hv.2.2.2.1, hv.2.2.2.2.1, LH_st2 (i := 2) (v := .long x) hv.2.2.2.2.2 (okc_p (a := a1) rfl hc) hB⟩
theorem v_ist2 {x : Int32} {a0 a1 b : Option Value} {t : List (Option Value)} (hd : DC (mCc mt) pc (.istore 2) 2 pc2) (hc : okc a1 = true) (k : V l g mt dp Z bc bs pc2 (a0 :: a1 :: some (.int x) :: t) st S I X) : V l g mt dp Z bc bs pc (a0 :: a1 :: b :: t) (.int x :: st) S I X := by
  obtain ⟨hd1, rfl⟩ := hd
  intro p e s m args below meth c H locs cells slots R lsA hv
  refine lv_istore (i := 2) hv.1.1 hv.1.2.1 hd1 (LH_has hv.2.2.2.2.2) (LH_len hv.2.2.2.2.2 2 (by simp only [List.length_cons]; omega)) rfl (fun lsB hB => ?_)
  exact k p e s m args below meth c H locs cells slots R lsB ⟨hv.1, hv.2.1, hv.2.2.1, hv.2.2.2.1, hv.2.2.2.2.1, LH_st (i := 2) (v := .int x) hv.2.2.2.2.2 (okc_p (a := a1) rfl hc) hB⟩
theorem v_ast2 {x : Nat} {a0 a1 b : Option Value} {t : List (Option Value)} (hd : DC (mCc mt) pc (.astore 2) 2 pc2) (hc : okc a1 = true) (k : V l g mt dp Z bc bs pc2 (a0 :: a1 :: some (.ref x) :: t) st S I X) : V l g mt dp Z bc bs pc (a0 :: a1 :: b :: t) (.ref x :: st) S I X := by
  obtain ⟨hd1, rfl⟩ := hd
  intro p e s m args below meth c H locs cells slots R lsA hv
  refine lv_astore (i := 2) hv.1.1 hv.1.2.1 hd1 (LH_has hv.2.2.2.2.2) (LH_len hv.2.2.2.2.2 2 (by simp only [List.length_cons]; omega)) rfl (fun lsB hB => ?_)
  exact k p e s m args below meth c H locs cells slots R lsB ⟨hv.1, hv.2.1, hv.2.2.1, hv.2.2.2.1, hv.2.2.2.2.1, LH_st (i := 2) (v := .ref x) hv.2.2.2.2.2 (okc_p (a := a1) rfl hc) hB⟩
theorem v_fst2 {x : UInt32} {a0 a1 b : Option Value} {t : List (Option Value)} (hd : DC (mCc mt) pc (.fstore 2) 2 pc2) (hc : okc a1 = true) (k : V l g mt dp Z bc bs pc2 (a0 :: a1 :: some (.float x) :: t) st S I X) : V l g mt dp Z bc bs pc (a0 :: a1 :: b :: t) (.float x :: st) S I X := by
  obtain ⟨hd1, rfl⟩ := hd
  intro p e s m args below meth c H locs cells slots R lsA hv
  refine lv_fstore (i := 2) hv.1.1 hv.1.2.1 hd1 (LH_has hv.2.2.2.2.2) (LH_len hv.2.2.2.2.2 2 (by simp only [List.length_cons]; omega)) rfl (fun lsB hB => ?_)
  exact k p e s m args below meth c H locs cells slots R lsB ⟨hv.1, hv.2.1, hv.2.2.1, hv.2.2.2.1, hv.2.2.2.2.1, LH_st (i := 2) (v := .float x) hv.2.2.2.2.2 (okc_p (a := a1) rfl hc) hB⟩
theorem v_lst2 {x : Int64} {a0 a1 b b2 : Option Value} {t : List (Option Value)} (hd : DC (mCc mt) pc (.lstore 2) 2 pc2) (hc : okc a1 = true) (k : V l g mt dp Z bc bs pc2 (a0 :: a1 :: some (.long x) :: none :: t) st S I X) : V l g mt dp Z bc bs pc (a0 :: a1 :: b :: b2 :: t) (.long x :: st) S I X := by
  obtain ⟨hd1, rfl⟩ := hd
  intro p e s m args below meth c H locs cells slots R lsA hv
  refine lv_lstore (i := 2) hv.1.1 hv.1.2.1 hd1 (LH_has hv.2.2.2.2.2) (LH_len hv.2.2.2.2.2 3 (by simp only [List.length_cons]; omega)) rfl (fun lsB hB => ?_)
  exact k p e s m args below meth c H locs cells slots R lsB ⟨hv.1, hv.2.1, hv.2.2.1, hv.2.2.2.1, hv.2.2.2.2.1, LH_st2 (i := 2) (v := .long x) hv.2.2.2.2.2 (okc_p (a := a1) rfl hc) hB⟩
theorem v_iinc2 {z n : Int} {a0 a1 : Option Value} {t : List (Option Value)} (hd : DC (mCc mt) pc (.iinc 2 n) 3 pc2) (hc : okc a1 = true) (k : V l g mt dp Z bc bs pc2 (a0 :: a1 :: some (.int (ii (z + n))) :: t) st S I X) : V l g mt dp Z bc bs pc (a0 :: a1 :: some (.int (ii z)) :: t) st S I X := by
  obtain ⟨hd1, rfl⟩ := hd
  intro p e s m args below meth c H locs cells slots R lsA hv
  obtain ⟨kx, hk⟩ := List.getElem?_of_mem (lvl_mem (g := g) (a0 :: a1 :: some (.int (ii z)) :: t) 0 2 (.int (ii z)) rfl)
  refine lv_iinc (i := 2) (k := kx) hv.1.1 hv.1.2.1 hd1 (LH_has hv.2.2.2.2.2) hk (ii_add z n).symm (LH_len hv.2.2.2.2.2 2 (by simp only [List.length_cons]; omega)) rfl (fun lsB hB => ?_)
  exact k p e s m args below meth c H locs cells slots R lsB ⟨hv.1, hv.2.1, hv.2.2.1, hv.2.2.2.1, hv.2.2.2.2.1, LH_st (i := 2) (v := .int (ii (z + n))) hv.2.2.2.2.2 (okc_p (a := a1) rfl hc) hB⟩
theorem v_istn3 {x : Int32} {a0 a1 a2 b : Option Value} {t : List (Option Value)} (hd : DC (mCc mt) pc (.istore_n 3) 1 pc2) (hc : okc a2 = true) (k : V l g mt dp Z bc bs pc2 (a0 :: a1 :: a2 :: some (.int x) :: t) st S I X) : V l g mt dp Z bc bs pc (a0 :: a1 :: a2 :: b :: t) (.int x :: st) S I X := by
  obtain ⟨hd1, rfl⟩ := hd
  intro p e s m args below meth c H locs cells slots R lsA hv
  refine lv_istore_n (i := 3) hv.1.1 hv.1.2.1 hd1 rfl (LH_has hv.2.2.2.2.2) (LH_len hv.2.2.2.2.2 3 (by simp only [List.length_cons]; omega)) rfl (fun lsB hB => ?_)
  exact k p e s m args below meth c H locs cells slots R lsB ⟨hv.1, hv.2.1, hv.2.2.1, hv.2.2.2.1, hv.2.2.2.2.1, LH_st (i := 3) (v := .int x) hv.2.2.2.2.2 (okc_p (a := a2) rfl hc) hB⟩
theorem v_astn3 {x : Nat} {a0 a1 a2 b : Option Value} {t : List (Option Value)} (hd : DC (mCc mt) pc (.astore_n 3) 1 pc2) (hc : okc a2 = true) (k : V l g mt dp Z bc bs pc2 (a0 :: a1 :: a2 :: some (.ref x) :: t) st S I X) : V l g mt dp Z bc bs pc (a0 :: a1 :: a2 :: b :: t) (.ref x :: st) S I X := by
  obtain ⟨hd1, rfl⟩ := hd
  intro p e s m args below meth c H locs cells slots R lsA hv
  refine lv_astore_n (i := 3) hv.1.1 hv.1.2.1 hd1 rfl (LH_has hv.2.2.2.2.2) (LH_len hv.2.2.2.2.2 3 (by simp only [List.length_cons]; omega)) rfl (fun lsB hB => ?_)
  exact k p e s m args below meth c H locs cells slots R lsB ⟨hv.1, hv.2.1, hv.2.2.1, hv.2.2.2.1, hv.2.2.2.2.1, LH_st (i := 3) (v := .ref x) hv.2.2.2.2.2 (okc_p (a := a2) rfl hc) hB⟩
theorem v_lstn3 {x : Int64} {a0 a1 a2 b b2 : Option Value} {t : List (Option Value)} (hd : DC (mCc mt) pc (.lstore_n 3) 1 pc2) (hc : okc a2 = true) (k : V l g mt dp Z bc bs pc2 (a0 :: a1 :: a2 :: some (.long x) :: none :: t) st S I X) : V l g mt dp Z bc bs pc (a0 :: a1 :: a2 :: b :: b2 :: t) (.long x :: st) S I X := by
  obtain ⟨hd1, rfl⟩ := hd
  intro p e s m args below meth c H locs cells slots R lsA hv
  refine lv_lstore_n (i := 3) hv.1.1 hv.1.2.1 hd1 rfl (LH_has hv.2.2.2.2.2) (LH_len hv.2.2.2.2.2 4 (by simp only [List.length_cons]; omega)) rfl (fun lsB hB => ?_)
  exact k p e s m args below meth c H locs cells slots R lsB ⟨hv.1, hv.2.1, hv.2.2.1, hv.2.2.2.1, hv.2.2.2.2.1, LH_st2 (i := 3) (v := .long x) hv.2.2.2.2.2 (okc_p (a := a2) rfl hc) hB⟩
theorem v_ist3 {x : Int32} {a0 a1 a2 b : Option Value} {t : List (Option Value)} (hd : DC (mCc mt) pc (.istore 3) 2 pc2) (hc : okc a2 = true) (k : V l g mt dp Z bc bs pc2 (a0 :: a1 :: a2 :: some (.int x) :: t) st S I X) : V l g mt dp Z bc bs pc (a0 :: a1 :: a2 :: b :: t) (.int x :: st) S I X := by
  obtain ⟨hd1, rfl⟩ := hd
  intro p e s m args below meth c H locs cells slots R lsA hv
  refine lv_istore (i := 3) hv.1.1 hv.1.2.1 hd1 (LH_has hv.2.2.2.2.2) (LH_len hv.2.2.2.2.2 3 (by simp only [List.length_cons]; omega)) rfl (fun lsB hB => ?_)
  exact k p e s m args below meth c H locs cells slots R lsB ⟨hv.1, hv.2.1, hv.2.2.1, hv.2.2.2.1, hv.2.2.2.2.1, LH_st (i := 3) (v := .int x) hv.2.2.2.2.2 (okc_p (a := a2) rfl hc) hB⟩
theorem v_ast3 {x : Nat} {a0 a1 a2 b : Option Value} {t : List (Option Value)} (hd : DC (mCc mt) pc (.astore 3) 2 pc2) (hc : okc a2 = true) (k : V l g mt dp Z bc bs pc2 (a0 :: a1 :: a2 :: some (.ref x) :: t) st S I X) : V l g mt dp Z bc bs pc (a0 :: a1 :: a2 :: b :: t) (.ref x :: st) S I X := by
  obtain ⟨hd1, rfl⟩ := hd
  intro p e s m args below meth c H locs cells slots R lsA hv
  refine lv_astore (i := 3) hv.1.1 hv.1.2.1 hd1 (LH_has hv.2.2.2.2.2) (LH_len hv.2.2.2.2.2 3 (by simp only [List.length_cons]; omega)) rfl (fun lsB hB => ?_)
  exact k p e s m args below meth c H locs cells slots R lsB ⟨hv.1, hv.2.1, hv.2.2.1, hv.2.2.2.1, hv.2.2.2.2.1, LH_st (i := 3) (v := .ref x) hv.2.2.2.2.2 (okc_p (a := a2) rfl hc) hB⟩
theorem v_fst3 {x : UInt32} {a0 a1 a2 b : Option Value} {t : List (Option Value)} (hd : DC (mCc mt) pc (.fstore 3) 2 pc2) (hc : okc a2 = true) (k : V l g mt dp Z bc bs pc2 (a0 :: a1 :: a2 :: some (.float x) :: t) st S I X) : V l g mt dp Z bc bs pc (a0 :: a1 :: a2 :: b :: t) (.float x :: st) S I X := by
  obtain ⟨hd1, rfl⟩ := hd
  intro p e s m args below meth c H locs cells slots R lsA hv
  refine lv_fstore (i := 3) hv.1.1 hv.1.2.1 hd1 (LH_has hv.2.2.2.2.2) (LH_len hv.2.2.2.2.2 3 (by simp only [List.length_cons]; omega)) rfl (fun lsB hB => ?_)
  exact k p e s m args below meth c H locs cells slots R lsB ⟨hv.1, hv.2.1, hv.2.2.1, hv.2.2.2.1, hv.2.2.2.2.1, LH_st (i := 3) (v := .float x) hv.2.2.2.2.2 (okc_p (a := a2) rfl hc) hB⟩
theorem v_lst3 {x : Int64} {a0 a1 a2 b b2 : Option Value} {t : List (Option Value)} (hd : DC (mCc mt) pc (.lstore 3) 2 pc2) (hc : okc a2 = true) (k : V l g mt dp Z bc bs pc2 (a0 :: a1 :: a2 :: some (.long x) :: none :: t) st S I X) : V l g mt dp Z bc bs pc (a0 :: a1 :: a2 :: b :: b2 :: t) (.long x :: st) S I X := by
  obtain ⟨hd1, rfl⟩ := hd
  intro p e s m args below meth c H locs cells slots R lsA hv
  refine lv_lstore (i := 3) hv.1.1 hv.1.2.1 hd1 (LH_has hv.2.2.2.2.2) (LH_len hv.2.2.2.2.2 4 (by simp only [List.length_cons]; omega)) rfl (fun lsB hB => ?_)
  exact k p e s m args below meth c H locs cells slots R lsB ⟨hv.1, hv.2.1, hv.2.2.1, hv.2.2.2.1, hv.2.2.2.2.1, LH_st2 (i := 3) (v := .long x) hv.2.2.2.2.2 (okc_p (a := a2) rfl hc) hB⟩
theorem v_iinc3 {z n : Int} {a0 a1 a2 : Option Value} {t : List (Option Value)} (hd : DC (mCc mt) pc (.iinc 3 n) 3 pc2) (hc : okc a2 = true) (k : V l g mt dp Z bc bs pc2 (a0 :: a1 :: a2 :: some (.int (ii (z + n))) :: t) st S I X) : V l g mt dp Z bc bs pc (a0 :: a1 :: a2 :: some (.int (ii z)) :: t) st S I X := by
  obtain ⟨hd1, rfl⟩ := hd
  intro p e s m args below meth c H locs cells slots R lsA hv
  obtain ⟨kx, hk⟩ := List.getElem?_of_mem (lvl_mem (g := g) (a0 :: a1 :: a2 :: some (.int (ii z)) :: t) 0 3 (.int (ii z)) rfl)
  refine lv_iinc (i := 3) (k := kx) hv.1.1 hv.1.2.1 hd1 (LH_has hv.2.2.2.2.2) hk (ii_add z n).symm (LH_len hv.2.2.2.2.2 3 (by simp only [List.length_cons]; omega)) rfl (fun lsB hB => ?_)
  exact k p e s m args below meth c H locs cells slots R lsB ⟨hv.1, hv.2.1, hv.2.2.1, hv.2.2.2.1, hv.2.2.2.2.1, LH_st (i := 3) (v := .int (ii (z + n))) hv.2.2.2.2.2 (okc_p (a := a2) rfl hc) hB⟩
theorem v_ist4 {x : Int32} {a0 a1 a2 a3 b : Option Value} {t : List (Option Value)} (hd : DC (mCc mt) pc (.istore 4) 2 pc2) (hc : okc a3 = true) (k : V l g mt dp Z bc bs pc2 (a0 :: a1 :: a2 :: a3 :: some (.int x) :: t) st S I X) : V l g mt dp Z bc bs pc (a0 :: a1 :: a2 :: a3 :: b :: t) (.int x :: st) S I X := by
  obtain ⟨hd1, rfl⟩ := hd
  intro p e s m args below meth c H locs cells slots R lsA hv
  refine lv_istore (i := 4) hv.1.1 hv.1.2.1 hd1 (LH_has hv.2.2.2.2.2) (LH_len hv.2.2.2.2.2 4 (by simp only [List.length_cons]; omega)) rfl (fun lsB hB => ?_)
  exact k p e s m args below meth c H locs cells slots R lsB ⟨hv.1, hv.2.1, hv.2.2.1, hv.2.2.2.1, hv.2.2.2.2.1, LH_st (i := 4) (v := .int x) hv.2.2.2.2.2 (okc_p (a := a3) rfl hc) hB⟩
theorem v_ast4 {x : Nat} {a0 a1 a2 a3 b : Option Value} {t : List (Option Value)} (hd : DC (mCc mt) pc (.astore 4) 2 pc2) (hc : okc a3 = true) (k : V l g mt dp Z bc bs pc2 (a0 :: a1 :: a2 :: a3 :: some (.ref x) :: t) st S I X) : V l g mt dp Z bc bs pc (a0 :: a1 :: a2 :: a3 :: b :: t) (.ref x :: st) S I X := by
  obtain ⟨hd1, rfl⟩ := hd
  intro p e s m args below meth c H locs cells slots R lsA hv
  refine lv_astore (i := 4) hv.1.1 hv.1.2.1 hd1 (LH_has hv.2.2.2.2.2) (LH_len hv.2.2.2.2.2 4 (by simp only [List.length_cons]; omega)) rfl (fun lsB hB => ?_)
  exact k p e s m args below meth c H locs cells slots R lsB ⟨hv.1, hv.2.1, hv.2.2.1, hv.2.2.2.1, hv.2.2.2.2.1, LH_st (i := 4) (v := .ref x) hv.2.2.2.2.2 (okc_p (a := a3) rfl hc) hB⟩
theorem v_fst4 {x : UInt32} {a0 a1 a2 a3 b : Option Value} {t : List (Option Value)} (hd : DC (mCc mt) pc (.fstore 4) 2 pc2) (hc : okc a3 = true) (k : V l g mt dp Z bc bs pc2 (a0 :: a1 :: a2 :: a3 :: some (.float x) :: t) st S I X) : V l g mt dp Z bc bs pc (a0 :: a1 :: a2 :: a3 :: b :: t) (.float x :: st) S I X := by
  obtain ⟨hd1, rfl⟩ := hd
  intro p e s m args below meth c H locs cells slots R lsA hv
  refine lv_fstore (i := 4) hv.1.1 hv.1.2.1 hd1 (LH_has hv.2.2.2.2.2) (LH_len hv.2.2.2.2.2 4 (by simp only [List.length_cons]; omega)) rfl (fun lsB hB => ?_)
  exact k p e s m args below meth c H locs cells slots R lsB ⟨hv.1, hv.2.1, hv.2.2.1, hv.2.2.2.1, hv.2.2.2.2.1, LH_st (i := 4) (v := .float x) hv.2.2.2.2.2 (okc_p (a := a3) rfl hc) hB⟩
theorem v_lst4 {x : Int64} {a0 a1 a2 a3 b b2 : Option Value} {t : List (Option Value)} (hd : DC (mCc mt) pc (.lstore 4) 2 pc2) (hc : okc a3 = true) (k : V l g mt dp Z bc bs pc2 (a0 :: a1 :: a2 :: a3 :: some (.long x) :: none :: t) st S I X) : V l g mt dp Z bc bs pc (a0 :: a1 :: a2 :: a3 :: b :: b2 :: t) (.long x :: st) S I X := by
  obtain ⟨hd1, rfl⟩ := hd
  intro p e s m args below meth c H locs cells slots R lsA hv
  refine lv_lstore (i := 4) hv.1.1 hv.1.2.1 hd1 (LH_has hv.2.2.2.2.2) (LH_len hv.2.2.2.2.2 5 (by simp only [List.length_cons]; omega)) rfl (fun lsB hB => ?_)
  exact k p e s m args below meth c H locs cells slots R lsB ⟨hv.1, hv.2.1, hv.2.2.1, hv.2.2.2.1, hv.2.2.2.2.1, LH_st2 (i := 4) (v := .long x) hv.2.2.2.2.2 (okc_p (a := a3) rfl hc) hB⟩
theorem v_iinc4 {z n : Int} {a0 a1 a2 a3 : Option Value} {t : List (Option Value)} (hd : DC (mCc mt) pc (.iinc 4 n) 3 pc2) (hc : okc a3 = true) (k : V l g mt dp Z bc bs pc2 (a0 :: a1 :: a2 :: a3 :: some (.int (ii (z + n))) :: t) st S I X) : V l g mt dp Z bc bs pc (a0 :: a1 :: a2 :: a3 :: some (.int (ii z)) :: t) st S I X := by
  obtain ⟨hd1, rfl⟩ := hd
  intro p e s m args below meth c H locs cells slots R lsA hv
  obtain ⟨kx, hk⟩ := List.getElem?_of_mem (lvl_mem (g := g) (a0 :: a1 :: a2 :: a3 :: some (.int (ii z)) :: t) 0 4 (.int (ii z)) rfl)
  refine lv_iinc (i := 4) (k := kx) hv.1.1 hv.1.2.1 hd1 (LH_has hv.2.2.2.2.2) hk (ii_add z n).symm (LH_len hv.2.2.2.2.2 4 (by simp only [List.length_cons]; omega)) rfl (fun lsB hB => ?_)
  exact k p e s m args below meth c H locs cells slots R lsB ⟨hv.1, hv.2.1, hv.2.2.1, hv.2.2.2.1, hv.2.2.2.2.1, LH_st (i := 4) (v := .int (ii (z + n))) hv.2.2.2.2.2 (okc_p (a := a3) rfl hc) hB⟩
theorem v_ist5 {x : Int32} {a0 a1 a2 a3 a4 b : Option Value} {t : List (Option Value)} (hd : DC (mCc mt) pc (.istore 5) 2 pc2) (hc : okc a4 = true) (k : V l g mt dp Z bc bs pc2 (a0 :: a1 :: a2 :: a3 :: a4 :: some (.int x) :: t) st S I X) : V l g mt dp Z bc bs pc (a0 :: a1 :: a2 :: a3 :: a4 :: b :: t) (.int x :: st) S I X := by
  obtain ⟨hd1, rfl⟩ := hd
  intro p e s m args below meth c H locs cells slots R lsA hv
  refine lv_istore (i := 5) hv.1.1 hv.1.2.1 hd1 (LH_has hv.2.2.2.2.2) (LH_len hv.2.2.2.2.2 5 (by simp only [List.length_cons]; omega)) rfl (fun lsB hB => ?_)
  exact k p e s m args below meth c H locs cells slots R lsB ⟨hv.1, hv.2.1, hv.2.2.1, hv.2.2.2.1, hv.2.2.2.2.1, LH_st (i := 5) (v := .int x) hv.2.2.2.2.2 (okc_p (a := a4) rfl hc) hB⟩
theorem v_ast5 {x : Nat} {a0 a1 a2 a3 a4 b : Option Value} {t : List (Option Value)} (hd : DC (mCc mt) pc (.astore 5) 2 pc2) (hc : okc a4 = true) (k : V l g mt dp Z bc bs pc2 (a0 :: a1 :: a2 :: a3 :: a4 :: some (.ref x) :: t) st S I X) : V l g mt dp Z bc bs pc (a0 :: a1 :: a2 :: a3 :: a4 :: b :: t) (.ref x :: st) S I X := by
  obtain ⟨hd1, rfl⟩ := hd
  intro p e s m args below meth c H locs cells slots R lsA hv
  refine lv_astore (i := 5) hv.1.1 hv.1.2.1 hd1 (LH_has hv.2.2.2.2.2) (LH_len hv.2.2.2.2.2 5 (by simp only [List.length_cons]; omega)) rfl (fun lsB hB => ?_)
  exact k p e s m args below meth c H locs cells slots R lsB ⟨hv.1, hv.2.1, hv.2.2.1, hv.2.2.2.1, hv.2.2.2.2.1, LH_st (i := 5) (v := .ref x) hv.2.2.2.2.2 (okc_p (a := a4) rfl hc) hB⟩
theorem v_fst5 {x : UInt32} {a0 a1 a2 a3 a4 b : Option Value} {t : List (Option Value)} (hd : DC (mCc mt) pc (.fstore 5) 2 pc2) (hc : okc a4 = true) (k : V l g mt dp Z bc bs pc2 (a0 :: a1 :: a2 :: a3 :: a4 :: some (.float x) :: t) st S I X) : V l g mt dp Z bc bs pc (a0 :: a1 :: a2 :: a3 :: a4 :: b :: t) (.float x :: st) S I X := by
  obtain ⟨hd1, rfl⟩ := hd
  intro p e s m args below meth c H locs cells slots R lsA hv
  refine lv_fstore (i := 5) hv.1.1 hv.1.2.1 hd1 (LH_has hv.2.2.2.2.2) (LH_len hv.2.2.2.2.2 5 (by simp only [List.length_cons]; omega)) rfl (fun lsB hB => ?_)
  exact k p e s m args below meth c H locs cells slots R lsB ⟨hv.1, hv.2.1, hv.2.2.1, hv.2.2.2.1, hv.2.2.2.2.1, LH_st (i := 5) (v := .float x) hv.2.2.2.2.2 (okc_p (a := a4) rfl hc) hB⟩
theorem v_lst5 {x : Int64} {a0 a1 a2 a3 a4 b b2 : Option Value} {t : List (Option Value)} (hd : DC (mCc mt) pc (.lstore 5) 2 pc2) (hc : okc a4 = true) (k : V l g mt dp Z bc bs pc2 (a0 :: a1 :: a2 :: a3 :: a4 :: some (.long x) :: none :: t) st S I X) : V l g mt dp Z bc bs pc (a0 :: a1 :: a2 :: a3 :: a4 :: b :: b2 :: t) (.long x :: st) S I X := by
  obtain ⟨hd1, rfl⟩ := hd
  intro p e s m args below meth c H locs cells slots R lsA hv
  refine lv_lstore (i := 5) hv.1.1 hv.1.2.1 hd1 (LH_has hv.2.2.2.2.2) (LH_len hv.2.2.2.2.2 6 (by simp only [List.length_cons]; omega)) rfl (fun lsB hB => ?_)
  exact k p e s m args below meth c H locs cells slots R lsB ⟨hv.1, hv.2.1, hv.2.2.1, hv.2.2.2.1, hv.2.2.2.2.1, LH_st2 (i := 5) (v := .long x) hv.2.2.2.2.2 (okc_p (a := a4) rfl hc) hB⟩
theorem v_iinc5 {z n : Int} {a0 a1 a2 a3 a4 : Option Value} {t : List (Option Value)} (hd : DC (mCc mt) pc (.iinc 5 n) 3 pc2) (hc : okc a4 = true) (k : V l g mt dp Z bc bs pc2 (a0 :: a1 :: a2 :: a3 :: a4 :: some (.int (ii (z + n))) :: t) st S I X) : V l g mt dp Z bc bs pc (a0 :: a1 :: a2 :: a3 :: a4 :: some (.int (ii z)) :: t) st S I X := by
  obtain ⟨hd1, rfl⟩ := hd
  intro p e s m args below meth c H locs cells slots R lsA hv
  obtain ⟨kx, hk⟩ := List.getElem?_of_mem (lvl_mem (g := g) (a0 :: a1 :: a2 :: a3 :: a4 :: some (.int (ii z)) :: t) 0 5 (.int (ii z)) rfl)
  refine lv_iinc (i := 5) (k := kx) hv.1.1 hv.1.2.1 hd1 (LH_has hv.2.2.2.2.2) hk (ii_add z n).symm (LH_len hv.2.2.2.2.2 5 (by simp only [List.length_cons]; omega)) rfl (fun lsB hB => ?_)
  exact k p e s m args below meth c H locs cells slots R lsB ⟨hv.1, hv.2.1, hv.2.2.1, hv.2.2.2.1, hv.2.2.2.2.1, LH_st (i := 5) (v := .int (ii (z + n))) hv.2.2.2.2.2 (okc_p (a := a4) rfl hc) hB⟩
theorem v_ist6 {x : Int32} {a0 a1 a2 a3 a4 a5 b : Option Value} {t : List (Option Value)} (hd : DC (mCc mt) pc (.istore 6) 2 pc2) (hc : okc a5 = true) (k : V l g mt dp Z bc bs pc2 (a0 :: a1 :: a2 :: a3 :: a4 :: a5 :: some (.int x) :: t) st S I X) : V l g mt dp Z bc bs pc (a0 :: a1 :: a2 :: a3 :: a4 :: a5 :: b :: t) (.int x :: st) S I X := by
  obtain ⟨hd1, rfl⟩ := hd
  intro p e s m args below meth c H locs cells slots R lsA hv
  refine lv_istore (i := 6) hv.1.1 hv.1.2.1 hd1 (LH_has hv.2.2.2.2.2) (LH_len hv.2.2.2.2.2 6 (by simp only [List.length_cons]; omega)) rfl (fun lsB hB => ?_)
  exact k p e s m args below meth c H locs cells slots R lsB ⟨hv.1, hv.2.1, hv.2.2.1, hv.2.2.2.1, hv.2.2.2.2.1, LH_st (i := 6) (v := .int x) hv.2.2.2.2.2 (okc_p (a := a5) rfl hc) hB⟩
theorem v_ast6 {x : Nat} {a0 a1 a2 a3 a4 a5 b : Option Value} {t : List (Option Value)} (hd : DC (mCc mt) pc (.astore 6) 2 pc2) (hc : okc a5 = true) (k : V l g mt dp Z bc bs pc2 (a0 :: a1 :: a2 :: a3 :: a4 :: a5 :: some (.ref x) :: t) st S I X) : V l g mt dp Z bc bs pc (a0 :: a1 :: a2 :: a3 :: a4 :: a5 :: b :: t) (.ref x :: st) S I X := by
  obtain ⟨hd1, rfl⟩ := hd
  intro p e s m args below meth c H locs cells slots R lsA hv
  refine lv_astore (i := 6) hv.1.1 hv.1.2.1 hd1 (LH_has hv.2.2.2.2.2) (LH_len hv.2.2.2.2.2 6 (by simp only [List.length_cons]; omega)) rfl (fun lsB hB => ?_)
  exact k p e s m args below meth c H locs cells slots R lsB ⟨hv.1, hv.2.1, hv.2.2.1, hv.2.2.2.1, hv.2.2.2.2.1, LH_st (i := 6) (v := .ref x) hv.2.2.2.2.2 (okc_p (a := a5) rfl hc) hB⟩
theorem v_fst6 {x : UInt32} {a0 a1 a2 a3 a4 a5 b : Option Value} {t : List (Option Value)} (hd : DC (mCc mt) pc (.fstore 6) 2 pc2) (hc : okc a5 = true) (k : V l g mt dp Z bc bs pc2 (a0 :: a1 :: a2 :: a3 :: a4 :: a5 :: some (.float x) :: t) st S I X) : V l g mt dp Z bc bs pc (a0 :: a1 :: a2 :: a3 :: a4 :: a5 :: b :: t) (.float x :: st) S I X := by
  obtain ⟨hd1, rfl⟩ := hd
  intro p e s m args below meth c H locs cells slots R lsA hv
  refine lv_fstore (i := 6) hv.1.1 hv.1.2.1 hd1 (LH_has hv.2.2.2.2.2) (LH_len hv.2.2.2.2.2 6 (by simp only [List.length_cons]; omega)) rfl (fun lsB hB => ?_)
  exact k p e s m args below meth c H locs cells slots R lsB ⟨hv.1, hv.2.1, hv.2.2.1, hv.2.2.2.1, hv.2.2.2.2.1, LH_st (i := 6) (v := .float x) hv.2.2.2.2.2 (okc_p (a := a5) rfl hc) hB⟩
theorem v_lst6 {x : Int64} {a0 a1 a2 a3 a4 a5 b b2 : Option Value} {t : List (Option Value)} (hd : DC (mCc mt) pc (.lstore 6) 2 pc2) (hc : okc a5 = true) (k : V l g mt dp Z bc bs pc2 (a0 :: a1 :: a2 :: a3 :: a4 :: a5 :: some (.long x) :: none :: t) st S I X) : V l g mt dp Z bc bs pc (a0 :: a1 :: a2 :: a3 :: a4 :: a5 :: b :: b2 :: t) (.long x :: st) S I X := by
  obtain ⟨hd1, rfl⟩ := hd
  intro p e s m args below meth c H locs cells slots R lsA hv
  refine lv_lstore (i := 6) hv.1.1 hv.1.2.1 hd1 (LH_has hv.2.2.2.2.2) (LH_len hv.2.2.2.2.2 7 (by simp only [List.length_cons]; omega)) rfl (fun lsB hB => ?_)
  exact k p e s m args below meth c H locs cells slots R lsB ⟨hv.1, hv.2.1, hv.2.2.1, hv.2.2.2.1, hv.2.2.2.2.1, LH_st2 (i := 6) (v := .long x) hv.2.2.2.2.2 (okc_p (a := a5) rfl hc) hB⟩
theorem v_iinc6 {z n : Int} {a0 a1 a2 a3 a4 a5 : Option Value} {t : List (Option Value)} (hd : DC (mCc mt) pc (.iinc 6 n) 3 pc2) (hc : okc a5 = true) (k : V l g mt dp Z bc bs pc2 (a0 :: a1 :: a2 :: a3 :: a4 :: a5 :: some (.int (ii (z + n))) :: t) st S I X) : V l g mt dp Z bc bs pc (a0 :: a1 :: a2 :: a3 :: a4 :: a5 :: some (.int (ii z)) :: t) st S I X := by
  obtain ⟨hd1, rfl⟩ := hd
  intro p e s m args below meth c H locs cells slots R lsA hv
  obtain ⟨kx, hk⟩ := List.getElem?_of_mem (lvl_mem (g := g) (a0 :: a1 :: a2 :: a3 :: a4 :: a5 :: some (.int (ii z)) :: t) 0 6 (.int (ii z)) rfl)
  refine lv_iinc (i := 6) (k := kx) hv.1.1 hv.1.2.1 hd1 (LH_has hv.2.2.2.2.2) hk (ii_add z n).symm (LH_len hv.2.2.2.2.2 6 (by simp only [List.length_cons]; omega)) rfl (fun lsB hB => ?_)
  exact k p e s m args below meth c H locs cells slots R lsB ⟨hv.1, hv.2.1, hv.2.2.1, hv.2.2.2.1, hv.2.2.2.2.1, LH_st (i := 6) (v := .int (ii (z + n))) hv.2.2.2.2.2 (okc_p (a := a5) rfl hc) hB⟩
theorem v_ist7 {x : Int32} {a0 a1 a2 a3 a4 a5 a6 b : Option Value} {t : List (Option Value)} (hd : DC (mCc mt) pc (.istore 7) 2 pc2) (hc : okc a6 = true) (k : V l g mt dp Z bc bs pc2 (a0 :: a1 :: a2 :: a3 :: a4 :: a5 :: a6 :: some (.int x) :: t) st S I X) : V l g mt dp Z bc bs pc (a0 :: a1 :: a2 :: a3 :: a4 :: a5 :: a6 :: b :: t) (.int x :: st) S I X := by
  obtain ⟨hd1, rfl⟩ := hd
  intro p e s m args below meth c H locs cells slots R lsA hv
  refine lv_istore (i := 7) hv.1.1 hv.1.2.1 hd1 (LH_has hv.2.2.2.2.2) (LH_len hv.2.2.2.2.2 7 (by simp only [List.length_cons]; omega)) rfl (fun lsB hB => ?_)
  exact k p e s m args below meth c H locs cells slots R lsB ⟨hv.1, hv.2.1, hv.2.2.1, hv.2.2.2.1, hv.2.2.2.2.1, LH_st (i := 7) (v := .int x) hv.2.2.2.2.2 (okc_p (a := a6) rfl hc) hB⟩
theorem v_ast7 {x : Nat} {a0 a1 a2 a3 a4 a5 a6 b : Option Value} {t : List (Option Value)} (hd : DC (mCc mt) pc (.astore 7) 2 pc2) (hc : okc a6 = true) (k : V l g mt dp Z bc bs pc2 (a0 :: a1 :: a2 :: a3 :: a4 :: a5 :: a6 :: some (.ref x) :: t) st S I X) : V l g mt dp Z bc bs pc (a0 :: a1 :: a2 :: a3 :: a4 :: a5 :: a6 :: b :: t) (.ref x :: st) S I X := by
  obtain ⟨hd1, rfl⟩ := hd
  intro p e s m args below meth c H locs cells slots R lsA hv
  refine lv_astore (i := 7) hv.1.1 hv.1.2.1 hd1 (LH_has hv.2.2.2.2.2) (LH_len hv.2.2.2.2.2 7 (by simp only [List.length_cons]; omega)) rfl (fun lsB hB => ?_)
  exact k p e s m args below meth c H locs cells slots R lsB ⟨hv.1, hv.2.1, hv.2.2.1, hv.2.2.2.1, hv.2.2.2.2.1, LH_st (i := 7) (v := .ref x) hv.2.2.2.2.2 (okc_p (a := a6) rfl hc) hB⟩
theorem v_fst7 {x : UInt32} {a0 a1 a2 a3 a4 a5 a6 b : Option Value} {t : List (Option Value)} (hd : DC (mCc mt) pc (.fstore 7) 2 pc2) (hc : okc a6 = true) (k : V l g mt dp Z bc bs pc2 (a0 :: a1 :: a2 :: a3 :: a4 :: a5 :: a6 :: some (.float x) :: t) st S I X) : V l g mt dp Z bc bs pc (a0 :: a1 :: a2 :: a3 :: a4 :: a5 :: a6 :: b :: t) (.float x :: st) S I X := by
  obtain ⟨hd1, rfl⟩ := hd
  intro p e s m args below meth c H locs cells slots R lsA hv
  refine lv_fstore (i := 7) hv.1.1 hv.1.2.1 hd1 (LH_has hv.2.2.2.2.2) (LH_len hv.2.2.2.2.2 7 (by simp only [List.length_cons]; omega)) rfl (fun lsB hB => ?_)
  exact k p e s m args below meth c H locs cells slots R lsB ⟨hv.1, hv.2.1, hv.2.2.1, hv.2.2.2.1, hv.2.2.2.2.1, LH_st (i := 7) (v := .float x) hv.2.2.2.2.2 (okc_p (a := a6) rfl hc) hB⟩
theorem v_lst7 {x : Int64} {a0 a1 a2 a3 a4 a5 a6 b b2 : Option Value} {t : List (Option Value)} (hd : DC (mCc mt) pc (.lstore 7) 2 pc2) (hc : okc a6 = true) (k : V l g mt dp Z bc bs pc2 (a0 :: a1 :: a2 :: a3 :: a4 :: a5 :: a6 :: some (.long x) :: none :: t) st S I X) : V l g mt dp Z bc bs pc (a0 :: a1 :: a2 :: a3 :: a4 :: a5 :: a6 :: b :: b2 :: t) (.long x :: st) S I X := by
  obtain ⟨hd1, rfl⟩ := hd
  intro p e s m args below meth c H locs cells slots R lsA hv
  refine lv_lstore (i := 7) hv.1.1 hv.1.2.1 hd1 (LH_has hv.2.2.2.2.2) (LH_len hv.2.2.2.2.2 8 (by simp only [List.length_cons]; omega)) rfl (fun lsB hB => ?_)
  exact k p e s m args below meth c H locs cells slots R lsB ⟨hv.1, hv.2.1, hv.2.2.1, hv.2.2.2.1, hv.2.2.2.2.1, LH_st2 (i := 7) (v := .long x) hv.2.2.2.2.2 (okc_p (a := a6) rfl hc) hB⟩
theorem v_iinc7 {z n : Int} {a0 a1 a2 a3 a4 a5 a6 : Option Value} {t : List (Option Value)} (hd : DC (mCc mt) pc (.iinc 7 n) 3 pc2) (hc : okc a6 = true) (k : V l g mt dp Z bc bs pc2 (a0 :: a1 :: a2 :: a3 :: a4 :: a5 :: a6 :: some (.int (ii (z + n))) :: t) st S I X) : V l g mt dp Z bc bs pc (a0 :: a1 :: a2 :: a3 :: a4 :: a5 :: a6 :: some (.int (ii z)) :: t) st S I X := by
  obtain ⟨hd1, rfl⟩ := hd
  intro p e s m args below meth c H locs cells slots R lsA hv
  obtain ⟨kx, hk⟩ := List.getElem?_of_mem (lvl_mem (g := g) (a0 :: a1 :: a2 :: a3 :: a4 :: a5 :: a6 :: some (.int (ii z)) :: t) 0 7 (.int (ii z)) rfl)
  refine lv_iinc (i := 7) (k := kx) hv.1.1 hv.1.2.1 hd1 (LH_has hv.2.2.2.2.2) hk (ii_add z n).symm (LH_len hv.2.2.2.2.2 7 (by simp only [List.length_cons]; omega)) rfl (fun lsB hB => ?_)
  exact k p e s m args below meth c H locs cells slots R lsB ⟨hv.1, hv.2.1, hv.2.2.1, hv.2.2.2.1, hv.2.2.2.2.1, LH_st (i := 7) (v := .int (ii (z + n))) hv.2.2.2.2.2 (okc_p (a := a6) rfl hc) hB⟩
theorem v_ist8 {x : Int32} {a0 a1 a2 a3 a4 a5 a6 a7 b : Option Value} {t : List (Option Value)} (hd : DC (mCc mt) pc (.istore 8) 2 pc2) (hc : okc a7 = true) (k : V l g mt dp Z bc bs pc2 (a0 :: a1 :: a2 :: a3 :: a4 :: a5 :: a6 :: a7 :: some (.int x) :: t) st S I X) : V l g mt dp Z bc bs pc (a0 :: a1 :: a2 :: a3 :: a4 :: a5 :: a6 :: a7 :: b :: t) (.int x :: st) S I X := by
  obtain ⟨hd1, rfl⟩ := hd
  intro p e s m args below meth c H locs cells slots R lsA hv
  refine lv_istore (i := 8) hv.1.1 hv.1.2.1 hd1 (LH_has hv.2.2.2.2.2) (LH_len hv.2.2.2.2.2 8 (by simp only [List.length_cons]; omega)) rfl (fun lsB hB => ?_)
  exact k p e s m args below meth c H locs cells slots R lsB ⟨hv.1, hv.2.1, hv.2.2.1, hv.2.2.2.1, hv.2.2.2.2.1, LH_st (i := 8) (v := .int x) hv.2.2.2.2.2 (okc_p (a := a7) rfl hc) hB⟩
theorem v_ast8 {x : Nat} {a0 a1 a2 a3 a4 a5 a6 a7 b : Option Value} {t : List (Option Value)} (hd : DC (mCc mt) pc (.astore 8) 2 pc2) (hc : okc a7 = true) (k : V l g mt dp Z bc bs pc2 (a0 :: a1 :: a2 :: a3 :: a4 :: a5 :: a6 :: a7 :: some (.ref x) :: t) st S I X) : V l g mt dp Z bc bs pc (a0 :: a1 :: a2 :: a3 :: a4 :: a5 :: a6 :: a7 :: b :: t) (.ref x :: st) S I X := by
  obtain ⟨hd1, rfl⟩ := hd
  intro p e s m args below meth c H locs cells slots R lsA hv
  refine lv_astore (i := 8) hv.1.1 hv.1.2.1 hd1 (LH_has hv.2.2.2.2.2) (LH_len hv.2.2.2.2.2 8 (by simp only [List.length_cons]; omega)) rfl (fun lsB hB => ?_)
  exact k p e s m args below meth c H locs cells slots R lsB ⟨hv.1, hv.2.1, hv.2.2.1, hv.2.2.2.1, hv.2.2.2.2.1, LH_st (i := 8) (v := .ref x) hv.2.2.2.2.2 (okc_p (a := a7) rfl hc) hB⟩
theorem v_fst8 {x : UInt32} {a0 a1 a2 a3 a4 a5 a6 a7 b : Option Value} {t : List (Option Value)} (hd : DC (mCc mt) pc (.fstore 8) 2 pc2) (hc : okc a7 = true) (k : V l g mt dp Z bc bs pc2 (a0 :: a1 :: a2 :: a3 :: a4 :: a5 :: a6 :: a7 :: some (.float x) :: t) st S I X) : V l g mt dp Z bc bs pc (a0 :: a1 :: a2 :: a3 :: a4 :: a5 :: a6 :: a7 :: b :: t) (.float x :: st) S I X := by
  obtain ⟨hd1, rfl⟩ := hd
  intro p e s m args below meth c H locs cells slots R lsA hv
  refine lv_fstore (i := 8) hv.1.1 hv.1.2.1 hd1 (LH_has hv.2.2.2.2.2) (LH_len hv.2.2.2.2.2 8 (by simp only [List.length_cons]; omega)) rfl (fun lsB hB => ?_)
  exact k p e s m args below meth c H locs cells slots R lsB ⟨hv.1, hv.2.1, hv.2.2.1, hv.2.2.2.1, hv.2.2.2.2.1, LH_st (i := 8) (v := .float x) hv.2.2.2.2.2 (okc_p (a := a7) rfl hc) hB⟩
theorem v_lst8 {x : Int64} {a0 a1 a2 a3 a4 a5 a6 a7 b b2 : Option Value} {t : List (Option Value)} (hd : DC (mCc mt) pc (.lstore 8) 2 pc2) (hc : okc a7 = true) (k : V l g mt dp Z bc bs pc2 (a0 :: a1 :: a2 :: a3 :: a4 :: a5 :: a6 :: a7 :: some (.long x) :: none :: t) st S I X) : V l g mt dp Z bc bs pc (a0 :: a1 :: a2 :: a3 :: a4 :: a5 :: a6 :: a7 :: b :: b2 :: t) (.long x :: st) S I X := by
  obtain ⟨hd1, rfl⟩ := hd
  intro p e s m args below meth c H locs cells slots R lsA hv
  refine lv_lstore (i := 8) hv.1.1 hv.1.2.1 hd1 (LH_has hv.2.2.2.2.2) (LH_len hv.2.2.2.2.2 9 (by simp only [List.length_cons]; omega)) rfl (fun lsB hB => ?_)
  exact k p e s m args below meth c H locs cells slots R lsB ⟨hv.1, hv.2.1, hv.2.2.1, hv.2.2.2.1, hv.2.2.2.2.1, LH_st2 (i := 8) (v := .long x) hv.2.2.2.2.2 (okc_p (a := a7) rfl hc) hB⟩
theorem v_iinc8 {z n : Int} {a0 a1 a2 a3 a4 a5 a6 a7 : Option Value} {t : List (Option Value)} (hd : DC (mCc mt) pc (.iinc 8 n) 3 pc2) (hc : okc a7 = true) (k : V l g mt dp Z bc bs pc2 (a0 :: a1 :: a2 :: a3 :: a4 :: a5 :: a6 :: a7 :: some (.int (ii (z + n))) :: t) st S I X) : V l g mt dp Z bc bs pc (a0 :: a1 :: a2 :: a3 :: a4 :: a5 :: a6 :: a7 :: some (.int (ii z)) :: t) st S I X := by
  obtain ⟨hd1, rfl⟩ := hd
  intro p e s m args below meth c H locs cells slots R lsA hv
  obtain ⟨kx, hk⟩ := List.getElem?_of_mem (lvl_mem (g := g) (a0 :: a1 :: a2 :: a3 :: a4 :: a5 :: a6 :: a7 :: some (.int (ii z)) :: t) 0 8 (.int (ii z)) rfl)
  refine lv_iinc (i := 8) (k := kx) hv.1.1 hv.1.2.1 hd1 (LH_has hv.2.2.2.2.2) hk (ii_add z n).symm (LH_len hv.2.2.2.2.2 8 (by simp only [List.length_cons]; omega)) rfl (fun lsB hB => ?_)
  exact k p e s m args below meth c H locs cells slots R lsB ⟨hv.1, hv.2.1, hv.2.2.1, hv.2.2.2.1, hv.2.2.2.2.1, LH_st (i := 8) (v := .int (ii (z + n))) hv.2.2.2.2.2 (okc_p (a := a7) rfl hc) hB⟩
theorem v_ist9 {x : Int32} {a0 a1 a2 a3 a4 a5 a6 a7 a8 b : Option Value} {t : List (Option Value)} (hd : DC (mCc mt) pc (.istore 9) 2 pc2) (hc : okc a8 = true) (k : V l g mt dp Z bc bs pc2 (a0 :: a1 :: a2 :: a3 :: a4 :: a5 :: a6 :: a7 :: a8 :: some (.int x) :: t) st S I X) : V l g mt dp Z bc bs pc (a0 :: a1 :: a2 :: a3 :: a4 :: a5 :: a6 :: a7 :: a8 :: b :: t) (.int x :: st) S I X := by
  obtain ⟨hd1, rfl⟩ := hd
  intro p e s m args below meth c H locs cells slots R lsA hv
  refine lv_istore (i := 9) hv.1.1 hv.1.2.1 hd1 (LH_has hv.2.2.2.2.2) (LH_len hv.2.2.2.2.2 9 (by simp only [List.length_cons]; omega)) rfl (fun lsB hB => ?_)
  exact k p e s m args below meth c H locs cells slots R lsB ⟨hv.1, hv.2.1, hv.2.2.1, hv.2.2.2.1, hv.2.2.2.2.1, LH_st (i := 9) (v := .int x) hv.2.2.2.2.2 (okc_p (a := a8) rfl hc) hB⟩
theorem v_ast9 {x : Nat} {a0 a1 a2 a3 a4 a5 a6 a7 a8 b : Option Value} {t : List (Option Value)} (hd : DC (mCc mt) pc (.astore 9) 2 pc2) (hc : okc a8 = true) (k : V l g mt dp Z bc bs pc2 (a0 :: a1 :: a2 :: a3 :: a4 :: a5 :: a6 :: a7 :: a8 :: some (.ref x) :: t) st S I X) : V l g mt dp Z bc bs pc (a0 :: a1 :: a2 :: a3 :: a4 :: a5 :: a6 :: a7 :: a8 :: b :: t) (.ref x :: st) S I X := by
  obtain ⟨hd1, rfl⟩ := hd
  intro p e s m args below meth c H locs cells slots R lsA hv
  refine lv_astore (i := 9) hv.1.1 hv.1.2.1 hd1 (LH_has hv.2.2.2.2.2) (LH_len hv.2.2.2.2.2 9 (by simp only [List.length_cons]; omega)) rfl (fun lsB hB => ?_)
  exact k p e s m args below meth c H locs cells slots R lsB ⟨hv.1, hv.2.1, hv.2.2.1, hv.2.2.2.1, hv.2.2.2.2.1, LH_st (i := 9) (v := .ref x) hv.2.2.2.2.2 (okc_p (a := a8) rfl hc) hB⟩
theorem v_fst9 {x : UInt32} {a0 a1 a2 a3 a4 a5 a6 a7 a8 b : Option Value} {t : List (Option Value)} (hd : DC (mCc mt) pc (.fstore 9) 2 pc2) (hc : okc a8 = true) (k : V l g mt dp Z bc bs pc2 (a0 :: a1 :: a2 :: a3 :: a4 :: a5 :: a6 :: a7 :: a8 :: some (.float x) :: t) st S I X) : V l g mt dp Z bc bs pc (a0 :: a1 :: a2 :: a3 :: a4 :: a5 :: a6 :: a7 :: a8 :: b :: t) (.float x :: st) S I X := by
  obtain ⟨hd1, rfl⟩ := hd
  intro p e s m args below meth c H locs cells slots R lsA hv
  refine lv_fstore (i := 9) hv.1.1 hv.1.2.1 hd1 (LH_has hv.2.2.2.2.2) (LH_len hv.2.2.2.2.2 9 (by simp only [List.length_cons]; omega)) rfl (fun lsB hB => ?_)
  exact k p e s m args below meth c H locs cells slots R lsB ⟨hv.1, hv.2.1, hv.2.2.1, hv.2.2.2.1, hv.2.2.2.2.1, LH_st (i := 9) (v := .float x) hv.2.2.2.2.2 (okc_p (a := a8) rfl hc) hB⟩
theorem v_lst9 {x : Int64} {a0 a1 a2 a3 a4 a5 a6 a7 a8 b b2 : Option Value} {t : List (Option Value)} (hd : DC (mCc mt) pc (.lstore 9) 2 pc2) (hc : okc a8 = true) (k : V l g mt dp Z bc bs pc2 (a0 :: a1 :: a2 :: a3 :: a4 :: a5 :: a6 :: a7 :: a8 :: some (.long x) :: none :: t) st S I X) : V l g mt dp Z bc bs pc (a0 :: a1 :: a2 :: a3 :: a4 :: a5 :: a6 :: a7 :: a8 :: b :: b2 :: t) (.long x :: st) S I X := by
  obtain ⟨hd1, rfl⟩ := hd
  intro p e s m args below meth c H locs cells slots R lsA hv
  refine lv_lstore (i := 9) hv.1.1 hv.1.2.1 hd1 (LH_has hv.2.2.2.2.2) (LH_len hv.2.2.2.2.2 10 (by simp only [List.length_cons]; omega)) rfl (fun lsB hB => ?_)
  exact k p e s m args below meth c H locs cells slots R lsB ⟨hv.1, hv.2.1, hv.2.2.1, hv.2.2.2.1, hv.2.2.2.2.1, LH_st2 (i := 9) (v := .long x) hv.2.2.2.2.2 (okc_p (a := a8) rfl hc) hB⟩
theorem v_iinc9 {z n : Int} {a0 a1 a2 a3 a4 a5 a6 a7 a8 : Option Value} {t : List (Option Value)} (hd : DC (mCc mt) pc (.iinc 9 n) 3 pc2) (hc : okc a8 = true) (k : V l g mt dp Z bc bs pc2 (a0 :: a1 :: a2 :: a3 :: a4 :: a5 :: a6 :: a7 :: a8 :: some (.int (ii (z + n))) :: t) st S I X) : V l g mt dp Z bc bs pc (a0 :: a1 :: a2 :: a3 :: a4 :: a5 :: a6 :: a7 :: a8 :: some (.int (ii z)) :: t) st S I X := by
  obtain ⟨hd1, rfl⟩ := hd
  intro p e s m args below meth c H locs cells slots R lsA hv
  obtain ⟨kx, hk⟩ := List.getElem?_of_mem (lvl_mem (g := g) (a0 :: a1 :: a2 :: a3 :: a4 :: a5 :: a6 :: a7 :: a8 :: some (.int (ii z)) :: t) 0 9 (.int (ii z)) rfl)
  refine lv_iinc (i := 9) (k := kx) hv.1.1 hv.1.2.1 hd1 (LH_has hv.2.2.2.2.2) hk (ii_add z n).symm (LH_len hv.2.2.2.2.2 9 (by simp only [List.length_cons]; omega)) rfl (fun lsB hB => ?_)
  exact k p e s m args below meth c H locs cells slots R lsB ⟨hv.1, hv.2.1, hv.2.2.1, hv.2.2.2.1, hv.2.2.2.2.1, LH_st (i := 9) (v := .int (ii (z + n))) hv.2.2.2.2.2 (okc_p (a := a8) rfl hc) hB⟩
theorem v_ist10 {x : Int32} {a0 a1 a2 a3 a4 a5 a6 a7 a8 a9 b : Option Value} {t : List (Option Value)} (hd : DC (mCc mt) pc (.istore 10) 2 pc2) (hc : okc a9 = true) (k : V l g mt dp Z bc bs pc2 (a0 :: a1 :: a2 :: a3 :: a4 :: a5 :: a6 :: a7 :: a8 :: a9 :: some (.int x) :: t) st S I X) : V l g mt dp Z bc bs pc (a0 :: a1 :: a2 :: a3 :: a4 :: a5 :: a6 :: a7 :: a8 :: a9 :: b :: t) (.int x :: st) S I X := by
  obtain ⟨hd1, rfl⟩ := hd
  intro p e s m args below meth c H locs cells slots R lsA hv
  refine lv_istore (i := 10) hv.1.1 hv.1.2.1 hd1 (LH_has hv.2.2.2.2.2) (LH_len hv.2.2.2.2.2 10 (by simp only [List.length_cons]; omega)) rfl (fun lsB hB => ?_)
  exact k p e s m args below meth c H locs cells slots R lsB ⟨hv.1, hv.2.1, hv.2.2.1, hv.2.2.2.1, hv.2.2.2.2.1, LH_st (i := 10) (v := .int x) hv.2.2.2.2.2 (okc_p (a := a9) rfl hc) hB⟩
theorem v_ast10 {x : Nat} {a0 a1 a2 a3 a4 a5 a6 a7 a8 a9 b : Option Value} {t : List (Option Value)} (hd : DC (mCc mt) pc (.astore 10) 2 pc2) (hc : okc a9 = true) (k : V l g mt dp Z bc bs pc2 (a0 :: a1 :: a2 :: a3 :: a4 :: a5 :: a6 :: a7 :: a8 :: a9 :: some (.ref x) :: t) st S I X) : V l g mt dp Z bc bs pc (a0 :: a1 :: a2 :: a3 :: a4 :: a5 :: a6 :: a7 :: a8 :: a9 :: b :: t) (.ref x :: st) S I X := by
  obtain ⟨hd1, rfl⟩ := hd
  intro p e s m args below meth c H locs cells slots R lsA hv
  refine lv_astore (i := 10) hv.1.1 hv.1.2.1 hd1 (LH_has hv.2.2.2.2.2) (LH_len hv.2.2.2.2.2 10 (by simp only [List.length_cons]; omega)) rfl (fun lsB hB => ?_)
  exact k p e s m args below meth c H locs cells slots R lsB ⟨hv.1, hv.2.1, hv.2.2.1, hv.2.2.2.1, hv.2.2.2.2.1, LH_st (i := 10) (v := .ref x) hv.2.2.2.2.2 (okc_p (a := a9) rfl hc) hB⟩
theorem v_fst10 {x : UInt32} {a0 a1 a2 a3 a4 a5 a6 a7 a8 a9 b : Option Value} {t : List (Option Value)} (hd : DC (mCc mt) pc (.fstore 10) 2 pc2) (hc : okc a9 = true) (k : V l g mt dp Z bc bs pc2 (a0 :: a1 :: a2 :: a3 :: a4 :: a5 :: a6 :: a7 :: a8 :: a9 :: some (.float x) :: t) st S I X) : V l g mt dp Z bc bs pc (a0 :: a1 :: a2 :: a3 :: a4 :: a5 :: a6 :: a7 :: a8 :: a9 :: b :: t) (.float x :: st) S I X := by
  obtain ⟨hd1, rfl⟩ := hd
  intro p e s m args below meth c H locs cells slots R lsA hv
  refine lv_fstore (i := 10) hv.1.1 hv.1.2.1 hd1 (LH_has hv.2.2.2.2.2) (LH_len hv.2.2.2.2.2 10 (by simp only [List.length_cons]; omega)) rfl (fun lsB hB => ?_)
  exact k p e s m args below meth c H locs cells slots R lsB ⟨hv.1, hv.2.1, hv.2.2.1, hv.2.2.2.1, hv.2.2.2.2.1, LH_st (i := 10) (v := .float x) hv.2.2.2.2.2 (okc_p (a := a9) rfl hc) hB⟩
theorem v_lst10 {x : Int64} {a0 a1 a2 a3 a4 a5 a6 a7 a8 a9 b b2 : Option Value} {t : List (Option Value)} (hd : DC (mCc mt) pc (.lstore 10) 2 pc2) (hc : okc a9 = true) (k : V l g mt dp Z bc bs pc2 (a0 :: a1 :: a2 :: a3 :: a4 :: a5 :: a6 :: a7 :: a8 :: a9 :: some (.long x) :: none :: t) st S I X) : V l g mt dp Z bc bs pc (a0 :: a1 :: a2 :: a3 :: a4 :: a5 :: a6 :: a7 :: a8 :: a9 :: b :: b2 :: t) (.long x :: st) S I X := by
  obtain ⟨hd1, rfl⟩ := hd
  intro p e s m args below meth c H locs cells slots R lsA hv
  refine lv_lstore (i := 10) hv.1.1 hv.1.2.1 hd1 (LH_has hv.2.2.2.2.2) (LH_len hv.2.2.2.2.2 11 (by simp only [List.length_cons]; omega)) rfl (fun lsB hB => ?_)
  exact k p e s m args below meth c H locs cells slots R lsB ⟨hv.1, hv.2.1, hv.2.2.1, hv.2.2.2.1, hv.2.2.2.2.1, LH_st2 (i := 10) (v := .long x) hv.2.2.2.2.2 (okc_p (a := a9) rfl hc) hB⟩
theorem v_iinc10 {z n : Int} {a0 a1 a2 a3 a4 a5 a6 a7 a8 a9 : Option Value} {t : List (Option Value)} (hd : DC (mCc mt) pc (.iinc 10 n) 3 pc2) (hc : okc a9 = true) (k : V l g mt dp Z bc bs pc2 (a0 :: a1 :: a2 :: a3 :: a4 :: a5 :: a6 :: a7 :: a8 :: a9 :: some (.int (ii (z + n))) :: t) st S I X) : V l g mt dp Z bc bs pc (a0 :: a1 :: a2 :: a3 :: a4 :: a5 :: a6 :: a7 :: a8 :: a9 :: some (.int (ii z)) :: t) st S I X := by
  obtain ⟨hd1, rfl⟩ := hd
  intro p e s m args below meth c H locs cells slots R lsA hv
  obtain ⟨kx, hk⟩ := List.getElem?_of_mem (lvl_mem (g := g) (a0 :: a1 :: a2 :: a3 :: a4 :: a5 :: a6 :: a7 :: a8 :: a9 :: some (.int (ii z)) :: t) 0 10 (.int (ii z)) rfl)
  refine lv_iinc (i := 10) (k := kx) hv.1.1 hv.1.2.1 hd1 (LH_has hv.2.2.2.2.2) hk (ii_add z n).symm (LH_len hv.2.2.2.2.2 10 (by simp only [List.length_cons]; omega)) rfl (fun lsB hB => ?_)
  exact k p e s m args below meth c H locs cells slots R lsB ⟨hv.1, hv.2.1, hv.2.2.1, hv.2.2.2.1, hv.2.2.2.2.1, LH_st (i := 10) (v := .int (ii (z + n))) hv.2.2.2.2.2 (okc_p (a := a9) rfl hc) hB⟩
theorem v_ist11 {x : Int32} {a0 a1 a2 a3 a4 a5 a6 a7 a8 a9 a10 b : Option Value} {t : List (Option Value)} (hd : DC (mCc mt) pc (.istore 11) 2 pc2) (hc : okc a10 = true) (k : V l g mt dp Z bc bs pc2 (a0 :: a1 :: a2 :: a3 :: a4 :: a5 :: a6 :: a7 :: a8 :: a9 :: a10 :: some (.int x) :: t) st S I X) : V l g mt dp Z bc bs pc (a0 :: a1 :: a2 :: a3 :: a4 :: a5 :: a6 :: a7 :: a8 :: a9 :: a10 :: b :: t) (.int x :: st) S I X := by
  obtain ⟨hd1, rfl⟩ := hd
  intro p e s m args below meth c H locs cells slots R lsA hv
  refine lv_istore (i := 11) hv.1.1 hv.1.2.1 hd1 (LH_has hv.2.2.2.2.2) (LH_len hv.2.2.2.2.2 11 (by simp only [List.length_cons]; omega)) rfl (fun lsB hB => ?_)
  exact k p e s m args below meth c H locs cells slots R lsB ⟨hv.1, hv.2.1, hv.2.2.1, hv.2.2.2.1, hv.2.2.2.2.1, LH_st (i := 11) (v := .int x) hv.2.2.2.2.2 (okc_p (a := a10) rfl hc) hB⟩
theorem v_ast11 {x : Nat} {a0 a1 a2 a3 a4 a5 a6 a7 a8 a9 a10 b : Option Value} {t : List (Option Value)} (hd : DC (mCc mt) pc (.astore 11) 2 pc2) (hc : okc a10 = true) (k : V l g mt dp Z bc bs pc2 (a0 :: a1 :: a2 :: a3 :: a4 :: a5 :: a6 :: a7 :: a8 :: a9 :: a10 :: some (.ref x) :: t) st S I X) : V l g mt dp Z bc bs pc (a0 :: a1 :: a2 :: a3 :: a4 :: a5 :: a6 :: a7 :: a8 :: a9 :: a10 :: b :: t) (.ref x :: st) S I X := by
  obtain ⟨hd1, rfl⟩ := hd
  intro p e s m args below meth c H locs cells slots R lsA hv
  refine lv_astore (i := 11) hv.1.1 hv.1.2.1 hd1 (LH_has hv.2.2.2.2.2) (LH_len hv.2.2.2.2.2 11 (by simp only [List.length_cons]; omega)) rfl (fun lsB hB => ?_)
  exact k p e s m args below meth c H locs cells slots R lsB ⟨hv.1, hv.2.1, hv.2.2.1, hv.2.2.2.1, hv.2.2.2.2.1, LH_st (i := 11) (v := .ref x) hv.2.2.2.2.2 (okc_p (a := a10) rfl hc) hB⟩
theorem v_fst11 {x : UInt32} {a0 a1 a2 a3 a4 a5 a6 a7 a8 a9 a10 b : Option Value} {t : List (Option Value)} (hd : DC (mCc mt) pc (.fstore 11) 2 pc2) (hc : okc a10 = true) (k : V l g mt dp Z bc bs pc2 (a0 :: a1 :: a2 :: a3 :: a4 :: a5 :: a6 :: a7 :: a8 :: a9 :: a10 :: some (.float x) :: t) st S I X) : V l g mt dp Z bc bs pc (a0 :: a1 :: a2 :: a3 :: a4 :: a5 :: a6 :: a7 :: a8 :: a9 :: a10 :: b :: t) (.float x :: st) S I X := by
  obtain ⟨hd1, rfl⟩ := hd
  intro p e s m args below meth c H locs cells slots R lsA hv
  refine lv_fstore (i := 11) hv.1.1 hv.1.2.1 hd1 (LH_has hv.2.2.2.2.2) (LH_len hv.2.2.2.2.2 11 (by simp only [List.length_cons]; omega)) rfl (fun lsB hB => ?_)
  exact k p e s m args below meth c H locs cells slots R lsB ⟨hv.1, hv.2.1, hv.2.2.1, hv.2.2.2.1, hv.2.2.2.2.1, LH_st (i := 11) (v := .float x) hv.2.2.2.2.2 (okc_p (a := a10) rfl hc) hB⟩
theorem v_lst11 {x : Int64} {a0 a1 a2 a3 a4 a5 a6 a7 a8 a9 a10 b b2 : Option Value} {t : List (Option Value)} (hd : DC (mCc mt) pc (.lstore 11) 2 pc2) (hc : okc a10 = true) (k : V l g mt dp Z bc bs pc2 (a0 :: a1 :: a2 :: a3 :: a4 :: a5 :: a6 :: a7 :: a8 :: a9 :: a10 :: some (.long x) :: none :: t) st S I X) : V l g mt dp Z bc bs pc (a0 :: a1 :: a2 :: a3 :: a4 :: a5 :: a6 :: a7 :: a8 :: a9 :: a10 :: b :: b2 :: t) (.long x :: st) S I X := by
  obtain ⟨hd1, rfl⟩ := hd
  intro p e s m args below meth c H locs cells slots R lsA hv
  refine lv_lstore (i := 11) hv.1.1 hv.1.2.1 hd1 (LH_has hv.2.2.2.2.2) (LH_len hv.2.2.2.2.2 12 (by simp only [List.length_cons]; omega)) rfl (fun lsB hB => ?_)
  exact k p e s m args below meth c H locs cells slots R lsB ⟨hv.1, hv.2.1, hv.2.2.1, hv.2.2.2.1, hv.2.2.2.2.1, LH_st2 (i := 11) (v := .long x) hv.2.2.2.2.2 (okc_p (a := a10) rfl hc) hB⟩
theorem v_iinc11 {z n : Int} {a0 a1 a2 a3 a4 a5 a6 a7 a8 a9 a10 : Option Value} {t : List (Option Value)} (hd : DC (mCc mt) pc (.iinc 11 n) 3 pc2) (hc : okc a10 = true) (k : V l g mt dp Z bc bs pc2 (a0 :: a1 :: a2 :: a3 :: a4 :: a5 :: a6 :: a7 :: a8 :: a9 :: a10 :: some (.int (ii (z + n))) :: t) st S I X) : V l g mt dp Z bc bs pc (a0 :: a1 :: a2 :: a3 :: a4 :: a5 :: a6 :: a7 :: a8 :: a9 :: a10 :: some (.int (ii z)) :: t) st S I X := by
  obtain ⟨hd1, rfl⟩ := hd
  intro p e s m args below meth c H locs cells slots R lsA hv
  obtain ⟨kx, hk⟩ := List.getElem?_of_mem (lvl_mem (g := g) (a0 :: a1 :: a2 :: a3 :: a4 :: a5 :: a6 :: a7 :: a8 :: a9 :: a10 :: some (.int (ii z)) :: t) 0 11 (.int (ii z)) rfl)
  refine lv_iinc (i := 11) (k := kx) hv.1.1 hv.1.2.1 hd1 (LH_has hv.2.2.2.2.2) hk (ii_add z n).symm (LH_len hv.2.2.2.2.2 11 (by simp only [List.length_cons]; omega)) rfl (fun lsB hB => ?_)
  exact k p e s m args below meth c H locs cells slots R lsB ⟨hv.1, hv.2.1, hv.2.2.1, hv.2.2.2.1, hv.2.2.2.2.1, LH_st (i := 11) (v := .int (ii (z + n))) hv.2.2.2.2.2 (okc_p (a := a10) rfl hc) hB⟩
theorem v_ist12 {x : Int32} {a0 a1 a2 a3 a4 a5 a6 a7 a8 a9 a10 a11 b : Option Value} {t : List (Option Value)} (hd : DC (mCc mt) pc (.istore 12) 2 pc2) (hc : okc a11 = true) (k : V l g mt dp Z bc bs pc2 (a0 :: a1 :: a2 :: a3 :: a4 :: a5 :: a6 :: a7 :: a8 :: a9 :: a10 :: a11 :: some (.int x) :: t) st S I X) : V l g mt dp Z bc bs pc (a0 :: a1 :: a2 :: a3 :: a4 :: a5 :: a6 :: a7 :: a8 :: a9 :: a10 :: a11 :: b :: t) (.int x :: st) S I X := by
  obtain ⟨hd1, rfl⟩ := hd
  intro p e s m args below meth c H locs cells slots R lsA hv
  refine lv_istore (i := 12) hv.1.1 hv.1.2.1 hd1 (LH_has hv.2.2.2.2.2) (LH_len hv.2.2.2.2.2 12 (by simp only [List.length_cons]; omega)) rfl (fun lsB hB => ?_)
  exact k p e s m args below meth c H locs cells slots R lsB ⟨hv.1, hv.2.1, hv.2.2.1, hv.2.2.2.1, hv.2.2.2.2.1, LH_st (i := 12) (v := .int x) hv.2.2.2.2.2 (okc_p (a := a11) rfl hc) hB⟩
theorem v_ast12 {x : Nat} {a0 a1 a2 a3 a4 a5 a6 a7 a8 a9 a10 a11 b : Option Value} {t : List (Option Value)} (hd : DC (mCc mt) pc (.astore 12) 2 pc2) (hc : okc a11 = true) (k : V l g mt dp Z bc bs pc2 (a0 :: a1 :: a2 :: a3 :: a4 :: a5 :: a6 :: a7 :: a8 :: a9 :: a10 :: a11 :: some (.ref x) :: t) st S I X) : V l g mt dp Z bc bs pc (a0 :: a1 :: a2 :: a3 :: a4 :: a5 :: a6 :: a7 :: a8 :: a9 :: a10 :: a11 :: b :: t) (.ref x :: st) S I X := by
  obtain ⟨hd1, rfl⟩ := hd
  intro p e s m args below meth c H locs cells slots R lsA hv
  refine lv_astore (i := 12) hv.1.1 hv.1.2.1 hd1 (LH_has hv.2.2.2.2.2) (LH_len hv.2.2.2.2.2 12 (by simp only [List.length_cons]; omega)) rfl (fun lsB hB => ?_)
  exact k p e s m args below meth c H locs cells slots R lsB ⟨hv.1, hv.2.1, hv.2.2.1, hv.2.2.2.1, hv.2.2.2.2.1, LH_st (i := 12) (v := .ref x) hv.2.2.2.2.2 (okc_p (a := a11) rfl hc) hB⟩
theorem v_fst12 {x : UInt32} {a0 a1 a2 a3 a4 a5 a6 a7 a8 a9 a10 a11 b : Option Value} {t : List (Option Value)} (hd : DC (mCc mt) pc (.fstore 12) 2 pc2) (hc : okc a11 = true) (k : V l g mt dp Z bc bs pc2 (a0 :: a1 :: a2 :: a3 :: a4 :: a5 :: a6 :: a7 :: a8 :: a9 :: a10 :: a11 :: some (.float x) :: t) st S I X) : V l g mt dp Z bc bs pc (a0 :: a1 :: a2 :: a3 :: a4 :: a5 :: a6 :: a7 :: a8 :: a9 :: a10 :: a11 :: b :: t) (.float x :: st) S I X := by
  obtain ⟨hd1, rfl⟩ := hd
  intro p e s m args below meth c H locs cells slots R lsA hv
  refine lv_fstore (i := 12) hv.1.1 hv.1.2.1 hd1 (LH_has hv.2.2.2.2.2) (LH_len hv.2.2.2.2.2 12 (by simp only [List.length_cons]; omega)) rfl (fun lsB hB => ?_)
  exact k p e s m args below meth c H locs cells slots R lsB ⟨hv.1, hv.2.1, hv.2.2.1, hv.2.2.2.1, hv.2.2.2.2.1, LH_st (i := 12) (v := .float x) hv.2.2.2.2.2 (okc_p (a := a11) rfl hc) hB⟩
theorem v_lst12 {x : Int64} {a0 a1 a2 a3 a4 a5 a6 a7 a8 a9 a10 a11 b b2 : Option Value} {t : List (Option Value)} (hd : DC (mCc mt) pc (.lstore 12) 2 pc2) (hc : okc a11 = true) (k : V l g mt dp Z bc bs pc2 (a0 :: a1 :: a2 :: a3 :: a4 :: a5 :: a6 :: a7 :: a8 :: a9 :: a10 :: a11 :: some (.long x) :: none :: t) st S I X) : V l g mt dp Z bc bs pc (a0 :: a1 :: a2 :: a3 :: a4 :: a5 :: a6 :: a7 :: a8 :: a9 :: a10 :: a11 :: b :: b2 :: t) (.long x :: st) S I X := by
  obtain ⟨hd1, rfl⟩ := hd
  intro p e s m args below meth c H locs cells slots R lsA hv
  refine lv_lstore (i := 12) hv.1.1 hv.1.2.1 hd1 (LH_has hv.2.2.2.2.2) (LH_len hv.2.2.2.2.2 13 (by simp only [List.length_cons]; omega)) rfl (fun lsB hB => ?_)
  exact k p e s m args below meth c H locs cells slots R lsB ⟨hv.1, hv.2.1, hv.2.2.1, hv.2.2.2.1, hv.2.2.2.2.1, LH_st2 (i := 12) (v := .long x) hv.2.2.2.2.2 (okc_p (a := a11) rfl hc) hB⟩
theorem v_iinc12 {z n : Int} {a0 a1 a2 a3 a4 a5 a6 a7 a8 a9 a10 a11 : Option Value} {t : List (Option Value)} (hd : DC (mCc mt) pc (.iinc 12 n) 3 pc2) (hc : okc a11 = true) (k : V l g mt dp Z bc bs pc2 (a0 :: a1 :: a2 :: a3 :: a4 :: a5 :: a6 :: a7 :: a8 :: a9 :: a10 :: a11 :: some (.int (ii (z + n))) :: t) st S I X) : V l g mt dp Z bc bs pc (a0 :: a1 :: a2 :: a3 :: a4 :: a5 :: a6 :: a7 :: a8 :: a9 :: a10 :: a11 :: some (.int (ii z)) :: t) st S I X := by
  obtain ⟨hd1, rfl⟩ := hd
  intro p e s m args below meth c H locs cells slots R lsA hv
  obtain ⟨kx, hk⟩ := List.getElem?_of_mem (lvl_mem (g := g) (a0 :: a1 :: a2 :: a3 :: a4 :: a5 :: a6 :: a7 :: a8 :: a9 :: a10 :: a11 :: some (.int (ii z)) :: t) 0 12 (.int (ii z)) rfl)
  refine lv_iinc (i := 12) (k := kx) hv.1.1 hv.1.2.1 hd1 (LH_has hv.2.2.2.2.2) hk (ii_add z n).symm (LH_len hv.2.2.2.2.2 12 (by simp only [List.length_cons]; omega)) rfl (fun lsB hB => ?_)
  exact k p e s m args below meth c H locs cells slots R lsB ⟨hv.1, hv.2.1, hv.2.2.1, hv.2.2.2.1, hv.2.2.2.2.1, LH_st (i := 12) (v := .int (ii (z + n))) hv.2.2.2.2.2 (okc_p (a := a11) rfl hc) hB⟩
theorem v_ist13 {x : Int32} {a0 a1 a2 a3 a4 a5 a6 a7 a8 a9 a10 a11 a12 b : Option Value} {t : List (Option Value)} (hd : DC (mCc mt) pc (.istore 13) 2 pc2) (hc : okc a12 = true) (k : V l g mt dp Z bc bs pc2 (a0 :: a1 :: a2 :: a3 :: a4 :: a5 :: a6 :: a7 :: a8 :: a9 :: a10 :: a11 :: a12 :: some (.int x) :: t) st S I X) : V l g mt dp Z bc bs pc (a0 :: a1 :: a2 :: a3 :: a4 :: a5 :: a6 :: a7 :: a8 :: a9 :: a10 :: a11 :: a12 :: b :: t) (.int x :: st) S I X := by
  obtain ⟨hd1, rfl⟩ := hd
  intro p e s m args below meth c H locs cells slots R lsA hv
  refine lv_istore (i := 13) hv.1.1 hv.1.2.1 hd1 (LH_has hv.2.2.2.2.2) (LH_len hv.2.2.2.2.2 13 (by simp only [List.length_cons]; omega)) rfl (fun lsB hB => ?_)
  exact k p e s m args below meth c H locs cells slots R lsB ⟨hv.1, hv.2.1, hv.2.2.1, hv.2.2.2.1, hv.2.2.2.2.1, LH_st (i := 13) (v := .int x) hv.2.2.2.2.2 (okc_p (a := a12) rfl hc) hB⟩
theorem v_ast13 {x : Nat} {a0 a1 a2 a3 a4 a5 a6 a7 a8 a9 a10 a11 a12 b : Option Value} {t : List (Option Value)} (hd : DC (mCc mt) pc (.astore 13) 2 pc2) (hc : okc a12 = true) (k : V l g mt dp Z bc bs pc2 (a0 :: a1 :: a2 :: a3 :: a4 :: a5 :: a6 :: a7 :: a8 :: a9 :: a10 :: a11 :: a12 :: some (.ref x) :: t) st S I X) : V l g mt dp Z bc bs pc (a0 :: a1 :: a2 :: a3 :: a4 :: a5 :: a6 :: a7 :: a8 :: a9 :: a10 :: a11 :: a12 :: b :: t) (.ref x :: st) S I X := by
  obtain ⟨hd1, rfl⟩ := hd
  intro p e s m args below meth c H locs cells slots R lsA hv
  refine lv_astore (i := 13) hv.1.1 hv.1.2.1 hd1 (LH_has hv.2.2.2.2.2) (LH_len hv.2.2.2.2.2 13 (by simp only [List.length_cons]; omega)) rfl (fun lsB hB => ?_)
  exact k p e s m args below meth c H locs cells slots R lsB ⟨hv.1, hv.2.1, hv.2.2.1, hv.2.2.2.1, hv.2.2.2.2.1, LH_st (i := 13) (v := .ref x) hv.2.2.2.2.2 (okc_p (a := a12) rfl hc) hB⟩
theorem v_fst13 {x : UInt32} {a0 a1 a2 a3 a4 a5 a6 a7 a8 a9 a10 a11 a12 b : Option Value} {t : List (Option Value)} (hd : DC (mCc mt) pc (.fstore 13) 2 pc2) (hc : okc a12 = true) (k : V l g mt dp Z bc bs pc2 (a0 :: a1 :: a2 :: a3 :: a4 :: a5 :: a6 :: a7 :: a8 :: a9 :: a10 :: a11 :: a12 :: some (.float x) :: t) st S I X) : V l g mt dp Z bc bs pc (a0 :: a1 :: a2 :: a3 :: a4 :: a5 :: a6 :: a7 :: a8 :: a9 :: a10 :: a11 :: a12 :: b :: t) (.float x :: st) S I X := by
  obtain ⟨hd1, rfl⟩ := hd
  intro p e s m args below meth c H locs cells slots R lsA hv
  refine lv_fstore (i := 13) hv.1.1 hv.1.2.1 hd1 (LH_has hv.2.2.2.2.2) (LH_len hv.2.2.2.2.2 13 (by simp only [List.length_cons]; omega)) rfl (fun lsB hB => ?_)
  exact k p e s m args below meth c H locs cells slots R lsB ⟨hv.1, hv.2.1, hv.2.2.1, hv.2.2.2.1, hv.2.2.2.2.1, LH_st (i := 13) (v := .float x) hv.2.2.2.2.2 (okc_p (a := a12) rfl hc) hB⟩
theorem v_lst13 {x : Int64} {a0 a1 a2 a3 a4 a5 a6 a7 a8 a9 a10 a11 a12 b b2 : Option Value} {t : List (Option Value)} (hd : DC (mCc mt) pc (.lstore 13) 2 pc2) (hc : okc a12 = true) (k : V l g mt dp Z bc bs pc2 (a0 :: a1 :: a2 :: a3 :: a4 :: a5 :: a6 :: a7 :: a8 :: a9 :: a10 :: a11 :: a12 :: some (.long x) :: none :: t) st S I X) : V l g mt dp Z bc bs pc (a0 :: a1 :: a2 :: a3 :: a4 :: a5 :: a6 :: a7 :: a8 :: a9 :: a10 :: a11 :: a12 :: b :: b2 :: t) (.long x :: st) S I X := by
  obtain ⟨hd1, rfl⟩ := hd
  intro p e s m args below meth c H locs cells slots R lsA hv
  refine lv_lstore (i := 13) hv.1.1 hv.1.2.1 hd1 (LH_has hv.2.2.2.2.2) (LH_len hv.2.2.2.2.2 14 (by simp only [List.length_cons]; omega)) rfl (fun lsB hB => ?_)
  exact k p e s m args below meth c H locs cells slots R lsB ⟨hv.1, hv.2.1, hv.2.2.1, hv.2.2.2.1, hv.2.2.2.2.1, LH_st2 (i := 13) (v := .long x) hv.2.2.2.2.2 (okc_p (a := a12) rfl hc) hB⟩
theorem v_iinc13 {z n : Int} {a0 a1 a2 a3 a4 a5 a6 a7 a8 a9 a10 a11 a12 : Option Value} {t : List (Option Value)} (hd : DC (mCc mt) pc (.iinc 13 n) 3 pc2) (hc : okc a12 = true) (k : V l g mt dp Z bc bs pc2 (a0 :: a1 :: a2 :: a3 :: a4 :: a5 :: a6 :: a7 :: a8 :: a9 :: a10 :: a11 :: a12 :: some (.int (ii (z + n))) :: t) st S I X) : V l g mt dp Z bc bs pc (a0 :: a1 :: a2 :: a3 :: a4 :: a5 :: a6 :: a7 :: a8 :: a9 :: a10 :: a11 :: a12 :: some (.int (ii z)) :: t) st S I X := by
  obtain ⟨hd1, rfl⟩ := hd
  intro p e s m args below meth c H locs cells slots R lsA hv
  obtain ⟨kx, hk⟩ := List.getElem?_of_mem (lvl_mem (g := g) (a0 :: a1 :: a2 :: a3 :: a4 :: a5 :: a6 :: a7 :: a8 :: a9 :: a10 :: a11 :: a12 :: some (.int (ii z)) :: t) 0 13 (.int (ii z)) rfl)
  refine lv_iinc (i := 13) (k := kx) hv.1.1 hv.1.2.1 hd1 (LH_has hv.2.2.2.2.2) hk (ii_add z n).symm (LH_len hv.2.2.2.2.2 13 (by simp only [List.length_cons]; omega)) rfl (fun lsB hB => ?_)
  exact k p e s m args below meth c H locs cells slots R lsB ⟨hv.1, hv.2.1, hv.2.2.1, hv.2.2.2.1, hv.2.2.2.2.1, LH_st (i := 13) (v := .int (ii (z + n))) hv.2.2.2.2.2 (okc_p (a := a12) rfl hc) hB⟩
theorem v_ist14 {x : Int32} {a0 a1 a2 a3 a4 a5 a6 a7 a8 a9 a10 a11 a12 a13 b : Option Value} {t : List (Option Value)} (hd : DC (mCc mt) pc (.istore 14) 2 pc2) (hc : okc a13 = true) (k : V l g mt dp Z bc bs pc2 (a0 :: a1 :: a2 :: a3 :: a4 :: a5 :: a6 :: a7 :: a8 :: a9 :: a10 :: a11 :: a12 :: a13 :: some (.int x) :: t) st S I X) : V l g mt dp Z bc bs pc (a0 :: a1 :: a2 :: a3 :: a4 :: a5 :: a6 :: a7 :: a8 :: a9 :: a10 :: a11 :: a12 :: a13 :: b :: t) (.int x :: st) S I X := by
  obtain ⟨hd1, rfl⟩ := hd
  intro p e s m args below meth c H locs cells slots R lsA hv
  refine lv_istore (i := 14) hv.1.1 hv.1.2.1 hd1 (LH_has hv.2.2.2.2.2) (LH_len hv.2.2.2.2.2 14 (by simp only [List.length_cons]; omega)) rfl (fun lsB hB => ?_)
  exact k p e s m args below meth c H locs cells slots R lsB ⟨hv.1, hv.2.1, hv.2.2.1, hv.2.2.2.1, hv.2.2.2.2.1, LH_st (i := 14) (v := .int x) hv.2.2.2.2.2 (okc_p (a := a13) rfl hc) hB⟩
theorem v_ast14 {x : Nat} {a0 a1 a2 a3 a4 a5 a6 a7 a8 a9 a10 a11 a12 a13 b : Option Value} {t : List (Option Value)} (hd : DC (mCc mt) pc (.astore 14) 2 pc2) (hc : okc a13 = true) (k : V l g mt dp Z bc bs pc2 (a0 :: a1 :: a2 :: a3 :: a4 :: a5 :: a6 :: a7 :: a8 :: a9 :: a10 :: a11 :: a12 :: a13 :: some (.ref x) :: t) st S I X) : V l g mt dp Z bc bs pc (a0 :: a1 :: a2 :: a3 :: a4 :: a5 :: a6 :: a7 :: a8 :: a9 :: a10 :: a11 :: a12 :: a13 :: b :: t) (.ref x :: st) S I X := by
  obtain ⟨hd1, rfl⟩ := hd
  intro p e s m args below meth c H locs cells slots R lsA hv
  refine lv_astore (i := 14) hv.1.1 hv.1.2.1 hd1 (LH_has hv.2.2.2.2.2) (LH_len hv.2.2.2.2.2 14 (by simp only [List.length_cons]; omega)) rfl (fun lsB hB => ?_)
  exact k p e s m args below meth c H locs cells slots R lsB ⟨hv.1, hv.2.1, hv.2.2.1, hv.2.2.2.1, hv.2.2.2.2.1, LH_st (i := 14) (v := .ref x) hv.2.2.2.2.2 (okc_p (a := a13) rfl hc) hB⟩
theorem v_fst14 {x : UInt32} {a0 a1 a2 a3 a4 a5 a6 a7 a8 a9 a10 a11 a12 a13 b : Option Value} {t : List (Option Value)} (hd : DC (mCc mt) pc (.fstore 14) 2 pc2) (hc : okc a13 = true) (k : V l g mt dp Z bc bs pc2 (a0 :: a1 :: a2 :: a3 :: a4 :: a5 :: a6 :: a7 :: a8 :: a9 :: a10 :: a11 :: a12 :: a13 :: some (.float x) :: t) st S I X) : V l g mt dp Z bc bs pc (a0 :: a1 :: a2 :: a3 :: a4 :: a5 :: a6 :: a7 :: a8 :: a9 :: a10 :: a11 :: a12 :: a13 :: b :: t) (.float x :: st) S I X := by
  obtain ⟨hd1, rfl⟩ := hd
  intro p e s m args below meth c H locs cells slots R lsA hv
  refine lv_fstore (i := 14) hv.1.1 hv.1.2.1 hd1 (LH_has hv.2.2.2.2.2) (LH_len hv.2.2.2.2.2 14 (by simp only [List.length_cons]; omega)) rfl (fun lsB hB => ?_)
  exact k p e s m args below meth c H locs cells slots R lsB ⟨hv.1, hv.2.1, hv.2.2.1, hv.2.2.2.1, hv.2.2.2.2.1, LH_st (i := 14) (v := .float x) hv.2.2.2.2.2 (okc_p (a := a13) rfl hc) hB⟩
theorem v_lst14 {x : Int64} {a0 a1 a2 a3 a4 a5 a6 a7 a8 a9 a10 a11 a12 a13 b b2 : Option Value} {t : List (Option Value)} (hd : DC (mCc mt) pc (.lstore 14) 2 pc2) (hc : okc a13 = true) (k : V l g mt dp Z bc bs pc2 (a0 :: a1 :: a2 :: a3 :: a4 :: a5 :: a6 :: a7 :: a8 :: a9 :: a10 :: a11 :: a12 :: a13 :: some (.long x) :: none :: t) st S I X) : V l g mt dp Z bc bs pc (a0 :: a1 :: a2 :: a3 :: a4 :: a5 :: a6 :: a7 :: a8 :: a9 :: a10 :: a11 :: a12 :: a13 :: b :: b2 :: t) (.long x :: st) S I X := by
  obtain ⟨hd1, rfl⟩ := hd
  intro p e s m args below meth c H locs cells slots R lsA hv
  refine lv_lstore (i := 14) hv.1.1 hv.1.2.1 hd1 (LH_has hv.2.2.2.2.2) (LH_len hv.2.2.2.2.2 15 (by simp only [List.length_cons]; omega)) rfl (fun lsB hB => ?_)
  exact k p e s m args below meth c H locs cells slots R lsB ⟨hv.1, hv.2.1, hv.2.2.1, hv.2.2.2.1, hv.2.2.2.2.1, LH_st2 (i := 14) (v := .long x) hv.2.2.2.2.2 (okc_p (a := a13) rfl hc) hB⟩
theorem v_iinc14 {z n : Int} {a0 a1 a2 a3 a4 a5 a6 a7 a8 a9 a10 a11 a12 a13 : Option Value} {t : List (Option Value)} (hd : DC (mCc mt) pc (.iinc 14 n) 3 pc2) (hc : okc a13 = true) (k : V l g mt dp Z bc bs pc2 (a0 :: a1 :: a2 :: a3 :: a4 :: a5 :: a6 :: a7 :: a8 :: a9 :: a10 :: a11 :: a12 :: a13 :: some (.int (ii (z + n))) :: t) st S I X) : V l g mt dp Z bc bs pc (a0 :: a1 :: a2 :: a3 :: a4 :: a5 :: a6 :: a7 :: a8 :: a9 :: a10 :: a11 :: a12 :: a13 :: some (.int (ii z)) :: t) st S I X := by
  obtain ⟨hd1, rfl⟩ := hd
  intro p e s m args below meth c H locs cells slots R lsA hv
  obtain ⟨kx, hk⟩ := List.getElem?_of_mem (lvl_mem (g := g) (a0 :: a1 :: a2 :: a3 :: a4 :: a5 :: a6 :: a7 :: a8 :: a9 :: a10 :: a11 :: a12 :: a13 :: some (.int (ii z)) :: t) 0 14 (.int (ii z)) rfl)
  refine lv_iinc (i := 14) (k := kx) hv.1.1 hv.1.2.1 hd1 (LH_has hv.2.2.2.2.2) hk (ii_add z n).symm (LH_len hv.2.2.2.2.2 14 (by simp only [List.length_cons]; omega)) rfl (fun lsB hB => ?_)
  exact k p e s m args below meth c H locs cells slots R lsB ⟨hv.1, hv.2.1, hv.2.2.1, hv.2.2.2.1, hv.2.2.2.2.1, LH_st (i := 14) (v := .int (ii (z + n))) hv.2.2.2.2.2 (okc_p (a := a13) rfl hc) hB⟩
theorem v_ist15 {x : Int32} {a0 a1 a2 a3 a4 a5 a6 a7 a8 a9 a10 a11 a12 a13 a14 b : Option Value} {t : List (Option Value)} (hd : DC (mCc mt) pc (.istore 15) 2 pc2) (hc : okc a14 = true) (k : V l g mt dp Z bc bs pc2 (a0 :: a1 :: a2 :: a3 :: a4 :: a5 :: a6 :: a7 :: a8 :: a9 :: a10 :: a11 :: a12 :: a13 :: a14 :: some (.int x) :: t) st S I X) : V l g mt dp Z bc bs pc (a0 :: a1 :: a2 :: a3 :: a4 :: a5 :: a6 :: a7 :: a8 :: a9 :: a10 :: a11 :: a12 :: a13 :: a14 :: b :: t) (.int x :: st) S I X := by
  obtain ⟨hd1, rfl⟩ := hd
  intro p e s m args below meth c H locs cells slots R lsA hv
  refine lv_istore (i := 15) hv.1.1 hv.1.2.1 hd1 (LH_has hv.2.2.2.2.2) (LH_len hv.2.2.2.2.2 15 (by simp only [List.length_cons]; omega)) rfl (fun lsB hB => ?_)
  exact k p e s m args below meth c H locs cells slots R lsB ⟨hv.1, hv.2.1, hv.2.2.1, hv.2.2.2.1, hv.2.2.2.2.1, LH_st (i := 15) (v := .int x) hv.2.2.2.2.2 (okc_p (a := a14) rfl hc) hB⟩
theorem v_ast15 {x : Nat} {a0 a1 a2 a3 a4 a5 a6 a7 a8 a9 a10 a11 a12 a13 a14 b : Option Value} {t : List (Option Value)} (hd : DC (mCc mt) pc (.astore 15) 2 pc2) (hc : okc a14 = true) (k : V l g mt dp Z bc bs pc2 (a0 :: a1 :: a2 :: a3 :: a4 :: a5 :: a6 :: a7 :: a8 :: a9 :: a10 :: a11 :: a12 :: a13 :: a14 :: some (.ref x) :: t) st S I X) : V l g mt dp Z bc bs pc (a0 :: a1 :: a2 :: a3 :: a4 :: a5 :: a6 :: a7 :: a8 :: a9 :: a10 :: a11 :: a12 :: a13 :: a14 :: b :: t) (.ref x :: st) S I X := by
  obtain ⟨hd1, rfl⟩ := hd
  intro p e s m args below meth c H locs cells slots R lsA hv
  refine lv_astore (i := 15) hv.1.1 hv.1.2.1 hd1 (LH_has hv.2.2.2.2.2) (LH_len hv.2.2.2.2.2 15 (by simp only [List.length_cons]; omega)) rfl (fun lsB hB => ?_)
  exact k p e s m args below meth c H locs cells slots R lsB ⟨hv.1, hv.2.1, hv.2.2.1, hv.2.2.2.1, hv.2.2.2.2.1, LH_st (i := 15) (v := .ref x) hv.2.2.2.2.2 (okc_p (a := a14) rfl hc) hB⟩
theorem v_fst15 {x : UInt32} {a0 a1 a2 a3 a4 a5 a6 a7 a8 a9 a10 a11 a12 a13 a14 b : Option Value} {t : List (Option Value)} (hd : DC (mCc mt) pc (.fstore 15) 2 pc2) (hc : okc a14 = true) (k : V l g mt dp Z bc bs pc2 (a0 :: a1 :: a2 :: a3 :: a4 :: a5 :: a6 :: a7 :: a8 :: a9 :: a10 :: a11 :: a12 :: a13 :: a14 :: some (.float x) :: t) st S I X) : V l g mt dp Z bc bs pc (a0 :: a1 :: a2 :: a3 :: a4 :: a5 :: a6 :: a7 :: a8 :: a9 :: a10 :: a11 :: a12 :: a13 :: a14 :: b :: t) (.float x :: st) S I X := by
  obtain ⟨hd1, rfl⟩ := hd
  intro p e s m args below meth c H locs cells slots R lsA hv
  refine lv_fstore (i := 15) hv.1.1 hv.1.2.1 hd1 (LH_has hv.2.2.2.2.2) (LH_len hv.2.2.2.2.2 15 (by simp only [List.length_cons]; omega)) rfl (fun lsB hB => ?_)
  exact k p e s m args below meth c H locs cells slots R lsB ⟨hv.1, hv.2.1, hv.2.2.1, hv.2.2.2.1, hv.2.2.2.2.1, LH_st (i := 15) (v := .float x) hv.2.2.2.2.2 (okc_p (a := a14) rfl hc) hB⟩
theorem v_lst15 {x : Int64} {a0 a1 a2 a3 a4 a5 a6 a7 a8 a9 a10 a11 a12 a13 a14 b b2 : Option Value} {t : List (Option Value)} (hd : DC (mCc mt) pc (.lstore 15) 2 pc2) (hc : okc a14 = true) (k : V l g mt dp Z bc bs pc2 (a0 :: a1 :: a2 :: a3 :: a4 :: a5 :: a6 :: a7 :: a8 :: a9 :: a10 :: a11 :: a12 :: a13 :: a14 :: some (.long x) :: none :: t) st S I X) : V l g mt dp Z bc bs pc (a0 :: a1 :: a2 :: a3 :: a4 :: a5 :: a6 :: a7 :: a8 :: a9 :: a10 :: a11 :: a12 :: a13 :: a14 :: b :: b2 :: t) (.long x :: st) S I X := by
  obtain ⟨hd1, rfl⟩ := hd
  intro p e s m args below meth c H locs cells slots R lsA hv
  refine lv_lstore (i := 15) hv.1.1 hv.1.2.1 hd1 (LH_has hv.2.2.2.2.2) (LH_len hv.2.2.2.2.2 16 (by simp only [List.length_cons]; omega)) rfl (fun lsB hB => ?_)
  exact k p e s m args below meth c H locs cells slots R lsB ⟨hv.1, hv.2.1, hv.2.2.1, hv.2.2.2.1, hv.2.2.2.2.1, LH_st2 (i := 15) (v := .long x) hv.2.2.2.2.2 (okc_p (a := a14) rfl hc) hB⟩
theorem v_iinc15 {z n : Int} {a0 a1 a2 a3 a4 a5 a6 a7 a8 a9 a10 a11 a12 a13 a14 : Option Value} {t : List (Option Value)} (hd : DC (mCc mt) pc (.iinc 15 n) 3 pc2) (hc : okc a14 = true) (k : V l g mt dp Z bc bs pc2 (a0 :: a1 :: a2 :: a3 :: a4 :: a5 :: a6 :: a7 :: a8 :: a9 :: a10 :: a11 :: a12 :: a13 :: a14 :: some (.int (ii (z + n))) :: t) st S I X) : V l g mt dp Z bc bs pc (a0 :: a1 :: a2 :: a3 :: a4 :: a5 :: a6 :: a7 :: a8 :: a9 :: a10 :: a11 :: a12 :: a13 :: a14 :: some (.int (ii z)) :: t) st S I X := by
  obtain ⟨hd1, rfl⟩ := hd
  intro p e s m args below meth c H locs cells slots R lsA hv
  obtain ⟨kx, hk⟩ := List.getElem?_of_mem (lvl_mem (g := g) (a0 :: a1 :: a2 :: a3 :: a4 :: a5 :: a6 :: a7 :: a8 :: a9 :: a10 :: a11 :: a12 :: a13 :: a14 :: some (.int (ii z)) :: t) 0 15 (.int (ii z)) rfl)
  refine lv_iinc (i := 15) (k := kx) hv.1.1 hv.1.2.1 hd1 (LH_has hv.2.2.2.2.2) hk (ii_add z n).symm (LH_len hv.2.2.2.2.2 15 (by simp only [List.length_cons]; omega)) rfl (fun lsB hB => ?_)
  exact k p e s m args below meth c H locs cells slots R lsB ⟨hv.1, hv.2.1, hv.2.2.1, hv.2.2.2.1, hv.2.2.2.2.1, LH_st (i := 15) (v := .int (ii (z + n))) hv.2.2.2.2.2 (okc_p (a := a14) rfl hc) hB⟩
theorem v_if_eq {z off : Int} {tgt : Nat} (hd : DC (mCc mt) pc (.ifCond .eq off) 3 pc2) (ht : (pc : Int) + off = (tgt : Int)) (kt : z = 0 → V l g mt dp Z bc bs tgt ls st S I X) (kf : ¬ z = 0 → V l g mt dp Z bc bs pc2 ls st S I X) (hz : -2147483648 ≤ z ∧ z < 2147483648 := by omega) : V l g mt dp Z bc bs pc ls (.int (ii z) :: st) S I X := by
  obtain ⟨hd1, rfl⟩ := hd
  intro p e s m args below meth c H locs cells slots R lsA hv
  exact lv_if_eq hv.1.1 hv.1.2.1 hd1 ht (fun h => kt ((ii_eq hz (by omega)).mp (h.trans ii_0)) p e s m args below meth c H locs cells slots R lsA hv) (fun h => kf (fun q => h (((ii_eq hz (by omega)).mpr q).trans ii_0.symm)) p e s m args below meth c H locs cells slots R lsA hv)
theorem v_if_ne {z off : Int} {tgt : Nat} (hd : DC (mCc mt) pc (.ifCond .ne off) 3 pc2) (ht : (pc : Int) + off = (tgt : Int)) (kt : ¬ z = 0 → V l g mt dp Z bc bs tgt ls st S I X) (kf : z = 0 → V l g mt dp Z bc bs pc2 ls st S I X) (hz : -2147483648 ≤ z ∧ z < 2147483648 := by omega) : V l g mt dp Z bc bs pc ls (.int (ii z) :: st) S I X := by
  obtain ⟨hd1, rfl⟩ := hd
  intro p e s m args below meth c H locs cells slots R lsA hv
  exact lv_if_ne hv.1.1 hv.1.2.1 hd1 ht (fun h => kt (fun q => h (((ii_eq hz (by omega)).mpr q).trans ii_0.symm)) p e s m args below meth c H locs cells slots R lsA hv) (fun h => kf ((ii_eq hz (by omega)).mp (h.trans ii_0)) p e s m args below meth c H locs cells slots R lsA hv)
theorem v_if_lt {z off : Int} {tgt : Nat} (hd : DC (mCc mt) pc (.ifCond .lt off) 3 pc2) (ht : (pc : Int) + off = (tgt : Int)) (kt : z < 0 → V l g mt dp Z bc bs tgt ls st S I X) (kf : 0 ≤ z → V l g mt dp Z bc bs pc2 ls st S I X) (hz : -2147483648 ≤ z ∧ z < 2147483648 := by omega) : V l g mt dp Z bc bs pc ls (.int (ii z) :: st) S I X := by
  obtain ⟨hd1, rfl⟩ := hd
  intro p e s m args below meth c H locs cells slots R lsA hv
  exact lv_if_lt hv.1.1 hv.1.2.1 hd1 ht (fun h => kt ((ii_lt hz (by omega)).mp (by rw [← ii_0]; exact h)) p e s m args below meth c H locs cells slots R lsA hv) (fun h => kf (Int.not_lt.mp fun q => h (by rw [ii_0]; exact (ii_lt hz (by omega)).mpr q)) p e s m args below meth c H locs cells slots R lsA hv)
theorem v_if_ge {z off : Int} {tgt : Nat} (hd : DC (mCc mt) pc (.ifCond .ge off) 3 pc2) (ht : (pc : Int) + off = (tgt : Int)) (kt : 0 ≤ z → V l g mt dp Z bc bs tgt ls st S I X) (kf : z < 0 → V l g mt dp Z bc bs pc2 ls st S I X) (hz : -2147483648 ≤ z ∧ z < 2147483648 := by omega) : V l g mt dp Z bc bs pc ls (.int (ii z) :: st) S I X := by
  obtain ⟨hd1, rfl⟩ := hd
  intro p e s m args below meth c H locs cells slots R lsA hv
  exact lv_if_ge hv.1.1 hv.1.2.1 hd1 ht (fun h => kt ((ii_le (by omega) hz).mp (by rw [← ii_0]; exact h)) p e s m args below meth c H locs cells slots R lsA hv) (fun h => kf (Int.not_le.mp fun q => h (by rw [ii_0]; exact (ii_le (by omega) hz).mpr q)) p e s m args below meth c H locs cells slots R lsA hv)
theorem v_if_gt {z off : Int} {tgt : Nat} (hd : DC (mCc mt) pc (.ifCond .gt off) 3 pc2) (ht : (pc : Int) + off = (tgt : Int)) (kt : 0 < z → V l g mt dp Z bc bs tgt ls st S I X) (kf : z ≤ 0 → V l g mt dp Z bc bs pc2 ls st S I X) (hz : -2147483648 ≤ z ∧ z < 2147483648 := by omega) : V l g mt dp Z bc bs pc ls (.int (ii z) :: st) S I X := by
  obtain ⟨hd1, rfl⟩ := hd
  intro p e s m args below meth c H locs cells slots R lsA hv
  exact lv_if_gt hv.1.1 hv.1.2.1 hd1 ht (fun h => kt ((ii_lt (by omega) hz).mp (by rw [← ii_0]; exact h)) p e s m args below meth c H locs cells slots R lsA hv) (fun h => kf (Int.not_lt.mp fun q => h (by rw [ii_0]; exact (ii_lt (by omega) hz).mpr q)) p e s m args below meth c H locs cells slots R lsA hv)
theorem v_if_le {z off : Int} {tgt : Nat} (hd : DC (mCc mt) pc (.ifCond .le off) 3 pc2) (ht : (pc : Int) + off = (tgt : Int)) (kt : z ≤ 0 → V l g mt dp Z bc bs tgt ls st S I X) (kf : 0 < z → V l g mt dp Z bc bs pc2 ls st S I X) (hz : -2147483648 ≤ z ∧ z < 2147483648 := by omega) : V l g mt dp Z bc bs pc ls (.int (ii z) :: st) S I X := by
  obtain ⟨hd1, rfl⟩ := hd
  intro p e s m args below meth c H locs cells slots R lsA hv
  exact lv_if_le hv.1.1 hv.1.2.1 hd1 ht (fun h => kt ((ii_le hz (by omega)).mp (by rw [← ii_0]; exact h)) p e s m args below meth c H locs cells slots R lsA hv) (fun h => kf (Int.not_le.mp fun q => h (by rw [ii_0]; exact (ii_le hz (by omega)).mpr q)) p e s m args below meth c H locs cells slots R lsA hv)
theorem v_ic_eq {a b off : Int} {tgt : Nat} (hd : DC (mCc mt) pc (.if_icmp .eq off) 3 pc2) (ht : (pc : Int) + off = (tgt : Int)) (kt : a = b → V l g mt dp Z bc bs tgt ls st S I X) (kf : ¬ a = b → V l g mt dp Z bc bs pc2 ls st S I X) (ha : -2147483648 ≤ a ∧ a < 2147483648 := by omega) (hb : -2147483648 ≤ b ∧ b < 2147483648 := by omega) : V l g mt dp Z bc bs pc ls (.int (ii b) :: .int (ii a) :: st) S I X := by
  obtain ⟨hd1, rfl⟩ := hd
  intro p e s m args below meth c H locs cells slots R lsA hv
  exact lv_icmp_eq hv.1.1 hv.1.2.1 hd1 ht (fun h => kt ((ii_eq ha hb).mp h) p e s m args below meth c H locs cells slots R lsA hv) (fun h => kf (fun q => h ((ii_eq ha hb).mpr q)) p e s m args below meth c H locs cells slots R lsA hv)
theorem v_ic_ne {a b off : Int} {tgt : Nat} (hd : DC (mCc mt) pc (.if_icmp .ne off) 3 pc2) (ht : (pc : Int) + off = (tgt : Int)) (kt : ¬ a = b → V l g mt dp Z bc bs tgt ls st S I X) (kf : a = b → V l g mt dp Z bc bs pc2 ls st S I X) (ha : -2147483648 ≤ a ∧ a < 2147483648 := by omega) (hb : -2147483648 ≤ b ∧ b < 2147483648 := by omega) : V l g mt dp Z bc bs pc ls (.int (ii b) :: .int (ii a) :: st) S I X := by
  obtain ⟨hd1, rfl⟩ := hd
  intro p e s m args below meth c H locs cells slots R lsA hv
  exact lv_icmp_ne hv.1.1 hv.1.2.1 hd1 ht (fun h => kt (fun q => h ((ii_eq ha hb).mpr q)) p e s m args below meth c H locs cells slots R lsA hv) (fun h => kf ((ii_eq ha hb).mp h) p e s m args below meth c H locs cells slots R lsA hv)
theorem v_ic_lt {a b off : Int} {tgt : Nat} (hd : DC (mCc mt) pc (.if_icmp .lt off) 3 pc2) (ht : (pc : Int) + off = (tgt : Int)) (kt : a < b → V l g mt dp Z bc bs tgt ls st S I X) (kf : b ≤ a → V l g mt dp Z bc bs pc2 ls st S I X) (ha : -2147483648 ≤ a ∧ a < 2147483648 := by omega) (hb : -2147483648 ≤ b ∧ b < 2147483648 := by omega) : V l g mt dp Z bc bs pc ls (.int (ii b) :: .int (ii a) :: st) S I X := by
  obtain ⟨hd1, rfl⟩ := hd
  intro p e s m args below meth c H locs cells slots R lsA hv
  exact lv_icmp_lt hv.1.1 hv.1.2.1 hd1 ht (fun h => kt ((ii_lt ha hb).mp h) p e s m args below meth c H locs cells slots R lsA hv) (fun h => kf (Int.not_lt.mp fun q => h ((ii_lt ha hb).mpr q)) p e s m args below meth c H locs cells slots R lsA hv)
theorem v_ic_ge {a b off : Int} {tgt : Nat} (hd : DC (mCc mt) pc (.if_icmp .ge off) 3 pc2) (ht : (pc : Int) + off = (tgt : Int)) (kt : b ≤ a → V l g mt dp Z bc bs tgt ls st S I X) (kf : a < b → V l g mt dp Z bc bs pc2 ls st S I X) (ha : -2147483648 ≤ a ∧ a < 2147483648 := by omega) (hb : -2147483648 ≤ b ∧ b < 2147483648 := by omega) : V l g mt dp Z bc bs pc ls (.int (ii b) :: .int (ii a) :: st) S I X := by
  obtain ⟨hd1, rfl⟩ := hd
  intro p e s m args below meth c H locs cells slots R lsA hv
  exact lv_icmp_ge hv.1.1 hv.1.2.1 hd1 ht (fun h => kt ((ii_le hb ha).mp h) p e s m args below meth c H locs cells slots R lsA hv) (fun h => kf (Int.not_le.mp fun q => h ((ii_le hb ha).mpr q)) p e s m args below meth c H locs cells slots R lsA hv)
theorem v_ic_gt {a b off : Int} {tgt : Nat} (hd : DC (mCc mt) pc (.if_icmp .gt off) 3 pc2) (ht : (pc : Int) + off = (tgt : Int)) (kt : b < a → V l g mt dp Z bc bs tgt ls st S I X) (kf : a ≤ b → V l g mt dp Z bc bs pc2 ls st S I X) (ha : -2147483648 ≤ a ∧ a < 2147483648 := by omega) (hb : -2147483648 ≤ b ∧ b < 2147483648 := by omega) : V l g mt dp Z bc bs pc ls (.int (ii b) :: .int (ii a) :: st) S I X := by
  obtain ⟨hd1, rfl⟩ := hd
  intro p e s m args below meth c H locs cells slots R lsA hv
  exact lv_icmp_gt hv.1.1 hv.1.2.1 hd1 ht (fun h => kt ((ii_lt hb ha).mp h) p e s m args below meth c H locs cells slots R lsA hv) (fun h => kf (Int.not_lt.mp fun q => h ((ii_lt hb ha).mpr q)) p e s m args below meth c H locs cells slots R lsA hv)
theorem v_ic_le {a b off : Int} {tgt : Nat} (hd : DC (mCc mt) pc (.if_icmp .le off) 3 pc2) (ht : (pc : Int) + off = (tgt : Int)) (kt : a ≤ b → V l g mt dp Z bc bs tgt ls st S I X) (kf : b < a → V l g mt dp Z bc bs pc2 ls st S I X) (ha : -2147483648 ≤ a ∧ a < 2147483648 := by omega) (hb : -2147483648 ≤ b ∧ b < 2147483648 := by omega) : V l g mt dp Z bc bs pc ls (.int (ii b) :: .int (ii a) :: st) S I X := by
  obtain ⟨hd1, rfl⟩ := hd
  intro p e s m args below meth c H locs cells slots R lsA hv
  exact lv_icmp_le hv.1.1 hv.1.2.1 hd1 ht (fun h => kt ((ii_le ha hb).mp h) p e s m args below meth c H locs cells slots R lsA hv) (fun h => kf (Int.not_le.mp fun q => h ((ii_le ha hb).mpr q)) p e s m args below meth c H locs cells slots R lsA hv)
theorem v_goto {off : Int} {tgt : Nat} (hd : DC (mCc mt) pc (.goto off) 3 pc2) (ht : (pc : Int) + off = (tgt : Int)) (k : V l g mt dp Z bc bs tgt ls st S I X) : V l g mt dp Z bc bs pc ls st S I X := by
  obtain ⟨hd1, rfl⟩ := hd
  intro p e s m args below meth c H locs cells slots R lsA hv
  exact lv_goto hv.1.1 hv.1.2.1 hd1 ht (k p e s m args below meth c H locs cells slots R lsA hv)
theorem v_ifnull {off : Int} {x : Nat} (hd : DC (mCc mt) pc (.ifnull off) 3 pc2) (k : V l g mt dp Z bc bs pc2 ls st S I X) : V l g mt dp Z bc bs pc ls (.ref x :: st) S I X := by
  obtain ⟨hd1, rfl⟩ := hd
  intro p e s m args below meth c H locs cells slots R lsA hv
  exact lv_ifnull hv.1.1 hv.1.2.1 hd1 (k p e s m args below meth c H locs cells slots R lsA hv)
theorem v_tabIn {dflt lo hi : Int} {offs : Array Int} {len : Nat} {z off : Int} {tgt : Nat} (hd : DC (mCc mt) pc (.tableswitch dflt lo hi offs) len pc2) (h1 : lo ≤ z) (h2 : z ≤ hi) (ho : offs[(z - lo).toNat]? = some off) (ht : (pc : Int) + off = (tgt : Int)) (k : V l g mt dp Z bc bs tgt ls st S I X) (hz : -2147483648 ≤ z ∧ z < 2147483648 := by omega) : V l g mt dp Z bc bs pc ls (.int (ii z) :: st) S I X := by
  obtain ⟨hd1, rfl⟩ := hd
  intro p e s m args below meth c H locs cells slots R lsA hv
  exact lv_tableIn hv.1.1 hv.1.2.1 hd1 (by rw [ii_toInt hz]; omega) (by rw [ii_toInt hz]; omega) (by rw [ii_toInt hz]; exact ho) ht (k p e s m args below meth c H locs cells slots R lsA hv)
theorem v_tabOut {dflt lo hi : Int} {offs : Array Int} {len : Nat} {z : Int} {tgt : Nat} (hd : DC (mCc mt) pc (.tableswitch dflt lo hi offs) len pc2) (h1 : z < lo ∨ hi < z) (ht : (pc : Int) + dflt = (tgt : Int)) (k : V l g mt dp Z bc bs tgt ls st S I X) (hz : -2147483648 ≤ z ∧ z < 2147483648 := by omega) : V l g mt dp Z bc bs pc ls (.int (ii z) :: st) S I X := by
  obtain ⟨hd1, rfl⟩ := hd
  intro p e s m args below meth c H locs cells slots R lsA hv
  exact lv_tableOut hv.1.1 hv.1.2.1 hd1 (by rw [ii_toInt hz]; exact h1) ht (k p e s m args below meth c H locs cells slots R lsA hv)
theorem v_lookup {dflt : Int} {ps : Array (Int × Int)} {len : Nat} {z off : Int} {tgt : Nat} (hd : DC (mCc mt) pc (.lookupswitch dflt ps) len pc2) (hp : (ps.toList.zip (ps.toList.drop 1)).all (fun (a, next) => a.1 < next.1) = true) (ho : Op.lookupswitch.offset ps.toList dflt z = off) (ht : (pc : Int) + off = (tgt : Int)) (k : V l g mt dp Z bc bs tgt ls st S I X) (hz : -2147483648 ≤ z ∧ z < 2147483648 := by omega) : V l g mt dp Z bc bs pc ls (.int (ii z) :: st) S I X := by
  obtain ⟨hd1, rfl⟩ := hd
  intro p e s m args below meth c H locs cells slots R lsA hv
  exact lv_lookup hv.1.1 hv.1.2.1 hd1 hp (by rw [ii_toInt hz]; exact ho) ht (k p e s m args below meth c H locs cells slots R lsA hv)
/-- locals may be forgotten -/
def fgt : List (Option Value) → List (Option Value) → Prop
  | [], [] => True
  | a :: r, b :: s => (a = none ∨ a = b) ∧ fgt r s
  | _, _ => False
theorem fgt_at : ∀ (r s : List (Option Value)), fgt r s → r.length = s.length ∧ ∀ (i : Nat) (u : Value), r[i]? = some (some u) → s[i]? = some (some u)
  | [], [], _ => ⟨rfl, fun i u h => h⟩
  | a :: r, b :: s, h => by
    obtain ⟨h1, h2⟩ := fgt_at r s h.2
    refine ⟨by simp [h1], fun i u hu => ?_⟩
    cases i with
    | zero =>
      have ha : a = some u := by simpa using hu
      rcases h.1 with q | q
      · rw [q] at ha; cases ha
      · rw [← q]; simpa using hu
    | succ i => simpa using h2 i u (by simpa using hu)
  | [], _ :: _, h => h.elim
  | _ :: _, [], h => h.elim
theorem v_fgt {ls2 : List (Option Value)} (h : fgt ls2 ls) (k : V l g mt dp Z bc bs pc ls2 st S I X) : V l g mt dp Z bc bs pc ls st S I X := by
  intro p e s m args below meth c H locs cells slots R lsA hv
  exact k p e s m args below meth c H locs cells slots R lsA ⟨hv.1, hv.2.1, hv.2.2.1, hv.2.2.2.1, hv.2.2.2.2.1, LH_sub hv.2.2.2.2.2 (fgt_at _ _ h).2 (fgt_at _ _ h).1⟩
theorem v_eq {pc3 : Nat} {ls2 : List (Option Value)} {st2 : List Value} {S2 : SS} {I2 : II} {X2 : XX} (k : V l g mt dp Z bc bs pc3 ls2 st2 S2 I2 X2) (h1 : pc = pc3) (h2 : ls = ls2) (h3 : st = st2) (h4 : S = S2) (h5 : I = I2) (h6 : X = X2) : V l g mt dp Z bc bs pc ls st S I X := by
  subst h1; subst h2; subst h3; subst h4; subst h5; subst h6; exact k
end FC
end
